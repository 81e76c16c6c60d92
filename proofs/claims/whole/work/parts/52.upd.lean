/-! Single writes, on both sides. -/
theorem if4 {α : Type} {a b c d a' b' c' d' : Nat} {x y : α} (h : ¬ (a = a' ∧ b = b' ∧ c = c' ∧ d = d')) : (if a = a' ∧ b = b' ∧ c = c' ∧ d = d' then x else y) = y := if_neg h
section
variable {A Z : sM} {s : sS} {N : Nat}
theorem ZR.wG {k0 : Nat} {v : Int} (h : ZR (zA Z) (zB Z) s) (h0 : k0 < 8) : ZR (zA (wI Z 27 0 0 (k0) (oI v))) (zB (wI Z 27 0 0 (k0) (oI v))) (uG s (up1 (sG s) k0 v)) := by
  refine ⟨fun k hk => ?_, fun k hk => ?_, fun k hk => ?_, fun i w hi hw => ?_, fun m i hm hi => ?_, fun c hc => ?_, fun c hc => ?_, fun k hk => ?_, fun i w hi hw => ?_, fun i m hi hm => ?_⟩
  · show (if _ then _ else _) = oI (up1 (sG s) k0 v k)
    by_cases q : k = k0
    · rw [if_pos (by omega), up1, if_pos q]
    · rw [if4 (by omega), up1, if_neg q]; exact h.g hk
  · show (if _ then _ else _) = _
    rw [if4 (by omega)]; exact h.hr hk
  · show (if _ then _ else _) = _
    rw [if4 (by omega)]; exact h.rt hk
  · show (if _ then _ else _) = _
    rw [if4 (by omega)]; exact h.mb hi hw
  · show (if _ then _ else _) = _
    rw [if4 (by omega)]; exact h.dy hm hi
  · show (if _ then _ else _) = _
    rw [if4 (by omega)]; exact h.gn hc
  · show (if _ then _ else _) = _
    rw [if4 (by omega)]; exact h.cr hc
  · exact h.fo hk
  · exact h.ac hi hw
  · exact h.lt hi hm
theorem ZR.wB {i0 w0 : Nat} {v : Int} (h : ZR (zA Z) (zB Z) s) (h0 : i0 < 16) (h9 : w0 < 7) : ZR (zA (wI Z 27 0 0 (36 + 7 * i0 + w0) (oI v))) (zB (wI Z 27 0 0 (36 + 7 * i0 + w0) (oI v))) (uB s (up2 (sB s) i0 w0 v)) := by
  refine ⟨fun k hk => ?_, fun k hk => ?_, fun k hk => ?_, fun i w hi hw => ?_, fun m i hm hi => ?_, fun c hc => ?_, fun c hc => ?_, fun k hk => ?_, fun i w hi hw => ?_, fun i m hi hm => ?_⟩
  · show (if _ then _ else _) = _
    rw [if4 (by omega)]; exact h.g hk
  · show (if _ then _ else _) = _
    rw [if4 (by omega)]; exact h.hr hk
  · show (if _ then _ else _) = _
    rw [if4 (by omega)]; exact h.rt hk
  · show (if _ then _ else _) = oI (up2 (sB s) i0 w0 v i w)
    by_cases q : i = i0 ∧ w = w0
    · rw [if_pos (by omega), up2, if_pos q]
    · rw [if4 (by omega), up2, if_neg q]; exact h.mb hi hw
  · show (if _ then _ else _) = _
    rw [if4 (by omega)]; exact h.dy hm hi
  · show (if _ then _ else _) = _
    rw [if4 (by omega)]; exact h.gn hc
  · show (if _ then _ else _) = _
    rw [if4 (by omega)]; exact h.cr hc
  · exact h.fo hk
  · exact h.ac hi hw
  · exact h.lt hi hm
theorem ZR.wD {m0 i0 : Nat} {v : Int} (h : ZR (zA Z) (zB Z) s) (h0 : m0 < 60) (h9 : i0 < 16) : ZR (zA (wI Z 27 0 0 (148 + 16 * m0 + i0) (oI v))) (zB (wI Z 27 0 0 (148 + 16 * m0 + i0) (oI v))) (uD s (up2 (sD s) m0 i0 v)) := by
  refine ⟨fun k hk => ?_, fun k hk => ?_, fun k hk => ?_, fun i w hi hw => ?_, fun m i hm hi => ?_, fun c hc => ?_, fun c hc => ?_, fun k hk => ?_, fun i w hi hw => ?_, fun i m hi hm => ?_⟩
  · show (if _ then _ else _) = _
    rw [if4 (by omega)]; exact h.g hk
  · show (if _ then _ else _) = _
    rw [if4 (by omega)]; exact h.hr hk
  · show (if _ then _ else _) = _
    rw [if4 (by omega)]; exact h.rt hk
  · show (if _ then _ else _) = _
    rw [if4 (by omega)]; exact h.mb hi hw
  · show (if _ then _ else _) = oI (up2 (sD s) m0 i0 v m i)
    by_cases q : m = m0 ∧ i = i0
    · rw [if_pos (by omega), up2, if_pos q]
    · rw [if4 (by omega), up2, if_neg q]; exact h.dy hm hi
  · show (if _ then _ else _) = _
    rw [if4 (by omega)]; exact h.gn hc
  · show (if _ then _ else _) = _
    rw [if4 (by omega)]; exact h.cr hc
  · exact h.fo hk
  · exact h.ac hi hw
  · exact h.lt hi hm
theorem ZR.wE {c0 : Nat} {v : Int} (h : ZR (zA Z) (zB Z) s) (h0 : c0 < 240) : ZR (zA (wI Z 27 0 0 (1108 + c0) (oI v))) (zB (wI Z 27 0 0 (1108 + c0) (oI v))) (uE s (up1 (sE s) c0 v)) := by
  refine ⟨fun k hk => ?_, fun k hk => ?_, fun k hk => ?_, fun i w hi hw => ?_, fun m i hm hi => ?_, fun c hc => ?_, fun c hc => ?_, fun k hk => ?_, fun i w hi hw => ?_, fun i m hi hm => ?_⟩
  · show (if _ then _ else _) = _
    rw [if4 (by omega)]; exact h.g hk
  · show (if _ then _ else _) = _
    rw [if4 (by omega)]; exact h.hr hk
  · show (if _ then _ else _) = _
    rw [if4 (by omega)]; exact h.rt hk
  · show (if _ then _ else _) = _
    rw [if4 (by omega)]; exact h.mb hi hw
  · show (if _ then _ else _) = _
    rw [if4 (by omega)]; exact h.dy hm hi
  · show (if _ then _ else _) = oI (up1 (sE s) c0 v c)
    by_cases q : c = c0
    · rw [if_pos (by omega), up1, if_pos q]
    · rw [if4 (by omega), up1, if_neg q]; exact h.gn hc
  · show (if _ then _ else _) = _
    rw [if4 (by omega)]; exact h.cr hc
  · exact h.fo hk
  · exact h.ac hi hw
  · exact h.lt hi hm
theorem ZR.wC {c0 : Nat} {v : Int} (h : ZR (zA Z) (zB Z) s) (h0 : c0 < 240) : ZR (zA (wI Z 27 0 0 (1348 + c0) (oI v))) (zB (wI Z 27 0 0 (1348 + c0) (oI v))) (uC s (up1 (sC s) c0 v)) := by
  refine ⟨fun k hk => ?_, fun k hk => ?_, fun k hk => ?_, fun i w hi hw => ?_, fun m i hm hi => ?_, fun c hc => ?_, fun c hc => ?_, fun k hk => ?_, fun i w hi hw => ?_, fun i m hi hm => ?_⟩
  · show (if _ then _ else _) = _
    rw [if4 (by omega)]; exact h.g hk
  · show (if _ then _ else _) = _
    rw [if4 (by omega)]; exact h.hr hk
  · show (if _ then _ else _) = _
    rw [if4 (by omega)]; exact h.rt hk
  · show (if _ then _ else _) = _
    rw [if4 (by omega)]; exact h.mb hi hw
  · show (if _ then _ else _) = _
    rw [if4 (by omega)]; exact h.dy hm hi
  · show (if _ then _ else _) = _
    rw [if4 (by omega)]; exact h.gn hc
  · show (if _ then _ else _) = oI (up1 (sC s) c0 v c)
    by_cases q : c = c0
    · rw [if_pos (by omega), up1, if_pos q]
    · rw [if4 (by omega), up1, if_neg q]; exact h.cr hc
  · exact h.fo hk
  · exact h.ac hi hw
  · exact h.lt hi hm
theorem ZR.wF {k0 : Nat} {v : Int} (h : ZR (zA Z) (zB Z) s) (h0 : k0 < 2) : ZR (zA (wL Z 30 0 0 (k0) (oL v))) (zB (wL Z 30 0 0 (k0) (oL v))) (uF s (up1 (sF s) k0 v)) := by
  refine ⟨fun k hk => ?_, fun k hk => ?_, fun k hk => ?_, fun i w hi hw => ?_, fun m i hm hi => ?_, fun c hc => ?_, fun c hc => ?_, fun k hk => ?_, fun i w hi hw => ?_, fun i m hi hm => ?_⟩
  · exact h.g hk
  · exact h.hr hk
  · exact h.rt hk
  · exact h.mb hi hw
  · exact h.dy hm hi
  · exact h.gn hc
  · exact h.cr hc
  · show (if _ then _ else _) = oL (up1 (sF s) k0 v k)
    by_cases q : k = k0
    · rw [if_pos (by omega), up1, if_pos q]
    · rw [if4 (by omega), up1, if_neg q]; exact h.fo hk
  · show (if _ then _ else _) = _
    rw [if4 (by omega)]; exact h.ac hi hw
  · show (if _ then _ else _) = _
    rw [if4 (by omega)]; exact h.lt hi hm
theorem ZR.wA {i0 w0 : Nat} {v : Int} (h : ZR (zA Z) (zB Z) s) (h0 : i0 < 16) (h9 : w0 < 6) : ZR (zA (wL Z 30 0 0 (2 + 6 * i0 + w0) (oL v))) (zB (wL Z 30 0 0 (2 + 6 * i0 + w0) (oL v))) (uA s (up2 (sA s) i0 w0 v)) := by
  refine ⟨fun k hk => ?_, fun k hk => ?_, fun k hk => ?_, fun i w hi hw => ?_, fun m i hm hi => ?_, fun c hc => ?_, fun c hc => ?_, fun k hk => ?_, fun i w hi hw => ?_, fun i m hi hm => ?_⟩
  · exact h.g hk
  · exact h.hr hk
  · exact h.rt hk
  · exact h.mb hi hw
  · exact h.dy hm hi
  · exact h.gn hc
  · exact h.cr hc
  · show (if _ then _ else _) = _
    rw [if4 (by omega)]; exact h.fo hk
  · show (if _ then _ else _) = oL (up2 (sA s) i0 w0 v i w)
    by_cases q : i = i0 ∧ w = w0
    · rw [if_pos (by omega), up2, if_pos q]
    · rw [if4 (by omega), up2, if_neg q]; exact h.ac hi hw
  · show (if _ then _ else _) = _
    rw [if4 (by omega)]; exact h.lt hi hm
theorem ZR.wT {i0 m0 : Nat} {v : Int} (h : ZR (zA Z) (zB Z) s) (h0 : i0 < 16) (h9 : m0 < 60) : ZR (zA (wL Z 30 0 0 (98 + 60 * i0 + m0) (oL v))) (zB (wL Z 30 0 0 (98 + 60 * i0 + m0) (oL v))) (uT s (up2 (sT s) i0 m0 v)) := by
  refine ⟨fun k hk => ?_, fun k hk => ?_, fun k hk => ?_, fun i w hi hw => ?_, fun m i hm hi => ?_, fun c hc => ?_, fun c hc => ?_, fun k hk => ?_, fun i w hi hw => ?_, fun i m hi hm => ?_⟩
  · exact h.g hk
  · exact h.hr hk
  · exact h.rt hk
  · exact h.mb hi hw
  · exact h.dy hm hi
  · exact h.gn hc
  · exact h.cr hc
  · show (if _ then _ else _) = _
    rw [if4 (by omega)]; exact h.fo hk
  · show (if _ then _ else _) = _
    rw [if4 (by omega)]; exact h.ac hi hw
  · show (if _ then _ else _) = oL (up2 (sT s) i0 m0 v i m)
    by_cases q : i = i0 ∧ m = m0
    · rw [if_pos (by omega), up2, if_pos q]
    · rw [if4 (by omega), up2, if_neg q]; exact h.lt hi hm
theorem SR.wSt {i0 : Nat} {v : Int} (h : SR A 0 s N) (h0 : i0 < N) : SR (wI A 8 0 (16 * 0 + i0) 0 (oI v)) 0 (uB s (up2 (sB s) i0 3 v)) N := by
  refine ⟨fun k hk => ?_, ⟨?_, ?_, ?_⟩, fun k hk => ?_, fun p hp => ?_, fun i hi => ⟨?_, ?_, ?_, ?_, ?_, ?_, fun ht => ?_⟩, fun i hi m hm => ?_, fun c hc => ⟨?_, ?_⟩, ⟨?_, ?_⟩, fun i hi w hw => ?_, fun i hi m hm => ?_⟩
  · rw [wI_1, if_neg (by omega)]; exact h.g hk
  · rw [wI_1, if_neg (by omega)]; exact h.mon
  · rw [wI_1, if_neg (by omega)]; exact h.day
  · rw [wI_1, if_neg (by omega)]; exact h.cnt
  · rw [wI_1, if_neg (by omega)]; exact h.hr hk
  · rw [wI_1, if_neg (by omega)]; exact h.rt hp
  · rw [wI_1]
    by_cases q : i = i0
    · rw [if_pos (by omega)]; show _ = oI (up2 (sB s) i0 3 v i 3); rw [up2, if_pos ⟨q, rfl⟩]
    · rw [if_neg (by omega)]; show _ = oI (up2 (sB s) i0 3 v i 3); rw [up2, if_neg (by omega)]; exact h.st hi
  · rw [wI_1, if_neg (by omega)]; show _ = oI (up2 (sB s) i0 3 v i 0); rw [up2, if_neg (by omega)]; exact h.wa hi
  · rw [wI_1, if_neg (by omega)]; show _ = oI (up2 (sB s) i0 3 v i 1); rw [up2, if_neg (by omega)]; exact h.mi hi
  · rw [wI_1, if_neg (by omega)]; show _ = oI (up2 (sB s) i0 3 v i 2); rw [up2, if_neg (by omega)]; exact h.pr hi
  · rw [wI_1, if_neg (by omega)]; show _ = oI (up2 (sB s) i0 3 v i 4); rw [up2, if_neg (by omega)]; exact h.sh hi
  · rw [wI_1, if_neg (by omega)]; show _ = oI (up2 (sB s) i0 3 v i 5); rw [up2, if_neg (by omega)]; exact h.to hi
  · rw [wI_1, if_neg (by omega)]; show _ = oI (up2 (sB s) i0 3 v i 6); rw [up2, if_neg (by omega)]
    refine h.pc hi ?_
    have ht2 : ¬ up2 (sB s) i0 3 v i 5 = -1 := ht
    rw [up2, if_neg (by omega)] at ht2
    exact ht2
  · rw [wI_1, if_neg (by omega)]; exact h.dy hi hm
  · rw [wI_1, if_neg (by omega)]; exact h.gn hc
  · rw [wI_1, if_neg (by omega)]; exact h.cr hc
  · exact h.fu
  · exact h.op
  · exact h.ac hi hw
  · exact h.lt hi hm
theorem SR.wWa {i0 : Nat} {v : Int} (h : SR A 0 s N) (h0 : i0 < N) : SR (wI A 8 1 (16 * 0 + i0) 0 (oI v)) 0 (uB s (up2 (sB s) i0 0 v)) N := by
  refine ⟨fun k hk => ?_, ⟨?_, ?_, ?_⟩, fun k hk => ?_, fun p hp => ?_, fun i hi => ⟨?_, ?_, ?_, ?_, ?_, ?_, fun ht => ?_⟩, fun i hi m hm => ?_, fun c hc => ⟨?_, ?_⟩, ⟨?_, ?_⟩, fun i hi w hw => ?_, fun i hi m hm => ?_⟩
  · rw [wI_1, if_neg (by omega)]; exact h.g hk
  · rw [wI_1, if_neg (by omega)]; exact h.mon
  · rw [wI_1, if_neg (by omega)]; exact h.day
  · rw [wI_1, if_neg (by omega)]; exact h.cnt
  · rw [wI_1, if_neg (by omega)]; exact h.hr hk
  · rw [wI_1, if_neg (by omega)]; exact h.rt hp
  · rw [wI_1, if_neg (by omega)]; show _ = oI (up2 (sB s) i0 0 v i 3); rw [up2, if_neg (by omega)]; exact h.st hi
  · rw [wI_1]
    by_cases q : i = i0
    · rw [if_pos (by omega)]; show _ = oI (up2 (sB s) i0 0 v i 0); rw [up2, if_pos ⟨q, rfl⟩]
    · rw [if_neg (by omega)]; show _ = oI (up2 (sB s) i0 0 v i 0); rw [up2, if_neg (by omega)]; exact h.wa hi
  · rw [wI_1, if_neg (by omega)]; show _ = oI (up2 (sB s) i0 0 v i 1); rw [up2, if_neg (by omega)]; exact h.mi hi
  · rw [wI_1, if_neg (by omega)]; show _ = oI (up2 (sB s) i0 0 v i 2); rw [up2, if_neg (by omega)]; exact h.pr hi
  · rw [wI_1, if_neg (by omega)]; show _ = oI (up2 (sB s) i0 0 v i 4); rw [up2, if_neg (by omega)]; exact h.sh hi
  · rw [wI_1, if_neg (by omega)]; show _ = oI (up2 (sB s) i0 0 v i 5); rw [up2, if_neg (by omega)]; exact h.to hi
  · rw [wI_1, if_neg (by omega)]; show _ = oI (up2 (sB s) i0 0 v i 6); rw [up2, if_neg (by omega)]
    refine h.pc hi ?_
    have ht2 : ¬ up2 (sB s) i0 0 v i 5 = -1 := ht
    rw [up2, if_neg (by omega)] at ht2
    exact ht2
  · rw [wI_1, if_neg (by omega)]; exact h.dy hi hm
  · rw [wI_1, if_neg (by omega)]; exact h.gn hc
  · rw [wI_1, if_neg (by omega)]; exact h.cr hc
  · exact h.fu
  · exact h.op
  · exact h.ac hi hw
  · exact h.lt hi hm
theorem SR.wMi {i0 : Nat} {v : Int} (h : SR A 0 s N) (h0 : i0 < N) : SR (wI A 8 2 (16 * 0 + i0) 0 (oI v)) 0 (uB s (up2 (sB s) i0 1 v)) N := by
  refine ⟨fun k hk => ?_, ⟨?_, ?_, ?_⟩, fun k hk => ?_, fun p hp => ?_, fun i hi => ⟨?_, ?_, ?_, ?_, ?_, ?_, fun ht => ?_⟩, fun i hi m hm => ?_, fun c hc => ⟨?_, ?_⟩, ⟨?_, ?_⟩, fun i hi w hw => ?_, fun i hi m hm => ?_⟩
  · rw [wI_1, if_neg (by omega)]; exact h.g hk
  · rw [wI_1, if_neg (by omega)]; exact h.mon
  · rw [wI_1, if_neg (by omega)]; exact h.day
  · rw [wI_1, if_neg (by omega)]; exact h.cnt
  · rw [wI_1, if_neg (by omega)]; exact h.hr hk
  · rw [wI_1, if_neg (by omega)]; exact h.rt hp
  · rw [wI_1, if_neg (by omega)]; show _ = oI (up2 (sB s) i0 1 v i 3); rw [up2, if_neg (by omega)]; exact h.st hi
  · rw [wI_1, if_neg (by omega)]; show _ = oI (up2 (sB s) i0 1 v i 0); rw [up2, if_neg (by omega)]; exact h.wa hi
  · rw [wI_1]
    by_cases q : i = i0
    · rw [if_pos (by omega)]; show _ = oI (up2 (sB s) i0 1 v i 1); rw [up2, if_pos ⟨q, rfl⟩]
    · rw [if_neg (by omega)]; show _ = oI (up2 (sB s) i0 1 v i 1); rw [up2, if_neg (by omega)]; exact h.mi hi
  · rw [wI_1, if_neg (by omega)]; show _ = oI (up2 (sB s) i0 1 v i 2); rw [up2, if_neg (by omega)]; exact h.pr hi
  · rw [wI_1, if_neg (by omega)]; show _ = oI (up2 (sB s) i0 1 v i 4); rw [up2, if_neg (by omega)]; exact h.sh hi
  · rw [wI_1, if_neg (by omega)]; show _ = oI (up2 (sB s) i0 1 v i 5); rw [up2, if_neg (by omega)]; exact h.to hi
  · rw [wI_1, if_neg (by omega)]; show _ = oI (up2 (sB s) i0 1 v i 6); rw [up2, if_neg (by omega)]
    refine h.pc hi ?_
    have ht2 : ¬ up2 (sB s) i0 1 v i 5 = -1 := ht
    rw [up2, if_neg (by omega)] at ht2
    exact ht2
  · rw [wI_1, if_neg (by omega)]; exact h.dy hi hm
  · rw [wI_1, if_neg (by omega)]; exact h.gn hc
  · rw [wI_1, if_neg (by omega)]; exact h.cr hc
  · exact h.fu
  · exact h.op
  · exact h.ac hi hw
  · exact h.lt hi hm
theorem SR.wPr {i0 : Nat} {v : Int} (h : SR A 0 s N) (h0 : i0 < N) : SR (wI A 8 3 (16 * 0 + i0) 0 (oI v)) 0 (uB s (up2 (sB s) i0 2 v)) N := by
  refine ⟨fun k hk => ?_, ⟨?_, ?_, ?_⟩, fun k hk => ?_, fun p hp => ?_, fun i hi => ⟨?_, ?_, ?_, ?_, ?_, ?_, fun ht => ?_⟩, fun i hi m hm => ?_, fun c hc => ⟨?_, ?_⟩, ⟨?_, ?_⟩, fun i hi w hw => ?_, fun i hi m hm => ?_⟩
  · rw [wI_1, if_neg (by omega)]; exact h.g hk
  · rw [wI_1, if_neg (by omega)]; exact h.mon
  · rw [wI_1, if_neg (by omega)]; exact h.day
  · rw [wI_1, if_neg (by omega)]; exact h.cnt
  · rw [wI_1, if_neg (by omega)]; exact h.hr hk
  · rw [wI_1, if_neg (by omega)]; exact h.rt hp
  · rw [wI_1, if_neg (by omega)]; show _ = oI (up2 (sB s) i0 2 v i 3); rw [up2, if_neg (by omega)]; exact h.st hi
  · rw [wI_1, if_neg (by omega)]; show _ = oI (up2 (sB s) i0 2 v i 0); rw [up2, if_neg (by omega)]; exact h.wa hi
  · rw [wI_1, if_neg (by omega)]; show _ = oI (up2 (sB s) i0 2 v i 1); rw [up2, if_neg (by omega)]; exact h.mi hi
  · rw [wI_1]
    by_cases q : i = i0
    · rw [if_pos (by omega)]; show _ = oI (up2 (sB s) i0 2 v i 2); rw [up2, if_pos ⟨q, rfl⟩]
    · rw [if_neg (by omega)]; show _ = oI (up2 (sB s) i0 2 v i 2); rw [up2, if_neg (by omega)]; exact h.pr hi
  · rw [wI_1, if_neg (by omega)]; show _ = oI (up2 (sB s) i0 2 v i 4); rw [up2, if_neg (by omega)]; exact h.sh hi
  · rw [wI_1, if_neg (by omega)]; show _ = oI (up2 (sB s) i0 2 v i 5); rw [up2, if_neg (by omega)]; exact h.to hi
  · rw [wI_1, if_neg (by omega)]; show _ = oI (up2 (sB s) i0 2 v i 6); rw [up2, if_neg (by omega)]
    refine h.pc hi ?_
    have ht2 : ¬ up2 (sB s) i0 2 v i 5 = -1 := ht
    rw [up2, if_neg (by omega)] at ht2
    exact ht2
  · rw [wI_1, if_neg (by omega)]; exact h.dy hi hm
  · rw [wI_1, if_neg (by omega)]; exact h.gn hc
  · rw [wI_1, if_neg (by omega)]; exact h.cr hc
  · exact h.fu
  · exact h.op
  · exact h.ac hi hw
  · exact h.lt hi hm
theorem SR.wSh {i0 : Nat} {v : Int} (h : SR A 0 s N) (h0 : i0 < N) : SR (wI A 8 4 (16 * 0 + i0) 0 (oI v)) 0 (uB s (up2 (sB s) i0 4 v)) N := by
  refine ⟨fun k hk => ?_, ⟨?_, ?_, ?_⟩, fun k hk => ?_, fun p hp => ?_, fun i hi => ⟨?_, ?_, ?_, ?_, ?_, ?_, fun ht => ?_⟩, fun i hi m hm => ?_, fun c hc => ⟨?_, ?_⟩, ⟨?_, ?_⟩, fun i hi w hw => ?_, fun i hi m hm => ?_⟩
  · rw [wI_1, if_neg (by omega)]; exact h.g hk
  · rw [wI_1, if_neg (by omega)]; exact h.mon
  · rw [wI_1, if_neg (by omega)]; exact h.day
  · rw [wI_1, if_neg (by omega)]; exact h.cnt
  · rw [wI_1, if_neg (by omega)]; exact h.hr hk
  · rw [wI_1, if_neg (by omega)]; exact h.rt hp
  · rw [wI_1, if_neg (by omega)]; show _ = oI (up2 (sB s) i0 4 v i 3); rw [up2, if_neg (by omega)]; exact h.st hi
  · rw [wI_1, if_neg (by omega)]; show _ = oI (up2 (sB s) i0 4 v i 0); rw [up2, if_neg (by omega)]; exact h.wa hi
  · rw [wI_1, if_neg (by omega)]; show _ = oI (up2 (sB s) i0 4 v i 1); rw [up2, if_neg (by omega)]; exact h.mi hi
  · rw [wI_1, if_neg (by omega)]; show _ = oI (up2 (sB s) i0 4 v i 2); rw [up2, if_neg (by omega)]; exact h.pr hi
  · rw [wI_1]
    by_cases q : i = i0
    · rw [if_pos (by omega)]; show _ = oI (up2 (sB s) i0 4 v i 4); rw [up2, if_pos ⟨q, rfl⟩]
    · rw [if_neg (by omega)]; show _ = oI (up2 (sB s) i0 4 v i 4); rw [up2, if_neg (by omega)]; exact h.sh hi
  · rw [wI_1, if_neg (by omega)]; show _ = oI (up2 (sB s) i0 4 v i 5); rw [up2, if_neg (by omega)]; exact h.to hi
  · rw [wI_1, if_neg (by omega)]; show _ = oI (up2 (sB s) i0 4 v i 6); rw [up2, if_neg (by omega)]
    refine h.pc hi ?_
    have ht2 : ¬ up2 (sB s) i0 4 v i 5 = -1 := ht
    rw [up2, if_neg (by omega)] at ht2
    exact ht2
  · rw [wI_1, if_neg (by omega)]; exact h.dy hi hm
  · rw [wI_1, if_neg (by omega)]; exact h.gn hc
  · rw [wI_1, if_neg (by omega)]; exact h.cr hc
  · exact h.fu
  · exact h.op
  · exact h.ac hi hw
  · exact h.lt hi hm
theorem SR.wMon {z0 : Nat} {v : Int} (h : SR A 0 s N) (_ : z0 = 0) : SR (wI A 0 4 0 0 (oI v)) 0 (uG s (up1 (sG s) 5 v)) N := by
  refine ⟨fun k hk => ?_, ⟨?_, ?_, ?_⟩, fun k hk => ?_, fun p hp => ?_, fun i hi => ⟨?_, ?_, ?_, ?_, ?_, ?_, fun ht => ?_⟩, fun i hi m hm => ?_, fun c hc => ⟨?_, ?_⟩, ⟨?_, ?_⟩, fun i hi w hw => ?_, fun i hi m hm => ?_⟩
  · show _ = oI (up1 (sG s) 5 v k); rw [wI_1, if_neg (by omega), up1, if_neg (by omega)]; exact h.g hk
  · show _ = oI (up1 (sG s) 5 v 5); rw [wI_1, if_pos (by omega), up1, if_pos rfl]
  · show _ = oI (up1 (sG s) 5 v 6); rw [wI_1, if_neg (by omega), up1, if_neg (by omega)]; exact h.day
  · rw [wI_1, if_neg (by omega)]; exact h.cnt
  · rw [wI_1, if_neg (by omega)]; exact h.hr hk
  · rw [wI_1, if_neg (by omega)]; refine h.rt ?_; have hp2 : (p : Int) < up1 (sG s) 5 v 4 := hp; rw [up1, if_neg (by omega)] at hp2; exact hp2
  · rw [wI_1, if_neg (by omega)]; exact h.st hi
  · rw [wI_1, if_neg (by omega)]; exact h.wa hi
  · rw [wI_1, if_neg (by omega)]; exact h.mi hi
  · rw [wI_1, if_neg (by omega)]; exact h.pr hi
  · rw [wI_1, if_neg (by omega)]; exact h.sh hi
  · rw [wI_1, if_neg (by omega)]; exact h.to hi
  · rw [wI_1, if_neg (by omega)]; exact h.pc hi (by simpa [up2] using ht)
  · rw [wI_1, if_neg (by omega)]; exact h.dy hi hm
  · rw [wI_1, if_neg (by omega)]; exact h.gn hc
  · rw [wI_1, if_neg (by omega)]; exact h.cr hc
  · exact h.fu
  · exact h.op
  · exact h.ac hi hw
  · exact h.lt hi hm
theorem SR.wDay {z0 : Nat} {v : Int} (h : SR A 0 s N) (_ : z0 = 0) : SR (wI A 0 5 0 0 (oI v)) 0 (uG s (up1 (sG s) 6 v)) N := by
  refine ⟨fun k hk => ?_, ⟨?_, ?_, ?_⟩, fun k hk => ?_, fun p hp => ?_, fun i hi => ⟨?_, ?_, ?_, ?_, ?_, ?_, fun ht => ?_⟩, fun i hi m hm => ?_, fun c hc => ⟨?_, ?_⟩, ⟨?_, ?_⟩, fun i hi w hw => ?_, fun i hi m hm => ?_⟩
  · show _ = oI (up1 (sG s) 6 v k); rw [wI_1, if_neg (by omega), up1, if_neg (by omega)]; exact h.g hk
  · show _ = oI (up1 (sG s) 6 v 5); rw [wI_1, if_neg (by omega), up1, if_neg (by omega)]; exact h.mon
  · show _ = oI (up1 (sG s) 6 v 6); rw [wI_1, if_pos (by omega), up1, if_pos rfl]
  · rw [wI_1, if_neg (by omega)]; exact h.cnt
  · rw [wI_1, if_neg (by omega)]; exact h.hr hk
  · rw [wI_1, if_neg (by omega)]; refine h.rt ?_; have hp2 : (p : Int) < up1 (sG s) 6 v 4 := hp; rw [up1, if_neg (by omega)] at hp2; exact hp2
  · rw [wI_1, if_neg (by omega)]; exact h.st hi
  · rw [wI_1, if_neg (by omega)]; exact h.wa hi
  · rw [wI_1, if_neg (by omega)]; exact h.mi hi
  · rw [wI_1, if_neg (by omega)]; exact h.pr hi
  · rw [wI_1, if_neg (by omega)]; exact h.sh hi
  · rw [wI_1, if_neg (by omega)]; exact h.to hi
  · rw [wI_1, if_neg (by omega)]; exact h.pc hi (by simpa [up2] using ht)
  · rw [wI_1, if_neg (by omega)]; exact h.dy hi hm
  · rw [wI_1, if_neg (by omega)]; exact h.gn hc
  · rw [wI_1, if_neg (by omega)]; exact h.cr hc
  · exact h.fu
  · exact h.op
  · exact h.ac hi hw
  · exact h.lt hi hm
theorem SR.wD {m0 i0 : Nat} {v : Int} (h : SR A 0 s N) (h0 : i0 < N) (h9 : m0 < 60) : SR (wI A 24 0 (16 * 0 + i0) m0 (oI v)) 0 (uD s (up2 (sD s) m0 i0 v)) N := by
  refine ⟨fun k hk => ?_, ⟨?_, ?_, ?_⟩, fun k hk => ?_, fun p hp => ?_, fun i hi => ⟨?_, ?_, ?_, ?_, ?_, ?_, fun ht => ?_⟩, fun i hi m hm => ?_, fun c hc => ⟨?_, ?_⟩, ⟨?_, ?_⟩, fun i hi w hw => ?_, fun i hi m hm => ?_⟩
  · rw [wI_1, if_neg (by omega)]; exact h.g hk
  · rw [wI_1, if_neg (by omega)]; exact h.mon
  · rw [wI_1, if_neg (by omega)]; exact h.day
  · rw [wI_1, if_neg (by omega)]; exact h.cnt
  · rw [wI_1, if_neg (by omega)]; exact h.hr hk
  · rw [wI_1, if_neg (by omega)]; exact h.rt hp
  · rw [wI_1, if_neg (by omega)]; exact h.st hi
  · rw [wI_1, if_neg (by omega)]; exact h.wa hi
  · rw [wI_1, if_neg (by omega)]; exact h.mi hi
  · rw [wI_1, if_neg (by omega)]; exact h.pr hi
  · rw [wI_1, if_neg (by omega)]; exact h.sh hi
  · rw [wI_1, if_neg (by omega)]; exact h.to hi
  · rw [wI_1, if_neg (by omega)]; exact h.pc hi (by simpa [up2] using ht)
  · rw [wI_1]; show _ = oI (up2 (sD s) m0 i0 v m i)
    by_cases q : m = m0 ∧ i = i0
    · rw [if_pos (by omega), up2, if_pos q]
    · rw [if_neg (by omega), up2, if_neg q]; exact h.dy hi hm
  · rw [wI_1, if_neg (by omega)]; exact h.gn hc
  · rw [wI_1, if_neg (by omega)]; exact h.cr hc
  · exact h.fu
  · exact h.op
  · exact h.ac hi hw
  · exact h.lt hi hm
theorem SR.wF0 {z0 : Nat} {v : Int} (h : SR A 0 s N) (_ : z0 = 0) : SR (wL A 0 6 0 0 (oL v)) 0 (uF s (up1 (sF s) 0 v)) N := by
  refine ⟨fun k hk => ?_, ⟨?_, ?_, ?_⟩, fun k hk => ?_, fun p hp => ?_, fun i hi => ⟨?_, ?_, ?_, ?_, ?_, ?_, fun ht => ?_⟩, fun i hi m hm => ?_, fun c hc => ⟨?_, ?_⟩, ⟨?_, ?_⟩, fun i hi w hw => ?_, fun i hi m hm => ?_⟩
  · exact h.g hk
  · exact h.mon
  · exact h.day
  · exact h.cnt
  · exact h.hr hk
  · exact h.rt hp
  · exact h.st hi
  · exact h.wa hi
  · exact h.mi hi
  · exact h.pr hi
  · exact h.sh hi
  · exact h.to hi
  · exact h.pc hi (by simpa [up2] using ht)
  · exact h.dy hi hm
  · exact h.gn hc
  · exact h.cr hc
  · show _ = oL (up1 (sF s) 0 v 0); rw [wL_2, if_pos (by omega), up1, if_pos rfl]
  · show _ = oL (up1 (sF s) 0 v 1); rw [wL_2, if_neg (by omega), up1, if_neg (by omega)]; exact h.op
  · rw [wL_2, if_neg (by omega)]; exact h.ac hi hw
  · rw [wL_2, if_neg (by omega)]; exact h.lt hi hm
theorem SR.wF1 {z0 : Nat} {v : Int} (h : SR A 0 s N) (_ : z0 = 0) : SR (wL A 0 7 0 0 (oL v)) 0 (uF s (up1 (sF s) 1 v)) N := by
  refine ⟨fun k hk => ?_, ⟨?_, ?_, ?_⟩, fun k hk => ?_, fun p hp => ?_, fun i hi => ⟨?_, ?_, ?_, ?_, ?_, ?_, fun ht => ?_⟩, fun i hi m hm => ?_, fun c hc => ⟨?_, ?_⟩, ⟨?_, ?_⟩, fun i hi w hw => ?_, fun i hi m hm => ?_⟩
  · exact h.g hk
  · exact h.mon
  · exact h.day
  · exact h.cnt
  · exact h.hr hk
  · exact h.rt hp
  · exact h.st hi
  · exact h.wa hi
  · exact h.mi hi
  · exact h.pr hi
  · exact h.sh hi
  · exact h.to hi
  · exact h.pc hi (by simpa [up2] using ht)
  · exact h.dy hi hm
  · exact h.gn hc
  · exact h.cr hc
  · show _ = oL (up1 (sF s) 1 v 0); rw [wL_2, if_neg (by omega), up1, if_neg (by omega)]; exact h.fu
  · show _ = oL (up1 (sF s) 1 v 1); rw [wL_2, if_pos (by omega), up1, if_pos rfl]
  · rw [wL_2, if_neg (by omega)]; exact h.ac hi hw
  · rw [wL_2, if_neg (by omega)]; exact h.lt hi hm
theorem SR.wA {i0 w0 : Nat} {v : Int} (h : SR A 0 s N) (h0 : i0 < N) (h9 : w0 < 6) : SR (wL A 26 0 (16 * 0 + i0) w0 (oL v)) 0 (uA s (up2 (sA s) i0 w0 v)) N := by
  refine ⟨fun k hk => ?_, ⟨?_, ?_, ?_⟩, fun k hk => ?_, fun p hp => ?_, fun i hi => ⟨?_, ?_, ?_, ?_, ?_, ?_, fun ht => ?_⟩, fun i hi m hm => ?_, fun c hc => ⟨?_, ?_⟩, ⟨?_, ?_⟩, fun i hi w hw => ?_, fun i hi m hm => ?_⟩
  · exact h.g hk
  · exact h.mon
  · exact h.day
  · exact h.cnt
  · exact h.hr hk
  · exact h.rt hp
  · exact h.st hi
  · exact h.wa hi
  · exact h.mi hi
  · exact h.pr hi
  · exact h.sh hi
  · exact h.to hi
  · exact h.pc hi (by simpa [up2] using ht)
  · exact h.dy hi hm
  · exact h.gn hc
  · exact h.cr hc
  · rw [wL_2, if_neg (by omega)]; exact h.fu
  · rw [wL_2, if_neg (by omega)]; exact h.op
  · rw [wL_2]; show _ = oL (up2 (sA s) i0 w0 v i w)
    by_cases q : i = i0 ∧ w = w0
    · rw [if_pos (by omega), up2, if_pos q]
    · rw [if_neg (by omega), up2, if_neg q]; exact h.ac hi hw
  · rw [wL_2, if_neg (by omega)]; exact h.lt hi hm
theorem SR.wT {i0 m0 : Nat} {v : Int} (h : SR A 0 s N) (h0 : i0 < N) (h9 : m0 < 60) : SR (wL A 25 0 (16 * 0 + i0) m0 (oL v)) 0 (uT s (up2 (sT s) i0 m0 v)) N := by
  refine ⟨fun k hk => ?_, ⟨?_, ?_, ?_⟩, fun k hk => ?_, fun p hp => ?_, fun i hi => ⟨?_, ?_, ?_, ?_, ?_, ?_, fun ht => ?_⟩, fun i hi m hm => ?_, fun c hc => ⟨?_, ?_⟩, ⟨?_, ?_⟩, fun i hi w hw => ?_, fun i hi m hm => ?_⟩
  · exact h.g hk
  · exact h.mon
  · exact h.day
  · exact h.cnt
  · exact h.hr hk
  · exact h.rt hp
  · exact h.st hi
  · exact h.wa hi
  · exact h.mi hi
  · exact h.pr hi
  · exact h.sh hi
  · exact h.to hi
  · exact h.pc hi (by simpa [up2] using ht)
  · exact h.dy hi hm
  · exact h.gn hc
  · exact h.cr hc
  · rw [wL_2, if_neg (by omega)]; exact h.fu
  · rw [wL_2, if_neg (by omega)]; exact h.op
  · rw [wL_2, if_neg (by omega)]; exact h.ac hi hw
  · rw [wL_2]; show _ = oL (if m < 60 then up2 (sT s) i0 m0 v i m else 0)
    by_cases q : i = i0 ∧ m = m0
    · rw [if_pos (by omega), if_pos (by omega), up2, if_pos q]
    · rw [if_neg (by omega), up2, if_neg q]; exact h.lt hi hm
end
