/-! The end of a month: one member. -/
theorem payd_congr {f g : Nat → Int} {x : Int} {k : Nat} (h : ∀ j, j < k + 1 → f j = g j) : payd f x k = payd g x k := by
  rw [payd, payd, rmn_congr (fun j hj => h j (by omega)), h k (by omega)]
def eD (s : sS) (i : Nat) (c : Int) : Int := mn (sA s i 0) c
def eT1 (s : sS) (i : Nat) (c : Int) : Nat → Int := mT1 (sT s i) (sA s i 0) c (sG s 5).toNat
def eL (s : sS) (i : Nat) (c : Int) : Int := rmn (eT1 s i c) (sA s i 1) 60
def eX (s : sS) (i : Nat) (c : Int) : Int := if sG s 1 ≤ sG s 5 then payd (eT1 s i c) (sA s i 1) ((sG s 5).toNat - (sG s 1).toNat) else 0
def emT (s : sS) (i : Nat) (c : Int) : Nat → Nat → Int := fun j k => if j = i ∧ k < 60 then (if sG s 1 ≤ sG s 5 ∧ k = (sG s 5).toNat - (sG s 1).toNat then 0 else payd (eT1 s i c) (sA s i 1) k) else sT s j k
def emA (s : sS) (i : Nat) (c : Int) : Nat → Nat → Int := fun j w => if j = i then mA (sA s i) (sA s i 0) c (eL s i c) (eX s i c) w else sA s j w
def emS (s : sS) (i : Nat) (c : Int) : sS := (sG s, sH s, sRt s, sB s, sD s, sE s, sC s, up1 (sF s) 0 (sF s 0 + eX s i c), emA s i c, emT s i c)
section
variable {A Z : sM} {s : sS} {N n i : Nat}
theorem SR.em {A' : sM} {t a : Nat → Int} (h : SR A 0 s N) (hN : N ≤ 16) (hF : Fr (pS (16 * 0 + i)) A A') (h25 : ∀ j, j < 72 → A'.2 25 0 (16 * 0 + i) j = oL (if j < 60 then t j else 0)) (h26 : ∀ w, w < 6 → A'.2 26 0 (16 * 0 + i) w = oL (a w)) : SR A' 0 (uT (uA s (fun j w => if j = i then a w else sA s j w)) (fun j k => if j = i then t k else sT s j k)) N := by
  have p0 : ∀ c k o, ¬ (c = 25 ∨ c = 26) → pS (16 * 0 + i) c k o = false := fun c k o h => by simp [pS]; omega
  have p1 : ∀ c k j, ¬ j = i → pS (16 * 0 + i) c k (16 * 0 + j) = false := fun c k j h => by simp [pS]; omega
  refine ⟨fun k hk => ?_, ⟨?_, ?_, ?_⟩, fun k hk => ?_, fun p hp => ?_, fun j hj => ⟨?_, ?_, ?_, ?_, ?_, ?_, fun ht => ?_⟩, fun j hj m hm => ?_, fun c hc => ⟨?_, ?_⟩, ⟨?_, ?_⟩, fun j hj w hw => ?_, fun j hj m hm => ?_⟩
  · rw [hF.i (p0 _ _ _ (by omega))]; exact h.g hk
  · rw [hF.i (p0 _ _ _ (by omega))]; exact h.mon
  · rw [hF.i (p0 _ _ _ (by omega))]; exact h.day
  · rw [hF.i (p0 _ _ _ (by omega))]; exact h.cnt
  · rw [hF.i (p0 _ _ _ (by omega))]; exact h.hr hk
  · rw [hF.i (p0 _ _ _ (by omega))]; exact h.rt hp
  · rw [hF.i (p0 _ _ _ (by omega))]; exact h.st hj
  · rw [hF.i (p0 _ _ _ (by omega))]; exact h.wa hj
  · rw [hF.i (p0 _ _ _ (by omega))]; exact h.mi hj
  · rw [hF.i (p0 _ _ _ (by omega))]; exact h.pr hj
  · rw [hF.i (p0 _ _ _ (by omega))]; exact h.sh hj
  · rw [hF.i (p0 _ _ _ (by omega))]; exact h.to hj
  · rw [hF.i (p0 _ _ _ (by omega))]; exact h.pc hj ht
  · rw [hF.i (p0 _ _ _ (by omega))]; exact h.dy hj hm
  · rw [hF.i (p0 _ _ _ (by omega))]; exact h.gn hc
  · rw [hF.i (p0 _ _ _ (by omega))]; exact h.cr hc
  · rw [hF.l (p0 _ _ _ (by omega))]; exact h.fu
  · rw [hF.l (p0 _ _ _ (by omega))]; exact h.op
  · show _ = oL (if j = i then a w else sA s j w)
    by_cases e : j = i
    · rw [if_pos e, e]; exact h26 w hw
    · rw [if_neg e, hF.l (p1 _ _ _ e)]; exact h.ac hj hw
  · show _ = oL (if m < 60 then (if j = i then t m else sT s j m) else 0)
    by_cases e : j = i
    · rw [if_pos e, e]; exact h25 m hm
    · rw [if_neg e, hF.l (p1 _ _ _ e)]; exact h.lt hj hm
theorem emA_t {m e : Nat} {c : Int} (hS : SR A 0 s N) (hN : N ≤ 16) (hi : i < N) (hm : sG s 5 = m) (hm2 : m < 60) (he : sG s 1 = e) (he2 : e ≤ 24) (hc : 0 ≤ c ∧ c < 1152921504606846976) (hT : ∀ k, k < 60 → 0 ≤ sT s i k ∧ sT s i k < 1152921504606846976) (hg : 0 ≤ sA s i 0 ∧ sA s i 0 < 1152921504606846976 ∧ 0 ≤ sA s i 1 ∧ sA s i 1 < 1152921504606846976) :
    ∃ A', Fr (pS (16 * 0 + i)) A A' ∧ SR (wL A' 0 6 0 0 (oL (sF s 0 + eX s i c))) 0 (emS s i c) N ∧ fX8_finishMonth (16 * 0 + i) (oL c) (oI m) (oI e) A = some (oL (eX s i c), A') := by
  obtain ⟨A', q1, q2, q3, q4⟩ := finM (A := A) (o := 16 * 0 + i) (m := m) (e := e) (f := fun j => if j < 60 then sT s i j else 0) (g := sA s i) (c := c) (by omega) he2 hc (fun j hj => by
    show 0 ≤ (if j < 60 then sT s i j else 0) ∧ _
    by_cases q : j < 60
    · simp only [if_pos q]; exact hT j q
    · simp only [if_neg q]; omega) hg (fun j hj => hS.lt hi hj) (fun w hw => hS.ac hi hw)
  have hT1 : ∀ k, k < 60 → mT1 (fun j => if j < 60 then sT s i j else 0) (sA s i 0) c m k = eT1 s i c k := fun k hk => by
    rw [eT1, mT1, mT1, hm, cl_nat, up1, up1]
    by_cases q : k = m
    · rw [if_pos q, if_pos q]
      show (if m < 60 then sT s i m else 0) + _ = _
      rw [if_pos hm2]
    · rw [if_neg q, if_neg q]
      show (if k < 60 then sT s i k else 0) = _
      rw [if_pos hk]
  have hT1z : ∀ k, 60 ≤ k → mT1 (fun j => if j < 60 then sT s i j else 0) (sA s i 0) c m k = 0 := fun k hk => by
    rw [mT1, up1_n _ _ (by omega)]
    show (if k < 60 then sT s i k else 0) = 0
    rw [if_neg (by omega)]
  have hnn : ∀ k, k < 60 → 0 ≤ eT1 s i c k := fun k hk => by
    have h1 := hT k hk
    have h2 := hT m hm2
    have h3 := mn_le (sA s i 0) c
    rw [eT1, mT1, hm, cl_nat, up1]
    split <;> omega
  have hL : mL (fun j => if j < 60 then sT s i j else 0) (sA s i 0) (sA s i 1) c m 72 = eL s i c := by
    rw [mL, show (72 : Nat) = 60 + 12 from rfl, rmn_z hg.2.2.1 (fun k hk => by rw [hT1 k hk]; exact hnn k hk) 12 (fun k h1 h2 => hT1z k h1), eL]
    exact rmn_congr hT1
  have hp : ∀ k, k < 60 → mT2 (fun j => if j < 60 then sT s i j else 0) (sA s i 0) (sA s i 1) c m k = payd (eT1 s i c) (sA s i 1) k := fun k hk => by
    rw [mT2]; exact payd_congr (fun j hj => hT1 j (by omega))
  have hpz : ∀ k, 60 ≤ k → mT2 (fun j => if j < 60 then sT s i j else 0) (sA s i 0) (sA s i 1) c m k = 0 := fun k hk => by
    have h1 := payd_bd hg.2.2.1 (f := mT1 (fun j => if j < 60 then sT s i j else 0) (sA s i 0) c m) (m := k) (fun j hj => by
      by_cases q : j < 60
      · rw [hT1 j q]; exact hnn j q
      · rw [hT1z j (by omega)]; omega)
    rw [hT1z k hk] at h1
    rw [mT2]; omega
  have hX : mX (fun j => if j < 60 then sT s i j else 0) (sA s i 0) (sA s i 1) c m e = eX s i c := by
    rw [mX, eX, hm, he, cl_nat, cl_nat]
    by_cases q : e ≤ m
    · rw [if_pos q, if_pos (by omega), hp _ (by omega)]
    · rw [if_neg q, if_neg (by omega)]
  refine ⟨A', q1, ?_, by rw [← hX]; exact q4⟩
  have h1 := hS.em (t := fun k => if sG s 1 ≤ sG s 5 ∧ k = (sG s 5).toNat - (sG s 1).toNat then 0 else payd (eT1 s i c) (sA s i 1) k) (a := mA (sA s i) (sA s i 0) c (eL s i c) (eX s i c)) hN q1 (fun j hj => by
    rw [q2 j hj]
    refine congrArg oL ?_
    rw [mT3, hm, he, cl_nat, cl_nat]
    by_cases q : e ≤ m
    · rw [if_pos q, up1]
      by_cases q5 : j = m - e
      · rw [if_pos q5, if_pos (by omega), if_pos ⟨by omega, q5⟩]
      · rw [if_neg q5, if_neg (c := (e : Int) ≤ (m : Int) ∧ j = m - e) (fun h => q5 h.2)]
        by_cases q6 : j < 60
        · rw [if_pos q6, hp j q6]
        · rw [if_neg q6, hpz j (by omega)]
    · rw [if_neg q, if_neg (c := (e : Int) ≤ (m : Int) ∧ j = m - e) (by omega)]
      by_cases q6 : j < 60
      · rw [if_pos q6, hp j q6]
      · rw [if_neg q6, hpz j (by omega)]) (fun w hw => by rw [q3 w hw, hL, hX])
  have h2 := h1.wF0 (z0 := 0) (v := sF s 0 + eX s i c) rfl
  -- the lots beyond the sixtieth month don't matter
  refine ⟨fun k hk => h2.g hk, ⟨h2.mon, h2.day, h2.cnt⟩, fun k hk => h2.hr hk, fun p hp => h2.rt hp, fun j hj => ⟨h2.st hj, h2.wa hj, h2.mi hj, h2.pr hj, h2.sh hj, h2.to hj, fun ht => h2.pc hj ht⟩, fun j hj m hm => h2.dy hj hm, fun c hc => ⟨h2.gn hc, h2.cr hc⟩, ⟨h2.fu, h2.op⟩, fun j hj w hw => h2.ac hj hw, fun j hj k hk => ?_⟩
  rw [h2.lt hj hk]
  refine congrArg oL ?_
  by_cases q : k < 60
  · rw [if_pos q, if_pos q]
    show (if j = i then _ else _) = emT s i c j k
    rw [emT]
    by_cases q2 : j = i
    · rw [if_pos q2, if_pos (c := j = i ∧ k < 60) ⟨q2, q⟩]
    · rw [if_neg q2, if_neg (fun h => q2 h.1)]
  · rw [if_neg q, if_neg q]
end
