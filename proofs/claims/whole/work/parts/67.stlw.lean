def mM (s : sS) : Int := (if 0 ≤ sF s 0 then sF s 0 else 0) + sumN (bal s) 16
def mE (s : sS) : Int := sF s 0 - sumN (fun i => sA s i 0) 16
section
variable {s s' : sS} {N n i : Nat}
theorem W8_m : W8 n s ↔ (2 * mM s + sumN (pot s) 240 ≤ 48000000000000 + n * 200000000000 ∧ -(n * 200000000000000 : Int) ≤ mE s) := by
  simp only [W8, mM, mE]
  constructor
  · rintro ⟨h1, h2⟩; exact ⟨by omega, h2⟩
  · rintro ⟨h1, h2⟩; exact ⟨by omega, h2⟩
theorem W7_i (h7 : W7 s N) (hi : i < N) (hN : N ≤ 16) (hac : sB s i 3 = 1) (hs : same s' s) (ho : ∀ j, ¬ j = i → (∀ w, sA s' j w = sA s j w) ∧ ∀ m, sT s' j m = sT s j m) (h0 : 0 ≤ sA s' i 0) (hw : 0 ≤ sA s' i 1 ∧ sA s' i 1 ≤ 10000000000) (hT : ∀ m, m < 60 → 0 ≤ sT s' i m ∧ ((sG s 5 < m ∨ m + sG s 1 < sG s 5) → sT s i m = 0 → sT s' i m = 0)) : W7 s' N := by
  refine ⟨fun j hj => ?_, fun j h1 h2 => ?_, fun j hj q => ?_, fun j m hj hm q => ?_⟩
  · by_cases e : j = i
    · rw [e]; exact ⟨h0, hw.1, hw.2, fun m hm => (hT m hm).1⟩
    · have h9 := h7.1 j hj
      rw [(ho j e).1 0, (ho j e).1 1]
      exact ⟨h9.1, h9.2.1, h9.2.2.1, fun m hm => by rw [(ho j e).2 m]; exact h9.2.2.2 m hm⟩
  · have e : ¬ j = i := by omega
    have h9 := h7.2.1 j h1 h2
    exact ⟨fun w hw => by rw [(ho j e).1 w]; exact h9.1 w hw, fun m hm => by rw [(ho j e).2 m]; exact h9.2 m hm⟩
  · have q' : ¬ sB s j 3 = 1 := by rw [← hs.2.2.2.1]; exact q
    have e : ¬ j = i := fun e => q' (by rw [e]; exact hac)
    have h9 := h7.2.2.1 j hj q'
    rw [(ho j e).1 0, (ho j e).1 1, (ho j e).1 3, hs.2.2.2.1]
    exact ⟨h9.1, h9.2.1, fun m hm => by rw [(ho j e).2 m]; exact h9.2.2.1 m hm, h9.2.2.2⟩
  · have q' : sG s 5 < m ∨ m + sG s 1 < sG s 5 := by rw [← hs.1]; exact q
    have h9 := h7.2.2.2 j m hj hm q'
    by_cases e : j = i
    · rw [e] at h9 ⊢; exact (hT m hm).2 q' h9
    · rw [(ho j e).2 m]; exact h9
theorem mn_nn {a b : Int} (ha : 0 ≤ a) (hb : 0 ≤ b) : 0 ≤ mn a b := by rcases mn_or a b with q | q <;> rw [q] <;> assumption
theorem stS_m (b : Bool) {c : Int} (h7 : W7 s N) (h1 : W1 s N) (hi : i < N) (hc : 0 ≤ c) : W7 (stS b s i c) N ∧ mM (stS b s i c) ≤ mM s + (if b = true then c else 0) ∧ mE s - (if b = true then 0 else c) ≤ mE (stS b s i c) := by
  obtain ⟨g0, g1, g2, g3, g4, g5, g6, g7, hN⟩ := id h1
  have hsm := stS_same b s i c
  have ho := fun j (h : ¬ j = i) => stS_o b s c h
  have h71 := h7.1 i (by omega)
  by_cases q : sB s i 3 = 1
  · cases b with
    | true =>
      have es : stS true s i c = crS s i c := by rw [stS, if_pos q, if_pos rfl]
      rw [es] at hsm ho ⊢
      have hm := mn_le (sA s i 0) c
      have hm0 := mn_nn h71.1 hc
      have eA : sA (crS s i c) i 0 = sA s i 0 - mn (sA s i 0) c := up2_s _ _ _ _
      have eT : ∀ m, sT (crS s i c) i m = if m = (sG s 5).toNat then sT s i m + (c - mn (sA s i 0) c) else sT s i m := fun m => by
        show up2 (sT s) i (sG s 5).toNat (sT s i (sG s 5).toNat + (c - mn (sA s i 0) c)) i m = _
        rw [up2]
        by_cases e : m = (sG s 5).toNat
        · rw [if_pos ⟨rfl, e⟩, if_pos e, e]
        · rw [if_neg (fun q => e q.2), if_neg e]
      refine ⟨W7_i h7 hi hN q hsm ho (by rw [eA]; omega) (by
          rw [show sA (crS s i c) i 1 = sA s i 1 from up2_n _ _ (by omega)]; exact ⟨h71.2.1, h71.2.2.1⟩) (fun m hm9 => ?_), ?_, ?_⟩
      · have := h71.2.2.2 m hm9
        rw [eT m]
        refine ⟨by split <;> omega, fun q1 q2 => ?_⟩
        rw [if_neg (by omega)]; exact q2
      · simp only [mM, if_true]
        rw [sumN_up (f := bal s) (g := bal (crS s i c)) (show i < 16 by omega) (fun j hj hn => sumN_congr fun m hm => (ho j hn).2 m), show bal (crS s i c) i = bal s i + (c - mn (sA s i 0) c) from (sumN_up (f := fun m => sT s i m) (g := fun m => sT (crS s i c) i m) (show (sG s 5).toNat < 60 by omega) (fun m hm hn => by rw [eT m, if_neg hn])).trans (by rw [eT _, if_pos rfl]; show bal s i + _ = _; omega)]
        show (if 0 ≤ sF s 0 then sF s 0 else 0) + _ ≤ _
        omega
      · simp only [mE, if_true]
        rw [sumN_up (f := fun j => sA s j 0) (g := fun j => sA (crS s i c) j 0) (show i < 16 by omega) (fun j hj hn => (ho j hn).1 0), eA]
        show _ ≤ sF s 0 - _
        omega
    | false =>
      have es : stS false s i c = loS s i c := by rw [stS, if_pos q, if_neg (by decide)]
      rw [es] at hsm ho ⊢
      have hf : ∀ m, m < 60 → 0 ≤ (fun k => sT s i (sg true k)) m := fun m hm => h71.2.2.2 _ (sg_lt true hm)
      have hr := rmn_bd hc hf
      have eA : sA (loS s i c) i 0 = sA s i 0 + rmn (fun k => sT s i (sg true k)) c 60 := up2_s _ _ _ _
      have eT : ∀ m, m < 60 → 0 ≤ sT (loS s i c) i m ∧ sT (loS s i c) i m ≤ sT s i m := fun m hm => by
        have h9 := payd_bd hc (f := fun k => sT s i (sg true k)) (m := sg true m) (fun j hj => hf j (by have := sg_lt true hm; omega))
        have h8 : sT (loS s i c) i m = payd (fun k => sT s i (sg true k)) c (sg true m) := by
          show tk s i true c 60 i m = _
          rw [tk, if_pos ⟨rfl, hm, sg_lt true hm⟩]
        rw [sg_sg true hm] at h9
        rw [h8]; exact h9
      refine ⟨W7_i h7 hi hN q hsm ho (by rw [eA]; have := h71.1; omega) (by
          rw [show sA (loS s i c) i 1 = sA s i 1 from up2_n _ _ (by omega)]; exact ⟨h71.2.1, h71.2.2.1⟩) (fun m hm9 => ⟨(eT m hm9).1, fun _ q2 => ?_⟩), ?_, ?_⟩
      · have := eT m hm9
        omega
      · have hb : bal (loS s i c) i ≤ bal s i := sumN_le fun m hm => (eT m hm).2
        simp only [mM, if_neg (show ¬ (false = true) by decide)]
        rw [sumN_up (f := bal s) (g := bal (loS s i c)) (show i < 16 by omega) (fun j hj hn => sumN_congr fun m hm => (ho j hn).2 m)]
        show (if 0 ≤ sF s 0 then sF s 0 else 0) + _ ≤ _
        omega
      · simp only [mE, if_neg (show ¬ (false = true) by decide)]
        rw [sumN_up (f := fun j => sA s j 0) (g := fun j => sA (loS s i c) j 0) (show i < 16 by omega) (fun j hj hn => (ho j hn).1 0), eA]
        show _ ≤ sF s 0 - _
        omega
  · have es : stS b s i c = inS s (if b = true then c else -c) := by rw [stS, if_neg q]
    rw [es]
    refine ⟨h7, ?_, ?_⟩
    · simp only [mM]
      show (if 0 ≤ up1 (sF s) 0 (sF s 0 + (if b = true then c else -c)) 0 then up1 (sF s) 0 (sF s 0 + (if b = true then c else -c)) 0 else 0) + sumN (bal s) 16 ≤ _
      rw [up1_s]
      split <;> split <;> split <;> omega
    · simp only [mE]
      show _ ≤ up1 (sF s) 0 (sF s 0 + (if b = true then c else -c)) 0 - sumN (fun i => sA s i 0) 16
      rw [up1_s]
      split <;> omega
theorem stR_m (b : Bool) {p : Nat → Int} (h7 : W7 s N) (h1 : W1 s N) (hp : ∀ j, j < N → 0 ≤ p j) : ∀ k : Nat, k ≤ N → W7 (stR b p k s) N ∧ mM (stR b p k s) ≤ mM s + (if b = true then sumN p k else 0) ∧ mE s - (if b = true then 0 else sumN p k) ≤ mE (stR b p k s)
  | 0, _ => by
    refine ⟨h7, ?_, ?_⟩
    · rw [stR, sumN]; split <;> omega
    · rw [stR, sumN]; split <;> omega
  | k + 1, hk => by
    obtain ⟨i1, i2, i3⟩ := stR_m b h7 h1 hp k (by omega)
    obtain ⟨j1, j2, j3⟩ := stS_m (s := stR b p k s) (i := k) b i1 ((stR_same b p k s).w1 h1) (by omega) (hp k (by omega))
    refine ⟨j1, ?_, ?_⟩
    · rw [stR, sumN]
      refine Int.le_trans j2 ?_
      split at i2 <;> split <;> simp_all <;> omega
    · rw [stR, sumN]
      refine Int.le_trans ?_ j3
      split at i3 <;> split <;> simp_all <;> omega
theorem stR_W (b : Bool) {p : Nat → Int} {n' : Nat} (hW : WF n s N) (hp : ∀ j, j < N → 0 ≤ p j) (hM : 2 * (mM s + (if b = true then sumN p N else 0)) + sumN (pot s) 240 ≤ 48000000000000 + n' * 200000000000) (hE : -(n' * 200000000000000 : Int) ≤ mE s - (if b = true then 0 else sumN p N)) : WF n' (stR b p N s) N := by
  obtain ⟨w1, w2, w3, w4, w5, w6, w7, w8⟩ := id hW
  have hsm := stR_same b p N s
  obtain ⟨j1, j2, j3⟩ := stR_m b w7 w1 hp N (Nat.le_refl _)
  exact ⟨hsm.w1 w1, hsm.w2 w2, hsm.w3 w3, hsm.w4 w4, hsm.w5 w5, hsm.w6 w6, j1, W8_m.2 ⟨by rw [same_pot hsm]; omega, by omega⟩⟩
end
