/-! Texts: a byte of a word. -/
theorem b255 : ∀ i, i < 32 → (255#32).getLsbD i = decide (i < 8) := by decide
theorem rb (b : BitVec 32) {k : Nat} (hk : k ≤ 24) : (b.sshiftRight k) &&& 255#32 = ((b >>> k).setWidth 8).setWidth 32 := by
  refine BitVec.eq_of_getLsbD_eq fun i hi => ?_
  rw [BitVec.getLsbD_and, BitVec.getLsbD_sshiftRight, b255 i hi, BitVec.getLsbD_setWidth, BitVec.getLsbD_setWidth, BitVec.getLsbD_ushiftRight]
  by_cases q : i < 8
  · rw [if_pos (by omega)]
    simp [q, hi]
  · simp [q]
theorem cb (b : BitVec 32) (k : Nat) : (b >>> k).signExtend 8 = (b >>> k).setWidth 8 := by
  rw [BitVec.signExtend_eq_setWidth_of_le]
  omega
theorem sby_i (w : BitVec 8) : sby (w.toNat : Int) = w.toInt := by
  have := w.isLt
  rw [sby, BitVec.toInt_eq_toNat_cond]
  split <;> split <;> omega
theorem oI_n (w : BitVec 8) : oI (w.toNat : Int) = ⟨⟨w.setWidth 32⟩⟩ := by
  have h : BitVec.ofInt 32 (w.toNat : Int) = w.setWidth 32 := by
    rw [BitVec.ofInt_natCast]
    exact BitVec.eq_of_toNat_eq (by rw [BitVec.toNat_ofNat, BitVec.toNat_setWidth])
  show (⟨⟨BitVec.ofInt 32 (w.toNat : Int)⟩⟩ : Int32) = _
  rw [h]
theorem oI_i (w : BitVec 8) : oI (sby (w.toNat : Int)) = ⟨⟨w.signExtend 32⟩⟩ := by
  rw [sby_i]
  rfl
theorem byt (x : Int32) {k : Nat} (hk : k ≤ 24) {p q : Int32} (hp : p = ⟨⟨((x.toBitVec >>> k).signExtend 8).signExtend 32⟩⟩) (hq : q = ⟨⟨(x.toBitVec.sshiftRight k) &&& 255#32⟩⟩) : ∃ v : Int, 0 ≤ v ∧ v < 256 ∧ q = oI v ∧ p = oI (sby v) := by
  refine ⟨(((x.toBitVec >>> k).setWidth 8).toNat : Int), by omega, by have := ((x.toBitVec >>> k).setWidth 8).isLt; omega, ?_, ?_⟩
  · rw [hq, rb _ hk, oI_n]
  · rw [hp, cb, oI_i]
theorem cA24 (x : Int32) : ((x.toUInt32 >>> ((24 : Int32).toUInt32 &&& Int32.toUInt32 31)).toInt32).toInt8.toInt32 = ⟨⟨((x.toBitVec >>> 24).signExtend 8).signExtend 32⟩⟩ := rfl
theorem cA16 (x : Int32) : ((x.toUInt32 >>> ((16 : Int32).toUInt32 &&& Int32.toUInt32 31)).toInt32).toInt8.toInt32 = ⟨⟨((x.toBitVec >>> 16).signExtend 8).signExtend 32⟩⟩ := rfl
theorem cA8 (x : Int32) : ((x.toUInt32 >>> ((8 : Int32).toUInt32 &&& Int32.toUInt32 31)).toInt32).toInt8.toInt32 = ⟨⟨((x.toBitVec >>> 8).signExtend 8).signExtend 32⟩⟩ := rfl
theorem cA0 (x : Int32) : ((x.toUInt32 >>> ((0 : Int32).toUInt32 &&& Int32.toUInt32 31)).toInt32).toInt8.toInt32 = ⟨⟨((x.toBitVec >>> 0).signExtend 8).signExtend 32⟩⟩ := rfl
theorem cZ24 (x : Int32) : (x >>> (24 : Int32)) &&& (255 : Int32) = ⟨⟨(x.toBitVec.sshiftRight 24) &&& 255#32⟩⟩ := rfl
theorem cZ16 (x : Int32) : (x >>> (16 : Int32)) &&& (255 : Int32) = ⟨⟨(x.toBitVec.sshiftRight 16) &&& 255#32⟩⟩ := rfl
theorem cZ8 (x : Int32) : (x >>> (8 : Int32)) &&& (255 : Int32) = ⟨⟨(x.toBitVec.sshiftRight 8) &&& 255#32⟩⟩ := rfl
theorem cZ0 (x : Int32) : (x >>> (0 : Int32)) &&& (255 : Int32) = ⟨⟨(x.toBitVec.sshiftRight 0) &&& 255#32⟩⟩ := rfl
def TX (A Z : sM) (len : Nat) : Prop := A.1 5 1 0 0 = oI len ∧ Z.1 10 8 0 0 = oI len ∧ ∀ k, k < len → ∃ v : Int, 0 ≤ v ∧ v < 256 ∧ Z.1 32 0 0 k = oI v ∧ A.1 20 0 0 k = oI (sby v)
def tA (c k _ : Nat) : Bool := (c == 5 && k == 1) || c == 20
def tZ (c k _ : Nat) : Bool := (c == 10 && k == 8) || c == 32
theorem tx1 {A Z : sM} {len : Nat} {p q : Int32} (h : TX A Z len) (hb : ∃ v : Int, 0 ≤ v ∧ v < 256 ∧ q = oI v ∧ p = oI (sby v)) : TX (wI (wI A 20 0 0 len p) 5 1 0 0 (oI (len + 1 : Nat))) (wI (wI Z 32 0 0 len q) 10 8 0 0 (oI (len + 1 : Nat))) (len + 1) := by
  refine ⟨by rw [wI_1, if_pos ⟨rfl, rfl, rfl, rfl⟩], by rw [wI_1, if_pos ⟨rfl, rfl, rfl, rfl⟩], fun k hk => ?_⟩
  rw [wI_1 _ 10 8, if_neg (by omega), wI_1 _ 5 1, if_neg (by omega), wI_1, wI_1]
  by_cases e : k = len
  · rw [if_pos ⟨rfl, rfl, rfl, e⟩, if_pos ⟨rfl, rfl, rfl, e⟩]; exact hb
  · rw [if_neg (by omega), if_neg (by omega)]; exact h.2.2 k (by omega)
theorem awS {x sh : Int32} {kk : sM → Option sM} {fuel len : Nat} {A : sM} (h0 : ¬ sh < 0) (h : A.1 5 1 0 0 = oI len) (hl : len < 300) : fX5_addWord_L3 x kk (fuel + 1) sh A = fX5_addWord_L3 x kk fuel (sh + (-8 : Int32)) (wI (wI A 20 0 0 len (((x.toUInt32 >>> (sh.toUInt32 &&& Int32.toUInt32 31)).toInt32).toInt8.toInt32)) 5 1 0 0 (oI (len + 1 : Nat))) := by
  rw [fX5_addWord_L3, if_neg h0, ltb_eq, h, if_neg (by simp (disch := omega) only [kI_0, kI_1, kI_2, kI_3, kI_4, kI_5, kI_6, kI_7, kI_8, kI_9, kI_10, kI_12, kI_16, kI_17, kI_19, kI_20, kI_23, kI_24, kI_30, kI_32, kI_36, kI_48, kI_57, kI_59, kI_60, kI_72, kI_80, kI_84, kI_97, kI_98, kI_100, kI_122, kI_148, kI_200, kI_300, kI_1058, kI_1108, kI_1348, kI_1588, kI_5290, kI_7940, kI_100000, kI_e7, kI_e9, kL_0, kL_1, kL_5, kL_9, kL_10, kL_12, kL_23, kL_30, kL_48, kL_57, kL_59, kL_97, kL_100, kL_122, kL_1000, kL_e7, kL_e9, kL_e10, oI_lt, oI_le, oI_eq, oL_lt, oL_le, oL_eq, oI_L, oI_clamp, oI_inb, oL_nz]; omega), inbA (by omega) (by omega), gd_true, clpA (by omega), ltb_eq, wI_1, if_neg (by omega), h, kI_1, oI_add, nat1, ltb_eq]
  dsimp only
  rw [ltb_eq]
def sel5 (x1 x2 x3 x4 x5 y : Int32) : Int32 := if (4 : Int32) ≤ y then (if (8 : Int32) ≤ y then (if (12 : Int32) ≤ y then (if (16 : Int32) ≤ y then x5 else x4) else x3) else x2) else x1
theorem zwS {x1 x2 x3 x4 x5 w y sh : Int32} {kk : sM → Option (Int32 × sM)} {fuel len : Nat} {Z : sM} (h0 : ¬ (20 : Int32) ≤ y) (hw : sel5 x1 x2 x3 x4 x5 y = w) (hs : (((24 : Int32) - ((8 : Int32) * (y - y / (4 : Int32) * (4 : Int32)))) &&& 31) = sh) (h : Z.1 10 8 0 0 = oI len) (hl : len < 300) : fX10_append_L34 x1 x2 x3 x4 x5 kk (fuel + 1) y Z = fX10_append_L34 x1 x2 x3 x4 x5 kk fuel (y + 1) (wI (wI Z 32 0 0 len ((w >>> sh) &&& (255 : Int32))) 10 8 0 0 (oI (len + 1 : Nat))) := by
  have hb : ∀ v : Int32, v = w → (gd (inb (Z.1 10 8 0 0) 300) (
          ltb (wI Z 32 0 0 (Z.1 10 8 0 0).toNatClampNeg ((v >>> (((24 : Int32) - ((8 : Int32) * (y - y / (4 : Int32) * (4 : Int32)))) &&& 31)) &&& (255 : Int32))) fun Z_4 =>
          ltb (wI Z_4 10 8 0 0 ((Z_4.1 10 8 0 0) + (1 : Int32))) fun Z_5 =>
          ltb (y + (1 : Int32)) fun x6_6 =>
          fX10_append_L34 x1 x2 x3 x4 x5 kk fuel x6_6 Z_5)) = fX10_append_L34 x1 x2 x3 x4 x5 kk fuel (y + 1) (wI (wI Z 32 0 0 len ((w >>> sh) &&& (255 : Int32))) 10 8 0 0 (oI (len + 1 : Nat))) := by
    rintro _ rfl
    rw [h, hs, inbA (by omega) (by omega), gd_true, clpA (by omega), ltb_eq, wI_1, if_neg (by omega), h, show oI (len : Int) + (1 : Int32) = oI (len + 1 : Nat) by rw [kI_1, oI_add, nat1], ltb_eq, ltb_eq]
  rw [fX10_append_L34, if_neg h0, ltb_eq]
  rw [sel5] at hw
  by_cases q1 : (4 : Int32) ≤ y
  · rw [if_pos q1] at hw ⊢
    by_cases q2 : (8 : Int32) ≤ y
    · rw [if_pos q2] at hw ⊢
      by_cases q3 : (12 : Int32) ≤ y
      · rw [if_pos q3] at hw ⊢
        by_cases q4 : (16 : Int32) ≤ y
        · rw [if_pos q4] at hw ⊢; exact hb _ hw
        · rw [if_neg q4] at hw ⊢; exact hb _ hw
      · rw [if_neg q3] at hw ⊢; exact hb _ hw
    · rw [if_neg q2] at hw ⊢; exact hb _ hw
  · rw [if_neg q1] at hw ⊢; exact hb _ hw
theorem wd {x1 x2 x3 x4 x5 x y0 y1 y2 y3 y4 : Int32} {A Z : sM} {len : Nat} (h : TX A Z len) (hl : len + 4 ≤ 300) (e1 : y0 + 1 = y1) (e2 : y1 + 1 = y2) (e3 : y2 + 1 = y3) (e4 : y3 + 1 = y4)
    (n0 : ¬ (20 : Int32) ≤ y0) (n1 : ¬ (20 : Int32) ≤ y1) (n2 : ¬ (20 : Int32) ≤ y2) (n3 : ¬ (20 : Int32) ≤ y3)
    (w0 : sel5 x1 x2 x3 x4 x5 y0 = x) (w1 : sel5 x1 x2 x3 x4 x5 y1 = x) (w2 : sel5 x1 x2 x3 x4 x5 y2 = x) (w3 : sel5 x1 x2 x3 x4 x5 y3 = x)
    (s0 : (((24 : Int32) - ((8 : Int32) * (y0 - y0 / (4 : Int32) * (4 : Int32)))) &&& 31) = 24) (s1 : (((24 : Int32) - ((8 : Int32) * (y1 - y1 / (4 : Int32) * (4 : Int32)))) &&& 31) = 16) (s2 : (((24 : Int32) - ((8 : Int32) * (y2 - y2 / (4 : Int32) * (4 : Int32)))) &&& 31) = 8) (s3 : (((24 : Int32) - ((8 : Int32) * (y3 - y3 / (4 : Int32) * (4 : Int32)))) &&& 31) = 0) :
    ∃ A' Z', fX5_addWord x A = some A' ∧ (∀ kk fuel, fX10_append_L34 x1 x2 x3 x4 x5 kk (fuel + 4) y0 Z = fX10_append_L34 x1 x2 x3 x4 x5 kk fuel y4 Z') ∧ TX A' Z' (len + 4) ∧ Fr tA A A' ∧ Fr tZ Z Z' := by
  have t1 := tx1 h (byt x (by omega) (cA24 x) (cZ24 x))
  have t2 := tx1 t1 (byt x (by omega) (cA16 x) (cZ16 x))
  have t3 := tx1 t2 (byt x (by omega) (cA8 x) (cZ8 x))
  have t4 := tx1 t3 (byt x (by omega) (cA0 x) (cZ0 x))
  refine ⟨_, _, ?_, fun kk fuel => ?_, t4, ((((((((Fr.refl _).wI rfl).wI rfl).wI rfl).wI rfl).wI rfl).wI rfl).wI rfl).wI rfl, ((((((((Fr.refl _).wI rfl).wI rfl).wI rfl).wI rfl).wI rfl).wI rfl).wI rfl).wI rfl⟩
  · rw [fX5_addWord, awS (fuel := 9999) (by decide) h.1 (by omega), show (24 : Int32) + (-8) = 16 from rfl, awS (fuel := 9998) (by decide) t1.1 (by omega), show (16 : Int32) + (-8) = 8 from rfl, awS (fuel := 9997) (by decide) t2.1 (by omega), show (8 : Int32) + (-8) = 0 from rfl, awS (fuel := 9996) (by decide) t3.1 (by omega), show (0 : Int32) + (-8) = -8 from rfl, fX5_addWord_L3, if_pos (by decide)]
  · rw [zwS (fuel := fuel + 3) n0 w0 s0 h.2.1 (by omega), e1, zwS (fuel := fuel + 2) n1 w1 s1 t1.2.1 (by omega), e2, zwS (fuel := fuel + 1) n2 w2 s2 t2.2.1 (by omega), e3, zwS (fuel := fuel) n3 w3 s3 t3.2.1 (by omega), e4]
