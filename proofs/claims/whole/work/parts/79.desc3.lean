theorem mny {y : Int64} {w : Int} {m : Nat} (hw : y / (1000 : Int64) = oL w) (h1 : -9223372036854775808 ≤ w) (h2 : w < 9223372036854775808) (hm : m ≤ 18) (h3 : w < 10 ^ (m + 1)) : ∃ xs : List Int32, xs.length ≤ m + 5 ∧ (∀ A, fX2_putMoney y A = putL xs A) ∧ ∀ Z, fX10_tellsCents y Z = telL xs Z := by
  obtain ⟨xs, q1, q2, q3⟩ := nums h1 h2 hm h3
  refine ⟨xs ++ [46, (48 : Int32) + (((y / (100 : Int64)) - (y / (100 : Int64)) / (10 : Int64) * (10 : Int64)).toInt32), (48 : Int32) + (((y / (10 : Int64)) - (y / (10 : Int64)) / (10 : Int64) * (10 : Int64)).toInt32), (48 : Int32) + ((y - y / (10 : Int64) * (10 : Int64)).toInt32)], by rw [List.length_append]; show xs.length + 4 ≤ _; omega, fun A => ?_, fun Z => ?_⟩
  · rw [fX2_putMoney, hw, q2, putL_a]
    refine congrArg _ (funext fun A1 => ?_)
    rw [x44]
    show Option.bind (Option.bind (fX2_putByte 46 A1) (putL [])) _ = Option.bind (fX2_putByte 46 A1) _
    rw [bd_bd]
    rfl
  · rw [fX10_tellsCents, hw, q3, telL_a]
    refine congrArg _ (funext fun Z1 => ?_)
    show _ = Option.bind (fX10_tells 46 Z1) _
    refine congrArg _ (funext fun Z2 => ?_)
    rw [fX10_tellsCents_L18, if_neg (by decide), show (100 : Int32).toInt64 = (100 : Int64) from rfl, show nzL (100 : Int64) = true from rfl, gd_true]
    refine congrArg _ (funext fun Z3 => ?_)
    rw [show (100 : Int32) / 10 = 10 from rfl, ltb_eq, fX10_tellsCents_L18, if_neg (by decide), show (10 : Int32).toInt64 = (10 : Int64) from rfl, show nzL (10 : Int64) = true from rfl, gd_true]
    refine congrArg _ (funext fun Z4 => ?_)
    rw [show (10 : Int32) / 10 = 1 from rfl, ltb_eq, fX10_tellsCents_L18, if_neg (by decide), show (1 : Int32).toInt64 = (1 : Int64) from rfl, show nzL (1 : Int64) = true from rfl, gd_true, show y / (1 : Int64) = y from div1 _]
    refine congrArg _ (funext fun Z5 => ?_)
    rw [show (1 : Int32) / 10 = 0 from rfl, ltb_eq, fX10_tellsCents_L18, if_pos (by decide)]
    rfl
section
variable {A Z : sM} {s : sS} {N n : Nat}
def DS (s : sS) (N : Nat) (A Z : sM) (dl : Nat) : Prop := SR A 0 s N ∧ ZR (zA Z) (zB Z) s ∧ DX A Z dl
theorem stp (hN : N ≤ 16) {dl : Nat} (xs : List Int32) (h : DS s N A Z dl) (hl : dl + xs.length ≤ 80) : ∃ A' Z', putL xs A = some A' ∧ telL xs Z = some Z' ∧ Fr dA A A' ∧ Fr dZ Z Z' ∧ DS s N A' Z' (dl + xs.length) := by
  obtain ⟨A', Z', u1, u2, u3, u4, u5⟩ := emit xs A Z dl h.2.2 hl
  refine ⟨A', Z', u1, u2, u3, u4, h.1.keep u3 hN (fun c k hc => ?_) (fun c k i hc _ => ?_), h.2.1.keep (fun k => u4.i rfl) (fun k => u4.l rfl), u5⟩
  · rcases hc with rfl | rfl | rfl | rfl | rfl | rfl <;> rfl
  · rcases hc with rfl | rfl | rfl | rfl <;> rfl
end
