/-! Every call keeps the invariant, if loading a text does. -/
theorem step_ok (h1 : CaseOK fL_case1) : StepOK Inv := by
  intro c
  match c with
  | 0 => exact case0
  | 1 => exact h1
  | 2 => exact case2
  | 3 => exact case3
  | 4 => exact case4
  | 5 => exact case5
  | 6 => exact case6
  | 7 => exact case7
  | 8 => exact case8
  | 9 => exact case9
  | 10 => exact case10
  | 11 => exact case11
  | 12 => exact case12
  | 13 => exact case13
  | 14 => exact case14
  | 15 => exact case15
  | 16 => exact case16
  | 17 => exact case17
  | 18 => exact case18
  | 19 => exact case19
  | 20 => exact case20
  | 21 => exact case21
  | 22 => exact case22
  | 23 => exact case23
  | 24 => exact case24
  | 25 => exact case25
  | 26 => exact case26
  | 27 => exact case27
  | 28 => exact case28
  | 29 => exact case29
  | 30 => exact case30
  | 31 => exact case31
  | 32 => exact case32
  | 33 => exact case33
  | 34 => exact case34
  | 35 => exact case35
  | 36 => exact case36
  | 37 => exact case37
  | 38 => exact case38
  | 39 => exact case39
  | 40 => exact case40
  | 41 => exact case41
  | 42 => exact case42
  | _ + 43 => exact fun n L A Z xs x4 hn hI _ => ⟨A, Z, rfl, hI.wk (Fr.refl _) (Fr.refl _)⟩
