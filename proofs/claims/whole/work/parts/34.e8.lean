/-! the pure part: hangs -/
section PzHg
variable {k : Nat} {frules heads ends inforce usable rt hm boxOf shutBy around : Nat → Int32} {inner x1 x2 : Int32}
theorem pz_hgl (h : pz_B k frules heads ends inforce usable rt hm boxOf shutBy around inner) (hx : vp_in x1 60) (hh : ¬ heads x1.toNatClampNeg = -1) : ∀ (n : Nat) (x3 x4 : Int32), 0 ≤ x4.toInt → F_X0_groundOf_16 n frules heads ends x1 x2 x3 x4 = F_X4_hangs_15 n rt hm boxOf around x1 x2 x3 x4 := by
  have xi := vp_in_iff.mp hx
  have hm1 : ¬ hm x1.toNatClampNeg = -1 := by rw [← h.1.2 _ (pz_ixN hx)]; exact hh
  have e60 : (60 : Int32).toInt = 60 := rfl
  intro n
  induction n with
  | zero => intro x3 x4 _; rfl
  | succ n ih =>
    intro x3 x4 h0
    unfold F_X0_groundOf_16 F_X4_hangs_15
    by_cases c : x1 < x4
    · rw [if_pos c, if_pos c]
    · have cl := pz_nlt c
      have n60 : ¬ (60 : Int32) ≤ x4 := by rw [Int32.le_iff_toInt_le, e60]; omega
      rw [if_neg c, if_neg c, if_neg n60, if_neg hm1, pz_be rfl, pz_be rfl, pz_Bgr h hx hh h0 cl]
      have i := pz_up60 n60
      have nx := fun y => ih y (x4 + 1) (by omega)
      rw [nx, nx]
theorem pz_q_hangs (h : pz_B k frules heads ends inforce usable rt hm boxOf shutBy around inner) : f_X3_hangs frules heads ends x1 x2 = f_X4_hangs rt hm boxOf around x1 x2 := by
  have eX : f_X3_hangs frules heads ends x1 x2 = if f_X3_isLine x1 = 0 then -3 else if f_X0_headOf heads x1 = -1 then -1 else F_X0_groundOf_16 61 frules heads ends x1 x2 0 0 := rfl
  have eM : f_X4_hangs rt hm boxOf around x1 x2 = if f_X4_isLine x1 = 0 then -3 else F_X4_hangs_15 61 rt hm boxOf around x1 x2 0 0 := rfl
  have eO : f_X0_headOf heads x1 = if f_X3_isLine x1 = 0 then -1 else heads x1.toNatClampNeg := rfl
  rw [eX, eM, ← pz_lineE, eO]
  rcases pz_line01 x1 with ⟨e, q⟩ | ⟨e, q⟩
  · rw [e, if_neg pz_o1, if_neg pz_o1, if_neg pz_o1]
    by_cases c : heads x1.toNatClampNeg = -1
    · rw [if_pos c]
      have xi := vp_in_iff.mp q
      unfold F_X4_hangs_15
      rw [if_neg (by rw [Int32.lt_iff_toInt_lt, pz_zero]; omega), if_pos (by rw [← h.1.2 _ (pz_ixN q)]; exact c)]
    · rw [if_neg c]; exact pz_hgl h q c 61 0 0 (by decide)
  · rw [e, if_pos rfl, if_pos rfl]
theorem pz_q_hangs0 (h : ∀ j, j < 60 → heads j = -1 ∧ hm j = -1 ∧ inforce j = 0) : f_X3_hangs frules heads ends x1 x2 = f_X4_hangs rt hm boxOf around x1 x2 := by
  have eX : f_X3_hangs frules heads ends x1 x2 = if f_X3_isLine x1 = 0 then -3 else if f_X0_headOf heads x1 = -1 then -1 else F_X0_groundOf_16 61 frules heads ends x1 x2 0 0 := rfl
  have eM : f_X4_hangs rt hm boxOf around x1 x2 = if f_X4_isLine x1 = 0 then -3 else F_X4_hangs_15 61 rt hm boxOf around x1 x2 0 0 := rfl
  have eO : f_X0_headOf heads x1 = if f_X3_isLine x1 = 0 then -1 else heads x1.toNatClampNeg := rfl
  rw [eX, eM, ← pz_lineE, eO]
  rcases pz_line01 x1 with ⟨e, q⟩ | ⟨e, q⟩
  · rw [e, if_neg pz_o1, if_neg pz_o1, if_neg pz_o1]
    have z := h _ (pz_ixN q)
    have xi := vp_in_iff.mp q
    rw [if_pos z.1]
    unfold F_X4_hangs_15
    rw [if_neg (by rw [Int32.lt_iff_toInt_lt, pz_zero]; omega), if_pos z.2.1]
  · rw [e, if_pos rfl, if_pos rfl]
end PzHg
