/-! the pure part: make -/
theorem pz_vhas {cnt x : Int32} (h : pz_vf cnt x) : f_X1_has cnt x = 1 := by
  unfold f_X1_has
  rw [if_neg (by rw [Int32.lt_iff_toInt_lt, pz_zero]; have := h.1; omega), if_neg (by rw [Int32.le_iff_toInt_le]; have := h.2; omega)]
theorem pz_has1 {cnt x : Int32} : f_X1_has cnt x = 1 ∧ pz_vf cnt x ∨ f_X1_has cnt x = 0 ∧ ¬ pz_vf cnt x := by
  by_cases h : pz_vf cnt x
  · exact Or.inl ⟨pz_vhas h, h⟩
  · refine Or.inr ⟨?_, h⟩
    unfold f_X1_has
    by_cases c1 : x < 0
    · rw [if_pos c1]
    · rw [if_neg c1]
      by_cases c2 : cnt ≤ x
      · rw [if_pos c2]
      · exact absurd ⟨pz_n0 c1, pz_nle c2⟩ h
theorem pz_isF1 {cnt x : Int32} (hc : pz_c cnt) : f_X4_isFormula cnt x = f_X1_has cnt x := by
  rcases pz_has1 (cnt := cnt) (x := x) with ⟨e, h⟩ | ⟨e, h⟩
  · rw [e]
    rcases pz_within (r := f_X4_isFormula cnt x) rfl with ⟨e1, -⟩ | ⟨e1, h1⟩
    · exact e1
    · refine absurd ?_ h1
      rw [pz_zero, pz_sub1 (by have := hc.1; omega)]
      have := h.1; have := h.2; omega
  · rw [e]
    rcases pz_within (r := f_X4_isFormula cnt x) rfl with ⟨e1, h1⟩ | ⟨e1, h1⟩
    · rw [pz_zero, pz_sub1 (by have := hc.1; omega)] at h1
      exact absurd ⟨h1.1, by omega⟩ h
    · exact e1
section PzMe
variable {cnt : Int32} {kinds firsts seconds heights : Nat → Int32} {tables : Nat → Int64} {x1 x2 x3 x4 x5 : Int32}
theorem pz_kOf (h : pz_vf cnt x1) : f_X1_kindOf cnt kinds x1 = kinds x1.toNatClampNeg := by
  unfold f_X1_kindOf; rw [pz_be rfl, pz_vhas h, if_neg (by decide)]
theorem pz_fOf (h : pz_vf cnt x1) : f_X1_firstOf cnt firsts x1 = firsts x1.toNatClampNeg := by
  unfold f_X1_firstOf; rw [pz_be rfl, pz_vhas h, if_neg (by decide)]
theorem pz_sOf (h : pz_vf cnt x1) : f_X1_secondOf cnt seconds x1 = seconds x1.toNatClampNeg := by
  unfold f_X1_secondOf; rw [pz_be rfl, pz_vhas h, if_neg (by decide)]
theorem pz_hOf (h : pz_vf cnt x1) : f_X1_heightOf cnt heights x1 = heights x1.toNatClampNeg := by
  unfold f_X1_heightOf; rw [pz_be rfl, pz_vhas h, if_neg (by decide)]
theorem pz_tOf (h : pz_vf cnt x1) : f_X1_tableOf cnt tables x1 = tables x1.toNatClampNeg := by
  unfold f_X1_tableOf; rw [pz_be rfl, pz_vhas h, if_neg (by decide)]
def pz_mt (cnt : Int32) (kinds firsts seconds heights : Nat → Int32) (x1 x2 x3 x4 x5 : Int32) : pz_T6 := if 2 ≤ x1 then (if (heights (x2).toNatClampNeg) ≤ (heights (x3).toNatClampNeg) then (F_X4_make_122 cnt kinds firsts seconds heights x1 x2 x3 x4 x5 (1 + (heights (x3).toNatClampNeg))) else (F_X4_make_122 cnt kinds firsts seconds heights x1 x2 x3 x4 x5 (1 + (heights (x2).toNatClampNeg)))) else (F_X4_make_122 cnt kinds firsts seconds heights x1 x2 x3 x4 x5 1)
theorem pz_m26 (hc : pz_c cnt) : ∀ (n : Nat) (x6 : Int32), 0 ≤ x6.toInt → x6.toInt ≤ 80 → 81 ≤ x6.toInt + n → F_X4_make_26 n cnt kinds firsts seconds heights x1 x2 x3 x4 x5 x6 = if F_X1_find_3 n cnt kinds firsts seconds x1 x4 x5 x6 = -1 then pz_mt cnt kinds firsts seconds heights x1 x2 x3 x4 x5 else (F_X1_find_3 n cnt kinds firsts seconds x1 x4 x5 x6, cnt, kinds, firsts, seconds, heights) := by
  intro n
  induction n with
  | zero => intro x6 h0 h1 hn; exact absurd hn (by omega)
  | succ n ih =>
    intro x6 h0 h1 hn
    unfold F_X4_make_26 F_X1_find_3
    by_cases c : cnt ≤ x6
    · rw [if_pos c, if_pos c, if_pos rfl]; rfl
    · rw [if_neg c, if_neg c]
      have e := pz_incf hc c
      have nx := ih (x6 + 1) (by omega) (by omega) (by omega)
      have n1 : ¬ x6 = -1 := fun q => by rw [q, pz_m1] at h0; omega
      by_cases c1 : kinds x6.toNatClampNeg = x1
      · rw [if_pos c1, if_pos c1]
        by_cases c2 : firsts x6.toNatClampNeg = x4
        · rw [if_pos c2, if_pos c2]
          by_cases c3 : seconds x6.toNatClampNeg = x5
          · rw [if_pos c3, if_pos c3, if_neg n1]
          · rw [if_neg c3, if_neg c3]; exact nx
        · rw [if_neg c2, if_neg c2]; exact nx
      · rw [if_neg c1, if_neg c1]; exact nx
theorem pz_tbf (hf : 2 ≤ x1 → pz_vf cnt x2 ∧ pz_vf cnt x3) (h1 : x1 = 1 → 0 ≤ x2.toInt ∧ x2.toInt ≤ 5) : f_X1_tableFor cnt tables x1 x2 x3 = if x1 = 1 then pz_LB x2.toNatClampNeg else if x1 = 2 then tables x2.toNatClampNeg &&& tables x3.toNatClampNeg else if x1 = 3 then tables x2.toNatClampNeg ||| tables x3.toNatClampNeg else if x1 = 4 then (tables x2.toNatClampNeg ^^^ (-1)) ||| tables x3.toNatClampNeg else 0 := by
  unfold f_X1_tableFor
  by_cases c1 : x1 = 1
  · rw [if_pos c1, if_pos c1, pz_be rfl]
    have a := h1 c1
    have e : f_X3_isLetter x2 = 1 := by
      unfold f_X3_isLetter
      have e6 : (6 : Int32).toInt = 6 := rfl
      rw [if_neg (by rw [Int32.lt_iff_toInt_lt, pz_zero]; omega), if_neg (by rw [Int32.le_iff_toInt_le, e6]; omega)]
    rw [e, if_neg (by decide)]
  · rw [if_neg c1, if_neg c1]
    by_cases c2 : x1 = 2
    · have v := hf (by rw [c2]; decide)
      rw [if_pos c2, if_pos c2, pz_be rfl, pz_be rfl, pz_tOf v.1, pz_tOf v.2]
    · rw [if_neg c2, if_neg c2]
      by_cases c3 : x1 = 3
      · have v := hf (by rw [c3]; decide)
        rw [if_pos c3, if_pos c3, pz_be rfl, pz_be rfl, pz_tOf v.1, pz_tOf v.2]
      · rw [if_neg c3, if_neg c3]
        by_cases c4 : x1 = 4
        · have v := hf (by rw [c4]; decide)
          rw [if_pos c4, if_pos c4, pz_be rfl, pz_be rfl, pz_tOf v.1, pz_tOf v.2]
        · rw [if_neg c4, if_neg c4]
theorem pz_uL {f : Nat → Int64} {k j : Nat} {x : Int64} (h : j ≠ k) : vp_updL f k x j = f j := pk_uLn h
/-- a new formula keeps what is known of the formulas -/
theorem pz_Rf_new (h : pz_Rf cnt kinds firsts seconds heights tables) (hk : 0 ≤ x1.toInt ∧ x1.toInt ≤ 4) (hf : ¬ x1 = 0 → ¬ x1 = 1 → pz_vf cnt x2 ∧ pz_vf cnt x3) (h1 : x1 = 1 → 0 ≤ x2.toInt ∧ x2.toInt ≤ 5) (h80 : ¬ cnt = 80) (hh : 1 ≤ x4.toInt ∧ x4.toInt ≤ 12) (hh2 : ¬ x1 = 0 → ¬ x1 = 1 → (heights x2.toNatClampNeg).toInt < x4.toInt ∧ (heights x3.toNatClampNeg).toInt < x4.toInt) (hmk : pz_F (cnt + 1) (upd kinds cnt.toNatClampNeg x1) (upd firsts cnt.toNatClampNeg x2) (upd seconds cnt.toNatClampNeg x3)) : pz_Rf (cnt + 1) (upd kinds cnt.toNatClampNeg x1) (upd firsts cnt.toNatClampNeg x2) (upd seconds cnt.toNatClampNeg x3) (upd heights cnt.toNatClampNeg x4) (vp_updL tables cnt.toNatClampNeg (f_X1_tableFor cnt tables x1 x2 x3)) := by
  refine ⟨hmk, fun j hj => ?_⟩
  have b0 := h.1.1.1
  have b1 := h.1.1.2
  have e := pz_tn b0
  have i := pz_inc (x := cnt) (by omega)
  have e2 : (2 : Int32).toInt = 2 := rfl
  have hf2 : 2 ≤ x1 → pz_vf cnt x2 ∧ pz_vf cnt x3 := fun c => by
    have := pz_le c
    exact hf (fun q => by rw [q, pz_zero] at this; omega) (fun q => by rw [q] at this; exact absurd this (by decide))
  by_cases cj : j = cnt.toNatClampNeg
  · subst cj
    rw [pk_us, pk_us, pk_uLs, pk_us, pk_us]
    refine ⟨hk, h1, ?_, hh, fun n0 n1 => ?_⟩
    · rw [pz_tbf hf2 h1]
      unfold pz_tb
      rw [pk_us, pk_us, pk_us]
      by_cases c1 : x1 = 1
      · rw [if_pos c1, if_pos c1]
      · rw [if_neg c1, if_neg c1]
        by_cases c0 : x1 = 0
        · rw [c0, if_neg (by decide), if_neg (by decide), if_neg (by decide), if_neg (by decide), if_neg (by decide), if_neg (by decide)]
        · have v := hf c0 c1
          have v1 := pz_tn v.1.1
          have v2 := pz_tn v.2.1
          have w1 := v.1.2
          have w2 := v.2.2
          rw [pz_uL (by omega), pz_uL (by omega)]
    · have v := hf n0 n1
      have v1 := pz_tn v.1.1
      have v2 := pz_tn v.2.1
      have w1 := v.1.2
      have w2 := v.2.2
      rw [pk_un (by omega), pk_un (by omega)]
      exact hh2 n0 n1
  · have hj2 : (j : Int) < cnt.toInt := by omega
    obtain ⟨a1, a2, a3, a4, a5⟩ := h.2 j hj2
    have fF := h.1.2 j hj2
    rw [pk_un cj, pk_un cj, pz_uL cj, pk_un cj, pk_un cj]
    refine ⟨a1, a2, ?_, a4, fun n0 n1 => ?_⟩
    · rw [a3]
      unfold pz_tb
      rw [pk_un cj, pk_un cj, pk_un cj]
      by_cases c1 : kinds j = 1
      · rw [if_pos c1, if_pos c1]
      · rw [if_neg c1, if_neg c1]
        by_cases c0 : kinds j = 0
        · rw [c0, if_neg (by decide), if_neg (by decide), if_neg (by decide), if_neg (by decide), if_neg (by decide), if_neg (by decide)]
        · have v := fF c0 c1
          have v1 := pz_tn v.1.1
          have v2 := pz_tn v.2.1
          rw [pz_uL (by omega), pz_uL (by omega)]
    · have v := fF n0 n1
      have v1 := pz_tn v.1.1
      have v2 := pz_tn v.2.1
      rw [pk_un (by omega), pk_un (by omega)]
      exact a5 n0 n1
end PzMe
