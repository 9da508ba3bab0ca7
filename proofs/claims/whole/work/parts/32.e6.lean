/-! the pure part: truths -/
section PzTr
variable {cnt : Int32} {kinds firsts seconds heights : Nat → Int32} {tables : Nat → Int64} {x1 : Int32}
theorem pz_cbs (t : Int64) (j : Nat) : pz_cb (pz_U t) (j + 1) = pz_cb (pz_U t) j + (if pz_bit t j = true then 1 else 0) := rfl
theorem pz_tr (h : pz_Rf cnt kinds firsts seconds heights tables) (hf : pz_vf cnt x1) : ∀ (n : Nat) (truth : Nat → Int32) (x2 x3 : Int32), 0 ≤ x3.toInt → x3.toInt ≤ 64 → 65 ≤ x3.toInt + n → x2 = nI (pz_cb (pz_U (tables x1.toNatClampNeg)) x3.toNatClampNeg) → (F_X4_truths_15 n cnt kinds firsts seconds truth x1 x2 x3).1 = nI (pz_cb (pz_U (tables x1.toNatClampNeg)) 64) := by
  have e64 : (64 : Int32).toInt = 64 := rfl
  intro n
  induction n with
  | zero => intro truth x2 x3 h0 h1 hn; exact absurd hn (by omega)
  | succ n ih =>
    intro truth x2 x3 h0 h1 hn hx
    unfold F_X4_truths_15
    have t := pz_tn h0
    by_cases c : (64 : Int32) ≤ x3
    · rw [if_pos c]
      have := pz_le c
      have e : x3.toNatClampNeg = 64 := by omega
      rw [e] at hx
      exact hx
    · rw [if_neg c, pz_be rfl]
      have u := pz_upk (N := 64) c rfl (by decide)
      have ev := pz_evf h ⟨h0, u.2⟩ truth hf
      have t1 : (x3 + 1).toNatClampNeg = x3.toNatClampNeg + 1 := by
        have := pz_tn (x := x3 + 1) (by omega)
        omega
      have cs := pz_cbs (tables x1.toNatClampNeg) x3.toNatClampNeg
      by_cases z : f_X4_evaluate cnt kinds firsts seconds truth x3 x1.toNatClampNeg = 0
      · rw [if_pos z]
        refine ih _ _ (x3 + 1) (by omega) (by omega) (by omega) ?_
        rw [ev] at z
        rw [t1, cs, (pz_b01 _ _).mp z, hx]
        exact Int32.add_zero _
      · rw [if_neg z]
        refine ih _ _ (x3 + 1) (by omega) (by omega) (by omega) ?_
        rw [ev] at z
        have tt : pz_bit (tables x1.toNatClampNeg) x3.toNatClampNeg = true := by
          cases hq : pz_bit (tables x1.toNatClampNeg) x3.toNatClampNeg
          · exact absurd ((pz_b01 _ _).mpr hq) z
          · rfl
        rw [t1, cs, tt, hx]
        exact nI_1 _
theorem pz_q_truths (h : pz_Rf cnt kinds firsts seconds heights tables) (truth : Nat → Int32) : f_X3_truths cnt tables x1 = (f_X4_truths cnt kinds firsts seconds truth x1).1 := by
  have o : ¬ (1 : Int32) = 0 := by decide
  unfold f_X3_truths f_X4_truths
  simp only [pz_bnd]
  rw [pz_isF1 h.1.1]
  rcases pz_has1 (cnt := cnt) (x := x1) with ⟨e, hf⟩ | ⟨e, hf⟩
  · rw [e, if_neg o, if_neg o, pz_tOf hf, pz_bc64]
    exact (pz_tr h hf 65 truth 0 0 (by decide) (by decide) (by decide) rfl).symm
  · rw [e]; rfl
end PzTr
