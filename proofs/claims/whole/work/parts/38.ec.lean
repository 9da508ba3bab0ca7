/-! the pure part: check: what stands against a line -/
theorem pz_14 {r : Int32} (h : 0 ≤ r.toInt ∧ r.toInt ≤ 13) : r = 0 ∨ r = 1 ∨ r = 2 ∨ r = 3 ∨ r = 4 ∨ r = 5 ∨ r = 6 ∨ r = 7 ∨ r = 8 ∨ r = 9 ∨ r = 10 ∨ r = 11 ∨ r = 12 ∨ r = 13 := by
  have e : ∀ n : Nat, n < 14 → (nI n = 0 ∨ nI n = 1 ∨ nI n = 2 ∨ nI n = 3 ∨ nI n = 4 ∨ nI n = 5 ∨ nI n = 6 ∨ nI n = 7 ∨ nI n = 8 ∨ nI n = 9 ∨ nI n = 10 ∨ nI n = 11 ∨ nI n = 12 ∨ nI n = 13) := by decide +kernel
  rw [pz_nI h.1]
  exact e _ (by have := pz_tn h.1; omega)
theorem pz_pO {ps : Nat → Int32} {x : Int32} (hx : vp_in x 60) : f_X2_pOf ps x = ps x.toNatClampNeg := by
  have e : f_X2_pOf ps x = if f_X3_isLine x = 0 then -1 else ps x.toNatClampNeg := rfl
  rw [e, pz_l1 hx, if_neg pz_o1]
theorem pz_qO {ps : Nat → Int32} {x : Int32} (hx : vp_in x 60) : f_X2_qOf ps x = ps x.toNatClampNeg := by
  have e : f_X2_qOf ps x = if f_X3_isLine x = 0 then -1 else ps x.toNatClampNeg := rfl
  rw [e, pz_l1 hx, if_neg pz_o1]
theorem pz_rOO {ps : Nat → Int32} {x : Int32} (hx : vp_in x 60) : f_X2_rOf ps x = ps x.toNatClampNeg := by
  have e : f_X2_rOf ps x = if f_X3_isLine x = 0 then -1 else ps x.toNatClampNeg := rfl
  rw [e, pz_l1 hx, if_neg pz_o1]
theorem pz_foO {ps : Nat → Int32} {x : Int32} (hx : vp_in x 60) : f_X2_formulaOf ps x = ps x.toNatClampNeg := by
  have e : f_X2_formulaOf ps x = if f_X3_isLine x = 0 then -1 else ps x.toNatClampNeg := rfl
  rw [e, pz_l1 hx, if_neg pz_o1]
theorem pz_ruO {ps : Nat → Int32} {x : Int32} (hx : vp_in x 60) : f_X2_ruleOf ps x = ps x.toNatClampNeg := by
  have e : f_X2_ruleOf ps x = if f_X3_isLine x = 0 then -1 else ps x.toNatClampNeg := rfl
  rw [e, pz_l1 hx, if_neg pz_o1]
section PzRe
variable {K : Nat} {cnt : Int32} {kinds firsts seconds heights : Nat → Int32} {tables : Nat → Int64} {rules ps qs rs fs frules heads ends inforce usable rt hm boxOf shutBy around : Nat → Int32} {inner x1 r g : Int32}
theorem pz_ral (h : pz_B K frules heads ends inforce usable rt hm boxOf shutBy around inner) (y b : Int32) : f_X3_reasonAgainstLine inforce x1 y b = f_X4_badLine hm boxOf shutBy around x1 y b := by
  have eX : f_X3_reasonAgainstLine inforce x1 y b = if f_X3_isLine y = 0 then 1 else if y < x1 then (if b = 0 then 0 else if f_X0_isInForce inforce y = 0 then 3 else 0) else 2 := rfl
  have eM : f_X4_badLine hm boxOf shutBy around x1 y b = if f_X4_isLine y = 0 then 1 else if y < x1 then (if b = 0 then 0 else if f_X4_inForce hm boxOf shutBy around y = 0 then 3 else 0) else 2 := rfl
  rw [eX, eM, ← pz_lineE]
  rcases pz_line01 y with ⟨e, q⟩ | ⟨e, q⟩
  · rw [pz_iF q, pz_BinF h q]
  · rw [e, if_pos rfl, if_pos rfl]
theorem pz_num (h : pz_B K frules heads ends inforce usable rt hm boxOf shutBy around inner) (hx : vp_in x1 60) (hc : pz_c cnt) (hr : 0 ≤ r.toInt ∧ r.toInt ≤ 13) : f_X3_reasonAgainstNumbers cnt ps qs rs fs inforce x1 r (pz_LT r.toNatClampNeg) = f_X4_badNumbers cnt ps qs rs fs hm boxOf shutBy around x1 r := by
  obtain ⟨L, hX, hM⟩ : ∃ L : Int32 → Int32 → Int32, (∀ y b, f_X3_reasonAgainstLine inforce x1 y b = L y b) ∧ (∀ y b, f_X4_badLine hm boxOf shutBy around x1 y b = L y b) := ⟨_, pz_ral h, fun _ _ => rfl⟩
  obtain ⟨V, vX, vM⟩ : ∃ V : Int32, f_X1_has cnt (fs x1.toNatClampNeg) = V ∧ f_X4_isFormula cnt (fs x1.toNatClampNeg) = V := ⟨_, rfl, pz_isF1 hc⟩
  have l : ∀ n : Nat, n < 14 → pz_LT n = ([0, 0, 0, 1, 2, 1, 1, 1, 1, 3, 1, 2, 1, 1] : List Int32).getD n 0 := fun _ _ => rfl
  have pO := pz_pO (ps := ps) hx
  have qO := pz_qO (ps := qs) hx
  have rO := pz_rOO (ps := rs) hx
  have fO := pz_foO (ps := fs) hx
  rcases pz_14 hr with e | e | e | e | e | e | e | e | e | e | e | e | e | e <;> subst e <;> simp [f_X3_reasonAgainstNumbers, F_X3_reasonAgainstNumbers_34, F_X3_reasonAgainstNumbers_70, F_X3_reasonAgainstNumbers_106, f_X4_badNumbers, F_X4_badNumbers_30, F_X4_badNumbers_74, F_X4_badNumbers_97, F_X4_badNumbers_127, pz_bnd, hX, hM, pO, qO, rO, fO, vX, vM, pz_LT, f_X3_takesFormula]
/-- the form -/
theorem pz_frm (hf : pz_F cnt kinds firsts seconds) (hr : 0 ≤ r.toInt ∧ r.toInt ≤ 13) (hg : r = 5 ∨ r = 6 ∨ r = 9 ∨ r = 11 ∨ r = 12 ∨ r = 13 → pz_vf cnt g) : f_X4_badForm kinds firsts seconds r g = if f_X3_isFormRight cnt kinds firsts seconds r g = 0 then 4 else 0 := by
  have one : ∀ n : Int32, pz_vf cnt g → f_X1_kindOf cnt kinds g = kinds g.toNatClampNeg := fun _ v => pz_kOf v
  rcases pz_14 hr with e | e | e | e | e | e | e | e | e | e | e | e | e | e <;> subst e
  · simp [f_X4_badForm, f_X3_isFormRight]
  · simp [f_X4_badForm, f_X3_isFormRight]
  · simp [f_X4_badForm, f_X3_isFormRight]
  · simp [f_X4_badForm, f_X3_isFormRight]
  · simp [f_X4_badForm, f_X3_isFormRight]
  · have k := pz_kOf (kinds := kinds) (hg (by decide))
    by_cases c : kinds g.toNatClampNeg = 2 <;> simp [f_X4_badForm, f_X3_isFormRight, f_X4_isKind, pz_bnd, k, c]
  · have k := pz_kOf (kinds := kinds) (hg (by decide))
    by_cases c : kinds g.toNatClampNeg = 2 <;> simp [f_X4_badForm, f_X3_isFormRight, f_X4_isKind, pz_bnd, k, c]
  · simp [f_X4_badForm, f_X3_isFormRight]
  · simp [f_X4_badForm, f_X3_isFormRight]
  · have k := pz_kOf (kinds := kinds) (hg (by decide))
    by_cases c : kinds g.toNatClampNeg = 3 <;> simp [f_X4_badForm, f_X3_isFormRight, f_X4_isKind, pz_bnd, k, c]
  · simp [f_X4_badForm, f_X3_isFormRight]
  · have k := pz_kOf (kinds := kinds) (hg (by decide))
    by_cases c : kinds g.toNatClampNeg = 4 <;> simp [f_X4_badForm, f_X3_isFormRight, f_X4_isKind, pz_bnd, k, c]
  · have k := pz_kOf (kinds := kinds) (hg (by decide))
    by_cases c : kinds g.toNatClampNeg = 0 <;> simp [f_X4_badForm, f_X3_isFormRight, f_X4_isKind, pz_bnd, k, c]
  · have v := hg (by decide)
    have k := pz_kOf (kinds := kinds) v
    have f := pz_fOf (firsts := firsts) v
    have s := pz_sOf (seconds := seconds) v
    by_cases c : kinds g.toNatClampNeg = 4
    · have w := pz_FLR hf v (by rw [c]; decide) (by rw [c]; decide)
      have k1 := pz_kOf (kinds := kinds) w.1
      have k2 := pz_kOf (kinds := kinds) w.2
      have s1 := pz_sOf (seconds := seconds) w.1
      by_cases c2 : kinds (seconds g.toNatClampNeg).toNatClampNeg = 0
      · by_cases c3 : kinds (firsts g.toNatClampNeg).toNatClampNeg = 4
        · have w2 := pz_FLR hf w.1 (by rw [c3]; decide) (by rw [c3]; decide)
          have k3 := pz_kOf (kinds := kinds) w2.2
          by_cases c4 : kinds (seconds (firsts g.toNatClampNeg).toNatClampNeg).toNatClampNeg = 0 <;> simp [f_X4_badForm, f_X3_isFormRight, f_X3_isNegation, f_X4_isKind, pz_bnd, k, f, s, k1, k2, s1, k3, c, c2, c3, c4]
        · simp [f_X4_badForm, f_X3_isFormRight, f_X3_isNegation, f_X4_isKind, pz_bnd, k, f, s, k1, k2, s1, c, c2, c3]
      · simp [f_X4_badForm, f_X3_isFormRight, f_X3_isNegation, f_X4_isKind, pz_bnd, k, f, s, k1, k2, s1, c, c2]
    · simp [f_X4_badForm, f_X3_isFormRight, f_X3_isNegation, f_X4_isKind, pz_bnd, k, f, s, c]
/-- a box that may be used -/
theorem pz_ub (h : pz_B K frules heads ends inforce usable rt hm boxOf shutBy around inner) {x : Int32} (hx : vp_in x 60) : f_X4_badBox rt hm shutBy around x = if f_X0_isUsableBox usable x = 0 then 5 else 0 := by
  have xn := pz_ixN hx
  have eU : f_X0_isUsableBox usable x = if f_X3_isLine x = 0 then 0 else if usable x.toNatClampNeg = 0 then 0 else 1 := rfl
  have eB : f_X4_badBox rt hm shutBy around x = if rt x.toNatClampNeg = 1 then (if shutBy x.toNatClampNeg = -1 then 5 else (if f_X4_allOpen shutBy around (around x.toNatClampNeg) = 0 then 5 else (if hm (shutBy x.toNatClampNeg - 1).toNatClampNeg = -1 then 5 else 0))) else 5 := rfl
  rw [eU, eB, pz_l1 hx, if_neg pz_o1]
  have zz : (if usable x.toNatClampNeg = 0 then 0 else 1 : Int32) = 0 ↔ usable x.toNatClampNeg = 0 := by
    by_cases c : usable x.toNatClampNeg = 0
    · rw [if_pos c]; exact ⟨fun _ => c, fun _ => rfl⟩
    · rw [if_neg c]; exact ⟨fun q => absurd q pz_o1, fun q => absurd q c⟩
  by_cases c1 : rt x.toNatClampNeg = 1
  · have z4 := h.2.2.2.1 _ xn c1
    have u := h.2.2.2.2.2.2.2.2.2 _ z4.1
    rw [if_pos c1]
    by_cases c2 : shutBy x.toNatClampNeg = -1
    · rw [if_pos c2]
      by_cases cu : usable x.toNatClampNeg = 0
      · rw [if_pos (zz.mpr cu)]
      · exact absurd c2 (u.mp cu).2.1
    · rw [if_neg c2]
      have s := pz_Bsi h xn c1 c2
      have k60 := h.1.1
      have i60 : (shutBy x.toNatClampNeg - 1).toNatClampNeg < K := by omega
      have hh := h.1.2 _ (by omega : (shutBy x.toNatClampNeg - 1).toNatClampNeg < 60)
      have h2 := (h.2.1 _ i60).2.1
      rw [hh] at h2
      have ao := pz_ao (shutBy := shutBy) (x1 := around x.toNatClampNeg) (pz_BCL h xn) 62 x.toNatClampNeg (around x.toNatClampNeg) (by omega) (h.2.2.2.2.2.2.1 _ xn c1)
      have eA : f_X4_allOpen shutBy around (around x.toNatClampNeg) = F_X4_allOpen_2 62 shutBy around (around x.toNatClampNeg) (around x.toNatClampNeg) := rfl
      rw [eA]
      rcases ao with ⟨a, b⟩ | ⟨a, b⟩
      · rw [a, if_neg pz_o1]
        by_cases c3 : hm (shutBy x.toNatClampNeg - 1).toNatClampNeg = -1
        · rw [if_pos c3]
          by_cases cu : usable x.toNatClampNeg = 0
          · rw [if_pos (zz.mpr cu)]
          · exact absurd (h2.mp c3) (u.mp cu).2.2.2
        · rw [if_neg c3]
          have cu : ¬ usable x.toNatClampNeg = 0 := u.mpr ⟨c1, c2, b, fun q => c3 (h2.mpr q)⟩
          rw [if_neg (fun q => cu (zz.mp q))]
      · rw [a, if_pos rfl]
        by_cases cu : usable x.toNatClampNeg = 0
        · rw [if_pos (zz.mpr cu)]
        · exact absurd (u.mp cu).2.2.1 b
  · rw [if_neg c1]
    have cu : usable x.toNatClampNeg = 0 := by
      by_cases cu : usable x.toNatClampNeg = 0
      · exact cu
      · rcases Nat.lt_or_ge x.toNatClampNeg K with q | q
        · exact absurd ((h.2.2.2.2.2.2.2.2.2 _ q).mp cu).1 c1
        · exact (h.2.2.1 _ q xn).2.2.2.2
    rw [if_pos (zz.mpr cu)]
theorem pz_hae (h : pz_B K frules heads ends inforce usable rt hm boxOf shutBy around inner) {x : Int32} (hx : vp_in x 60) (hb : f_X4_badBox rt hm shutBy around x = 0) : f_X3_heldAtEnd heads ends x = f_X4_endOf hm shutBy x := by
  have xn := pz_ixN hx
  have eB : f_X4_badBox rt hm shutBy around x = if rt x.toNatClampNeg = 1 then (if shutBy x.toNatClampNeg = -1 then 5 else (if f_X4_allOpen shutBy around (around x.toNatClampNeg) = 0 then 5 else (if hm (shutBy x.toNatClampNeg - 1).toNatClampNeg = -1 then 5 else 0))) else 5 := rfl
  rw [eB] at hb
  have c1 : rt x.toNatClampNeg = 1 := by
    by_cases c : rt x.toNatClampNeg = 1
    · exact c
    · rw [if_neg c] at hb; exact absurd hb (by decide)
  rw [if_pos c1] at hb
  have c2 : ¬ shutBy x.toNatClampNeg = -1 := fun c => by rw [if_pos c] at hb; exact absurd hb (by decide)
  have s := pz_Bsi h xn c1 c2
  have k60 := h.1.1
  have e4 := (h.2.2.2.1 _ xn c1).2.2
  rw [if_neg c2] at e4
  have eH : f_X3_heldAtEnd heads ends x = f_X0_headOf heads (f_X0_endOf ends x) := rfl
  have t := pz_sub1 (f := shutBy x.toNatClampNeg) (by omega)
  have li : vp_in (shutBy x.toNatClampNeg - 1) 60 := pz_inI (by omega) (by omega)
  rw [eH, pz_eO hx, e4, pz_hO li, h.1.2 _ (pz_ixN li)]
  rfl
/-- the boxes, and what is like -/
theorem pz_bxs (h : pz_B K frules heads ends inforce usable rt hm boxOf shutBy around inner) (hx : vp_in x1 60) (hr : 0 ≤ r.toInt ∧ r.toInt ≤ 13) (hp : ¬ r ≤ 2 → vp_in (ps x1.toNatClampNeg) 60) (hq : r = 9 ∨ r = 11 → vp_in (qs x1.toNatClampNeg) 60) (hs : r = 9 → vp_in (rs x1.toNatClampNeg) 60) (hg : r = 9 ∨ r = 11 → pz_vf cnt (hm (ps x1.toNatClampNeg).toNatClampNeg)) (eg : ¬ r ≤ 2 → g = hm (ps x1.toNatClampNeg).toNatClampNeg) : f_X4_badBoxes firsts seconds ps qs rs rt hm shutBy around inner x1 r g = if f_X3_areBoxesRight ps qs rs frules ends usable x1 r = 0 then 5 else if f_X3_areAllLike cnt firsts seconds ps qs rs heads ends x1 r = 0 then 6 else 0 := by
  have pO := pz_pO (ps := ps) hx
  have qO := pz_qO (ps := qs) hx
  have rO := pz_rOO (ps := rs) hx
  have io := pz_Bio h
  rcases pz_14 hr with e | e | e | e | e | e | e | e | e | e | e | e | e | e <;> subst e
  · simp [f_X4_badBoxes, f_X3_areBoxesRight, f_X3_areAllLike, pz_bnd]
  · simp [f_X4_badBoxes, f_X3_areBoxesRight, f_X3_areAllLike, pz_bnd]
  · by_cases c : inner = -1 <;> simp [f_X4_badBoxes, f_X3_areBoxesRight, f_X3_areAllLike, pz_bnd, io, c]
  · simp [f_X4_badBoxes, f_X3_areBoxesRight, f_X3_areAllLike, pz_bnd]
  · simp [f_X4_badBoxes, f_X3_areBoxesRight, f_X3_areAllLike, pz_bnd]
  · simp [f_X4_badBoxes, f_X3_areBoxesRight, f_X3_areAllLike, pz_bnd]
  · simp [f_X4_badBoxes, f_X3_areBoxesRight, f_X3_areAllLike, pz_bnd]
  · simp [f_X4_badBoxes, f_X3_areBoxesRight, f_X3_areAllLike, pz_bnd]
  · simp [f_X4_badBoxes, f_X3_areBoxesRight, f_X3_areAllLike, pz_bnd]
  · have lp := hp (by decide)
    have lq := hq (by decide)
    have ls := hs rfl
    have v := hg (by decide)
    have eg := eg (by decide)
    have uq := pz_ub h lq
    have us := pz_ub h ls
    have ho1 := pz_hO (heads := heads) lp
    have ho2 := pz_hO (heads := heads) lq
    have ho3 := pz_hO (heads := heads) ls
    rw [h.1.2 _ (pz_ixN lp)] at ho1
    rw [h.1.2 _ (pz_ixN lq)] at ho2
    rw [h.1.2 _ (pz_ixN ls)] at ho3
    have fo := pz_fOf (firsts := firsts) v
    have so := pz_sOf (seconds := seconds) v
    have hq1 := pz_hae h lq
    have hs1 := pz_hae h ls
    by_cases c1 : f_X0_isUsableBox usable (qs x1.toNatClampNeg) = 0
    · rw [if_pos c1] at uq
      simp [f_X4_badBoxes, f_X3_areBoxesRight, f_X3_areAllLike, pz_bnd, qO, rO, c1, uq]
    · rw [if_neg c1] at uq
      by_cases c2 : f_X0_isUsableBox usable (rs x1.toNatClampNeg) = 0
      · rw [if_pos c2] at us
        simp [f_X4_badBoxes, f_X3_areBoxesRight, f_X3_areAllLike, pz_bnd, qO, rO, c1, uq, c2, us]
      · rw [if_neg c2] at us
        have q1 := hq1 uq
        have s1 := hs1 us
        simp [f_X4_badBoxes, f_X3_areBoxesRight, f_X3_areAllLike, pz_bnd, pO, qO, rO, c1, uq, c2, us, q1, s1, ho1, ho2, ho3, fo, so, eg]
        by_cases d1 : hm (qs x1.toNatClampNeg).toNatClampNeg = firsts (hm (ps x1.toNatClampNeg).toNatClampNeg).toNatClampNeg
        · by_cases d2 : hm (rs x1.toNatClampNeg).toNatClampNeg = seconds (hm (ps x1.toNatClampNeg).toNatClampNeg).toNatClampNeg
          · by_cases d3 : f_X4_endOf hm shutBy (qs x1.toNatClampNeg) = f_X4_endOf hm shutBy (rs x1.toNatClampNeg) <;> simp [d1, d2, d3]
          · simp [d1, d2]
        · simp [d1]
  · have lp := hp (by decide)
    have up := pz_ub h lp
    by_cases c1 : f_X0_isUsableBox usable (ps x1.toNatClampNeg) = 0
    · rw [if_pos c1] at up
      simp [f_X4_badBoxes, f_X3_areBoxesRight, f_X3_areAllLike, pz_bnd, pO, c1, up]
    · rw [if_neg c1] at up
      simp [f_X4_badBoxes, f_X3_areBoxesRight, f_X3_areAllLike, pz_bnd, pO, c1, up]
  · have lp := hp (by decide)
    have lq := hq (by decide)
    have v := hg (by decide)
    have eg := eg (by decide)
    have ho1 := pz_hO (heads := heads) lp
    have ho2 := pz_hO (heads := heads) lq
    rw [h.1.2 _ (pz_ixN lp)] at ho1
    rw [h.1.2 _ (pz_ixN lq)] at ho2
    have fo := pz_fOf (firsts := firsts) v
    by_cases d1 : hm (qs x1.toNatClampNeg).toNatClampNeg = firsts (hm (ps x1.toNatClampNeg).toNatClampNeg).toNatClampNeg <;> simp [f_X4_badBoxes, f_X3_areBoxesRight, f_X3_areAllLike, pz_bnd, pO, qO, ho1, ho2, fo, eg, d1]
  · simp [f_X4_badBoxes, f_X3_areBoxesRight, f_X3_areAllLike, pz_bnd]
  · simp [f_X4_badBoxes, f_X3_areBoxesRight, f_X3_areAllLike, pz_bnd]
end PzRe
