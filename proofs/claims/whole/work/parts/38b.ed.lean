/-! the pure part: check: a line looked at -/
section PzLq
variable {cnt : Int32} {kinds firsts seconds heights : Nat → Int32} {tables : Nat → Int64} {rules ps qs rs fs frules heads ends inforce usable rt hm boxOf shutBy around : Nat → Int32} {inner opened x1 r g : Int32}
/-- the head -/
theorem pz_con {K : Nat} {k : Int} (hR : pz_Rf cnt kinds firsts seconds heights tables) (hmi : pz_MI k cnt rt hm boxOf shutBy around inner) (h : pz_B K frules heads ends inforce usable rt hm boxOf shutBy around inner) (hx : vp_in x1 60) (er : rules x1.toNatClampNeg = r) (hr : 0 ≤ r.toInt ∧ r.toInt ≤ 13) (n2 : ¬ r = 2) (en : f_X4_badNumbers cnt ps qs rs fs hm boxOf shutBy around x1 r = 0) (ef : f_X4_badForm kinds firsts seconds r g = 0) (eb : f_X4_badBoxes firsts seconds ps qs rs rt hm shutBy around inner x1 r g = 0) (eg : ¬ r ≤ 2 → g = hm (ps x1.toNatClampNeg).toNatClampNeg) {M : pz_T6} (hM : M = f_X4_headOf cnt kinds firsts seconds heights ps qs fs hm shutBy x1 r g) : ∃ T, f_X3_conclude cnt kinds firsts seconds heights tables rules ps qs fs heads ends x1 = (M.1, M.2.1, M.2.2.1, M.2.2.2.1, M.2.2.2.2.1, M.2.2.2.2.2, T) ∧ pz_Rf M.2.1 M.2.2.1 M.2.2.2.1 M.2.2.2.2.1 M.2.2.2.2.2 T := by
  have hf := hR.1
  have ln := pz_LN rfl en
  have bf := pz_BFk rfl ef
  have hg := pz_HG hmi rfl en
  have fsv : r < 2 ∨ r = 7 ∨ r = 8 ∨ r = 12 → pz_vf cnt (fs x1.toNatClampNeg) := fun c => pz_isF hf.1 rfl (ln.2.2.2 c)
  have pO := pz_pO (ps := ps) hx
  have qO := pz_qO (ps := qs) hx
  have fO := pz_foO (ps := fs) hx
  have uO := pz_ruO (ps := rules) hx
  rw [er] at uO
  have hp : ¬ r ≤ 2 → f_X0_headOf heads (ps x1.toNatClampNeg) = hm (ps x1.toNatClampNeg).toNatClampNeg := fun c => by
    have lp := (ln.1 c).1
    rw [pz_hO lp, h.1.2 _ (pz_ixN lp)]
  rcases pz_14 hr with e | e | e | e | e | e | e | e | e | e | e | e | e | e <;> subst e
  · have eM : M = (fs x1.toNatClampNeg, cnt, kinds, firsts, seconds, heights) := by rw [hM]; simp [f_X4_headOf]
    have eX : f_X3_conclude cnt kinds firsts seconds heights tables rules ps qs fs heads ends x1 = (fs x1.toNatClampNeg, cnt, kinds, firsts, seconds, heights, tables) := by simp [f_X3_conclude, pz_bnd, uO, fO]
    rw [eM, eX]; exact ⟨tables, rfl, hR⟩
  · have eM : M = (fs x1.toNatClampNeg, cnt, kinds, firsts, seconds, heights) := by rw [hM]; simp [f_X4_headOf]
    have eX : f_X3_conclude cnt kinds firsts seconds heights tables rules ps qs fs heads ends x1 = (fs x1.toNatClampNeg, cnt, kinds, firsts, seconds, heights, tables) := by simp [f_X3_conclude, pz_bnd, uO, fO]
    rw [eM, eX]; exact ⟨tables, rfl, hR⟩
  · exact absurd rfl n2
  · have hp := hp (by decide)
    have eg := eg (by decide)
    have eM : M = (hm (ps x1.toNatClampNeg).toNatClampNeg, cnt, kinds, firsts, seconds, heights) := by rw [hM, eg]; simp [f_X4_headOf]
    have eX : f_X3_conclude cnt kinds firsts seconds heights tables rules ps qs fs heads ends x1 = (hm (ps x1.toNatClampNeg).toNatClampNeg, cnt, kinds, firsts, seconds, heights, tables) := by simp [f_X3_conclude, pz_bnd, uO, pO, hp]
    rw [eM, eX]; exact ⟨tables, rfl, hR⟩
  · have hp := hp (by decide)
    have eg := eg (by decide)
    have lq := ln.2.1 (Or.inl rfl)
    have hq := pz_hO (heads := heads) lq.1
    rw [h.1.2 _ (pz_ixN lq.1)] at hq
    have vp := hg _ rfl (by decide) (by decide)
    have vq := (hmi.2.2.1 _ (pz_ixN lq.1) (lq.2.2 (by decide))).1
    have eM : M = f_X4_make cnt kinds firsts seconds heights 2 (hm (ps x1.toNatClampNeg).toNatClampNeg) (hm (qs x1.toNatClampNeg).toNatClampNeg) := by rw [hM, eg]; simp [f_X4_headOf, pz_bnd]
    have eX : f_X3_conclude cnt kinds firsts seconds heights tables rules ps qs fs heads ends x1 = f_X1_make cnt kinds firsts seconds heights tables 2 (hm (ps x1.toNatClampNeg).toNatClampNeg) (hm (qs x1.toNatClampNeg).toNatClampNeg) := by simp [f_X3_conclude, pz_bnd, uO, pO, qO, hp, hq]
    obtain ⟨T, a, b⟩ := pz_mkeq hR (by decide) (fun _ => ⟨vp, vq⟩) (fun q => absurd q (by decide)) rfl rfl eM
    exact ⟨T, eX.trans a, b⟩
  · have hp := hp (by decide)
    have eg := eg (by decide)
    have vp := hg _ rfl (by decide) (by decide)
    have f1 := pz_fOf (firsts := firsts) vp
    have eM : M = (firsts (hm (ps x1.toNatClampNeg).toNatClampNeg).toNatClampNeg, cnt, kinds, firsts, seconds, heights) := by rw [hM, eg]; simp [f_X4_headOf]
    have eX : f_X3_conclude cnt kinds firsts seconds heights tables rules ps qs fs heads ends x1 = (firsts (hm (ps x1.toNatClampNeg).toNatClampNeg).toNatClampNeg, cnt, kinds, firsts, seconds, heights, tables) := by simp [f_X3_conclude, pz_bnd, uO, pO, hp, f1]
    rw [eM, eX]; exact ⟨tables, rfl, hR⟩
  · have hp := hp (by decide)
    have eg := eg (by decide)
    have vp := hg _ rfl (by decide) (by decide)
    have s1 := pz_sOf (seconds := seconds) vp
    have eM : M = (seconds (hm (ps x1.toNatClampNeg).toNatClampNeg).toNatClampNeg, cnt, kinds, firsts, seconds, heights) := by rw [hM, eg]; simp [f_X4_headOf]
    have eX : f_X3_conclude cnt kinds firsts seconds heights tables rules ps qs fs heads ends x1 = (seconds (hm (ps x1.toNatClampNeg).toNatClampNeg).toNatClampNeg, cnt, kinds, firsts, seconds, heights, tables) := by simp [f_X3_conclude, pz_bnd, uO, pO, hp, s1]
    rw [eM, eX]; exact ⟨tables, rfl, hR⟩
  · have hp := hp (by decide)
    have eg := eg (by decide)
    have vp := hg _ rfl (by decide) (by decide)
    have vf := fsv (by decide)
    have eM : M = f_X4_make cnt kinds firsts seconds heights 3 (hm (ps x1.toNatClampNeg).toNatClampNeg) (fs x1.toNatClampNeg) := by rw [hM, eg]; simp [f_X4_headOf, pz_bnd]
    have eX : f_X3_conclude cnt kinds firsts seconds heights tables rules ps qs fs heads ends x1 = f_X1_make cnt kinds firsts seconds heights tables 3 (hm (ps x1.toNatClampNeg).toNatClampNeg) (fs x1.toNatClampNeg) := by simp [f_X3_conclude, pz_bnd, uO, pO, fO, hp]
    obtain ⟨T, a, b⟩ := pz_mkeq hR (by decide) (fun _ => ⟨vp, vf⟩) (fun q => absurd q (by decide)) rfl rfl eM
    exact ⟨T, eX.trans a, b⟩
  · have hp := hp (by decide)
    have eg := eg (by decide)
    have vp := hg _ rfl (by decide) (by decide)
    have vf := fsv (by decide)
    have eM : M = f_X4_make cnt kinds firsts seconds heights 3 (fs x1.toNatClampNeg) (hm (ps x1.toNatClampNeg).toNatClampNeg) := by rw [hM, eg]; simp [f_X4_headOf, pz_bnd]
    have eX : f_X3_conclude cnt kinds firsts seconds heights tables rules ps qs fs heads ends x1 = f_X1_make cnt kinds firsts seconds heights tables 3 (fs x1.toNatClampNeg) (hm (ps x1.toNatClampNeg).toNatClampNeg) := by simp [f_X3_conclude, pz_bnd, uO, pO, fO, hp]
    obtain ⟨T, a, b⟩ := pz_mkeq hR (by decide) (fun _ => ⟨vf, vp⟩) (fun q => absurd q (by decide)) rfl rfl eM
    exact ⟨T, eX.trans a, b⟩
  · have lq := ln.2.1 (Or.inr (Or.inl rfl))
    have hq := pz_hae h lq.1 (pz_BB9 rfl eb rfl)
    have eM : M = (f_X4_endOf hm shutBy (qs x1.toNatClampNeg), cnt, kinds, firsts, seconds, heights) := by rw [hM]; simp [f_X4_headOf, pz_bnd]
    have eX : f_X3_conclude cnt kinds firsts seconds heights tables rules ps qs fs heads ends x1 = (f_X4_endOf hm shutBy (qs x1.toNatClampNeg), cnt, kinds, firsts, seconds, heights, tables) := by simp [f_X3_conclude, pz_bnd, uO, pO, qO, hq]
    rw [eM, eX]; exact ⟨tables, rfl, hR⟩
  · have hp2 := hp (by decide)
    have lp := pz_Hp rfl en rfl
    have b10 := pz_BB10 rfl eb rfl
    have hq := pz_hae h lp b10
    obtain ⟨b1, b2, -, b4⟩ := pz_bb hmi.2.1 lp rfl b10
    have vp := hmi.2.2.2.1 _ (pz_ixN lp) (Or.inr b2)
    have ve := (hmi.2.2.1 _ (pz_ixN b1) b4).1
    have eM : M = f_X4_make cnt kinds firsts seconds heights 4 (hm (ps x1.toNatClampNeg).toNatClampNeg) (f_X4_endOf hm shutBy (ps x1.toNatClampNeg)) := by rw [hM]; simp [f_X4_headOf, pz_bnd]
    have eX : f_X3_conclude cnt kinds firsts seconds heights tables rules ps qs fs heads ends x1 = f_X1_make cnt kinds firsts seconds heights tables 4 (hm (ps x1.toNatClampNeg).toNatClampNeg) (f_X4_endOf hm shutBy (ps x1.toNatClampNeg)) := by simp [f_X3_conclude, pz_bnd, uO, pO, hp2, hq]
    obtain ⟨T, a, b⟩ := pz_mkeq hR (by decide) (fun _ => ⟨vp, ve⟩) (fun q => absurd q (by decide)) rfl rfl eM
    exact ⟨T, eX.trans a, b⟩
  · have hp := hp (by decide)
    have eg := eg (by decide)
    have vp := hg _ rfl (by decide) (by decide)
    have s1 := pz_sOf (seconds := seconds) vp
    have eM : M = (seconds (hm (ps x1.toNatClampNeg).toNatClampNeg).toNatClampNeg, cnt, kinds, firsts, seconds, heights) := by rw [hM, eg]; simp [f_X4_headOf]
    have eX : f_X3_conclude cnt kinds firsts seconds heights tables rules ps qs fs heads ends x1 = (seconds (hm (ps x1.toNatClampNeg).toNatClampNeg).toNatClampNeg, cnt, kinds, firsts, seconds, heights, tables) := by simp [f_X3_conclude, pz_bnd, uO, pO, hp, s1]
    rw [eM, eX]; exact ⟨tables, rfl, hR⟩
  · have eM : M = (fs x1.toNatClampNeg, cnt, kinds, firsts, seconds, heights) := by rw [hM]; simp [f_X4_headOf]
    have eX : f_X3_conclude cnt kinds firsts seconds heights tables rules ps qs fs heads ends x1 = (fs x1.toNatClampNeg, cnt, kinds, firsts, seconds, heights, tables) := by simp [f_X3_conclude, pz_bnd, uO, fO]
    rw [eM, eX]; exact ⟨tables, rfl, hR⟩
  · have hp := hp (by decide)
    have eg := eg (by decide)
    have vp := hg _ rfl (by decide) (by decide)
    have f1 := pz_fOf (firsts := firsts) vp
    have b13 := bf.2.2.2.2 rfl
    rw [eg] at b13
    have v1 := (pz_FLR hf vp (by rw [b13.1]; decide) (by rw [b13.1]; decide)).1
    have f2 := pz_fOf (firsts := firsts) v1
    have eM : M = (firsts (firsts (hm (ps x1.toNatClampNeg).toNatClampNeg).toNatClampNeg).toNatClampNeg, cnt, kinds, firsts, seconds, heights) := by rw [hM, eg]; simp [f_X4_headOf]
    have eX : f_X3_conclude cnt kinds firsts seconds heights tables rules ps qs fs heads ends x1 = (firsts (firsts (hm (ps x1.toNatClampNeg).toNatClampNeg).toNatClampNeg).toNatClampNeg, cnt, kinds, firsts, seconds, heights, tables) := by simp [f_X3_conclude, pz_bnd, uO, pO, hp, f1, f2]
    rw [eM, eX]; exact ⟨tables, rfl, hR⟩
/-- what stands against a line -/
theorem pz_rea {K : Nat} {k : Int} (hR : pz_Rf cnt kinds firsts seconds heights tables) (hmi : pz_MI k cnt rt hm boxOf shutBy around inner) (h : pz_B K frules heads ends inforce usable rt hm boxOf shutBy around inner) (hx : vp_in x1 60) (er : rules x1.toNatClampNeg = r) (eg : g = if r ≤ 2 then -1 else hm (ps x1.toNatClampNeg).toNatClampNeg) : f_X3_reasonAgainst cnt kinds firsts seconds rules ps qs rs fs frules heads ends inforce usable x1 = if f_X4_within r 0 13 = 0 then 8 else if f_X4_badNumbers cnt ps qs rs fs hm boxOf shutBy around x1 r = 0 then (if f_X4_badForm kinds firsts seconds r g = 0 then f_X4_badBoxes firsts seconds ps qs rs rt hm shutBy around inner x1 r g else f_X4_badForm kinds firsts seconds r g) else f_X4_badNumbers cnt ps qs rs fs hm boxOf shutBy around x1 r := by
  have e13 : (13 : Int32).toInt = 13 := rfl
  have e14 : (14 : Int32).toInt = 14 := rfl
  have uO := pz_ruO (ps := rules) hx
  rw [er] at uO
  unfold f_X3_reasonAgainst
  rw [pz_be rfl, uO]
  rcases pz_within (r := f_X4_within r 0 13) rfl with ⟨w, hw⟩ | ⟨w, hw⟩
  · rw [pz_zero, e13] at hw
    rw [w, if_neg pz_o1, if_neg (by rw [Int32.lt_iff_toInt_lt, pz_zero]; omega), if_pos (by rw [Int32.lt_iff_toInt_lt, e14]; omega), pz_be rfl, pz_num h hx hR.1.1 hw]
    by_cases cn : f_X4_badNumbers cnt ps qs rs fs hm boxOf shutBy around x1 r = 0
    · rw [if_pos cn, if_pos cn, pz_be rfl, pz_be rfl, pz_be rfl]
      have ln := pz_LN rfl cn
      have hg := pz_HG hmi rfl cn
      rw [pz_pO hx]
      have fr : f_X4_badForm kinds firsts seconds r g = if f_X3_isFormRight cnt kinds firsts seconds r (f_X0_headOf heads (ps x1.toNatClampNeg)) = 0 then 4 else 0 := by
        by_cases c2 : r ≤ 2
        · have f1 : ∀ g, f_X4_badForm kinds firsts seconds r g = 0 := by
            intro g
            have c3 := pz_le c2
            have e2 : (2 : Int32).toInt = 2 := rfl
            rcases pz_14 hw with e | e | e | e | e | e | e | e | e | e | e | e | e | e <;> subst e
            · rfl
            · rfl
            · rfl
            all_goals exact absurd c2 (by decide)
          have q := pz_frm (g := f_X0_headOf heads (ps x1.toNatClampNeg)) hR.1 hw (fun z => by
            rcases z with z | z | z | z | z | z <;> rw [z] at c2 <;> exact absurd c2 (by decide))
          rw [f1] at q ⊢
          exact q
        · rw [if_neg c2] at eg
          have lp := (ln.1 c2).1
          rw [pz_hO lp, h.1.2 _ (pz_ixN lp), ← eg]
          refine pz_frm hR.1 hw (fun z => ?_)
          rw [eg]
          rcases z with z | z | z | z | z | z <;> exact hg _ z (by decide) (by decide)
      have bx : f_X4_badBoxes firsts seconds ps qs rs rt hm shutBy around inner x1 r g = if f_X3_areBoxesRight ps qs rs frules ends usable x1 r = 0 then 5 else if f_X3_areAllLike cnt firsts seconds ps qs rs heads ends x1 r = 0 then 6 else 0 := by
        refine pz_bxs h hx hw (fun c => (ln.1 c).1) (fun c => (ln.2.1 (Or.inr c)).1) (fun c => (ln.2.2.1 c).1) (fun c => ?_) (fun c => by rw [eg, if_neg c])
        rcases c with c | c <;> exact hg _ c (by decide) (by decide)
      by_cases cf : f_X3_isFormRight cnt kinds firsts seconds r (f_X0_headOf heads (ps x1.toNatClampNeg)) = 0
      · rw [if_pos cf] at fr ⊢
        rw [fr, if_neg (by decide)]
      · rw [if_neg cf] at fr ⊢
        rw [fr, if_pos rfl, bx, pz_be rfl]
        by_cases cb : f_X3_areBoxesRight ps qs rs frules ends usable x1 r = 0
        · rw [if_pos cb, if_pos cb]
        · rw [if_neg cb, if_neg cb, pz_be rfl]
    · rw [if_neg cn, if_neg cn]
  · rw [pz_zero, e13] at hw
    rw [w, if_pos rfl]
    by_cases c1 : r < 0
    · rw [if_pos c1]
    · have := pz_n0 c1
      rw [if_neg c1, if_neg (by rw [Int32.lt_iff_toInt_lt, e14]; omega)]
end PzLq
