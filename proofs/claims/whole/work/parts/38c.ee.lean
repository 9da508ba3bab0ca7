/-! the pure part: check: the walk over the lines -/
section PzLw
variable {cnt : Int32} {kinds firsts seconds heights : Nat → Int32} {tables : Nat → Int64} {laid rules ps qs rs fs frules heads ends inforce usable rt hm boxOf shutBy around : Nat → Int32} {inner opened x1 r g : Int32}
theorem pz_lkM (er : rules x1.toNatClampNeg = r) (eg : g = if r ≤ 2 then -1 else hm (ps x1.toNatClampNeg).toNatClampNeg) : f_X4_look cnt kinds firsts seconds heights rules ps qs rs fs opened rt hm boxOf shutBy around inner x1 = if f_X4_within r 0 13 = 0 then (8, cnt, kinds, firsts, seconds, heights, opened, rt, hm, boxOf, shutBy, around, inner) else if f_X4_badNumbers cnt ps qs rs fs hm boxOf shutBy around x1 r = 0 then (if f_X4_badForm kinds firsts seconds r g = 0 then (if f_X4_badBoxes firsts seconds ps qs rs rt hm shutBy around inner x1 r g = 0 then (if r = 2 then ((0, cnt, kinds, firsts, seconds, heights, (opened - 1), (upd rt (x1).toNatClampNeg r), hm, (upd boxOf (x1).toNatClampNeg (around (inner).toNatClampNeg)), (upd shutBy (inner).toNatClampNeg x1), around, (around (inner).toNatClampNeg))) else (pz_bnd (f_X4_headOf cnt kinds firsts seconds heights ps qs fs hm shutBy x1 r g) (fun z_28 => if z_28.1 = (-4) then ((7, z_28.2.1, z_28.2.2.1, z_28.2.2.2.1, z_28.2.2.2.2.1, z_28.2.2.2.2.2, opened, (upd rt (x1).toNatClampNeg r), hm, boxOf, shutBy, around, inner)) else (if r = 1 then ((0, z_28.2.1, z_28.2.2.1, z_28.2.2.2.1, z_28.2.2.2.2.1, z_28.2.2.2.2.2, (opened + 1), (upd rt (x1).toNatClampNeg r), (upd hm (x1).toNatClampNeg z_28.1), (upd boxOf (x1).toNatClampNeg x1), (upd shutBy (x1).toNatClampNeg (-1)), (upd around (x1).toNatClampNeg inner), x1)) else ((0, z_28.2.1, z_28.2.2.1, z_28.2.2.2.1, z_28.2.2.2.2.1, z_28.2.2.2.2.2, opened, (upd rt (x1).toNatClampNeg r), (upd hm (x1).toNatClampNeg z_28.1), (upd boxOf (x1).toNatClampNeg inner), shutBy, around, inner)))))) else (f_X4_badBoxes firsts seconds ps qs rs rt hm shutBy around inner x1 r g, cnt, kinds, firsts, seconds, heights, opened, rt, hm, boxOf, shutBy, around, inner)) else (f_X4_badForm kinds firsts seconds r g, cnt, kinds, firsts, seconds, heights, opened, rt, hm, boxOf, shutBy, around, inner)) else (f_X4_badNumbers cnt ps qs rs fs hm boxOf shutBy around x1 r, cnt, kinds, firsts, seconds, heights, opened, rt, hm, boxOf, shutBy, around, inner) := by
  unfold f_X4_look
  rw [pz_be rfl, er]
  by_cases cw : f_X4_within r 0 13 = 0
  · rw [if_pos cw, if_pos cw]
  rw [if_neg cw, if_neg cw, pz_be rfl]
  by_cases cn : f_X4_badNumbers cnt ps qs rs fs hm boxOf shutBy around x1 r = 0
  · rw [if_pos cn, if_pos cn]
    by_cases c2 : r ≤ 2
    · rw [if_pos c2] at eg ⊢
      subst eg
      rw [pz_be rfl]
      by_cases cf : f_X4_badForm kinds firsts seconds r (-1) = 0
      · rw [if_pos cf, if_pos cf, pz_be rfl]
      · rw [if_neg cf, if_neg cf, if_neg cf]
    · rw [if_neg c2] at eg ⊢
      subst eg
      rw [pz_be rfl]
      by_cases cf : f_X4_badForm kinds firsts seconds r (hm (ps x1.toNatClampNeg).toNatClampNeg) = 0
      · rw [if_pos cf, if_pos cf, pz_be rfl]
      · rw [if_neg cf, if_neg cf, if_neg cf]
  · rw [if_neg cn, if_neg cn]
theorem pz_lkX : f_X3_lookAt cnt kinds firsts seconds heights tables rules ps qs rs fs frules heads ends inforce usable x1 = if f_X3_reasonAgainst cnt kinds firsts seconds rules ps qs rs fs frules heads ends inforce usable x1 = 0 then (pz_bnd (f_X3_conclude cnt kinds firsts seconds heights tables rules ps qs fs heads ends x1) (fun z_3 => if z_3.1 = (-4) then ((7, z_3.2.1, z_3.2.2.1, z_3.2.2.2.1, z_3.2.2.2.2.1, z_3.2.2.2.2.2.1, z_3.2.2.2.2.2.2, frules, heads, ends, inforce, usable)) else (pz_bnd (f_X2_ruleOf rules x1) (fun z_5 => pz_bnd (f_X0_keep frules heads ends inforce usable x1 z_5 z_3.1) (fun z_6 => (0, z_3.2.1, z_3.2.2.1, z_3.2.2.2.1, z_3.2.2.2.2.1, z_3.2.2.2.2.2.1, z_3.2.2.2.2.2.2, z_6.1, z_6.2.1, z_6.2.2.1, z_6.2.2.2.1, z_6.2.2.2.2)))))) else (f_X3_reasonAgainst cnt kinds firsts seconds rules ps qs rs fs frules heads ends inforce usable x1, cnt, kinds, firsts, seconds, heights, tables, frules, heads, ends, inforce, usable) := by
  unfold f_X3_lookAt
  rw [pz_be rfl]
/-- a line looked at: both sides alike -/
theorem pz_lkq (hR : pz_Rf cnt kinds firsts seconds heights tables) (hmi : pz_MI x1.toInt cnt rt hm boxOf shutBy around inner) (h : pz_B x1.toNatClampNeg frules heads ends inforce usable rt hm boxOf shutBy around inner) (hx : vp_in x1 60) (ho : opened = f_X0_countOpen frules ends) {Z : pz_T13} (hZ : Z = f_X4_look cnt kinds firsts seconds heights rules ps qs rs fs opened rt hm boxOf shutBy around inner x1) :
    ∃ T F H E I U, f_X3_lookAt cnt kinds firsts seconds heights tables rules ps qs rs fs frules heads ends inforce usable x1 = (Z.1, Z.2.1, Z.2.2.1, Z.2.2.2.1, Z.2.2.2.2.1, Z.2.2.2.2.2.1, T, F, H, E, I, U) ∧ pz_Rf Z.2.1 Z.2.2.1 Z.2.2.2.1 Z.2.2.2.2.1 Z.2.2.2.2.2.1 T ∧ (Z.1 = 0 → pz_B (x1.toNatClampNeg + 1) F H E I U Z.2.2.2.2.2.2.2.1 Z.2.2.2.2.2.2.2.2.1 Z.2.2.2.2.2.2.2.2.2.1 Z.2.2.2.2.2.2.2.2.2.2.1 Z.2.2.2.2.2.2.2.2.2.2.2.1 Z.2.2.2.2.2.2.2.2.2.2.2.2) ∧ (¬ Z.1 = 0 → pz_B x1.toNatClampNeg F H E I U Z.2.2.2.2.2.2.2.1 Z.2.2.2.2.2.2.2.2.1 Z.2.2.2.2.2.2.2.2.2.1 Z.2.2.2.2.2.2.2.2.2.2.1 Z.2.2.2.2.2.2.2.2.2.2.2.1 Z.2.2.2.2.2.2.2.2.2.2.2.2) ∧ Z.2.2.2.2.2.2.1 = f_X0_countOpen F E := by
  obtain ⟨r, er⟩ : ∃ r, rules x1.toNatClampNeg = r := ⟨_, rfl⟩
  obtain ⟨g, eg⟩ : ∃ g, g = if r ≤ 2 then -1 else hm (ps x1.toNatClampNeg).toNatClampNeg := ⟨_, rfl⟩
  have e13 : (13 : Int32).toInt = 13 := rfl
  have rea := pz_rea hR hmi h hx er eg (qs := qs) (rs := rs) (fs := fs)
  rw [pz_lkM er eg] at hZ
  rw [pz_lkX]
  have same : ∀ c : Int32, ¬ c = 0 → Z = (c, cnt, kinds, firsts, seconds, heights, opened, rt, hm, boxOf, shutBy, around, inner) → f_X3_reasonAgainst cnt kinds firsts seconds rules ps qs rs fs frules heads ends inforce usable x1 = c → ∃ T F H E I U, (if f_X3_reasonAgainst cnt kinds firsts seconds rules ps qs rs fs frules heads ends inforce usable x1 = 0 then (pz_bnd (f_X3_conclude cnt kinds firsts seconds heights tables rules ps qs fs heads ends x1) (fun z_3 => if z_3.1 = (-4) then ((7, z_3.2.1, z_3.2.2.1, z_3.2.2.2.1, z_3.2.2.2.2.1, z_3.2.2.2.2.2.1, z_3.2.2.2.2.2.2, frules, heads, ends, inforce, usable)) else (pz_bnd (f_X2_ruleOf rules x1) (fun z_5 => pz_bnd (f_X0_keep frules heads ends inforce usable x1 z_5 z_3.1) (fun z_6 => (0, z_3.2.1, z_3.2.2.1, z_3.2.2.2.1, z_3.2.2.2.2.1, z_3.2.2.2.2.2.1, z_3.2.2.2.2.2.2, z_6.1, z_6.2.1, z_6.2.2.1, z_6.2.2.2.1, z_6.2.2.2.2)))))) else (f_X3_reasonAgainst cnt kinds firsts seconds rules ps qs rs fs frules heads ends inforce usable x1, cnt, kinds, firsts, seconds, heights, tables, frules, heads, ends, inforce, usable)) = (Z.1, Z.2.1, Z.2.2.1, Z.2.2.2.1, Z.2.2.2.2.1, Z.2.2.2.2.2.1, T, F, H, E, I, U) ∧ pz_Rf Z.2.1 Z.2.2.1 Z.2.2.2.1 Z.2.2.2.2.1 Z.2.2.2.2.2.1 T ∧ (Z.1 = 0 → pz_B (x1.toNatClampNeg + 1) F H E I U Z.2.2.2.2.2.2.2.1 Z.2.2.2.2.2.2.2.2.1 Z.2.2.2.2.2.2.2.2.2.1 Z.2.2.2.2.2.2.2.2.2.2.1 Z.2.2.2.2.2.2.2.2.2.2.2.1 Z.2.2.2.2.2.2.2.2.2.2.2.2) ∧ (¬ Z.1 = 0 → pz_B x1.toNatClampNeg F H E I U Z.2.2.2.2.2.2.2.1 Z.2.2.2.2.2.2.2.2.1 Z.2.2.2.2.2.2.2.2.2.1 Z.2.2.2.2.2.2.2.2.2.2.1 Z.2.2.2.2.2.2.2.2.2.2.2.1 Z.2.2.2.2.2.2.2.2.2.2.2.2) ∧ Z.2.2.2.2.2.2.1 = f_X0_countOpen F E := by
    intro c nc z q
    rw [q, if_neg nc, z]
    exact ⟨_, _, _, _, _, _, rfl, hR, fun w => absurd w nc, fun _ => h, ho⟩
  by_cases cw : f_X4_within r 0 13 = 0
  · rw [if_pos cw] at hZ rea
    exact same 8 (by decide) hZ rea
  rw [if_neg cw] at hZ rea
  have hw := pz_within_1 rfl cw
  rw [pz_zero, e13] at hw
  by_cases cn : f_X4_badNumbers cnt ps qs rs fs hm boxOf shutBy around x1 r = 0
  · rw [if_pos cn] at hZ rea
    by_cases cf : f_X4_badForm kinds firsts seconds r g = 0
    · rw [if_pos cf] at hZ rea
      by_cases cb : f_X4_badBoxes firsts seconds ps qs rs rt hm shutBy around inner x1 r g = 0
      · rw [if_pos cb] at hZ
        rw [cb] at rea
        rw [if_pos rea]
        have xn := pz_ixN hx
        have xi := vp_in_iff.mp hx
        have uO := pz_ruO (ps := rules) hx
        rw [er] at uO
        by_cases c2 : r = 2
        · -- SHUT
          rw [if_pos c2] at hZ
          have eX : f_X3_conclude cnt kinds firsts seconds heights tables rules ps qs fs heads ends x1 = (-1, cnt, kinds, firsts, seconds, heights, tables) := by simp [f_X3_conclude, pz_bnd, uO, c2]
          obtain ⟨F, H, E, I, U, k1, k2, k3⟩ := pz_kS h hx (pz_BB2 rfl cb c2) ho
          rw [pz_be rfl, eX, if_neg (show ¬ (-1 : Int32) = -4 by decide), pz_be rfl, pz_be rfl, uO, c2, k1, hZ, c2]
          exact ⟨_, _, _, _, _, _, rfl, hR, fun _ => k2, fun w => absurd rfl w, k3⟩
        · rw [if_neg c2, pz_be rfl] at hZ
          have hg : ∀ n : Int32, r = n → 2 < n → ¬ n = 10 → pz_vf cnt g := by
            intro n e1 e2 e3
            have q := pz_gt2 e1 e2
            rw [eg, if_neg q]
            exact pz_HG hmi rfl cn n e1 e2 e3
          have lh := pz_look_head (height := heights) hR.1 hmi hw rfl cn rfl cf rfl cb hg
          obtain ⟨M, hM⟩ : ∃ M, M = f_X4_headOf cnt kinds firsts seconds heights ps qs fs hm shutBy x1 r g := ⟨_, rfl⟩
          obtain ⟨T, k1, k2⟩ := pz_con hR hmi h hx er hw c2 cn cf cb (fun q => by rw [eg, if_neg q]) hM
          rw [← hM] at hZ lh
          have mk := lh.1 c2
          rw [pz_be rfl, k1]
          by_cases c4 : M.1 = -4
          · -- FULL
            rw [if_pos c4] at hZ ⊢
            rw [hZ]
            exact ⟨_, _, _, _, _, _, rfl, k2, fun w => absurd (show (7 : Int32) = 0 from w) (by decide), fun _ => pz_Bfull h xn (fun q => lh.2 (Or.inr q) c4), ho⟩
          · rw [if_neg c4] at hZ ⊢
            have mv : pz_vf M.2.1 M.1 := mk.2.2.elim (fun q => absurd q c4) id
            have n1 : ¬ M.1 = -1 := fun q => by
              have := mv.1
              rw [q, pz_m1] at this
              omega
            rw [pz_be rfl, pz_be rfl, uO, pz_kO hx c2 n1]
            by_cases c1 : r = 1
            · -- ASSUME
              rw [if_pos c1] at hZ
              rw [hZ, c1]
              exact ⟨_, _, _, _, _, _, rfl, k2, fun _ => pz_Ba h xn (pz_nI xi.1) n1, fun w => absurd rfl w, by rw [pz_coA h hx, ho]⟩
            · rw [if_neg c1] at hZ
              rw [hZ]
              exact ⟨_, _, _, _, _, _, rfl, k2, fun _ => pz_Bo h xn c1 c2 n1, fun w => absurd rfl w, by rw [pz_coO h hx c1, ho]⟩
      · rw [if_neg cb] at hZ
        exact same _ cb hZ rea
    · rw [if_neg cf] at hZ rea
      exact same _ cf hZ rea
  · rw [if_neg cn] at hZ rea
    exact same _ cn hZ rea
end PzLw
