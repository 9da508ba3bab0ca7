/-! what the reference's tests say of a line -/
section PzN
variable {formulas : Int32} {ps qs rs fs heads boxOf shutBy around : Nat → Int32} {x1 x2 x3 x4 : Int32}
theorem pz_N127 (h : F_X4_badNumbers_127 formulas ps qs rs fs heads boxOf shutBy around x1 x2 x3 x4 = 0) : x3 = 0 ∧ (¬ x4 = 0 → ¬ f_X4_isFormula formulas (fs x1.toNatClampNeg) = 0) := by
  unfold F_X4_badNumbers_127 at h
  by_cases c : x3 = 0
  · rw [if_pos c] at h
    refine ⟨c, fun c4 c5 => ?_⟩
    rw [if_neg c4, pz_be rfl, if_pos c5] at h
    exact absurd h (by decide)
  · rw [if_neg c] at h; exact absurd h c
theorem pz_N97 (h : F_X4_badNumbers_97 formulas ps qs rs fs heads boxOf shutBy around x1 x2 x3 = 0) : x3 = 0 ∧ (x2 < 2 ∨ x2 = 7 ∨ x2 = 8 ∨ x2 = 12 → ¬ f_X4_isFormula formulas (fs x1.toNatClampNeg) = 0) := by
  unfold F_X4_badNumbers_97 at h
  by_cases c1 : x2 < 2
  · rw [if_pos c1] at h; have a := pz_N127 h; exact ⟨a.1, fun _ => a.2 (by decide)⟩
  rw [if_neg c1] at h
  by_cases c2 : x2 = 7
  · rw [if_pos c2] at h; have a := pz_N127 h; exact ⟨a.1, fun _ => a.2 (by decide)⟩
  rw [if_neg c2] at h
  by_cases c3 : x2 = 8
  · rw [if_pos c3] at h; have a := pz_N127 h; exact ⟨a.1, fun _ => a.2 (by decide)⟩
  rw [if_neg c3] at h
  by_cases c4 : x2 = 12
  · rw [if_pos c4] at h; have a := pz_N127 h; exact ⟨a.1, fun _ => a.2 (by decide)⟩
  rw [if_neg c4] at h
  refine ⟨(pz_N127 h).1, fun t => ?_⟩
  rcases t with t | t | t | t
  · exact absurd t c1
  · exact absurd t c2
  · exact absurd t c3
  · exact absurd t c4
theorem pz_N74 (h : F_X4_badNumbers_74 formulas ps qs rs fs heads boxOf shutBy around x1 x2 x3 = 0) : x3 = 0 ∧ (x2 = 9 → f_X4_badLine heads boxOf shutBy around x1 (rs x1.toNatClampNeg) 0 = 0) ∧ (x2 < 2 ∨ x2 = 7 ∨ x2 = 8 ∨ x2 = 12 → ¬ f_X4_isFormula formulas (fs x1.toNatClampNeg) = 0) := by
  unfold F_X4_badNumbers_74 at h
  by_cases c : x3 = 0
  · rw [if_pos c] at h
    by_cases c9 : x2 = 9
    · rw [if_pos c9, pz_be rfl] at h; have a := pz_N97 h; exact ⟨c, fun _ => a.1, a.2⟩
    · rw [if_neg c9] at h; have a := pz_N97 h; exact ⟨c, fun t => absurd t c9, a.2⟩
  · rw [if_neg c] at h; exact absurd (pz_N97 h).1 c
theorem pz_N30 (h : F_X4_badNumbers_30 formulas ps qs rs fs heads boxOf shutBy around x1 x2 x3 = 0) : x3 = 0 ∧ (x2 = 4 ∨ x2 = 11 → f_X4_badLine heads boxOf shutBy around x1 (qs x1.toNatClampNeg) 1 = 0) ∧ (x2 = 9 → f_X4_badLine heads boxOf shutBy around x1 (qs x1.toNatClampNeg) 0 = 0) ∧ (x2 = 9 → f_X4_badLine heads boxOf shutBy around x1 (rs x1.toNatClampNeg) 0 = 0) ∧ (x2 < 2 ∨ x2 = 7 ∨ x2 = 8 ∨ x2 = 12 → ¬ f_X4_isFormula formulas (fs x1.toNatClampNeg) = 0) := by
  unfold F_X4_badNumbers_30 at h
  by_cases c : x3 = 0
  · rw [if_pos c] at h
    by_cases c4 : x2 = 4
    · have n9 : ¬ x2 = 9 := by rw [c4]; decide
      rw [if_pos c4, if_neg n9, pz_be rfl] at h; have a := pz_N74 h; exact ⟨c, fun _ => a.1, fun t => absurd t n9, a.2.1, a.2.2⟩
    · rw [if_neg c4] at h
      by_cases c9 : x2 = 9
      · rw [if_pos c9, if_pos c9, pz_be rfl] at h; have a := pz_N74 h
        exact ⟨c, fun t => by rcases t with t | t; exact absurd t c4; rw [c9] at t; exact absurd t (by decide), fun _ => a.1, a.2.1, a.2.2⟩
      · rw [if_neg c9] at h
        by_cases c11 : x2 = 11
        · rw [if_pos c11, if_neg c9, pz_be rfl] at h; have a := pz_N74 h; exact ⟨c, fun _ => a.1, fun t => absurd t c9, a.2.1, a.2.2⟩
        · rw [if_neg c11] at h; have a := pz_N74 h
          exact ⟨c, fun t => by rcases t with t | t; exact absurd t c4; exact absurd t c11, fun t => absurd t c9, a.2.1, a.2.2⟩
  · rw [if_neg c] at h; exact absurd (pz_N74 h).1 c
theorem pz_BL (h : f_X4_badLine heads boxOf shutBy around x1 x2 x3 = 0) : vp_in x2 60 ∧ x2 < x1 ∧ (¬ x3 = 0 → ¬ f_X4_inForce heads boxOf shutBy around x2 = 0) := by
  unfold f_X4_badLine at h
  rw [pz_be rfl] at h
  by_cases c1 : f_X4_isLine x2 = 0
  · rw [if_pos c1] at h; exact absurd h (by decide)
  · rw [if_neg c1] at h
    by_cases c2 : x2 < x1
    · rw [if_pos c2] at h
      refine ⟨pz_lineM rfl c1, c2, fun c3 c4 => ?_⟩
      rw [if_neg c3, pz_be rfl, if_pos c4] at h
      exact absurd h (by decide)
    · rw [if_neg c2] at h; exact absurd h (by decide)
theorem pz_inF (h : ¬ f_X4_inForce heads boxOf shutBy around x2 = 0) : ¬ heads x2.toNatClampNeg = -1 := by
  intro c
  unfold f_X4_inForce at h
  rw [if_pos c] at h
  exact h rfl
/-- what the numbers of a line are, once nothing stands against them -/
theorem pz_LN {z : Int32} (e : z = f_X4_badNumbers formulas ps qs rs fs heads boxOf shutBy around x1 x2) (h0 : z = 0) :
    (¬ x2 ≤ 2 → vp_in (ps x1.toNatClampNeg) 60 ∧ ps x1.toNatClampNeg < x1 ∧ (¬ x2 = 10 → ¬ heads (ps x1.toNatClampNeg).toNatClampNeg = -1)) ∧ (x2 = 4 ∨ x2 = 9 ∨ x2 = 11 → vp_in (qs x1.toNatClampNeg) 60 ∧ qs x1.toNatClampNeg < x1 ∧ (¬ x2 = 9 → ¬ heads (qs x1.toNatClampNeg).toNatClampNeg = -1)) ∧ (x2 = 9 → vp_in (rs x1.toNatClampNeg) 60 ∧ rs x1.toNatClampNeg < x1) ∧ (x2 < 2 ∨ x2 = 7 ∨ x2 = 8 ∨ x2 = 12 → ¬ f_X4_isFormula formulas (fs x1.toNatClampNeg) = 0) := by
  rw [h0] at e
  have h := e.symm
  unfold f_X4_badNumbers at h
  have key : ∀ z3, F_X4_badNumbers_30 formulas ps qs rs fs heads boxOf shutBy around x1 x2 z3 = 0 → (x2 = 4 ∨ x2 = 9 ∨ x2 = 11 → vp_in (qs x1.toNatClampNeg) 60 ∧ qs x1.toNatClampNeg < x1 ∧ (¬ x2 = 9 → ¬ heads (qs x1.toNatClampNeg).toNatClampNeg = -1)) ∧ (x2 = 9 → vp_in (rs x1.toNatClampNeg) 60 ∧ rs x1.toNatClampNeg < x1) ∧ (x2 < 2 ∨ x2 = 7 ∨ x2 = 8 ∨ x2 = 12 → ¬ f_X4_isFormula formulas (fs x1.toNatClampNeg) = 0) := by
    intro z3 h3
    obtain ⟨-, a1, a2, a3, a4⟩ := pz_N30 h3
    refine ⟨fun t => ?_, fun t => ⟨(pz_BL (a3 t)).1, (pz_BL (a3 t)).2.1⟩, a4⟩
    by_cases c9 : x2 = 9
    · have b := pz_BL (a2 c9); exact ⟨b.1, b.2.1, fun n => absurd c9 n⟩
    · have b := pz_BL (a1 (by rcases t with t | t | t; exact Or.inl t; exact absurd t c9; exact Or.inr t))
      exact ⟨b.1, b.2.1, fun _ => pz_inF (b.2.2 (by decide))⟩
  by_cases c2 : x2 ≤ 2
  · rw [if_pos c2] at h
    exact ⟨fun t => absurd c2 t, key _ h⟩
  · rw [if_neg c2] at h
    by_cases c10 : x2 = 10
    · rw [if_pos c10, pz_be rfl] at h
      have b := pz_BL (pz_N30 h).1
      exact ⟨fun _ => ⟨b.1, b.2.1, fun n => absurd c10 n⟩, key _ h⟩
    · rw [if_neg c10, pz_be rfl] at h
      have b := pz_BL (pz_N30 h).1
      exact ⟨fun _ => ⟨b.1, b.2.1, fun _ => pz_inF (b.2.2 (by decide))⟩, key _ h⟩
end PzN
theorem pz_BF13 {kind left right : Nat → Int32} {z g : Int32} {rule : Int32} (e : z = f_X4_badForm kind left right rule g) (h0 : z = 0) (h13 : rule = 13) : ¬ kind g.toNatClampNeg = 0 ∧ ¬ kind g.toNatClampNeg = 1 := by
  rw [h0, h13] at e
  have h := e.symm
  unfold f_X4_badForm at h
  rw [if_neg (by decide), if_neg (by decide), if_neg (by decide), if_neg (by decide), if_neg (by decide), if_pos rfl, pz_be rfl] at h
  by_cases c : f_X4_isKind kind g 4 = 0
  · rw [if_pos c] at h; exact absurd h (by decide)
  · exact pz_isKn rfl c
section PzB
variable {left right ps qs rs ruleThen heads shutBy around : Nat → Int32} {inner x1 x2 x3 z : Int32}
theorem pz_BB2 (e : z = f_X4_badBoxes left right ps qs rs ruleThen heads shutBy around inner x1 x2 x3) (h0 : z = 0) (h2 : x2 = 2) : ¬ inner = -1 := by
  rw [h0] at e
  have h := e.symm
  unfold f_X4_badBoxes at h
  rw [if_pos h2] at h
  intro c
  rw [if_pos c] at h
  exact absurd h (by decide)
theorem pz_BB10 (e : z = f_X4_badBoxes left right ps qs rs ruleThen heads shutBy around inner x1 x2 x3) (h0 : z = 0) (h2 : x2 = 10) : f_X4_badBox ruleThen heads shutBy around (ps x1.toNatClampNeg) = 0 := by
  rw [h0, h2] at e
  have h := e.symm
  unfold f_X4_badBoxes at h
  rw [if_neg (by decide), if_pos rfl, pz_be rfl] at h
  exact h
theorem pz_BB9 (e : z = f_X4_badBoxes left right ps qs rs ruleThen heads shutBy around inner x1 x2 x3) (h0 : z = 0) (h2 : x2 = 9) : f_X4_badBox ruleThen heads shutBy around (qs x1.toNatClampNeg) = 0 := by
  rw [h0, h2] at e
  have h := e.symm
  unfold f_X4_badBoxes at h
  rw [if_neg (by decide), if_neg (by decide), if_neg (by decide), if_pos rfl, pz_be rfl] at h
  by_cases c : f_X4_badBox ruleThen heads shutBy around (qs x1.toNatClampNeg) = 0
  · exact c
  · rw [if_neg c, if_neg c] at h; exact absurd h c
end PzB
/-- all that keeps the reference's latest check in its bounds, with k lines looked at -/
def pz_MI (k : Int) (formulas : Int32) (rt heads boxOf shutBy around : Nat → Int32) (inner : Int32) : Prop := pz_ar rt around ∧ pz_sb rt shutBy ∧ pz_hd formulas rt heads boxOf ∧ pz_gr formulas rt heads ∧ pz_bx rt inner ∧ ∀ j : Nat, j < 60 → rt j = 1 → (j : Int) < k
section PzL
variable {formulas : Int32} {kind left right ps qs rs fs ruleThen heads boxOf shutBy around : Nat → Int32} {inner x1 x2 z zf zb : Int32} {k : Int}
theorem pz_HG1 (hmi : pz_MI k formulas ruleThen heads boxOf shutBy around inner) (e : z = f_X4_badNumbers formulas ps qs rs fs heads boxOf shutBy around x1 x2) (h0 : z = 0) (hc : ¬ x2 ≤ 2) (h10 : ¬ x2 = 10) : pz_vf formulas (heads (ps x1.toNatClampNeg).toNatClampNeg) := by
  have a := (pz_LN e h0).1 hc
  exact (hmi.2.2.1 _ (pz_ixN a.1) (a.2.2 h10)).1
theorem pz_gt2 {n : Int32} (e : x2 = n) (h : 2 < n) : ¬ x2 ≤ 2 := fun c => by
  rw [e] at c
  have a := pz_le c
  have b := pz_lt h
  omega
theorem pz_HG (hmi : pz_MI k formulas ruleThen heads boxOf shutBy around inner) (e : z = f_X4_badNumbers formulas ps qs rs fs heads boxOf shutBy around x1 x2) (h0 : z = 0) : ∀ n : Int32, x2 = n → 2 < n → ¬ n = 10 → pz_vf formulas (heads (ps x1.toNatClampNeg).toNatClampNeg) := fun n en h2 h10 => pz_HG1 hmi e h0 (pz_gt2 en h2) (by rw [en]; exact h10)
theorem pz_HG0 (h : x2 ≤ 2) {P : Prop} : ∀ n : Int32, x2 = n → 2 < n → ¬ n = 10 → P := fun _ en h2 _ => absurd h (pz_gt2 en h2)
theorem pz_Hp (e : z = f_X4_badNumbers formulas ps qs rs fs heads boxOf shutBy around x1 x2) (h0 : z = 0) : x2 = 10 → vp_in (ps x1.toNatClampNeg) 60 := fun c => ((pz_LN e h0).1 (pz_gt2 c (by decide))).1
theorem pz_Hq (e : z = f_X4_badNumbers formulas ps qs rs fs heads boxOf shutBy around x1 x2) (h0 : z = 0) : ∀ n : Int32, x2 = n → n = 9 ∨ n = 11 → vp_in (qs x1.toNatClampNeg) 60 := fun n en c => ((pz_LN e h0).2.1 (by rw [en]; exact Or.inr c)).1
theorem pz_Hr (e : z = f_X4_badNumbers formulas ps qs rs fs heads boxOf shutBy around x1 x2) (h0 : z = 0) : x2 = 9 → vp_in (rs x1.toNatClampNeg) 60 := fun c => ((pz_LN e h0).2.2.1 c).1
theorem pz_gb {g : Int32} (hc : pz_c formulas) (h : ∀ n : Int32, x2 = n → 2 < n → ¬ n = 10 → pz_vf formulas g) : ∀ n : Int32, x2 = n → n = 9 ∨ n = 11 → vp_in g 80 := fun n en c => pz_vin hc (h n en (by rcases c with c | c <;> rw [c] <;> decide) (by rcases c with c | c <;> rw [c] <;> decide))
end PzL

section PzH
variable {formulas : Int32} {kind left right ps qs rs fs ruleThen heads boxOf shutBy around : Nat → Int32} {inner x1 x2 x3 z zf zb g : Int32} {k : Int}
theorem pz_HO4 (hc : pz_c formulas) (hmi : pz_MI k formulas ruleThen heads boxOf shutBy around inner) (e : z = f_X4_badNumbers formulas ps qs rs fs heads boxOf shutBy around x1 x2) (h0 : z = 0) (hg : ∀ n : Int32, x2 = n → 2 < n → ¬ n = 10 → pz_vf formulas g) : x2 = 4 → vp_in g 80 ∧ vp_in (qs x1.toNatClampNeg) 60 ∧ vp_in (heads (qs x1.toNatClampNeg).toNatClampNeg) 80 := by
  intro c
  have a := (pz_LN e h0).2.1 (Or.inl c)
  exact ⟨pz_vin hc (hg _ c (by decide) (by decide)), a.1, pz_vin hc (hmi.2.2.1 _ (pz_ixN a.1) (a.2.2 (by rw [c]; decide))).1⟩
theorem pz_HOg (hc : pz_c formulas) (hg : ∀ n : Int32, x2 = n → 2 < n → ¬ n = 10 → pz_vf formulas g) : ∀ n : Int32, x2 = n → n = 5 ∨ n = 6 ∨ n = 11 → vp_in g 80 := fun n en c => pz_vin hc (hg n en (by rcases c with c | c | c <;> rw [c] <;> decide) (by rcases c with c | c | c <;> rw [c] <;> decide))
theorem pz_HO7 (hc : pz_c formulas) (e : z = f_X4_badNumbers formulas ps qs rs fs heads boxOf shutBy around x1 x2) (h0 : z = 0) (hg : ∀ n : Int32, x2 = n → 2 < n → ¬ n = 10 → pz_vf formulas g) : ∀ n : Int32, x2 = n → n = 7 ∨ n = 8 → vp_in g 80 ∧ vp_in (fs x1.toNatClampNeg) 80 := fun n en c => ⟨pz_vin hc (hg n en (by rcases c with c | c <;> rw [c] <;> decide) (by rcases c with c | c <;> rw [c] <;> decide)), pz_isFin hc rfl ((pz_LN e h0).2.2.2 (by rw [en]; rcases c with c | c <;> rw [c] <;> decide))⟩
theorem pz_HO9 (hsb : pz_sb ruleThen shutBy) (e : z = f_X4_badNumbers formulas ps qs rs fs heads boxOf shutBy around x1 x2) (h0 : z = 0) (eb : zb = f_X4_badBoxes left right ps qs rs ruleThen heads shutBy around inner x1 x2 g) (hb0 : zb = 0) : x2 = 9 → vp_in (qs x1.toNatClampNeg) 60 ∧ vp_in (shutBy (qs x1.toNatClampNeg).toNatClampNeg - 1) 60 := by
  intro c
  have a := (pz_LN e h0).2.1 (Or.inr (Or.inl c))
  exact ⟨a.1, (pz_bb hsb a.1 rfl (pz_BB9 eb hb0 c)).1⟩
theorem pz_HO10 (hc : pz_c formulas) (hmi : pz_MI k formulas ruleThen heads boxOf shutBy around inner) (e : z = f_X4_badNumbers formulas ps qs rs fs heads boxOf shutBy around x1 x2) (h0 : z = 0) (eb : zb = f_X4_badBoxes left right ps qs rs ruleThen heads shutBy around inner x1 x2 g) (hb0 : zb = 0) : x2 = 10 → vp_in (ps x1.toNatClampNeg) 60 ∧ vp_in (shutBy (ps x1.toNatClampNeg).toNatClampNeg - 1) 60 ∧ vp_in (heads (ps x1.toNatClampNeg).toNatClampNeg) 80 ∧ vp_in (heads (shutBy (ps x1.toNatClampNeg).toNatClampNeg - 1).toNatClampNeg) 80 := by
  intro c
  have a := pz_Hp e h0 c
  obtain ⟨b1, b2, b3, b4⟩ := pz_bb hmi.2.1 a rfl (pz_BB10 eb hb0 c)
  exact ⟨a, b1, pz_vin hc (hmi.2.2.2.1 _ (pz_ixN a) (Or.inr b2)), pz_vin hc (hmi.2.2.1 _ (pz_ixN b1) b4).1⟩
theorem pz_HO13 (hf : pz_F formulas kind left right) (e : zf = f_X4_badForm kind left right x2 g) (h0 : zf = 0) (hg : ∀ n : Int32, x2 = n → 2 < n → ¬ n = 10 → pz_vf formulas g) : x2 = 13 → vp_in g 80 ∧ vp_in (left g.toNatClampNeg) 80 := by
  intro c
  have a := hg _ c (by decide) (by decide)
  have b := pz_BF13 e h0 c
  exact ⟨pz_vin hf.1 a, pz_vin hf.1 (pz_FLR hf a b.1 b.2).1⟩
end PzH

-- == X4_look
def f_X4_look (formulas : Int32) (kind : Nat → Int32) (left : Nat → Int32) (right : Nat → Int32) (height : Nat → Int32) (rules : Nat → Int32) (ps : Nat → Int32) (qs : Nat → Int32) (rs : Nat → Int32) (fs : Nat → Int32) (opened : Int32) (ruleThen : Nat → Int32) (heads : Nat → Int32) (boxOf : Nat → Int32) (shutBy : Nat → Int32) (around : Nat → Int32) (inner : Int32) (x1 : Int32) : Int32 × (Int32) × (Nat → Int32) × (Nat → Int32) × (Nat → Int32) × (Nat → Int32) × (Int32) × (Nat → Int32) × (Nat → Int32) × (Nat → Int32) × (Nat → Int32) × (Nat → Int32) × (Int32) := pz_bnd (f_X4_within (rules (x1).toNatClampNeg) 0 13) (fun z_2 => if z_2 = 0 then ((8, formulas, kind, left, right, height, opened, ruleThen, heads, boxOf, shutBy, around, inner)) else (pz_bnd (f_X4_badNumbers formulas ps qs rs fs heads boxOf shutBy around x1 (rules (x1).toNatClampNeg)) (fun z_4 => if z_4 = 0 then (if (rules (x1).toNatClampNeg) ≤ 2 then (pz_bnd (f_X4_badForm kind left right (rules (x1).toNatClampNeg) (-1)) (fun z_7 => if z_7 = 0 then (pz_bnd (f_X4_badBoxes left right ps qs rs ruleThen heads shutBy around inner x1 (rules (x1).toNatClampNeg) (-1)) (fun z_24 => if z_24 = 0 then (if (rules (x1).toNatClampNeg) = 2 then ((0, formulas, kind, left, right, height, (opened - 1), (upd ruleThen (x1).toNatClampNeg (rules (x1).toNatClampNeg)), heads, (upd boxOf (x1).toNatClampNeg (around (inner).toNatClampNeg)), (upd shutBy (inner).toNatClampNeg x1), around, (around (inner).toNatClampNeg))) else (pz_bnd (f_X4_headOf formulas kind left right height ps qs fs heads shutBy x1 (rules (x1).toNatClampNeg) (-1)) (fun z_28 => if z_28.1 = (-4) then ((7, z_28.2.1, z_28.2.2.1, z_28.2.2.2.1, z_28.2.2.2.2.1, z_28.2.2.2.2.2, opened, (upd ruleThen (x1).toNatClampNeg (rules (x1).toNatClampNeg)), heads, boxOf, shutBy, around, inner)) else (if (rules (x1).toNatClampNeg) = 1 then ((0, z_28.2.1, z_28.2.2.1, z_28.2.2.2.1, z_28.2.2.2.2.1, z_28.2.2.2.2.2, (opened + 1), (upd ruleThen (x1).toNatClampNeg (rules (x1).toNatClampNeg)), (upd heads (x1).toNatClampNeg z_28.1), (upd boxOf (x1).toNatClampNeg x1), (upd shutBy (x1).toNatClampNeg (-1)), (upd around (x1).toNatClampNeg inner), x1)) else ((0, z_28.2.1, z_28.2.2.1, z_28.2.2.2.1, z_28.2.2.2.2.1, z_28.2.2.2.2.2, opened, (upd ruleThen (x1).toNatClampNeg (rules (x1).toNatClampNeg)), (upd heads (x1).toNatClampNeg z_28.1), (upd boxOf (x1).toNatClampNeg inner), shutBy, around, inner)))))) else ((z_24, formulas, kind, left, right, height, opened, ruleThen, heads, boxOf, shutBy, around, inner)))) else (if z_7 = 0 then (if (rules (x1).toNatClampNeg) = 2 then ((0, formulas, kind, left, right, height, (opened - 1), (upd ruleThen (x1).toNatClampNeg (rules (x1).toNatClampNeg)), heads, (upd boxOf (x1).toNatClampNeg (around (inner).toNatClampNeg)), (upd shutBy (inner).toNatClampNeg x1), around, (around (inner).toNatClampNeg))) else (pz_bnd (f_X4_headOf formulas kind left right height ps qs fs heads shutBy x1 (rules (x1).toNatClampNeg) (-1)) (fun z_12 => if z_12.1 = (-4) then ((7, z_12.2.1, z_12.2.2.1, z_12.2.2.2.1, z_12.2.2.2.2.1, z_12.2.2.2.2.2, opened, (upd ruleThen (x1).toNatClampNeg (rules (x1).toNatClampNeg)), heads, boxOf, shutBy, around, inner)) else (if (rules (x1).toNatClampNeg) = 1 then ((0, z_12.2.1, z_12.2.2.1, z_12.2.2.2.1, z_12.2.2.2.2.1, z_12.2.2.2.2.2, (opened + 1), (upd ruleThen (x1).toNatClampNeg (rules (x1).toNatClampNeg)), (upd heads (x1).toNatClampNeg z_12.1), (upd boxOf (x1).toNatClampNeg x1), (upd shutBy (x1).toNatClampNeg (-1)), (upd around (x1).toNatClampNeg inner), x1)) else ((0, z_12.2.1, z_12.2.2.1, z_12.2.2.2.1, z_12.2.2.2.2.1, z_12.2.2.2.2.2, opened, (upd ruleThen (x1).toNatClampNeg (rules (x1).toNatClampNeg)), (upd heads (x1).toNatClampNeg z_12.1), (upd boxOf (x1).toNatClampNeg inner), shutBy, around, inner)))))) else ((z_7, formulas, kind, left, right, height, opened, ruleThen, heads, boxOf, shutBy, around, inner))))) else (pz_bnd (f_X4_badForm kind left right (rules (x1).toNatClampNeg) (heads ((ps (x1).toNatClampNeg)).toNatClampNeg)) (fun z_42 => if z_42 = 0 then (pz_bnd (f_X4_badBoxes left right ps qs rs ruleThen heads shutBy around inner x1 (rules (x1).toNatClampNeg) (heads ((ps (x1).toNatClampNeg)).toNatClampNeg)) (fun z_59 => if z_59 = 0 then (if (rules (x1).toNatClampNeg) = 2 then ((0, formulas, kind, left, right, height, (opened - 1), (upd ruleThen (x1).toNatClampNeg (rules (x1).toNatClampNeg)), heads, (upd boxOf (x1).toNatClampNeg (around (inner).toNatClampNeg)), (upd shutBy (inner).toNatClampNeg x1), around, (around (inner).toNatClampNeg))) else (pz_bnd (f_X4_headOf formulas kind left right height ps qs fs heads shutBy x1 (rules (x1).toNatClampNeg) (heads ((ps (x1).toNatClampNeg)).toNatClampNeg)) (fun z_63 => if z_63.1 = (-4) then ((7, z_63.2.1, z_63.2.2.1, z_63.2.2.2.1, z_63.2.2.2.2.1, z_63.2.2.2.2.2, opened, (upd ruleThen (x1).toNatClampNeg (rules (x1).toNatClampNeg)), heads, boxOf, shutBy, around, inner)) else (if (rules (x1).toNatClampNeg) = 1 then ((0, z_63.2.1, z_63.2.2.1, z_63.2.2.2.1, z_63.2.2.2.2.1, z_63.2.2.2.2.2, (opened + 1), (upd ruleThen (x1).toNatClampNeg (rules (x1).toNatClampNeg)), (upd heads (x1).toNatClampNeg z_63.1), (upd boxOf (x1).toNatClampNeg x1), (upd shutBy (x1).toNatClampNeg (-1)), (upd around (x1).toNatClampNeg inner), x1)) else ((0, z_63.2.1, z_63.2.2.1, z_63.2.2.2.1, z_63.2.2.2.2.1, z_63.2.2.2.2.2, opened, (upd ruleThen (x1).toNatClampNeg (rules (x1).toNatClampNeg)), (upd heads (x1).toNatClampNeg z_63.1), (upd boxOf (x1).toNatClampNeg inner), shutBy, around, inner)))))) else ((z_59, formulas, kind, left, right, height, opened, ruleThen, heads, boxOf, shutBy, around, inner)))) else (if z_42 = 0 then (if (rules (x1).toNatClampNeg) = 2 then ((0, formulas, kind, left, right, height, (opened - 1), (upd ruleThen (x1).toNatClampNeg (rules (x1).toNatClampNeg)), heads, (upd boxOf (x1).toNatClampNeg (around (inner).toNatClampNeg)), (upd shutBy (inner).toNatClampNeg x1), around, (around (inner).toNatClampNeg))) else (pz_bnd (f_X4_headOf formulas kind left right height ps qs fs heads shutBy x1 (rules (x1).toNatClampNeg) (heads ((ps (x1).toNatClampNeg)).toNatClampNeg)) (fun z_47 => if z_47.1 = (-4) then ((7, z_47.2.1, z_47.2.2.1, z_47.2.2.2.1, z_47.2.2.2.2.1, z_47.2.2.2.2.2, opened, (upd ruleThen (x1).toNatClampNeg (rules (x1).toNatClampNeg)), heads, boxOf, shutBy, around, inner)) else (if (rules (x1).toNatClampNeg) = 1 then ((0, z_47.2.1, z_47.2.2.1, z_47.2.2.2.1, z_47.2.2.2.2.1, z_47.2.2.2.2.2, (opened + 1), (upd ruleThen (x1).toNatClampNeg (rules (x1).toNatClampNeg)), (upd heads (x1).toNatClampNeg z_47.1), (upd boxOf (x1).toNatClampNeg x1), (upd shutBy (x1).toNatClampNeg (-1)), (upd around (x1).toNatClampNeg inner), x1)) else ((0, z_47.2.1, z_47.2.2.1, z_47.2.2.2.1, z_47.2.2.2.2.1, z_47.2.2.2.2.2, opened, (upd ruleThen (x1).toNatClampNeg (rules (x1).toNatClampNeg)), (upd heads (x1).toNatClampNeg z_47.1), (upd boxOf (x1).toNatClampNeg inner), shutBy, around, inner)))))) else ((z_42, formulas, kind, left, right, height, opened, ruleThen, heads, boxOf, shutBy, around, inner)))))) else ((z_4, formulas, kind, left, right, height, opened, ruleThen, heads, boxOf, shutBy, around, inner)))))
theorem fl_X4_look_102 : Cond.fieldLink RX4 102 "BoxProofsModel" "inner" "I" ∈ wsX4_look := by decide +kernel
theorem fl_X4_look_122 : Cond.fieldLink RX4 122 "BoxProofsModel" "opened" "I" ∈ wsX4_look := by decide +kernel
theorem fl_X4_look_26 : Cond.fieldLink RX4 26 "BoxProofsModel" "rules" "[I" ∈ wsX4_look := by decide +kernel
theorem fl_X4_look_29 : Cond.fieldLink RX4 29 "BoxProofsModel" "ps" "[I" ∈ wsX4_look := by decide +kernel
theorem fl_X4_look_41 : Cond.fieldLink RX4 41 "BoxProofsModel" "ruleThen" "[I" ∈ wsX4_look := by decide +kernel
theorem fl_X4_look_44 : Cond.fieldLink RX4 44 "BoxProofsModel" "heads" "[I" ∈ wsX4_look := by decide +kernel
theorem fl_X4_look_47 : Cond.fieldLink RX4 47 "BoxProofsModel" "boxOf" "[I" ∈ wsX4_look := by decide +kernel
theorem fl_X4_look_50 : Cond.fieldLink RX4 50 "BoxProofsModel" "shutBy" "[I" ∈ wsX4_look := by decide +kernel
theorem fl_X4_look_53 : Cond.fieldLink RX4 53 "BoxProofsModel" "around" "[I" ∈ wsX4_look := by decide +kernel
theorem hdV_X4_badBoxes : yX4_badBoxes.cls = RX4 ∧ yX4_badBoxes.cls ≠ "java/lang/invoke/MethodHandle" ∧ yX4_badBoxes.cls ≠ "java/lang/invoke/VarHandle" ∧ (parseMethodDescriptor yX4_badBoxes.desc).map (fun d => d.parameters.length) = some 3 := by decide +kernel
theorem hdV_X4_badForm : yX4_badForm.cls = RX4 ∧ yX4_badForm.cls ≠ "java/lang/invoke/MethodHandle" ∧ yX4_badForm.cls ≠ "java/lang/invoke/VarHandle" ∧ (parseMethodDescriptor yX4_badForm.desc).map (fun d => d.parameters.length) = some 2 := by decide +kernel
theorem hdV_X4_badNumbers : yX4_badNumbers.cls = RX4 ∧ yX4_badNumbers.cls ≠ "java/lang/invoke/MethodHandle" ∧ yX4_badNumbers.cls ≠ "java/lang/invoke/VarHandle" ∧ (parseMethodDescriptor yX4_badNumbers.desc).map (fun d => d.parameters.length) = some 2 := by decide +kernel
theorem hdV_X4_headOf : yX4_headOf.cls = RX4 ∧ yX4_headOf.cls ≠ "java/lang/invoke/MethodHandle" ∧ yX4_headOf.cls ≠ "java/lang/invoke/VarHandle" ∧ (parseMethodDescriptor yX4_headOf.desc).map (fun d => d.parameters.length) = some 3 := by decide +kernel
theorem in_X4_look_X4 : ∀ w ∈ wsX40, w ∈ wsX4_look := by decide +kernel
set_option maxHeartbeats 4000000 in
set_option maxRecDepth 100000 in
theorem c_X4_look (l : Launch) (D : va_G) (q : Nat → Nat) (k : Nat → ClassId) (formulas : Int32) (kind : Nat → Int32) (left : Nat → Int32) (right : Nat → Int32) (height : Nat → Int32) (laid : Nat → Int32) (rules : Nat → Int32) (ps : Nat → Int32) (qs : Nat → Int32) (rs : Nat → Int32) (fs : Nat → Int32) (checked : Int32) (stopped : Int32) (reason : Int32) (made : Int32) (opened : Int32) (ruleThen : Nat → Int32) (heads : Nat → Int32) (boxOf : Nat → Int32) (shutBy : Nat → Int32) (around : Nat → Int32) (inner : Int32) (truth : Nat → Int32) (turned : Nat → Int32) (pile : Nat → Int32) (x1 : Int32) (hf : pz_F formulas kind left right) (hk : vp_in x1 60) (hmi : pz_MI x1.toInt formulas ruleThen heads boxOf shutBy around inner) : Met l yX4_look wsX4_look ({ frames := 4, cells := 0, slots := 0, locals := 90 }) (va_Pc [.ref (q 0), .int (x1)] (fun U => va_P D vwCl (pz_M q k formulas kind left right height laid rules ps qs rs fs checked stopped reason made opened ruleThen heads boxOf shutBy around inner truth turned pile) U.heap ∧ pz_KM D q k U)) (va_Qi (fun r (u : (Int32) × (Nat → Int32) × (Nat → Int32) × (Nat → Int32) × (Nat → Int32) × (Int32) × (Nat → Int32) × (Nat → Int32) × (Nat → Int32) × (Nat → Int32) × (Nat → Int32) × (Int32)) => (r, u) = (f_X4_look formulas kind left right height rules ps qs rs fs opened ruleThen heads boxOf shutBy around inner x1)) (fun u t => va_P D vwCl (pz_M q k u.1 u.2.1 u.2.2.1 u.2.2.2.1 u.2.2.2.2.1 laid rules ps qs rs fs checked stopped reason made u.2.2.2.2.2.1 u.2.2.2.2.2.2.1 u.2.2.2.2.2.2.2.1 u.2.2.2.2.2.2.2.2.1 u.2.2.2.2.2.2.2.2.2.1 u.2.2.2.2.2.2.2.2.2.2.1 u.2.2.2.2.2.2.2.2.2.2.2 truth turned pile) t.heap) (pz_A 19 q)) 0 0 (pz_A 19 q) := by
  refine Met.ofW (cc := cX4_look) (maxL := 6) (ret := (some .int)) (by decide) rfl ?_
  intro p e s m args below meth c s₁ B hml hv
  obtain ⟨rfl, hP, hKX⟩ := hv
  have hx := B.exec
  have hb := B.bytes
  have hr := B.returns
  have hts := atoms_spec (ws := wsX4_look) B.pre
  have hown : s.vm.findClass RX4 = some m.cls := findClass_of_methodNamed B.named
  have hlocks := B.notSynchronized
  have hC : pz_C p s m ([.ref (q 0), .int (x1)] : List Value).toArray meth c cX4_look wsX4_look RX4 6 (some .int) := ⟨hx, hb, hml, hown, hts, hr, hlocks⟩
  have hK := hKX.1
  have hS : va_S (pz_A 19 q) s.heap s.heap [] := va_S.rf
  have hl := lv_entry [.ref (q 0), .int (x1)] (n := 6) (Nat.le_of_ble_eq_true rfl)
  rw [lg_entry_eq]
  generalize (lg_sl [.ref (q 0), .int (x1)] ++ List.replicate (6 - (lg_sl [.ref (q 0), .int (x1)]).length) Slot.unset).toArray = ls at hl ⊢
  have hl : lv_has ls 6 [(0, .ref (q 0)), (1, .int (x1))] := hl
  generalize hF : f_X4_look formulas kind left right height rules ps qs rs fs opened ruleThen heads boxOf shutBy around inner x1 = G
  replace hF := hF.symm
  unfold f_X4_look at hF
  refine lv_aload_n hx hb dX4_look_0 rfl (lv_at hl 0 rfl) ?_
  refine va_get (D := D) (ci := 4) (v := .ref (q 6)) (C := RX4) (T := TX4) (N := 25) hx hb hts in_X4_look_X4 hown hK hP 0 rfl rfl 6 (by decide) (hts _ fl_X4_look_26) (fun _ h9 => h9) rfl dX4_look_1 ?_
  refine lv_iload_n hx hb dX4_look_4 rfl (lv_at hl 1 rfl) ?_
  have hi_1 : vp_in x1 60 := hk
  refine va_iald hx hb hK hP 6 0 rfl rfl hi_1 dX4_look_5 ?_
  refine lv_istore_n (lv' := [(2, .int ((rules (x1).toNatClampNeg))), (0, .ref (q 0)), (1, .int (x1))]) hx hb dX4_look_6 rfl hl (by decide) rfl (fun ls hl => ?_)
  refine lv_iload_n hx hb dX4_look_7 rfl (lv_at hl 0 rfl) ?_
  refine lv_iconst (v := 0) hx hb dX4_look_8 (by decide) ?_
  refine lv_bipush (v := 13) hx hb dX4_look_9 (by decide) ?_
  refine pz_Si (As := [.int ((rules (x1).toNatClampNeg)), .int (0), .int (13)]) (rest := []) ⟨hx, hb, hml, hown, hts⟩ (c_X4_within l (rules (x1).toNatClampNeg) 0 13) (va_cwS 3 hts gX4_look_X4_within rfl rfl rfl hdS_X4_within ⟨Nat.le_of_ble_eq_true rfl, Nat.le_of_ble_eq_true rfl⟩) hP hS rfl hl.1 rfl (Nat.le_of_ble_eq_true rfl) dX4_look_11 ⟨Nat.zero_le _, Nat.zero_le _⟩ (fun r_2 H locs hF_2 hP hS => ?_)
  have hF := hF.trans (pz_be hF_2)
  refine lv_if_ne (tgt := 20) hx hb dX4_look_14 (by decide) (fun c_3 => ?_) (fun c_3 => ?_)
  · have hF := hF.trans (if_neg c_3)
    refine lv_aload_n hx hb dX4_look_20 rfl (lv_at hl 1 rfl) ?_
    refine lv_iload_n hx hb dX4_look_21 rfl (lv_at hl 2 rfl) ?_
    refine lv_iload_n hx hb dX4_look_22 rfl (lv_at hl 0 rfl) ?_
    refine pz_Vi (As := [.int (x1), .int ((rules (x1).toNatClampNeg))]) (rest := []) ⟨hx, hb, hml, hown, hts⟩ (c_X4_badNumbers l D q k formulas kind left right height laid rules ps qs rs fs checked stopped reason made opened ruleThen heads boxOf shutBy around inner truth turned pile x1 (rules (x1).toNatClampNeg) hk hmi.1 hmi.2.2.1) (cwV 2 hts gX4_look_X4_badNumbers rfl rfl rfl hdV_X4_badNumbers ⟨Nat.le_of_ble_eq_true rfl, Nat.le_of_ble_eq_true rfl⟩) pz_KM.call hKX.go (va_recv hK hP (ci := 4) (q0 := 0) rfl rfl) hP hS rfl hl.1 rfl (Nat.le_of_ble_eq_true rfl) dX4_look_23 ⟨Nat.zero_le _, Nat.zero_le _⟩ (fun r_4 u_4 H locs hF_4 hP hS => ?_)
    have hF := hF.trans (pz_be hF_4)
    refine lv_istore_n (lv' := [(3, .int (r_4)), (2, .int ((rules (x1).toNatClampNeg))), (0, .ref (q 0)), (1, .int (x1))]) hx hb dX4_look_26 rfl hl (by decide) rfl (fun ls hl => ?_)
    refine lv_iload_n hx hb dX4_look_27 rfl (lv_at hl 0 rfl) ?_
    refine lv_if_eq (tgt := 33) hx hb dX4_look_28 (by decide) (fun c_5 => ?_) (fun c_5 => ?_)
    · have hF := hF.trans (if_pos c_5)
      refine lv_iload_n hx hb dX4_look_33 rfl (lv_at hl 1 rfl) ?_
      refine lv_iconst (v := 2) hx hb dX4_look_34 (by decide) ?_
      refine lv_icmp_le (tgt := 52) hx hb dX4_look_35 (by decide) (fun c_6 => ?_) (fun c_6 => ?_)
      · have hF := hF.trans (if_pos c_6)
        refine lv_iconst (v := (-1)) hx hb dX4_look_52 (by decide) ?_
        refine lv_istore (lv' := [(4, .int ((-1))), (3, .int (r_4)), (2, .int ((rules (x1).toNatClampNeg))), (0, .ref (q 0)), (1, .int (x1))]) hx hb dX4_look_53 hl (by decide) rfl (fun ls hl => ?_)
        refine lv_aload_n hx hb dX4_look_55 rfl (lv_at hl 3 rfl) ?_
        refine lv_iload_n hx hb dX4_look_56 rfl (lv_at hl 2 rfl) ?_
        refine lv_iload hx hb dX4_look_57 (lv_at hl 0 rfl) ?_
        refine pz_Vi (As := [.int ((rules (x1).toNatClampNeg)), .int ((-1))]) (rest := []) ⟨hx, hb, hml, hown, hts⟩ (c_X4_badForm l D q k formulas kind left right height laid rules ps qs rs fs checked stopped reason made opened ruleThen heads boxOf shutBy around inner truth turned pile (rules (x1).toNatClampNeg) (-1) hf (by first | exact pz_HG hmi ‹_› ‹_› | exact pz_HG0 ‹_›)) (cwV 2 hts gX4_look_X4_badForm rfl rfl rfl hdV_X4_badForm ⟨Nat.le_of_ble_eq_true rfl, Nat.le_of_ble_eq_true rfl⟩) pz_KM.call hKX.go (va_recv hK hP (ci := 4) (q0 := 0) rfl rfl) hP hS rfl hl.1 rfl (Nat.le_of_ble_eq_true rfl) dX4_look_59 ⟨Nat.zero_le _, Nat.zero_le _⟩ (fun r_7 u_7 H locs hF_7 hP hS => ?_)
        have hF := hF.trans (pz_be hF_7)
        refine lv_istore_n (lv' := [(3, .int (r_7)), (4, .int ((-1))), (2, .int ((rules (x1).toNatClampNeg))), (0, .ref (q 0)), (1, .int (x1))]) hx hb dX4_look_62 rfl hl (by decide) rfl (fun ls hl => ?_)
        refine lv_iload_n hx hb dX4_look_63 rfl (lv_at hl 0 rfl) ?_
        refine lv_if_ne (tgt := 78) hx hb dX4_look_64 (by decide) (fun c_8 => ?_) (fun c_8 => ?_)
        · have hF := hF.trans (if_neg c_8)
          refine lv_iload_n hx hb dX4_look_78 rfl (lv_at hl 0 rfl) ?_
          refine lv_istore_n (lv' := [(3, .int (r_7)), (4, .int ((-1))), (2, .int ((rules (x1).toNatClampNeg))), (0, .ref (q 0)), (1, .int (x1))]) hx hb dX4_look_79 rfl hl (by decide) rfl (fun ls hl => ?_)
          refine lv_iload_n hx hb dX4_look_80 rfl (lv_at hl 0 rfl) ?_
          refine lv_if_eq (tgt := 86) hx hb dX4_look_81 (by decide) (fun c_9 => ?_) (fun c_9 => ?_)
          · have hF := hF.trans (if_pos c_9)
            refine lv_aload_n hx hb dX4_look_86 rfl (lv_at hl 3 rfl) ?_
            refine va_get (D := D) (ci := 4) (v := .ref (q 11)) (C := RX4) (T := TX4) (N := 25) hx hb hts in_X4_look_X4 hown hK hP 0 rfl rfl 16 (by decide) (hts _ fl_X4_look_41) (fun _ h9 => h9) rfl dX4_look_87 ?_
            refine lv_iload_n hx hb dX4_look_90 rfl (lv_at hl 4 rfl) ?_
            refine lv_iload_n hx hb dX4_look_91 rfl (lv_at hl 2 rfl) ?_
            have hi_10 : vp_in x1 60 := hk
            refine va_iast hx hb hK hP (pz_D hKX.2 rfl) hS 11 0 rfl rfl hi_10 dX4_look_92 (fun H locs hP _ hS => ?_)
            have hP : va_P D vwCl (pz_M q k formulas kind left right height laid rules ps qs rs fs checked stopped reason made opened (upd ruleThen (x1).toNatClampNeg (rules (x1).toNatClampNeg)) heads boxOf shutBy around inner truth turned pile) H := hP
            refine lv_iload_n hx hb dX4_look_93 rfl (lv_at hl 2 rfl) ?_
            refine lv_iconst (v := 2) hx hb dX4_look_94 (by decide) ?_
            refine lv_icmp_ne (tgt := 143) hx hb dX4_look_95 (by decide) (fun c_11 => ?_) (fun c_11 => ?_)
            · have hF := hF.trans (if_neg c_11)
              refine lv_aload_n hx hb dX4_look_143 rfl (lv_at hl 3 rfl) ?_
              refine lv_iload_n hx hb dX4_look_144 rfl (lv_at hl 4 rfl) ?_
              refine lv_iload_n hx hb dX4_look_145 rfl (lv_at hl 2 rfl) ?_
              refine lv_iload hx hb dX4_look_146 (lv_at hl 1 rfl) ?_
              refine pz_Vi (As := [.int (x1), .int ((rules (x1).toNatClampNeg)), .int ((-1))]) (rest := []) ⟨hx, hb, hml, hown, hts⟩ (c_X4_headOf l D q k formulas kind left right height laid rules ps qs rs fs checked stopped reason made opened (upd ruleThen (x1).toNatClampNeg (rules (x1).toNatClampNeg)) heads boxOf shutBy around inner truth turned pile x1 (rules (x1).toNatClampNeg) (-1) hf.1 hk (pz_HO4 hf.1 hmi ‹_› ‹_› (by first | exact pz_HG hmi ‹_› ‹_› | exact pz_HG0 ‹_›)) (pz_HOg hf.1 (by first | exact pz_HG hmi ‹_› ‹_› | exact pz_HG0 ‹_›)) (pz_HO7 hf.1 ‹_› ‹_› (by first | exact pz_HG hmi ‹_› ‹_› | exact pz_HG0 ‹_›)) (by first | exact pz_HO9 hmi.2.1 ‹_› ‹_› ‹_› ‹_› | contradiction) (by first | exact pz_HO10 hf.1 hmi ‹_› ‹_› ‹_› ‹_› | contradiction) (by first | exact pz_HO13 hf ‹_› ‹_› (by first | exact pz_HG hmi ‹_› ‹_› | exact pz_HG0 ‹_›) | contradiction)) (cwV 3 hts gX4_look_X4_headOf rfl rfl rfl hdV_X4_headOf ⟨Nat.le_of_ble_eq_true rfl, Nat.le_of_ble_eq_true rfl⟩) pz_KM.call hKX.go (va_recv hK hP (ci := 4) (q0 := 0) rfl rfl) hP hS rfl hl.1 rfl (Nat.le_of_ble_eq_true rfl) dX4_look_148 ⟨Nat.zero_le _, Nat.zero_le _⟩ (fun r_12 u_12 H locs hF_12 hP hS => ?_)
              obtain ⟨w_12_formulas, w_12_kind, w_12_left, w_12_right, w_12_height⟩ := u_12
              have hP : va_P D vwCl (pz_M q k w_12_formulas w_12_kind w_12_left w_12_right w_12_height laid rules ps qs rs fs checked stopped reason made opened (upd ruleThen (x1).toNatClampNeg (rules (x1).toNatClampNeg)) heads boxOf shutBy around inner truth turned pile) H := hP
              have hF := hF.trans (pz_be hF_12)
              try dsimp only at hF
              refine lv_istore (lv' := [(5, .int (r_12)), (3, .int (r_7)), (4, .int ((-1))), (2, .int ((rules (x1).toNatClampNeg))), (0, .ref (q 0)), (1, .int (x1))]) hx hb dX4_look_151 hl (by decide) rfl (fun ls hl => ?_)
              refine lv_iload hx hb dX4_look_153 (lv_at hl 0 rfl) ?_
              refine lv_bipush (v := (-4)) hx hb dX4_look_155 (by decide) ?_
              refine lv_icmp_ne (tgt := 163) hx hb dX4_look_157 (by decide) (fun c_13 => ?_) (fun c_13 => ?_)
              · have hF := hF.trans (if_neg c_13)
                refine lv_iload_n hx hb dX4_look_163 rfl (lv_at hl 3 rfl) ?_
                refine lv_iconst (v := 1) hx hb dX4_look_164 (by decide) ?_
                refine lv_icmp_ne (tgt := 200) hx hb dX4_look_165 (by decide) (fun c_14 => ?_) (fun c_14 => ?_)
                · have hF := hF.trans (if_neg c_14)
                  refine lv_aload_n hx hb dX4_look_200 rfl (lv_at hl 4 rfl) ?_
                  refine va_get (D := D) (ci := 4) (v := .ref (q 12)) (C := RX4) (T := TX4) (N := 25) hx hb hts in_X4_look_X4 hown hK hP 0 rfl rfl 17 (by decide) (hts _ fl_X4_look_44) (fun _ h9 => h9) rfl dX4_look_201 ?_
                  refine lv_iload_n hx hb dX4_look_204 rfl (lv_at hl 5 rfl) ?_
                  refine lv_iload hx hb dX4_look_205 (lv_at hl 0 rfl) ?_
                  have hi_15 : vp_in x1 60 := hk
                  refine va_iast hx hb hK hP (pz_D hKX.2 rfl) hS 12 0 rfl rfl hi_15 dX4_look_207 (fun H locs hP _ hS => ?_)
                  have hP : va_P D vwCl (pz_M q k w_12_formulas w_12_kind w_12_left w_12_right w_12_height laid rules ps qs rs fs checked stopped reason made opened (upd ruleThen (x1).toNatClampNeg (rules (x1).toNatClampNeg)) (upd heads (x1).toNatClampNeg r_12) boxOf shutBy around inner truth turned pile) H := hP
                  refine lv_aload_n hx hb dX4_look_208 rfl (lv_at hl 4 rfl) ?_
                  refine va_get (D := D) (ci := 4) (v := .ref (q 13)) (C := RX4) (T := TX4) (N := 25) hx hb hts in_X4_look_X4 hown hK hP 0 rfl rfl 18 (by decide) (hts _ fl_X4_look_47) (fun _ h9 => h9) rfl dX4_look_209 ?_
                  refine lv_iload_n hx hb dX4_look_212 rfl (lv_at hl 5 rfl) ?_
                  refine lv_aload_n hx hb dX4_look_213 rfl (lv_at hl 4 rfl) ?_
                  refine va_get (D := D) (ci := 4) (v := .int (inner)) (C := RX4) (T := TX4) (N := 25) hx hb hts in_X4_look_X4 hown hK hP 0 rfl rfl 21 (by decide) (hts _ fl_X4_look_102) (fun _ h9 => h9) rfl dX4_look_214 ?_
                  have hi_16 : vp_in x1 60 := hk
                  refine va_iast hx hb hK hP (pz_D hKX.2 rfl) hS 13 0 rfl rfl hi_16 dX4_look_217 (fun H locs hP _ hS => ?_)
                  have hP : va_P D vwCl (pz_M q k w_12_formulas w_12_kind w_12_left w_12_right w_12_height laid rules ps qs rs fs checked stopped reason made opened (upd ruleThen (x1).toNatClampNeg (rules (x1).toNatClampNeg)) (upd heads (x1).toNatClampNeg r_12) (upd boxOf (x1).toNatClampNeg inner) shutBy around inner truth turned pile) H := hP
                  refine lv_iconst (v := 0) hx hb dX4_look_218 (by decide) ?_
                  exact W.iret (v := 0) hx hb hr (fun t ht hW => ⟨⟨0, (w_12_formulas, w_12_kind, w_12_left, w_12_right, w_12_height, opened, (upd ruleThen (x1).toNatClampNeg (rules (x1).toNatClampNeg)), (upd heads (x1).toNatClampNeg r_12), (upd boxOf (x1).toNatClampNeg inner), shutBy, around, inner), rfl, hF.symm, pz_hp ht hP⟩, hS.F ht⟩) hS.2.2 dX4_look_219 hlocks
                · have hF := hF.trans (if_pos c_14)
                  refine lv_aload_n hx hb dX4_look_168 rfl (lv_at hl 4 rfl) ?_
                  refine va_get (D := D) (ci := 4) (v := .ref (q 15)) (C := RX4) (T := TX4) (N := 25) hx hb hts in_X4_look_X4 hown hK hP 0 rfl rfl 20 (by decide) (hts _ fl_X4_look_53) (fun _ h9 => h9) rfl dX4_look_169 ?_
                  refine lv_iload_n hx hb dX4_look_172 rfl (lv_at hl 5 rfl) ?_
                  refine lv_aload_n hx hb dX4_look_173 rfl (lv_at hl 4 rfl) ?_
                  refine va_get (D := D) (ci := 4) (v := .int (inner)) (C := RX4) (T := TX4) (N := 25) hx hb hts in_X4_look_X4 hown hK hP 0 rfl rfl 21 (by decide) (hts _ fl_X4_look_102) (fun _ h9 => h9) rfl dX4_look_174 ?_
                  have hi_17 : vp_in x1 60 := hk
                  refine va_iast hx hb hK hP (pz_D hKX.2 rfl) hS 15 0 rfl rfl hi_17 dX4_look_177 (fun H locs hP _ hS => ?_)
                  have hP : va_P D vwCl (pz_M q k w_12_formulas w_12_kind w_12_left w_12_right w_12_height laid rules ps qs rs fs checked stopped reason made opened (upd ruleThen (x1).toNatClampNeg (rules (x1).toNatClampNeg)) heads boxOf shutBy (upd around (x1).toNatClampNeg inner) inner truth turned pile) H := hP
                  refine lv_aload_n hx hb dX4_look_178 rfl (lv_at hl 4 rfl) ?_
                  refine va_get (D := D) (ci := 4) (v := .ref (q 14)) (C := RX4) (T := TX4) (N := 25) hx hb hts in_X4_look_X4 hown hK hP 0 rfl rfl 19 (by decide) (hts _ fl_X4_look_50) (fun _ h9 => h9) rfl dX4_look_179 ?_
                  refine lv_iload_n hx hb dX4_look_182 rfl (lv_at hl 5 rfl) ?_
                  refine lv_iconst (v := (-1)) hx hb dX4_look_183 (by decide) ?_
                  have hi_18 : vp_in x1 60 := hk
                  refine va_iast hx hb hK hP (pz_D hKX.2 rfl) hS 14 0 rfl rfl hi_18 dX4_look_184 (fun H locs hP _ hS => ?_)
                  have hP : va_P D vwCl (pz_M q k w_12_formulas w_12_kind w_12_left w_12_right w_12_height laid rules ps qs rs fs checked stopped reason made opened (upd ruleThen (x1).toNatClampNeg (rules (x1).toNatClampNeg)) heads boxOf (upd shutBy (x1).toNatClampNeg (-1)) (upd around (x1).toNatClampNeg inner) inner truth turned pile) H := hP
                  refine lv_aload_n hx hb dX4_look_185 rfl (lv_at hl 4 rfl) ?_
                  refine lv_iload_n hx hb dX4_look_186 rfl (lv_at hl 5 rfl) ?_
                  refine va_put (D := D) (ci := 4) (v := .int (x1)) (ty := .int) (C := RX4) (T := TX4) (N := 25) hx hb hts in_X4_look_X4 tyX4 tyX4_ok nmX4 hown hK hP (pz_D hKX.2 rfl) hS 0 rfl rfl 21 (by decide) (hts _ fl_X4_look_102) (fun _ h9 => h9) rfl (by decide +kernel) rfl rfl (Nat.le_of_ble_eq_true rfl) dX4_look_187 (fun H locs hP _ hS => ?_)
                  have hP : va_P D vwCl (pz_M q k w_12_formulas w_12_kind w_12_left w_12_right w_12_height laid rules ps qs rs fs checked stopped reason made opened (upd ruleThen (x1).toNatClampNeg (rules (x1).toNatClampNeg)) heads boxOf (upd shutBy (x1).toNatClampNeg (-1)) (upd around (x1).toNatClampNeg inner) x1 truth turned pile) H := hP
                  refine lv_aload_n hx hb dX4_look_190 rfl (lv_at hl 4 rfl) ?_
                  refine lv_dup hx hb dX4_look_191 rfl ?_
                  refine va_get (D := D) (ci := 4) (v := .int (opened)) (C := RX4) (T := TX4) (N := 25) hx hb hts in_X4_look_X4 hown hK hP 0 rfl rfl 15 (by decide) (hts _ fl_X4_look_122) (fun _ h9 => h9) rfl dX4_look_192 ?_
                  refine lv_iconst (v := 1) hx hb dX4_look_195 (by decide) ?_
                  refine lv_iadd hx hb dX4_look_196 ?_
                  refine va_put (D := D) (ci := 4) (v := .int ((opened + 1))) (ty := .int) (C := RX4) (T := TX4) (N := 25) hx hb hts in_X4_look_X4 tyX4 tyX4_ok nmX4 hown hK hP (pz_D hKX.2 rfl) hS 0 rfl rfl 15 (by decide) (hts _ fl_X4_look_122) (fun _ h9 => h9) rfl (by decide +kernel) rfl rfl (Nat.le_of_ble_eq_true rfl) dX4_look_197 (fun H locs hP _ hS => ?_)
                  have hP : va_P D vwCl (pz_M q k w_12_formulas w_12_kind w_12_left w_12_right w_12_height laid rules ps qs rs fs checked stopped reason made (opened + 1) (upd ruleThen (x1).toNatClampNeg (rules (x1).toNatClampNeg)) heads boxOf (upd shutBy (x1).toNatClampNeg (-1)) (upd around (x1).toNatClampNeg inner) x1 truth turned pile) H := hP
                  refine lv_aload_n hx hb dX4_look_200 rfl (lv_at hl 4 rfl) ?_
                  refine va_get (D := D) (ci := 4) (v := .ref (q 12)) (C := RX4) (T := TX4) (N := 25) hx hb hts in_X4_look_X4 hown hK hP 0 rfl rfl 17 (by decide) (hts _ fl_X4_look_44) (fun _ h9 => h9) rfl dX4_look_201 ?_
                  refine lv_iload_n hx hb dX4_look_204 rfl (lv_at hl 5 rfl) ?_
                  refine lv_iload hx hb dX4_look_205 (lv_at hl 0 rfl) ?_
                  have hi_19 : vp_in x1 60 := hk
                  refine va_iast hx hb hK hP (pz_D hKX.2 rfl) hS 12 0 rfl rfl hi_19 dX4_look_207 (fun H locs hP _ hS => ?_)
                  have hP : va_P D vwCl (pz_M q k w_12_formulas w_12_kind w_12_left w_12_right w_12_height laid rules ps qs rs fs checked stopped reason made (opened + 1) (upd ruleThen (x1).toNatClampNeg (rules (x1).toNatClampNeg)) (upd heads (x1).toNatClampNeg r_12) boxOf (upd shutBy (x1).toNatClampNeg (-1)) (upd around (x1).toNatClampNeg inner) x1 truth turned pile) H := hP
                  refine lv_aload_n hx hb dX4_look_208 rfl (lv_at hl 4 rfl) ?_
                  refine va_get (D := D) (ci := 4) (v := .ref (q 13)) (C := RX4) (T := TX4) (N := 25) hx hb hts in_X4_look_X4 hown hK hP 0 rfl rfl 18 (by decide) (hts _ fl_X4_look_47) (fun _ h9 => h9) rfl dX4_look_209 ?_
                  refine lv_iload_n hx hb dX4_look_212 rfl (lv_at hl 5 rfl) ?_
                  refine lv_aload_n hx hb dX4_look_213 rfl (lv_at hl 4 rfl) ?_
                  refine va_get (D := D) (ci := 4) (v := .int (x1)) (C := RX4) (T := TX4) (N := 25) hx hb hts in_X4_look_X4 hown hK hP 0 rfl rfl 21 (by decide) (hts _ fl_X4_look_102) (fun _ h9 => h9) rfl dX4_look_214 ?_
                  have hi_20 : vp_in x1 60 := hk
                  refine va_iast hx hb hK hP (pz_D hKX.2 rfl) hS 13 0 rfl rfl hi_20 dX4_look_217 (fun H locs hP _ hS => ?_)
                  have hP : va_P D vwCl (pz_M q k w_12_formulas w_12_kind w_12_left w_12_right w_12_height laid rules ps qs rs fs checked stopped reason made (opened + 1) (upd ruleThen (x1).toNatClampNeg (rules (x1).toNatClampNeg)) (upd heads (x1).toNatClampNeg r_12) (upd boxOf (x1).toNatClampNeg x1) (upd shutBy (x1).toNatClampNeg (-1)) (upd around (x1).toNatClampNeg inner) x1 truth turned pile) H := hP
                  refine lv_iconst (v := 0) hx hb dX4_look_218 (by decide) ?_
                  exact W.iret (v := 0) hx hb hr (fun t ht hW => ⟨⟨0, (w_12_formulas, w_12_kind, w_12_left, w_12_right, w_12_height, (opened + 1), (upd ruleThen (x1).toNatClampNeg (rules (x1).toNatClampNeg)), (upd heads (x1).toNatClampNeg r_12), (upd boxOf (x1).toNatClampNeg x1), (upd shutBy (x1).toNatClampNeg (-1)), (upd around (x1).toNatClampNeg inner), x1), rfl, hF.symm, pz_hp ht hP⟩, hS.F ht⟩) hS.2.2 dX4_look_219 hlocks
              · have hF := hF.trans (if_pos c_13)
                refine lv_bipush (v := 7) hx hb dX4_look_160 (by decide) ?_
                exact W.iret (v := 7) hx hb hr (fun t ht hW => ⟨⟨7, (w_12_formulas, w_12_kind, w_12_left, w_12_right, w_12_height, opened, (upd ruleThen (x1).toNatClampNeg (rules (x1).toNatClampNeg)), heads, boxOf, shutBy, around, inner), rfl, hF.symm, pz_hp ht hP⟩, hS.F ht⟩) hS.2.2 dX4_look_162 hlocks
            · have hF := hF.trans (if_pos c_11)
              refine lv_aload_n hx hb dX4_look_98 rfl (lv_at hl 3 rfl) ?_
              refine va_get (D := D) (ci := 4) (v := .ref (q 14)) (C := RX4) (T := TX4) (N := 25) hx hb hts in_X4_look_X4 hown hK hP 0 rfl rfl 19 (by decide) (hts _ fl_X4_look_50) (fun _ h9 => h9) rfl dX4_look_99 ?_
              refine lv_aload_n hx hb dX4_look_102 rfl (lv_at hl 3 rfl) ?_
              refine va_get (D := D) (ci := 4) (v := .int (inner)) (C := RX4) (T := TX4) (N := 25) hx hb hts in_X4_look_X4 hown hK hP 0 rfl rfl 21 (by decide) (hts _ fl_X4_look_102) (fun _ h9 => h9) rfl dX4_look_103 ?_
              refine lv_iload_n hx hb dX4_look_106 rfl (lv_at hl 4 rfl) ?_
              have hi_21 : vp_in inner 60 := by first | exact pz_bxi hmi.2.2.2.2.1 (pz_BB2 ‹_› ‹_› ‹_›) | contradiction
              refine va_iast hx hb hK hP (pz_D hKX.2 rfl) hS 14 0 rfl rfl hi_21 dX4_look_107 (fun H locs hP _ hS => ?_)
              have hP : va_P D vwCl (pz_M q k formulas kind left right height laid rules ps qs rs fs checked stopped reason made opened (upd ruleThen (x1).toNatClampNeg (rules (x1).toNatClampNeg)) heads boxOf (upd shutBy (inner).toNatClampNeg x1) around inner truth turned pile) H := hP
              refine lv_aload_n hx hb dX4_look_108 rfl (lv_at hl 3 rfl) ?_
              refine lv_aload_n hx hb dX4_look_109 rfl (lv_at hl 3 rfl) ?_
              refine va_get (D := D) (ci := 4) (v := .ref (q 15)) (C := RX4) (T := TX4) (N := 25) hx hb hts in_X4_look_X4 hown hK hP 0 rfl rfl 20 (by decide) (hts _ fl_X4_look_53) (fun _ h9 => h9) rfl dX4_look_110 ?_
              refine lv_aload_n hx hb dX4_look_113 rfl (lv_at hl 3 rfl) ?_
              refine va_get (D := D) (ci := 4) (v := .int (inner)) (C := RX4) (T := TX4) (N := 25) hx hb hts in_X4_look_X4 hown hK hP 0 rfl rfl 21 (by decide) (hts _ fl_X4_look_102) (fun _ h9 => h9) rfl dX4_look_114 ?_
              have hi_22 : vp_in inner 60 := by first | exact pz_bxi hmi.2.2.2.2.1 (pz_BB2 ‹_› ‹_› ‹_›) | contradiction
              refine va_iald hx hb hK hP 15 0 rfl rfl hi_22 dX4_look_117 ?_
              refine va_put (D := D) (ci := 4) (v := .int ((around (inner).toNatClampNeg))) (ty := .int) (C := RX4) (T := TX4) (N := 25) hx hb hts in_X4_look_X4 tyX4 tyX4_ok nmX4 hown hK hP (pz_D hKX.2 rfl) hS 0 rfl rfl 21 (by decide) (hts _ fl_X4_look_102) (fun _ h9 => h9) rfl (by decide +kernel) rfl rfl (Nat.le_of_ble_eq_true rfl) dX4_look_118 (fun H locs hP _ hS => ?_)
              have hP : va_P D vwCl (pz_M q k formulas kind left right height laid rules ps qs rs fs checked stopped reason made opened (upd ruleThen (x1).toNatClampNeg (rules (x1).toNatClampNeg)) heads boxOf (upd shutBy (inner).toNatClampNeg x1) around (around (inner).toNatClampNeg) truth turned pile) H := hP
              refine lv_aload_n hx hb dX4_look_121 rfl (lv_at hl 3 rfl) ?_
              refine va_get (D := D) (ci := 4) (v := .ref (q 13)) (C := RX4) (T := TX4) (N := 25) hx hb hts in_X4_look_X4 hown hK hP 0 rfl rfl 18 (by decide) (hts _ fl_X4_look_47) (fun _ h9 => h9) rfl dX4_look_122 ?_
              refine lv_iload_n hx hb dX4_look_125 rfl (lv_at hl 4 rfl) ?_
              refine lv_aload_n hx hb dX4_look_126 rfl (lv_at hl 3 rfl) ?_
              refine va_get (D := D) (ci := 4) (v := .int ((around (inner).toNatClampNeg))) (C := RX4) (T := TX4) (N := 25) hx hb hts in_X4_look_X4 hown hK hP 0 rfl rfl 21 (by decide) (hts _ fl_X4_look_102) (fun _ h9 => h9) rfl dX4_look_127 ?_
              have hi_23 : vp_in x1 60 := hk
              refine va_iast hx hb hK hP (pz_D hKX.2 rfl) hS 13 0 rfl rfl hi_23 dX4_look_130 (fun H locs hP _ hS => ?_)
              have hP : va_P D vwCl (pz_M q k formulas kind left right height laid rules ps qs rs fs checked stopped reason made opened (upd ruleThen (x1).toNatClampNeg (rules (x1).toNatClampNeg)) heads (upd boxOf (x1).toNatClampNeg (around (inner).toNatClampNeg)) (upd shutBy (inner).toNatClampNeg x1) around (around (inner).toNatClampNeg) truth turned pile) H := hP
              refine lv_aload_n hx hb dX4_look_131 rfl (lv_at hl 3 rfl) ?_
              refine lv_dup hx hb dX4_look_132 rfl ?_
              refine va_get (D := D) (ci := 4) (v := .int (opened)) (C := RX4) (T := TX4) (N := 25) hx hb hts in_X4_look_X4 hown hK hP 0 rfl rfl 15 (by decide) (hts _ fl_X4_look_122) (fun _ h9 => h9) rfl dX4_look_133 ?_
              refine lv_iconst (v := 1) hx hb dX4_look_136 (by decide) ?_
              refine lv_isub hx hb dX4_look_137 ?_
              refine va_put (D := D) (ci := 4) (v := .int ((opened - 1))) (ty := .int) (C := RX4) (T := TX4) (N := 25) hx hb hts in_X4_look_X4 tyX4 tyX4_ok nmX4 hown hK hP (pz_D hKX.2 rfl) hS 0 rfl rfl 15 (by decide) (hts _ fl_X4_look_122) (fun _ h9 => h9) rfl (by decide +kernel) rfl rfl (Nat.le_of_ble_eq_true rfl) dX4_look_138 (fun H locs hP _ hS => ?_)
              have hP : va_P D vwCl (pz_M q k formulas kind left right height laid rules ps qs rs fs checked stopped reason made (opened - 1) (upd ruleThen (x1).toNatClampNeg (rules (x1).toNatClampNeg)) heads (upd boxOf (x1).toNatClampNeg (around (inner).toNatClampNeg)) (upd shutBy (inner).toNatClampNeg x1) around (around (inner).toNatClampNeg) truth turned pile) H := hP
              refine lv_iconst (v := 0) hx hb dX4_look_141 (by decide) ?_
              exact W.iret (v := 0) hx hb hr (fun t ht hW => ⟨⟨0, (formulas, kind, left, right, height, (opened - 1), (upd ruleThen (x1).toNatClampNeg (rules (x1).toNatClampNeg)), heads, (upd boxOf (x1).toNatClampNeg (around (inner).toNatClampNeg)), (upd shutBy (inner).toNatClampNeg x1), around, (around (inner).toNatClampNeg)), rfl, hF.symm, pz_hp ht hP⟩, hS.F ht⟩) hS.2.2 dX4_look_142 hlocks
          · have hF := hF.trans (if_neg c_9)
            refine lv_iload_n hx hb dX4_look_84 rfl (lv_at hl 0 rfl) ?_
            exact W.iret (v := r_7) hx hb hr (fun t ht hW => ⟨⟨r_7, (formulas, kind, left, right, height, opened, ruleThen, heads, boxOf, shutBy, around, inner), rfl, hF.symm, pz_hp ht hP⟩, hS.F ht⟩) hS.2.2 dX4_look_85 hlocks
        · have hF := hF.trans (if_pos c_8)
          refine lv_aload_n hx hb dX4_look_67 rfl (lv_at hl 3 rfl) ?_
          refine lv_iload_n hx hb dX4_look_68 rfl (lv_at hl 4 rfl) ?_
          refine lv_iload_n hx hb dX4_look_69 rfl (lv_at hl 2 rfl) ?_
          refine lv_iload hx hb dX4_look_70 (lv_at hl 1 rfl) ?_
          refine pz_Vi (As := [.int (x1), .int ((rules (x1).toNatClampNeg)), .int ((-1))]) (rest := []) ⟨hx, hb, hml, hown, hts⟩ (c_X4_badBoxes l D q k formulas kind left right height laid rules ps qs rs fs checked stopped reason made opened ruleThen heads boxOf shutBy around inner truth turned pile x1 (rules (x1).toNatClampNeg) (-1) hk hmi.1 hmi.2.1 (pz_Hp ‹_› ‹_›) (pz_Hq ‹_› ‹_›) (pz_Hr ‹_› ‹_›) (pz_gb hf.1 (by first | exact pz_HG hmi ‹_› ‹_› | exact pz_HG0 ‹_›))) (cwV 3 hts gX4_look_X4_badBoxes rfl rfl rfl hdV_X4_badBoxes ⟨Nat.le_of_ble_eq_true rfl, Nat.le_of_ble_eq_true rfl⟩) pz_KM.call hKX.go (va_recv hK hP (ci := 4) (q0 := 0) rfl rfl) hP hS rfl hl.1 rfl (Nat.le_of_ble_eq_true rfl) dX4_look_72 ⟨Nat.zero_le _, Nat.zero_le _⟩ (fun r_24 u_24 H locs hF_24 hP hS => ?_)
          have hF := hF.trans (pz_be hF_24)
          refine lv_goto (tgt := 79) hx hb dX4_look_75 (by decide) ?_
          refine lv_istore_n (lv' := [(3, .int (r_24)), (4, .int ((-1))), (2, .int ((rules (x1).toNatClampNeg))), (0, .ref (q 0)), (1, .int (x1))]) hx hb dX4_look_79 rfl hl (by decide) rfl (fun ls hl => ?_)
          refine lv_iload_n hx hb dX4_look_80 rfl (lv_at hl 0 rfl) ?_
          refine lv_if_eq (tgt := 86) hx hb dX4_look_81 (by decide) (fun c_25 => ?_) (fun c_25 => ?_)
          · have hF := hF.trans (if_pos c_25)
            refine lv_aload_n hx hb dX4_look_86 rfl (lv_at hl 3 rfl) ?_
            refine va_get (D := D) (ci := 4) (v := .ref (q 11)) (C := RX4) (T := TX4) (N := 25) hx hb hts in_X4_look_X4 hown hK hP 0 rfl rfl 16 (by decide) (hts _ fl_X4_look_41) (fun _ h9 => h9) rfl dX4_look_87 ?_
            refine lv_iload_n hx hb dX4_look_90 rfl (lv_at hl 4 rfl) ?_
            refine lv_iload_n hx hb dX4_look_91 rfl (lv_at hl 2 rfl) ?_
            have hi_26 : vp_in x1 60 := hk
            refine va_iast hx hb hK hP (pz_D hKX.2 rfl) hS 11 0 rfl rfl hi_26 dX4_look_92 (fun H locs hP _ hS => ?_)
            have hP : va_P D vwCl (pz_M q k formulas kind left right height laid rules ps qs rs fs checked stopped reason made opened (upd ruleThen (x1).toNatClampNeg (rules (x1).toNatClampNeg)) heads boxOf shutBy around inner truth turned pile) H := hP
            refine lv_iload_n hx hb dX4_look_93 rfl (lv_at hl 2 rfl) ?_
            refine lv_iconst (v := 2) hx hb dX4_look_94 (by decide) ?_
            refine lv_icmp_ne (tgt := 143) hx hb dX4_look_95 (by decide) (fun c_27 => ?_) (fun c_27 => ?_)
            · have hF := hF.trans (if_neg c_27)
              refine lv_aload_n hx hb dX4_look_143 rfl (lv_at hl 3 rfl) ?_
              refine lv_iload_n hx hb dX4_look_144 rfl (lv_at hl 4 rfl) ?_
              refine lv_iload_n hx hb dX4_look_145 rfl (lv_at hl 2 rfl) ?_
              refine lv_iload hx hb dX4_look_146 (lv_at hl 1 rfl) ?_
              refine pz_Vi (As := [.int (x1), .int ((rules (x1).toNatClampNeg)), .int ((-1))]) (rest := []) ⟨hx, hb, hml, hown, hts⟩ (c_X4_headOf l D q k formulas kind left right height laid rules ps qs rs fs checked stopped reason made opened (upd ruleThen (x1).toNatClampNeg (rules (x1).toNatClampNeg)) heads boxOf shutBy around inner truth turned pile x1 (rules (x1).toNatClampNeg) (-1) hf.1 hk (pz_HO4 hf.1 hmi ‹_› ‹_› (by first | exact pz_HG hmi ‹_› ‹_› | exact pz_HG0 ‹_›)) (pz_HOg hf.1 (by first | exact pz_HG hmi ‹_› ‹_› | exact pz_HG0 ‹_›)) (pz_HO7 hf.1 ‹_› ‹_› (by first | exact pz_HG hmi ‹_› ‹_› | exact pz_HG0 ‹_›)) (by first | exact pz_HO9 hmi.2.1 ‹_› ‹_› ‹_› ‹_› | contradiction) (by first | exact pz_HO10 hf.1 hmi ‹_› ‹_› ‹_› ‹_› | contradiction) (by first | exact pz_HO13 hf ‹_› ‹_› (by first | exact pz_HG hmi ‹_› ‹_› | exact pz_HG0 ‹_›) | contradiction)) (cwV 3 hts gX4_look_X4_headOf rfl rfl rfl hdV_X4_headOf ⟨Nat.le_of_ble_eq_true rfl, Nat.le_of_ble_eq_true rfl⟩) pz_KM.call hKX.go (va_recv hK hP (ci := 4) (q0 := 0) rfl rfl) hP hS rfl hl.1 rfl (Nat.le_of_ble_eq_true rfl) dX4_look_148 ⟨Nat.zero_le _, Nat.zero_le _⟩ (fun r_28 u_28 H locs hF_28 hP hS => ?_)
              obtain ⟨w_28_formulas, w_28_kind, w_28_left, w_28_right, w_28_height⟩ := u_28
              have hP : va_P D vwCl (pz_M q k w_28_formulas w_28_kind w_28_left w_28_right w_28_height laid rules ps qs rs fs checked stopped reason made opened (upd ruleThen (x1).toNatClampNeg (rules (x1).toNatClampNeg)) heads boxOf shutBy around inner truth turned pile) H := hP
              have hF := hF.trans (pz_be hF_28)
              try dsimp only at hF
              refine lv_istore (lv' := [(5, .int (r_28)), (3, .int (r_24)), (4, .int ((-1))), (2, .int ((rules (x1).toNatClampNeg))), (0, .ref (q 0)), (1, .int (x1))]) hx hb dX4_look_151 hl (by decide) rfl (fun ls hl => ?_)
              refine lv_iload hx hb dX4_look_153 (lv_at hl 0 rfl) ?_
              refine lv_bipush (v := (-4)) hx hb dX4_look_155 (by decide) ?_
              refine lv_icmp_ne (tgt := 163) hx hb dX4_look_157 (by decide) (fun c_29 => ?_) (fun c_29 => ?_)
              · have hF := hF.trans (if_neg c_29)
                refine lv_iload_n hx hb dX4_look_163 rfl (lv_at hl 3 rfl) ?_
                refine lv_iconst (v := 1) hx hb dX4_look_164 (by decide) ?_
                refine lv_icmp_ne (tgt := 200) hx hb dX4_look_165 (by decide) (fun c_30 => ?_) (fun c_30 => ?_)
                · have hF := hF.trans (if_neg c_30)
                  refine lv_aload_n hx hb dX4_look_200 rfl (lv_at hl 4 rfl) ?_
                  refine va_get (D := D) (ci := 4) (v := .ref (q 12)) (C := RX4) (T := TX4) (N := 25) hx hb hts in_X4_look_X4 hown hK hP 0 rfl rfl 17 (by decide) (hts _ fl_X4_look_44) (fun _ h9 => h9) rfl dX4_look_201 ?_
                  refine lv_iload_n hx hb dX4_look_204 rfl (lv_at hl 5 rfl) ?_
                  refine lv_iload hx hb dX4_look_205 (lv_at hl 0 rfl) ?_
                  have hi_31 : vp_in x1 60 := hk
                  refine va_iast hx hb hK hP (pz_D hKX.2 rfl) hS 12 0 rfl rfl hi_31 dX4_look_207 (fun H locs hP _ hS => ?_)
                  have hP : va_P D vwCl (pz_M q k w_28_formulas w_28_kind w_28_left w_28_right w_28_height laid rules ps qs rs fs checked stopped reason made opened (upd ruleThen (x1).toNatClampNeg (rules (x1).toNatClampNeg)) (upd heads (x1).toNatClampNeg r_28) boxOf shutBy around inner truth turned pile) H := hP
                  refine lv_aload_n hx hb dX4_look_208 rfl (lv_at hl 4 rfl) ?_
                  refine va_get (D := D) (ci := 4) (v := .ref (q 13)) (C := RX4) (T := TX4) (N := 25) hx hb hts in_X4_look_X4 hown hK hP 0 rfl rfl 18 (by decide) (hts _ fl_X4_look_47) (fun _ h9 => h9) rfl dX4_look_209 ?_
                  refine lv_iload_n hx hb dX4_look_212 rfl (lv_at hl 5 rfl) ?_
                  refine lv_aload_n hx hb dX4_look_213 rfl (lv_at hl 4 rfl) ?_
                  refine va_get (D := D) (ci := 4) (v := .int (inner)) (C := RX4) (T := TX4) (N := 25) hx hb hts in_X4_look_X4 hown hK hP 0 rfl rfl 21 (by decide) (hts _ fl_X4_look_102) (fun _ h9 => h9) rfl dX4_look_214 ?_
                  have hi_32 : vp_in x1 60 := hk
                  refine va_iast hx hb hK hP (pz_D hKX.2 rfl) hS 13 0 rfl rfl hi_32 dX4_look_217 (fun H locs hP _ hS => ?_)
                  have hP : va_P D vwCl (pz_M q k w_28_formulas w_28_kind w_28_left w_28_right w_28_height laid rules ps qs rs fs checked stopped reason made opened (upd ruleThen (x1).toNatClampNeg (rules (x1).toNatClampNeg)) (upd heads (x1).toNatClampNeg r_28) (upd boxOf (x1).toNatClampNeg inner) shutBy around inner truth turned pile) H := hP
                  refine lv_iconst (v := 0) hx hb dX4_look_218 (by decide) ?_
                  exact W.iret (v := 0) hx hb hr (fun t ht hW => ⟨⟨0, (w_28_formulas, w_28_kind, w_28_left, w_28_right, w_28_height, opened, (upd ruleThen (x1).toNatClampNeg (rules (x1).toNatClampNeg)), (upd heads (x1).toNatClampNeg r_28), (upd boxOf (x1).toNatClampNeg inner), shutBy, around, inner), rfl, hF.symm, pz_hp ht hP⟩, hS.F ht⟩) hS.2.2 dX4_look_219 hlocks
                · have hF := hF.trans (if_pos c_30)
                  refine lv_aload_n hx hb dX4_look_168 rfl (lv_at hl 4 rfl) ?_
                  refine va_get (D := D) (ci := 4) (v := .ref (q 15)) (C := RX4) (T := TX4) (N := 25) hx hb hts in_X4_look_X4 hown hK hP 0 rfl rfl 20 (by decide) (hts _ fl_X4_look_53) (fun _ h9 => h9) rfl dX4_look_169 ?_
                  refine lv_iload_n hx hb dX4_look_172 rfl (lv_at hl 5 rfl) ?_
                  refine lv_aload_n hx hb dX4_look_173 rfl (lv_at hl 4 rfl) ?_
                  refine va_get (D := D) (ci := 4) (v := .int (inner)) (C := RX4) (T := TX4) (N := 25) hx hb hts in_X4_look_X4 hown hK hP 0 rfl rfl 21 (by decide) (hts _ fl_X4_look_102) (fun _ h9 => h9) rfl dX4_look_174 ?_
                  have hi_33 : vp_in x1 60 := hk
                  refine va_iast hx hb hK hP (pz_D hKX.2 rfl) hS 15 0 rfl rfl hi_33 dX4_look_177 (fun H locs hP _ hS => ?_)
                  have hP : va_P D vwCl (pz_M q k w_28_formulas w_28_kind w_28_left w_28_right w_28_height laid rules ps qs rs fs checked stopped reason made opened (upd ruleThen (x1).toNatClampNeg (rules (x1).toNatClampNeg)) heads boxOf shutBy (upd around (x1).toNatClampNeg inner) inner truth turned pile) H := hP
                  refine lv_aload_n hx hb dX4_look_178 rfl (lv_at hl 4 rfl) ?_
                  refine va_get (D := D) (ci := 4) (v := .ref (q 14)) (C := RX4) (T := TX4) (N := 25) hx hb hts in_X4_look_X4 hown hK hP 0 rfl rfl 19 (by decide) (hts _ fl_X4_look_50) (fun _ h9 => h9) rfl dX4_look_179 ?_
                  refine lv_iload_n hx hb dX4_look_182 rfl (lv_at hl 5 rfl) ?_
                  refine lv_iconst (v := (-1)) hx hb dX4_look_183 (by decide) ?_
                  have hi_34 : vp_in x1 60 := hk
                  refine va_iast hx hb hK hP (pz_D hKX.2 rfl) hS 14 0 rfl rfl hi_34 dX4_look_184 (fun H locs hP _ hS => ?_)
                  have hP : va_P D vwCl (pz_M q k w_28_formulas w_28_kind w_28_left w_28_right w_28_height laid rules ps qs rs fs checked stopped reason made opened (upd ruleThen (x1).toNatClampNeg (rules (x1).toNatClampNeg)) heads boxOf (upd shutBy (x1).toNatClampNeg (-1)) (upd around (x1).toNatClampNeg inner) inner truth turned pile) H := hP
                  refine lv_aload_n hx hb dX4_look_185 rfl (lv_at hl 4 rfl) ?_
                  refine lv_iload_n hx hb dX4_look_186 rfl (lv_at hl 5 rfl) ?_
                  refine va_put (D := D) (ci := 4) (v := .int (x1)) (ty := .int) (C := RX4) (T := TX4) (N := 25) hx hb hts in_X4_look_X4 tyX4 tyX4_ok nmX4 hown hK hP (pz_D hKX.2 rfl) hS 0 rfl rfl 21 (by decide) (hts _ fl_X4_look_102) (fun _ h9 => h9) rfl (by decide +kernel) rfl rfl (Nat.le_of_ble_eq_true rfl) dX4_look_187 (fun H locs hP _ hS => ?_)
                  have hP : va_P D vwCl (pz_M q k w_28_formulas w_28_kind w_28_left w_28_right w_28_height laid rules ps qs rs fs checked stopped reason made opened (upd ruleThen (x1).toNatClampNeg (rules (x1).toNatClampNeg)) heads boxOf (upd shutBy (x1).toNatClampNeg (-1)) (upd around (x1).toNatClampNeg inner) x1 truth turned pile) H := hP
                  refine lv_aload_n hx hb dX4_look_190 rfl (lv_at hl 4 rfl) ?_
                  refine lv_dup hx hb dX4_look_191 rfl ?_
                  refine va_get (D := D) (ci := 4) (v := .int (opened)) (C := RX4) (T := TX4) (N := 25) hx hb hts in_X4_look_X4 hown hK hP 0 rfl rfl 15 (by decide) (hts _ fl_X4_look_122) (fun _ h9 => h9) rfl dX4_look_192 ?_
                  refine lv_iconst (v := 1) hx hb dX4_look_195 (by decide) ?_
                  refine lv_iadd hx hb dX4_look_196 ?_
                  refine va_put (D := D) (ci := 4) (v := .int ((opened + 1))) (ty := .int) (C := RX4) (T := TX4) (N := 25) hx hb hts in_X4_look_X4 tyX4 tyX4_ok nmX4 hown hK hP (pz_D hKX.2 rfl) hS 0 rfl rfl 15 (by decide) (hts _ fl_X4_look_122) (fun _ h9 => h9) rfl (by decide +kernel) rfl rfl (Nat.le_of_ble_eq_true rfl) dX4_look_197 (fun H locs hP _ hS => ?_)
                  have hP : va_P D vwCl (pz_M q k w_28_formulas w_28_kind w_28_left w_28_right w_28_height laid rules ps qs rs fs checked stopped reason made (opened + 1) (upd ruleThen (x1).toNatClampNeg (rules (x1).toNatClampNeg)) heads boxOf (upd shutBy (x1).toNatClampNeg (-1)) (upd around (x1).toNatClampNeg inner) x1 truth turned pile) H := hP
                  refine lv_aload_n hx hb dX4_look_200 rfl (lv_at hl 4 rfl) ?_
                  refine va_get (D := D) (ci := 4) (v := .ref (q 12)) (C := RX4) (T := TX4) (N := 25) hx hb hts in_X4_look_X4 hown hK hP 0 rfl rfl 17 (by decide) (hts _ fl_X4_look_44) (fun _ h9 => h9) rfl dX4_look_201 ?_
                  refine lv_iload_n hx hb dX4_look_204 rfl (lv_at hl 5 rfl) ?_
                  refine lv_iload hx hb dX4_look_205 (lv_at hl 0 rfl) ?_
                  have hi_35 : vp_in x1 60 := hk
                  refine va_iast hx hb hK hP (pz_D hKX.2 rfl) hS 12 0 rfl rfl hi_35 dX4_look_207 (fun H locs hP _ hS => ?_)
                  have hP : va_P D vwCl (pz_M q k w_28_formulas w_28_kind w_28_left w_28_right w_28_height laid rules ps qs rs fs checked stopped reason made (opened + 1) (upd ruleThen (x1).toNatClampNeg (rules (x1).toNatClampNeg)) (upd heads (x1).toNatClampNeg r_28) boxOf (upd shutBy (x1).toNatClampNeg (-1)) (upd around (x1).toNatClampNeg inner) x1 truth turned pile) H := hP
                  refine lv_aload_n hx hb dX4_look_208 rfl (lv_at hl 4 rfl) ?_
                  refine va_get (D := D) (ci := 4) (v := .ref (q 13)) (C := RX4) (T := TX4) (N := 25) hx hb hts in_X4_look_X4 hown hK hP 0 rfl rfl 18 (by decide) (hts _ fl_X4_look_47) (fun _ h9 => h9) rfl dX4_look_209 ?_
                  refine lv_iload_n hx hb dX4_look_212 rfl (lv_at hl 5 rfl) ?_
                  refine lv_aload_n hx hb dX4_look_213 rfl (lv_at hl 4 rfl) ?_
                  refine va_get (D := D) (ci := 4) (v := .int (x1)) (C := RX4) (T := TX4) (N := 25) hx hb hts in_X4_look_X4 hown hK hP 0 rfl rfl 21 (by decide) (hts _ fl_X4_look_102) (fun _ h9 => h9) rfl dX4_look_214 ?_
                  have hi_36 : vp_in x1 60 := hk
                  refine va_iast hx hb hK hP (pz_D hKX.2 rfl) hS 13 0 rfl rfl hi_36 dX4_look_217 (fun H locs hP _ hS => ?_)
                  have hP : va_P D vwCl (pz_M q k w_28_formulas w_28_kind w_28_left w_28_right w_28_height laid rules ps qs rs fs checked stopped reason made (opened + 1) (upd ruleThen (x1).toNatClampNeg (rules (x1).toNatClampNeg)) (upd heads (x1).toNatClampNeg r_28) (upd boxOf (x1).toNatClampNeg x1) (upd shutBy (x1).toNatClampNeg (-1)) (upd around (x1).toNatClampNeg inner) x1 truth turned pile) H := hP
                  refine lv_iconst (v := 0) hx hb dX4_look_218 (by decide) ?_
                  exact W.iret (v := 0) hx hb hr (fun t ht hW => ⟨⟨0, (w_28_formulas, w_28_kind, w_28_left, w_28_right, w_28_height, (opened + 1), (upd ruleThen (x1).toNatClampNeg (rules (x1).toNatClampNeg)), (upd heads (x1).toNatClampNeg r_28), (upd boxOf (x1).toNatClampNeg x1), (upd shutBy (x1).toNatClampNeg (-1)), (upd around (x1).toNatClampNeg inner), x1), rfl, hF.symm, pz_hp ht hP⟩, hS.F ht⟩) hS.2.2 dX4_look_219 hlocks
              · have hF := hF.trans (if_pos c_29)
                refine lv_bipush (v := 7) hx hb dX4_look_160 (by decide) ?_
                exact W.iret (v := 7) hx hb hr (fun t ht hW => ⟨⟨7, (w_28_formulas, w_28_kind, w_28_left, w_28_right, w_28_height, opened, (upd ruleThen (x1).toNatClampNeg (rules (x1).toNatClampNeg)), heads, boxOf, shutBy, around, inner), rfl, hF.symm, pz_hp ht hP⟩, hS.F ht⟩) hS.2.2 dX4_look_162 hlocks
            · have hF := hF.trans (if_pos c_27)
              refine lv_aload_n hx hb dX4_look_98 rfl (lv_at hl 3 rfl) ?_
              refine va_get (D := D) (ci := 4) (v := .ref (q 14)) (C := RX4) (T := TX4) (N := 25) hx hb hts in_X4_look_X4 hown hK hP 0 rfl rfl 19 (by decide) (hts _ fl_X4_look_50) (fun _ h9 => h9) rfl dX4_look_99 ?_
              refine lv_aload_n hx hb dX4_look_102 rfl (lv_at hl 3 rfl) ?_
              refine va_get (D := D) (ci := 4) (v := .int (inner)) (C := RX4) (T := TX4) (N := 25) hx hb hts in_X4_look_X4 hown hK hP 0 rfl rfl 21 (by decide) (hts _ fl_X4_look_102) (fun _ h9 => h9) rfl dX4_look_103 ?_
              refine lv_iload_n hx hb dX4_look_106 rfl (lv_at hl 4 rfl) ?_
              have hi_37 : vp_in inner 60 := by first | exact pz_bxi hmi.2.2.2.2.1 (pz_BB2 ‹_› ‹_› ‹_›) | contradiction
              refine va_iast hx hb hK hP (pz_D hKX.2 rfl) hS 14 0 rfl rfl hi_37 dX4_look_107 (fun H locs hP _ hS => ?_)
              have hP : va_P D vwCl (pz_M q k formulas kind left right height laid rules ps qs rs fs checked stopped reason made opened (upd ruleThen (x1).toNatClampNeg (rules (x1).toNatClampNeg)) heads boxOf (upd shutBy (inner).toNatClampNeg x1) around inner truth turned pile) H := hP
              refine lv_aload_n hx hb dX4_look_108 rfl (lv_at hl 3 rfl) ?_
              refine lv_aload_n hx hb dX4_look_109 rfl (lv_at hl 3 rfl) ?_
              refine va_get (D := D) (ci := 4) (v := .ref (q 15)) (C := RX4) (T := TX4) (N := 25) hx hb hts in_X4_look_X4 hown hK hP 0 rfl rfl 20 (by decide) (hts _ fl_X4_look_53) (fun _ h9 => h9) rfl dX4_look_110 ?_
              refine lv_aload_n hx hb dX4_look_113 rfl (lv_at hl 3 rfl) ?_
              refine va_get (D := D) (ci := 4) (v := .int (inner)) (C := RX4) (T := TX4) (N := 25) hx hb hts in_X4_look_X4 hown hK hP 0 rfl rfl 21 (by decide) (hts _ fl_X4_look_102) (fun _ h9 => h9) rfl dX4_look_114 ?_
              have hi_38 : vp_in inner 60 := by first | exact pz_bxi hmi.2.2.2.2.1 (pz_BB2 ‹_› ‹_› ‹_›) | contradiction
              refine va_iald hx hb hK hP 15 0 rfl rfl hi_38 dX4_look_117 ?_
              refine va_put (D := D) (ci := 4) (v := .int ((around (inner).toNatClampNeg))) (ty := .int) (C := RX4) (T := TX4) (N := 25) hx hb hts in_X4_look_X4 tyX4 tyX4_ok nmX4 hown hK hP (pz_D hKX.2 rfl) hS 0 rfl rfl 21 (by decide) (hts _ fl_X4_look_102) (fun _ h9 => h9) rfl (by decide +kernel) rfl rfl (Nat.le_of_ble_eq_true rfl) dX4_look_118 (fun H locs hP _ hS => ?_)
              have hP : va_P D vwCl (pz_M q k formulas kind left right height laid rules ps qs rs fs checked stopped reason made opened (upd ruleThen (x1).toNatClampNeg (rules (x1).toNatClampNeg)) heads boxOf (upd shutBy (inner).toNatClampNeg x1) around (around (inner).toNatClampNeg) truth turned pile) H := hP
              refine lv_aload_n hx hb dX4_look_121 rfl (lv_at hl 3 rfl) ?_
              refine va_get (D := D) (ci := 4) (v := .ref (q 13)) (C := RX4) (T := TX4) (N := 25) hx hb hts in_X4_look_X4 hown hK hP 0 rfl rfl 18 (by decide) (hts _ fl_X4_look_47) (fun _ h9 => h9) rfl dX4_look_122 ?_
              refine lv_iload_n hx hb dX4_look_125 rfl (lv_at hl 4 rfl) ?_
              refine lv_aload_n hx hb dX4_look_126 rfl (lv_at hl 3 rfl) ?_
              refine va_get (D := D) (ci := 4) (v := .int ((around (inner).toNatClampNeg))) (C := RX4) (T := TX4) (N := 25) hx hb hts in_X4_look_X4 hown hK hP 0 rfl rfl 21 (by decide) (hts _ fl_X4_look_102) (fun _ h9 => h9) rfl dX4_look_127 ?_
              have hi_39 : vp_in x1 60 := hk
              refine va_iast hx hb hK hP (pz_D hKX.2 rfl) hS 13 0 rfl rfl hi_39 dX4_look_130 (fun H locs hP _ hS => ?_)
              have hP : va_P D vwCl (pz_M q k formulas kind left right height laid rules ps qs rs fs checked stopped reason made opened (upd ruleThen (x1).toNatClampNeg (rules (x1).toNatClampNeg)) heads (upd boxOf (x1).toNatClampNeg (around (inner).toNatClampNeg)) (upd shutBy (inner).toNatClampNeg x1) around (around (inner).toNatClampNeg) truth turned pile) H := hP
              refine lv_aload_n hx hb dX4_look_131 rfl (lv_at hl 3 rfl) ?_
              refine lv_dup hx hb dX4_look_132 rfl ?_
              refine va_get (D := D) (ci := 4) (v := .int (opened)) (C := RX4) (T := TX4) (N := 25) hx hb hts in_X4_look_X4 hown hK hP 0 rfl rfl 15 (by decide) (hts _ fl_X4_look_122) (fun _ h9 => h9) rfl dX4_look_133 ?_
              refine lv_iconst (v := 1) hx hb dX4_look_136 (by decide) ?_
              refine lv_isub hx hb dX4_look_137 ?_
              refine va_put (D := D) (ci := 4) (v := .int ((opened - 1))) (ty := .int) (C := RX4) (T := TX4) (N := 25) hx hb hts in_X4_look_X4 tyX4 tyX4_ok nmX4 hown hK hP (pz_D hKX.2 rfl) hS 0 rfl rfl 15 (by decide) (hts _ fl_X4_look_122) (fun _ h9 => h9) rfl (by decide +kernel) rfl rfl (Nat.le_of_ble_eq_true rfl) dX4_look_138 (fun H locs hP _ hS => ?_)
              have hP : va_P D vwCl (pz_M q k formulas kind left right height laid rules ps qs rs fs checked stopped reason made (opened - 1) (upd ruleThen (x1).toNatClampNeg (rules (x1).toNatClampNeg)) heads (upd boxOf (x1).toNatClampNeg (around (inner).toNatClampNeg)) (upd shutBy (inner).toNatClampNeg x1) around (around (inner).toNatClampNeg) truth turned pile) H := hP
              refine lv_iconst (v := 0) hx hb dX4_look_141 (by decide) ?_
              exact W.iret (v := 0) hx hb hr (fun t ht hW => ⟨⟨0, (formulas, kind, left, right, height, (opened - 1), (upd ruleThen (x1).toNatClampNeg (rules (x1).toNatClampNeg)), heads, (upd boxOf (x1).toNatClampNeg (around (inner).toNatClampNeg)), (upd shutBy (inner).toNatClampNeg x1), around, (around (inner).toNatClampNeg)), rfl, hF.symm, pz_hp ht hP⟩, hS.F ht⟩) hS.2.2 dX4_look_142 hlocks
          · have hF := hF.trans (if_neg c_25)
            refine lv_iload_n hx hb dX4_look_84 rfl (lv_at hl 0 rfl) ?_
            exact W.iret (v := r_24) hx hb hr (fun t ht hW => ⟨⟨r_24, (formulas, kind, left, right, height, opened, ruleThen, heads, boxOf, shutBy, around, inner), rfl, hF.symm, pz_hp ht hP⟩, hS.F ht⟩) hS.2.2 dX4_look_85 hlocks
      · have hF := hF.trans (if_neg c_6)
        refine lv_aload_n hx hb dX4_look_38 rfl (lv_at hl 2 rfl) ?_
        refine va_get (D := D) (ci := 4) (v := .ref (q 12)) (C := RX4) (T := TX4) (N := 25) hx hb hts in_X4_look_X4 hown hK hP 0 rfl rfl 17 (by decide) (hts _ fl_X4_look_44) (fun _ h9 => h9) rfl dX4_look_39 ?_
        refine lv_aload_n hx hb dX4_look_42 rfl (lv_at hl 2 rfl) ?_
        refine va_get (D := D) (ci := 4) (v := .ref (q 7)) (C := RX4) (T := TX4) (N := 25) hx hb hts in_X4_look_X4 hown hK hP 0 rfl rfl 7 (by decide) (hts _ fl_X4_look_29) (fun _ h9 => h9) rfl dX4_look_43 ?_
        refine lv_iload_n hx hb dX4_look_46 rfl (lv_at hl 3 rfl) ?_
        have hi_40 : vp_in x1 60 := hk
        refine va_iald hx hb hK hP 7 0 rfl rfl hi_40 dX4_look_47 ?_
        have hi_41 : vp_in (ps (x1).toNatClampNeg) 60 := ((pz_LN ‹_› ‹_›).1 ‹_›).1
        refine va_iald hx hb hK hP 12 0 rfl rfl hi_41 dX4_look_48 ?_
        refine lv_goto (tgt := 53) hx hb dX4_look_49 (by decide) ?_
        refine lv_istore (lv' := [(4, .int ((heads ((ps (x1).toNatClampNeg)).toNatClampNeg))), (3, .int (r_4)), (2, .int ((rules (x1).toNatClampNeg))), (0, .ref (q 0)), (1, .int (x1))]) hx hb dX4_look_53 hl (by decide) rfl (fun ls hl => ?_)
        refine lv_aload_n hx hb dX4_look_55 rfl (lv_at hl 3 rfl) ?_
        refine lv_iload_n hx hb dX4_look_56 rfl (lv_at hl 2 rfl) ?_
        refine lv_iload hx hb dX4_look_57 (lv_at hl 0 rfl) ?_
        refine pz_Vi (As := [.int ((rules (x1).toNatClampNeg)), .int ((heads ((ps (x1).toNatClampNeg)).toNatClampNeg))]) (rest := []) ⟨hx, hb, hml, hown, hts⟩ (c_X4_badForm l D q k formulas kind left right height laid rules ps qs rs fs checked stopped reason made opened ruleThen heads boxOf shutBy around inner truth turned pile (rules (x1).toNatClampNeg) (heads ((ps (x1).toNatClampNeg)).toNatClampNeg) hf (by first | exact pz_HG hmi ‹_› ‹_› | exact pz_HG0 ‹_›)) (cwV 2 hts gX4_look_X4_badForm rfl rfl rfl hdV_X4_badForm ⟨Nat.le_of_ble_eq_true rfl, Nat.le_of_ble_eq_true rfl⟩) pz_KM.call hKX.go (va_recv hK hP (ci := 4) (q0 := 0) rfl rfl) hP hS rfl hl.1 rfl (Nat.le_of_ble_eq_true rfl) dX4_look_59 ⟨Nat.zero_le _, Nat.zero_le _⟩ (fun r_42 u_42 H locs hF_42 hP hS => ?_)
        have hF := hF.trans (pz_be hF_42)
        refine lv_istore_n (lv' := [(3, .int (r_42)), (4, .int ((heads ((ps (x1).toNatClampNeg)).toNatClampNeg))), (2, .int ((rules (x1).toNatClampNeg))), (0, .ref (q 0)), (1, .int (x1))]) hx hb dX4_look_62 rfl hl (by decide) rfl (fun ls hl => ?_)
        refine lv_iload_n hx hb dX4_look_63 rfl (lv_at hl 0 rfl) ?_
        refine lv_if_ne (tgt := 78) hx hb dX4_look_64 (by decide) (fun c_43 => ?_) (fun c_43 => ?_)
        · have hF := hF.trans (if_neg c_43)
          refine lv_iload_n hx hb dX4_look_78 rfl (lv_at hl 0 rfl) ?_
          refine lv_istore_n (lv' := [(3, .int (r_42)), (4, .int ((heads ((ps (x1).toNatClampNeg)).toNatClampNeg))), (2, .int ((rules (x1).toNatClampNeg))), (0, .ref (q 0)), (1, .int (x1))]) hx hb dX4_look_79 rfl hl (by decide) rfl (fun ls hl => ?_)
          refine lv_iload_n hx hb dX4_look_80 rfl (lv_at hl 0 rfl) ?_
          refine lv_if_eq (tgt := 86) hx hb dX4_look_81 (by decide) (fun c_44 => ?_) (fun c_44 => ?_)
          · have hF := hF.trans (if_pos c_44)
            refine lv_aload_n hx hb dX4_look_86 rfl (lv_at hl 3 rfl) ?_
            refine va_get (D := D) (ci := 4) (v := .ref (q 11)) (C := RX4) (T := TX4) (N := 25) hx hb hts in_X4_look_X4 hown hK hP 0 rfl rfl 16 (by decide) (hts _ fl_X4_look_41) (fun _ h9 => h9) rfl dX4_look_87 ?_
            refine lv_iload_n hx hb dX4_look_90 rfl (lv_at hl 4 rfl) ?_
            refine lv_iload_n hx hb dX4_look_91 rfl (lv_at hl 2 rfl) ?_
            have hi_45 : vp_in x1 60 := hk
            refine va_iast hx hb hK hP (pz_D hKX.2 rfl) hS 11 0 rfl rfl hi_45 dX4_look_92 (fun H locs hP _ hS => ?_)
            have hP : va_P D vwCl (pz_M q k formulas kind left right height laid rules ps qs rs fs checked stopped reason made opened (upd ruleThen (x1).toNatClampNeg (rules (x1).toNatClampNeg)) heads boxOf shutBy around inner truth turned pile) H := hP
            refine lv_iload_n hx hb dX4_look_93 rfl (lv_at hl 2 rfl) ?_
            refine lv_iconst (v := 2) hx hb dX4_look_94 (by decide) ?_
            refine lv_icmp_ne (tgt := 143) hx hb dX4_look_95 (by decide) (fun c_46 => ?_) (fun c_46 => ?_)
            · have hF := hF.trans (if_neg c_46)
              refine lv_aload_n hx hb dX4_look_143 rfl (lv_at hl 3 rfl) ?_
              refine lv_iload_n hx hb dX4_look_144 rfl (lv_at hl 4 rfl) ?_
              refine lv_iload_n hx hb dX4_look_145 rfl (lv_at hl 2 rfl) ?_
              refine lv_iload hx hb dX4_look_146 (lv_at hl 1 rfl) ?_
              refine pz_Vi (As := [.int (x1), .int ((rules (x1).toNatClampNeg)), .int ((heads ((ps (x1).toNatClampNeg)).toNatClampNeg))]) (rest := []) ⟨hx, hb, hml, hown, hts⟩ (c_X4_headOf l D q k formulas kind left right height laid rules ps qs rs fs checked stopped reason made opened (upd ruleThen (x1).toNatClampNeg (rules (x1).toNatClampNeg)) heads boxOf shutBy around inner truth turned pile x1 (rules (x1).toNatClampNeg) (heads ((ps (x1).toNatClampNeg)).toNatClampNeg) hf.1 hk (pz_HO4 hf.1 hmi ‹_› ‹_› (by first | exact pz_HG hmi ‹_› ‹_› | exact pz_HG0 ‹_›)) (pz_HOg hf.1 (by first | exact pz_HG hmi ‹_› ‹_› | exact pz_HG0 ‹_›)) (pz_HO7 hf.1 ‹_› ‹_› (by first | exact pz_HG hmi ‹_› ‹_› | exact pz_HG0 ‹_›)) (by first | exact pz_HO9 hmi.2.1 ‹_› ‹_› ‹_› ‹_› | contradiction) (by first | exact pz_HO10 hf.1 hmi ‹_› ‹_› ‹_› ‹_› | contradiction) (by first | exact pz_HO13 hf ‹_› ‹_› (by first | exact pz_HG hmi ‹_› ‹_› | exact pz_HG0 ‹_›) | contradiction)) (cwV 3 hts gX4_look_X4_headOf rfl rfl rfl hdV_X4_headOf ⟨Nat.le_of_ble_eq_true rfl, Nat.le_of_ble_eq_true rfl⟩) pz_KM.call hKX.go (va_recv hK hP (ci := 4) (q0 := 0) rfl rfl) hP hS rfl hl.1 rfl (Nat.le_of_ble_eq_true rfl) dX4_look_148 ⟨Nat.zero_le _, Nat.zero_le _⟩ (fun r_47 u_47 H locs hF_47 hP hS => ?_)
              obtain ⟨w_47_formulas, w_47_kind, w_47_left, w_47_right, w_47_height⟩ := u_47
              have hP : va_P D vwCl (pz_M q k w_47_formulas w_47_kind w_47_left w_47_right w_47_height laid rules ps qs rs fs checked stopped reason made opened (upd ruleThen (x1).toNatClampNeg (rules (x1).toNatClampNeg)) heads boxOf shutBy around inner truth turned pile) H := hP
              have hF := hF.trans (pz_be hF_47)
              try dsimp only at hF
              refine lv_istore (lv' := [(5, .int (r_47)), (3, .int (r_42)), (4, .int ((heads ((ps (x1).toNatClampNeg)).toNatClampNeg))), (2, .int ((rules (x1).toNatClampNeg))), (0, .ref (q 0)), (1, .int (x1))]) hx hb dX4_look_151 hl (by decide) rfl (fun ls hl => ?_)
              refine lv_iload hx hb dX4_look_153 (lv_at hl 0 rfl) ?_
              refine lv_bipush (v := (-4)) hx hb dX4_look_155 (by decide) ?_
              refine lv_icmp_ne (tgt := 163) hx hb dX4_look_157 (by decide) (fun c_48 => ?_) (fun c_48 => ?_)
              · have hF := hF.trans (if_neg c_48)
                refine lv_iload_n hx hb dX4_look_163 rfl (lv_at hl 3 rfl) ?_
                refine lv_iconst (v := 1) hx hb dX4_look_164 (by decide) ?_
                refine lv_icmp_ne (tgt := 200) hx hb dX4_look_165 (by decide) (fun c_49 => ?_) (fun c_49 => ?_)
                · have hF := hF.trans (if_neg c_49)
                  refine lv_aload_n hx hb dX4_look_200 rfl (lv_at hl 4 rfl) ?_
                  refine va_get (D := D) (ci := 4) (v := .ref (q 12)) (C := RX4) (T := TX4) (N := 25) hx hb hts in_X4_look_X4 hown hK hP 0 rfl rfl 17 (by decide) (hts _ fl_X4_look_44) (fun _ h9 => h9) rfl dX4_look_201 ?_
                  refine lv_iload_n hx hb dX4_look_204 rfl (lv_at hl 5 rfl) ?_
                  refine lv_iload hx hb dX4_look_205 (lv_at hl 0 rfl) ?_
                  have hi_50 : vp_in x1 60 := hk
                  refine va_iast hx hb hK hP (pz_D hKX.2 rfl) hS 12 0 rfl rfl hi_50 dX4_look_207 (fun H locs hP _ hS => ?_)
                  have hP : va_P D vwCl (pz_M q k w_47_formulas w_47_kind w_47_left w_47_right w_47_height laid rules ps qs rs fs checked stopped reason made opened (upd ruleThen (x1).toNatClampNeg (rules (x1).toNatClampNeg)) (upd heads (x1).toNatClampNeg r_47) boxOf shutBy around inner truth turned pile) H := hP
                  refine lv_aload_n hx hb dX4_look_208 rfl (lv_at hl 4 rfl) ?_
                  refine va_get (D := D) (ci := 4) (v := .ref (q 13)) (C := RX4) (T := TX4) (N := 25) hx hb hts in_X4_look_X4 hown hK hP 0 rfl rfl 18 (by decide) (hts _ fl_X4_look_47) (fun _ h9 => h9) rfl dX4_look_209 ?_
                  refine lv_iload_n hx hb dX4_look_212 rfl (lv_at hl 5 rfl) ?_
                  refine lv_aload_n hx hb dX4_look_213 rfl (lv_at hl 4 rfl) ?_
                  refine va_get (D := D) (ci := 4) (v := .int (inner)) (C := RX4) (T := TX4) (N := 25) hx hb hts in_X4_look_X4 hown hK hP 0 rfl rfl 21 (by decide) (hts _ fl_X4_look_102) (fun _ h9 => h9) rfl dX4_look_214 ?_
                  have hi_51 : vp_in x1 60 := hk
                  refine va_iast hx hb hK hP (pz_D hKX.2 rfl) hS 13 0 rfl rfl hi_51 dX4_look_217 (fun H locs hP _ hS => ?_)
                  have hP : va_P D vwCl (pz_M q k w_47_formulas w_47_kind w_47_left w_47_right w_47_height laid rules ps qs rs fs checked stopped reason made opened (upd ruleThen (x1).toNatClampNeg (rules (x1).toNatClampNeg)) (upd heads (x1).toNatClampNeg r_47) (upd boxOf (x1).toNatClampNeg inner) shutBy around inner truth turned pile) H := hP
                  refine lv_iconst (v := 0) hx hb dX4_look_218 (by decide) ?_
                  exact W.iret (v := 0) hx hb hr (fun t ht hW => ⟨⟨0, (w_47_formulas, w_47_kind, w_47_left, w_47_right, w_47_height, opened, (upd ruleThen (x1).toNatClampNeg (rules (x1).toNatClampNeg)), (upd heads (x1).toNatClampNeg r_47), (upd boxOf (x1).toNatClampNeg inner), shutBy, around, inner), rfl, hF.symm, pz_hp ht hP⟩, hS.F ht⟩) hS.2.2 dX4_look_219 hlocks
                · have hF := hF.trans (if_pos c_49)
                  refine lv_aload_n hx hb dX4_look_168 rfl (lv_at hl 4 rfl) ?_
                  refine va_get (D := D) (ci := 4) (v := .ref (q 15)) (C := RX4) (T := TX4) (N := 25) hx hb hts in_X4_look_X4 hown hK hP 0 rfl rfl 20 (by decide) (hts _ fl_X4_look_53) (fun _ h9 => h9) rfl dX4_look_169 ?_
                  refine lv_iload_n hx hb dX4_look_172 rfl (lv_at hl 5 rfl) ?_
                  refine lv_aload_n hx hb dX4_look_173 rfl (lv_at hl 4 rfl) ?_
                  refine va_get (D := D) (ci := 4) (v := .int (inner)) (C := RX4) (T := TX4) (N := 25) hx hb hts in_X4_look_X4 hown hK hP 0 rfl rfl 21 (by decide) (hts _ fl_X4_look_102) (fun _ h9 => h9) rfl dX4_look_174 ?_
                  have hi_52 : vp_in x1 60 := hk
                  refine va_iast hx hb hK hP (pz_D hKX.2 rfl) hS 15 0 rfl rfl hi_52 dX4_look_177 (fun H locs hP _ hS => ?_)
                  have hP : va_P D vwCl (pz_M q k w_47_formulas w_47_kind w_47_left w_47_right w_47_height laid rules ps qs rs fs checked stopped reason made opened (upd ruleThen (x1).toNatClampNeg (rules (x1).toNatClampNeg)) heads boxOf shutBy (upd around (x1).toNatClampNeg inner) inner truth turned pile) H := hP
                  refine lv_aload_n hx hb dX4_look_178 rfl (lv_at hl 4 rfl) ?_
                  refine va_get (D := D) (ci := 4) (v := .ref (q 14)) (C := RX4) (T := TX4) (N := 25) hx hb hts in_X4_look_X4 hown hK hP 0 rfl rfl 19 (by decide) (hts _ fl_X4_look_50) (fun _ h9 => h9) rfl dX4_look_179 ?_
                  refine lv_iload_n hx hb dX4_look_182 rfl (lv_at hl 5 rfl) ?_
                  refine lv_iconst (v := (-1)) hx hb dX4_look_183 (by decide) ?_
                  have hi_53 : vp_in x1 60 := hk
                  refine va_iast hx hb hK hP (pz_D hKX.2 rfl) hS 14 0 rfl rfl hi_53 dX4_look_184 (fun H locs hP _ hS => ?_)
                  have hP : va_P D vwCl (pz_M q k w_47_formulas w_47_kind w_47_left w_47_right w_47_height laid rules ps qs rs fs checked stopped reason made opened (upd ruleThen (x1).toNatClampNeg (rules (x1).toNatClampNeg)) heads boxOf (upd shutBy (x1).toNatClampNeg (-1)) (upd around (x1).toNatClampNeg inner) inner truth turned pile) H := hP
                  refine lv_aload_n hx hb dX4_look_185 rfl (lv_at hl 4 rfl) ?_
                  refine lv_iload_n hx hb dX4_look_186 rfl (lv_at hl 5 rfl) ?_
                  refine va_put (D := D) (ci := 4) (v := .int (x1)) (ty := .int) (C := RX4) (T := TX4) (N := 25) hx hb hts in_X4_look_X4 tyX4 tyX4_ok nmX4 hown hK hP (pz_D hKX.2 rfl) hS 0 rfl rfl 21 (by decide) (hts _ fl_X4_look_102) (fun _ h9 => h9) rfl (by decide +kernel) rfl rfl (Nat.le_of_ble_eq_true rfl) dX4_look_187 (fun H locs hP _ hS => ?_)
                  have hP : va_P D vwCl (pz_M q k w_47_formulas w_47_kind w_47_left w_47_right w_47_height laid rules ps qs rs fs checked stopped reason made opened (upd ruleThen (x1).toNatClampNeg (rules (x1).toNatClampNeg)) heads boxOf (upd shutBy (x1).toNatClampNeg (-1)) (upd around (x1).toNatClampNeg inner) x1 truth turned pile) H := hP
                  refine lv_aload_n hx hb dX4_look_190 rfl (lv_at hl 4 rfl) ?_
                  refine lv_dup hx hb dX4_look_191 rfl ?_
                  refine va_get (D := D) (ci := 4) (v := .int (opened)) (C := RX4) (T := TX4) (N := 25) hx hb hts in_X4_look_X4 hown hK hP 0 rfl rfl 15 (by decide) (hts _ fl_X4_look_122) (fun _ h9 => h9) rfl dX4_look_192 ?_
                  refine lv_iconst (v := 1) hx hb dX4_look_195 (by decide) ?_
                  refine lv_iadd hx hb dX4_look_196 ?_
                  refine va_put (D := D) (ci := 4) (v := .int ((opened + 1))) (ty := .int) (C := RX4) (T := TX4) (N := 25) hx hb hts in_X4_look_X4 tyX4 tyX4_ok nmX4 hown hK hP (pz_D hKX.2 rfl) hS 0 rfl rfl 15 (by decide) (hts _ fl_X4_look_122) (fun _ h9 => h9) rfl (by decide +kernel) rfl rfl (Nat.le_of_ble_eq_true rfl) dX4_look_197 (fun H locs hP _ hS => ?_)
                  have hP : va_P D vwCl (pz_M q k w_47_formulas w_47_kind w_47_left w_47_right w_47_height laid rules ps qs rs fs checked stopped reason made (opened + 1) (upd ruleThen (x1).toNatClampNeg (rules (x1).toNatClampNeg)) heads boxOf (upd shutBy (x1).toNatClampNeg (-1)) (upd around (x1).toNatClampNeg inner) x1 truth turned pile) H := hP
                  refine lv_aload_n hx hb dX4_look_200 rfl (lv_at hl 4 rfl) ?_
                  refine va_get (D := D) (ci := 4) (v := .ref (q 12)) (C := RX4) (T := TX4) (N := 25) hx hb hts in_X4_look_X4 hown hK hP 0 rfl rfl 17 (by decide) (hts _ fl_X4_look_44) (fun _ h9 => h9) rfl dX4_look_201 ?_
                  refine lv_iload_n hx hb dX4_look_204 rfl (lv_at hl 5 rfl) ?_
                  refine lv_iload hx hb dX4_look_205 (lv_at hl 0 rfl) ?_
                  have hi_54 : vp_in x1 60 := hk
                  refine va_iast hx hb hK hP (pz_D hKX.2 rfl) hS 12 0 rfl rfl hi_54 dX4_look_207 (fun H locs hP _ hS => ?_)
                  have hP : va_P D vwCl (pz_M q k w_47_formulas w_47_kind w_47_left w_47_right w_47_height laid rules ps qs rs fs checked stopped reason made (opened + 1) (upd ruleThen (x1).toNatClampNeg (rules (x1).toNatClampNeg)) (upd heads (x1).toNatClampNeg r_47) boxOf (upd shutBy (x1).toNatClampNeg (-1)) (upd around (x1).toNatClampNeg inner) x1 truth turned pile) H := hP
                  refine lv_aload_n hx hb dX4_look_208 rfl (lv_at hl 4 rfl) ?_
                  refine va_get (D := D) (ci := 4) (v := .ref (q 13)) (C := RX4) (T := TX4) (N := 25) hx hb hts in_X4_look_X4 hown hK hP 0 rfl rfl 18 (by decide) (hts _ fl_X4_look_47) (fun _ h9 => h9) rfl dX4_look_209 ?_
                  refine lv_iload_n hx hb dX4_look_212 rfl (lv_at hl 5 rfl) ?_
                  refine lv_aload_n hx hb dX4_look_213 rfl (lv_at hl 4 rfl) ?_
                  refine va_get (D := D) (ci := 4) (v := .int (x1)) (C := RX4) (T := TX4) (N := 25) hx hb hts in_X4_look_X4 hown hK hP 0 rfl rfl 21 (by decide) (hts _ fl_X4_look_102) (fun _ h9 => h9) rfl dX4_look_214 ?_
                  have hi_55 : vp_in x1 60 := hk
                  refine va_iast hx hb hK hP (pz_D hKX.2 rfl) hS 13 0 rfl rfl hi_55 dX4_look_217 (fun H locs hP _ hS => ?_)
                  have hP : va_P D vwCl (pz_M q k w_47_formulas w_47_kind w_47_left w_47_right w_47_height laid rules ps qs rs fs checked stopped reason made (opened + 1) (upd ruleThen (x1).toNatClampNeg (rules (x1).toNatClampNeg)) (upd heads (x1).toNatClampNeg r_47) (upd boxOf (x1).toNatClampNeg x1) (upd shutBy (x1).toNatClampNeg (-1)) (upd around (x1).toNatClampNeg inner) x1 truth turned pile) H := hP
                  refine lv_iconst (v := 0) hx hb dX4_look_218 (by decide) ?_
                  exact W.iret (v := 0) hx hb hr (fun t ht hW => ⟨⟨0, (w_47_formulas, w_47_kind, w_47_left, w_47_right, w_47_height, (opened + 1), (upd ruleThen (x1).toNatClampNeg (rules (x1).toNatClampNeg)), (upd heads (x1).toNatClampNeg r_47), (upd boxOf (x1).toNatClampNeg x1), (upd shutBy (x1).toNatClampNeg (-1)), (upd around (x1).toNatClampNeg inner), x1), rfl, hF.symm, pz_hp ht hP⟩, hS.F ht⟩) hS.2.2 dX4_look_219 hlocks
              · have hF := hF.trans (if_pos c_48)
                refine lv_bipush (v := 7) hx hb dX4_look_160 (by decide) ?_
                exact W.iret (v := 7) hx hb hr (fun t ht hW => ⟨⟨7, (w_47_formulas, w_47_kind, w_47_left, w_47_right, w_47_height, opened, (upd ruleThen (x1).toNatClampNeg (rules (x1).toNatClampNeg)), heads, boxOf, shutBy, around, inner), rfl, hF.symm, pz_hp ht hP⟩, hS.F ht⟩) hS.2.2 dX4_look_162 hlocks
            · have hF := hF.trans (if_pos c_46)
              refine lv_aload_n hx hb dX4_look_98 rfl (lv_at hl 3 rfl) ?_
              refine va_get (D := D) (ci := 4) (v := .ref (q 14)) (C := RX4) (T := TX4) (N := 25) hx hb hts in_X4_look_X4 hown hK hP 0 rfl rfl 19 (by decide) (hts _ fl_X4_look_50) (fun _ h9 => h9) rfl dX4_look_99 ?_
              refine lv_aload_n hx hb dX4_look_102 rfl (lv_at hl 3 rfl) ?_
              refine va_get (D := D) (ci := 4) (v := .int (inner)) (C := RX4) (T := TX4) (N := 25) hx hb hts in_X4_look_X4 hown hK hP 0 rfl rfl 21 (by decide) (hts _ fl_X4_look_102) (fun _ h9 => h9) rfl dX4_look_103 ?_
              refine lv_iload_n hx hb dX4_look_106 rfl (lv_at hl 4 rfl) ?_
              have hi_56 : vp_in inner 60 := by first | exact pz_bxi hmi.2.2.2.2.1 (pz_BB2 ‹_› ‹_› ‹_›) | contradiction
              refine va_iast hx hb hK hP (pz_D hKX.2 rfl) hS 14 0 rfl rfl hi_56 dX4_look_107 (fun H locs hP _ hS => ?_)
              have hP : va_P D vwCl (pz_M q k formulas kind left right height laid rules ps qs rs fs checked stopped reason made opened (upd ruleThen (x1).toNatClampNeg (rules (x1).toNatClampNeg)) heads boxOf (upd shutBy (inner).toNatClampNeg x1) around inner truth turned pile) H := hP
              refine lv_aload_n hx hb dX4_look_108 rfl (lv_at hl 3 rfl) ?_
              refine lv_aload_n hx hb dX4_look_109 rfl (lv_at hl 3 rfl) ?_
              refine va_get (D := D) (ci := 4) (v := .ref (q 15)) (C := RX4) (T := TX4) (N := 25) hx hb hts in_X4_look_X4 hown hK hP 0 rfl rfl 20 (by decide) (hts _ fl_X4_look_53) (fun _ h9 => h9) rfl dX4_look_110 ?_
              refine lv_aload_n hx hb dX4_look_113 rfl (lv_at hl 3 rfl) ?_
              refine va_get (D := D) (ci := 4) (v := .int (inner)) (C := RX4) (T := TX4) (N := 25) hx hb hts in_X4_look_X4 hown hK hP 0 rfl rfl 21 (by decide) (hts _ fl_X4_look_102) (fun _ h9 => h9) rfl dX4_look_114 ?_
              have hi_57 : vp_in inner 60 := by first | exact pz_bxi hmi.2.2.2.2.1 (pz_BB2 ‹_› ‹_› ‹_›) | contradiction
              refine va_iald hx hb hK hP 15 0 rfl rfl hi_57 dX4_look_117 ?_
              refine va_put (D := D) (ci := 4) (v := .int ((around (inner).toNatClampNeg))) (ty := .int) (C := RX4) (T := TX4) (N := 25) hx hb hts in_X4_look_X4 tyX4 tyX4_ok nmX4 hown hK hP (pz_D hKX.2 rfl) hS 0 rfl rfl 21 (by decide) (hts _ fl_X4_look_102) (fun _ h9 => h9) rfl (by decide +kernel) rfl rfl (Nat.le_of_ble_eq_true rfl) dX4_look_118 (fun H locs hP _ hS => ?_)
              have hP : va_P D vwCl (pz_M q k formulas kind left right height laid rules ps qs rs fs checked stopped reason made opened (upd ruleThen (x1).toNatClampNeg (rules (x1).toNatClampNeg)) heads boxOf (upd shutBy (inner).toNatClampNeg x1) around (around (inner).toNatClampNeg) truth turned pile) H := hP
              refine lv_aload_n hx hb dX4_look_121 rfl (lv_at hl 3 rfl) ?_
              refine va_get (D := D) (ci := 4) (v := .ref (q 13)) (C := RX4) (T := TX4) (N := 25) hx hb hts in_X4_look_X4 hown hK hP 0 rfl rfl 18 (by decide) (hts _ fl_X4_look_47) (fun _ h9 => h9) rfl dX4_look_122 ?_
              refine lv_iload_n hx hb dX4_look_125 rfl (lv_at hl 4 rfl) ?_
              refine lv_aload_n hx hb dX4_look_126 rfl (lv_at hl 3 rfl) ?_
              refine va_get (D := D) (ci := 4) (v := .int ((around (inner).toNatClampNeg))) (C := RX4) (T := TX4) (N := 25) hx hb hts in_X4_look_X4 hown hK hP 0 rfl rfl 21 (by decide) (hts _ fl_X4_look_102) (fun _ h9 => h9) rfl dX4_look_127 ?_
              have hi_58 : vp_in x1 60 := hk
              refine va_iast hx hb hK hP (pz_D hKX.2 rfl) hS 13 0 rfl rfl hi_58 dX4_look_130 (fun H locs hP _ hS => ?_)
              have hP : va_P D vwCl (pz_M q k formulas kind left right height laid rules ps qs rs fs checked stopped reason made opened (upd ruleThen (x1).toNatClampNeg (rules (x1).toNatClampNeg)) heads (upd boxOf (x1).toNatClampNeg (around (inner).toNatClampNeg)) (upd shutBy (inner).toNatClampNeg x1) around (around (inner).toNatClampNeg) truth turned pile) H := hP
              refine lv_aload_n hx hb dX4_look_131 rfl (lv_at hl 3 rfl) ?_
              refine lv_dup hx hb dX4_look_132 rfl ?_
              refine va_get (D := D) (ci := 4) (v := .int (opened)) (C := RX4) (T := TX4) (N := 25) hx hb hts in_X4_look_X4 hown hK hP 0 rfl rfl 15 (by decide) (hts _ fl_X4_look_122) (fun _ h9 => h9) rfl dX4_look_133 ?_
              refine lv_iconst (v := 1) hx hb dX4_look_136 (by decide) ?_
              refine lv_isub hx hb dX4_look_137 ?_
              refine va_put (D := D) (ci := 4) (v := .int ((opened - 1))) (ty := .int) (C := RX4) (T := TX4) (N := 25) hx hb hts in_X4_look_X4 tyX4 tyX4_ok nmX4 hown hK hP (pz_D hKX.2 rfl) hS 0 rfl rfl 15 (by decide) (hts _ fl_X4_look_122) (fun _ h9 => h9) rfl (by decide +kernel) rfl rfl (Nat.le_of_ble_eq_true rfl) dX4_look_138 (fun H locs hP _ hS => ?_)
              have hP : va_P D vwCl (pz_M q k formulas kind left right height laid rules ps qs rs fs checked stopped reason made (opened - 1) (upd ruleThen (x1).toNatClampNeg (rules (x1).toNatClampNeg)) heads (upd boxOf (x1).toNatClampNeg (around (inner).toNatClampNeg)) (upd shutBy (inner).toNatClampNeg x1) around (around (inner).toNatClampNeg) truth turned pile) H := hP
              refine lv_iconst (v := 0) hx hb dX4_look_141 (by decide) ?_
              exact W.iret (v := 0) hx hb hr (fun t ht hW => ⟨⟨0, (formulas, kind, left, right, height, (opened - 1), (upd ruleThen (x1).toNatClampNeg (rules (x1).toNatClampNeg)), heads, (upd boxOf (x1).toNatClampNeg (around (inner).toNatClampNeg)), (upd shutBy (inner).toNatClampNeg x1), around, (around (inner).toNatClampNeg)), rfl, hF.symm, pz_hp ht hP⟩, hS.F ht⟩) hS.2.2 dX4_look_142 hlocks
          · have hF := hF.trans (if_neg c_44)
            refine lv_iload_n hx hb dX4_look_84 rfl (lv_at hl 0 rfl) ?_
            exact W.iret (v := r_42) hx hb hr (fun t ht hW => ⟨⟨r_42, (formulas, kind, left, right, height, opened, ruleThen, heads, boxOf, shutBy, around, inner), rfl, hF.symm, pz_hp ht hP⟩, hS.F ht⟩) hS.2.2 dX4_look_85 hlocks
        · have hF := hF.trans (if_pos c_43)
          refine lv_aload_n hx hb dX4_look_67 rfl (lv_at hl 3 rfl) ?_
          refine lv_iload_n hx hb dX4_look_68 rfl (lv_at hl 4 rfl) ?_
          refine lv_iload_n hx hb dX4_look_69 rfl (lv_at hl 2 rfl) ?_
          refine lv_iload hx hb dX4_look_70 (lv_at hl 1 rfl) ?_
          refine pz_Vi (As := [.int (x1), .int ((rules (x1).toNatClampNeg)), .int ((heads ((ps (x1).toNatClampNeg)).toNatClampNeg))]) (rest := []) ⟨hx, hb, hml, hown, hts⟩ (c_X4_badBoxes l D q k formulas kind left right height laid rules ps qs rs fs checked stopped reason made opened ruleThen heads boxOf shutBy around inner truth turned pile x1 (rules (x1).toNatClampNeg) (heads ((ps (x1).toNatClampNeg)).toNatClampNeg) hk hmi.1 hmi.2.1 (pz_Hp ‹_› ‹_›) (pz_Hq ‹_› ‹_›) (pz_Hr ‹_› ‹_›) (pz_gb hf.1 (by first | exact pz_HG hmi ‹_› ‹_› | exact pz_HG0 ‹_›))) (cwV 3 hts gX4_look_X4_badBoxes rfl rfl rfl hdV_X4_badBoxes ⟨Nat.le_of_ble_eq_true rfl, Nat.le_of_ble_eq_true rfl⟩) pz_KM.call hKX.go (va_recv hK hP (ci := 4) (q0 := 0) rfl rfl) hP hS rfl hl.1 rfl (Nat.le_of_ble_eq_true rfl) dX4_look_72 ⟨Nat.zero_le _, Nat.zero_le _⟩ (fun r_59 u_59 H locs hF_59 hP hS => ?_)
          have hF := hF.trans (pz_be hF_59)
          refine lv_goto (tgt := 79) hx hb dX4_look_75 (by decide) ?_
          refine lv_istore_n (lv' := [(3, .int (r_59)), (4, .int ((heads ((ps (x1).toNatClampNeg)).toNatClampNeg))), (2, .int ((rules (x1).toNatClampNeg))), (0, .ref (q 0)), (1, .int (x1))]) hx hb dX4_look_79 rfl hl (by decide) rfl (fun ls hl => ?_)
          refine lv_iload_n hx hb dX4_look_80 rfl (lv_at hl 0 rfl) ?_
          refine lv_if_eq (tgt := 86) hx hb dX4_look_81 (by decide) (fun c_60 => ?_) (fun c_60 => ?_)
          · have hF := hF.trans (if_pos c_60)
            refine lv_aload_n hx hb dX4_look_86 rfl (lv_at hl 3 rfl) ?_
            refine va_get (D := D) (ci := 4) (v := .ref (q 11)) (C := RX4) (T := TX4) (N := 25) hx hb hts in_X4_look_X4 hown hK hP 0 rfl rfl 16 (by decide) (hts _ fl_X4_look_41) (fun _ h9 => h9) rfl dX4_look_87 ?_
            refine lv_iload_n hx hb dX4_look_90 rfl (lv_at hl 4 rfl) ?_
            refine lv_iload_n hx hb dX4_look_91 rfl (lv_at hl 2 rfl) ?_
            have hi_61 : vp_in x1 60 := hk
            refine va_iast hx hb hK hP (pz_D hKX.2 rfl) hS 11 0 rfl rfl hi_61 dX4_look_92 (fun H locs hP _ hS => ?_)
            have hP : va_P D vwCl (pz_M q k formulas kind left right height laid rules ps qs rs fs checked stopped reason made opened (upd ruleThen (x1).toNatClampNeg (rules (x1).toNatClampNeg)) heads boxOf shutBy around inner truth turned pile) H := hP
            refine lv_iload_n hx hb dX4_look_93 rfl (lv_at hl 2 rfl) ?_
            refine lv_iconst (v := 2) hx hb dX4_look_94 (by decide) ?_
            refine lv_icmp_ne (tgt := 143) hx hb dX4_look_95 (by decide) (fun c_62 => ?_) (fun c_62 => ?_)
            · have hF := hF.trans (if_neg c_62)
              refine lv_aload_n hx hb dX4_look_143 rfl (lv_at hl 3 rfl) ?_
              refine lv_iload_n hx hb dX4_look_144 rfl (lv_at hl 4 rfl) ?_
              refine lv_iload_n hx hb dX4_look_145 rfl (lv_at hl 2 rfl) ?_
              refine lv_iload hx hb dX4_look_146 (lv_at hl 1 rfl) ?_
              refine pz_Vi (As := [.int (x1), .int ((rules (x1).toNatClampNeg)), .int ((heads ((ps (x1).toNatClampNeg)).toNatClampNeg))]) (rest := []) ⟨hx, hb, hml, hown, hts⟩ (c_X4_headOf l D q k formulas kind left right height laid rules ps qs rs fs checked stopped reason made opened (upd ruleThen (x1).toNatClampNeg (rules (x1).toNatClampNeg)) heads boxOf shutBy around inner truth turned pile x1 (rules (x1).toNatClampNeg) (heads ((ps (x1).toNatClampNeg)).toNatClampNeg) hf.1 hk (pz_HO4 hf.1 hmi ‹_› ‹_› (by first | exact pz_HG hmi ‹_› ‹_› | exact pz_HG0 ‹_›)) (pz_HOg hf.1 (by first | exact pz_HG hmi ‹_› ‹_› | exact pz_HG0 ‹_›)) (pz_HO7 hf.1 ‹_› ‹_› (by first | exact pz_HG hmi ‹_› ‹_› | exact pz_HG0 ‹_›)) (by first | exact pz_HO9 hmi.2.1 ‹_› ‹_› ‹_› ‹_› | contradiction) (by first | exact pz_HO10 hf.1 hmi ‹_› ‹_› ‹_› ‹_› | contradiction) (by first | exact pz_HO13 hf ‹_› ‹_› (by first | exact pz_HG hmi ‹_› ‹_› | exact pz_HG0 ‹_›) | contradiction)) (cwV 3 hts gX4_look_X4_headOf rfl rfl rfl hdV_X4_headOf ⟨Nat.le_of_ble_eq_true rfl, Nat.le_of_ble_eq_true rfl⟩) pz_KM.call hKX.go (va_recv hK hP (ci := 4) (q0 := 0) rfl rfl) hP hS rfl hl.1 rfl (Nat.le_of_ble_eq_true rfl) dX4_look_148 ⟨Nat.zero_le _, Nat.zero_le _⟩ (fun r_63 u_63 H locs hF_63 hP hS => ?_)
              obtain ⟨w_63_formulas, w_63_kind, w_63_left, w_63_right, w_63_height⟩ := u_63
              have hP : va_P D vwCl (pz_M q k w_63_formulas w_63_kind w_63_left w_63_right w_63_height laid rules ps qs rs fs checked stopped reason made opened (upd ruleThen (x1).toNatClampNeg (rules (x1).toNatClampNeg)) heads boxOf shutBy around inner truth turned pile) H := hP
              have hF := hF.trans (pz_be hF_63)
              try dsimp only at hF
              refine lv_istore (lv' := [(5, .int (r_63)), (3, .int (r_59)), (4, .int ((heads ((ps (x1).toNatClampNeg)).toNatClampNeg))), (2, .int ((rules (x1).toNatClampNeg))), (0, .ref (q 0)), (1, .int (x1))]) hx hb dX4_look_151 hl (by decide) rfl (fun ls hl => ?_)
              refine lv_iload hx hb dX4_look_153 (lv_at hl 0 rfl) ?_
              refine lv_bipush (v := (-4)) hx hb dX4_look_155 (by decide) ?_
              refine lv_icmp_ne (tgt := 163) hx hb dX4_look_157 (by decide) (fun c_64 => ?_) (fun c_64 => ?_)
              · have hF := hF.trans (if_neg c_64)
                refine lv_iload_n hx hb dX4_look_163 rfl (lv_at hl 3 rfl) ?_
                refine lv_iconst (v := 1) hx hb dX4_look_164 (by decide) ?_
                refine lv_icmp_ne (tgt := 200) hx hb dX4_look_165 (by decide) (fun c_65 => ?_) (fun c_65 => ?_)
                · have hF := hF.trans (if_neg c_65)
                  refine lv_aload_n hx hb dX4_look_200 rfl (lv_at hl 4 rfl) ?_
                  refine va_get (D := D) (ci := 4) (v := .ref (q 12)) (C := RX4) (T := TX4) (N := 25) hx hb hts in_X4_look_X4 hown hK hP 0 rfl rfl 17 (by decide) (hts _ fl_X4_look_44) (fun _ h9 => h9) rfl dX4_look_201 ?_
                  refine lv_iload_n hx hb dX4_look_204 rfl (lv_at hl 5 rfl) ?_
                  refine lv_iload hx hb dX4_look_205 (lv_at hl 0 rfl) ?_
                  have hi_66 : vp_in x1 60 := hk
                  refine va_iast hx hb hK hP (pz_D hKX.2 rfl) hS 12 0 rfl rfl hi_66 dX4_look_207 (fun H locs hP _ hS => ?_)
                  have hP : va_P D vwCl (pz_M q k w_63_formulas w_63_kind w_63_left w_63_right w_63_height laid rules ps qs rs fs checked stopped reason made opened (upd ruleThen (x1).toNatClampNeg (rules (x1).toNatClampNeg)) (upd heads (x1).toNatClampNeg r_63) boxOf shutBy around inner truth turned pile) H := hP
                  refine lv_aload_n hx hb dX4_look_208 rfl (lv_at hl 4 rfl) ?_
                  refine va_get (D := D) (ci := 4) (v := .ref (q 13)) (C := RX4) (T := TX4) (N := 25) hx hb hts in_X4_look_X4 hown hK hP 0 rfl rfl 18 (by decide) (hts _ fl_X4_look_47) (fun _ h9 => h9) rfl dX4_look_209 ?_
                  refine lv_iload_n hx hb dX4_look_212 rfl (lv_at hl 5 rfl) ?_
                  refine lv_aload_n hx hb dX4_look_213 rfl (lv_at hl 4 rfl) ?_
                  refine va_get (D := D) (ci := 4) (v := .int (inner)) (C := RX4) (T := TX4) (N := 25) hx hb hts in_X4_look_X4 hown hK hP 0 rfl rfl 21 (by decide) (hts _ fl_X4_look_102) (fun _ h9 => h9) rfl dX4_look_214 ?_
                  have hi_67 : vp_in x1 60 := hk
                  refine va_iast hx hb hK hP (pz_D hKX.2 rfl) hS 13 0 rfl rfl hi_67 dX4_look_217 (fun H locs hP _ hS => ?_)
                  have hP : va_P D vwCl (pz_M q k w_63_formulas w_63_kind w_63_left w_63_right w_63_height laid rules ps qs rs fs checked stopped reason made opened (upd ruleThen (x1).toNatClampNeg (rules (x1).toNatClampNeg)) (upd heads (x1).toNatClampNeg r_63) (upd boxOf (x1).toNatClampNeg inner) shutBy around inner truth turned pile) H := hP
                  refine lv_iconst (v := 0) hx hb dX4_look_218 (by decide) ?_
                  exact W.iret (v := 0) hx hb hr (fun t ht hW => ⟨⟨0, (w_63_formulas, w_63_kind, w_63_left, w_63_right, w_63_height, opened, (upd ruleThen (x1).toNatClampNeg (rules (x1).toNatClampNeg)), (upd heads (x1).toNatClampNeg r_63), (upd boxOf (x1).toNatClampNeg inner), shutBy, around, inner), rfl, hF.symm, pz_hp ht hP⟩, hS.F ht⟩) hS.2.2 dX4_look_219 hlocks
                · have hF := hF.trans (if_pos c_65)
                  refine lv_aload_n hx hb dX4_look_168 rfl (lv_at hl 4 rfl) ?_
                  refine va_get (D := D) (ci := 4) (v := .ref (q 15)) (C := RX4) (T := TX4) (N := 25) hx hb hts in_X4_look_X4 hown hK hP 0 rfl rfl 20 (by decide) (hts _ fl_X4_look_53) (fun _ h9 => h9) rfl dX4_look_169 ?_
                  refine lv_iload_n hx hb dX4_look_172 rfl (lv_at hl 5 rfl) ?_
                  refine lv_aload_n hx hb dX4_look_173 rfl (lv_at hl 4 rfl) ?_
                  refine va_get (D := D) (ci := 4) (v := .int (inner)) (C := RX4) (T := TX4) (N := 25) hx hb hts in_X4_look_X4 hown hK hP 0 rfl rfl 21 (by decide) (hts _ fl_X4_look_102) (fun _ h9 => h9) rfl dX4_look_174 ?_
                  have hi_68 : vp_in x1 60 := hk
                  refine va_iast hx hb hK hP (pz_D hKX.2 rfl) hS 15 0 rfl rfl hi_68 dX4_look_177 (fun H locs hP _ hS => ?_)
                  have hP : va_P D vwCl (pz_M q k w_63_formulas w_63_kind w_63_left w_63_right w_63_height laid rules ps qs rs fs checked stopped reason made opened (upd ruleThen (x1).toNatClampNeg (rules (x1).toNatClampNeg)) heads boxOf shutBy (upd around (x1).toNatClampNeg inner) inner truth turned pile) H := hP
                  refine lv_aload_n hx hb dX4_look_178 rfl (lv_at hl 4 rfl) ?_
                  refine va_get (D := D) (ci := 4) (v := .ref (q 14)) (C := RX4) (T := TX4) (N := 25) hx hb hts in_X4_look_X4 hown hK hP 0 rfl rfl 19 (by decide) (hts _ fl_X4_look_50) (fun _ h9 => h9) rfl dX4_look_179 ?_
                  refine lv_iload_n hx hb dX4_look_182 rfl (lv_at hl 5 rfl) ?_
                  refine lv_iconst (v := (-1)) hx hb dX4_look_183 (by decide) ?_
                  have hi_69 : vp_in x1 60 := hk
                  refine va_iast hx hb hK hP (pz_D hKX.2 rfl) hS 14 0 rfl rfl hi_69 dX4_look_184 (fun H locs hP _ hS => ?_)
                  have hP : va_P D vwCl (pz_M q k w_63_formulas w_63_kind w_63_left w_63_right w_63_height laid rules ps qs rs fs checked stopped reason made opened (upd ruleThen (x1).toNatClampNeg (rules (x1).toNatClampNeg)) heads boxOf (upd shutBy (x1).toNatClampNeg (-1)) (upd around (x1).toNatClampNeg inner) inner truth turned pile) H := hP
                  refine lv_aload_n hx hb dX4_look_185 rfl (lv_at hl 4 rfl) ?_
                  refine lv_iload_n hx hb dX4_look_186 rfl (lv_at hl 5 rfl) ?_
                  refine va_put (D := D) (ci := 4) (v := .int (x1)) (ty := .int) (C := RX4) (T := TX4) (N := 25) hx hb hts in_X4_look_X4 tyX4 tyX4_ok nmX4 hown hK hP (pz_D hKX.2 rfl) hS 0 rfl rfl 21 (by decide) (hts _ fl_X4_look_102) (fun _ h9 => h9) rfl (by decide +kernel) rfl rfl (Nat.le_of_ble_eq_true rfl) dX4_look_187 (fun H locs hP _ hS => ?_)
                  have hP : va_P D vwCl (pz_M q k w_63_formulas w_63_kind w_63_left w_63_right w_63_height laid rules ps qs rs fs checked stopped reason made opened (upd ruleThen (x1).toNatClampNeg (rules (x1).toNatClampNeg)) heads boxOf (upd shutBy (x1).toNatClampNeg (-1)) (upd around (x1).toNatClampNeg inner) x1 truth turned pile) H := hP
                  refine lv_aload_n hx hb dX4_look_190 rfl (lv_at hl 4 rfl) ?_
                  refine lv_dup hx hb dX4_look_191 rfl ?_
                  refine va_get (D := D) (ci := 4) (v := .int (opened)) (C := RX4) (T := TX4) (N := 25) hx hb hts in_X4_look_X4 hown hK hP 0 rfl rfl 15 (by decide) (hts _ fl_X4_look_122) (fun _ h9 => h9) rfl dX4_look_192 ?_
                  refine lv_iconst (v := 1) hx hb dX4_look_195 (by decide) ?_
                  refine lv_iadd hx hb dX4_look_196 ?_
                  refine va_put (D := D) (ci := 4) (v := .int ((opened + 1))) (ty := .int) (C := RX4) (T := TX4) (N := 25) hx hb hts in_X4_look_X4 tyX4 tyX4_ok nmX4 hown hK hP (pz_D hKX.2 rfl) hS 0 rfl rfl 15 (by decide) (hts _ fl_X4_look_122) (fun _ h9 => h9) rfl (by decide +kernel) rfl rfl (Nat.le_of_ble_eq_true rfl) dX4_look_197 (fun H locs hP _ hS => ?_)
                  have hP : va_P D vwCl (pz_M q k w_63_formulas w_63_kind w_63_left w_63_right w_63_height laid rules ps qs rs fs checked stopped reason made (opened + 1) (upd ruleThen (x1).toNatClampNeg (rules (x1).toNatClampNeg)) heads boxOf (upd shutBy (x1).toNatClampNeg (-1)) (upd around (x1).toNatClampNeg inner) x1 truth turned pile) H := hP
                  refine lv_aload_n hx hb dX4_look_200 rfl (lv_at hl 4 rfl) ?_
                  refine va_get (D := D) (ci := 4) (v := .ref (q 12)) (C := RX4) (T := TX4) (N := 25) hx hb hts in_X4_look_X4 hown hK hP 0 rfl rfl 17 (by decide) (hts _ fl_X4_look_44) (fun _ h9 => h9) rfl dX4_look_201 ?_
                  refine lv_iload_n hx hb dX4_look_204 rfl (lv_at hl 5 rfl) ?_
                  refine lv_iload hx hb dX4_look_205 (lv_at hl 0 rfl) ?_
                  have hi_70 : vp_in x1 60 := hk
                  refine va_iast hx hb hK hP (pz_D hKX.2 rfl) hS 12 0 rfl rfl hi_70 dX4_look_207 (fun H locs hP _ hS => ?_)
                  have hP : va_P D vwCl (pz_M q k w_63_formulas w_63_kind w_63_left w_63_right w_63_height laid rules ps qs rs fs checked stopped reason made (opened + 1) (upd ruleThen (x1).toNatClampNeg (rules (x1).toNatClampNeg)) (upd heads (x1).toNatClampNeg r_63) boxOf (upd shutBy (x1).toNatClampNeg (-1)) (upd around (x1).toNatClampNeg inner) x1 truth turned pile) H := hP
                  refine lv_aload_n hx hb dX4_look_208 rfl (lv_at hl 4 rfl) ?_
                  refine va_get (D := D) (ci := 4) (v := .ref (q 13)) (C := RX4) (T := TX4) (N := 25) hx hb hts in_X4_look_X4 hown hK hP 0 rfl rfl 18 (by decide) (hts _ fl_X4_look_47) (fun _ h9 => h9) rfl dX4_look_209 ?_
                  refine lv_iload_n hx hb dX4_look_212 rfl (lv_at hl 5 rfl) ?_
                  refine lv_aload_n hx hb dX4_look_213 rfl (lv_at hl 4 rfl) ?_
                  refine va_get (D := D) (ci := 4) (v := .int (x1)) (C := RX4) (T := TX4) (N := 25) hx hb hts in_X4_look_X4 hown hK hP 0 rfl rfl 21 (by decide) (hts _ fl_X4_look_102) (fun _ h9 => h9) rfl dX4_look_214 ?_
                  have hi_71 : vp_in x1 60 := hk
                  refine va_iast hx hb hK hP (pz_D hKX.2 rfl) hS 13 0 rfl rfl hi_71 dX4_look_217 (fun H locs hP _ hS => ?_)
                  have hP : va_P D vwCl (pz_M q k w_63_formulas w_63_kind w_63_left w_63_right w_63_height laid rules ps qs rs fs checked stopped reason made (opened + 1) (upd ruleThen (x1).toNatClampNeg (rules (x1).toNatClampNeg)) (upd heads (x1).toNatClampNeg r_63) (upd boxOf (x1).toNatClampNeg x1) (upd shutBy (x1).toNatClampNeg (-1)) (upd around (x1).toNatClampNeg inner) x1 truth turned pile) H := hP
                  refine lv_iconst (v := 0) hx hb dX4_look_218 (by decide) ?_
                  exact W.iret (v := 0) hx hb hr (fun t ht hW => ⟨⟨0, (w_63_formulas, w_63_kind, w_63_left, w_63_right, w_63_height, (opened + 1), (upd ruleThen (x1).toNatClampNeg (rules (x1).toNatClampNeg)), (upd heads (x1).toNatClampNeg r_63), (upd boxOf (x1).toNatClampNeg x1), (upd shutBy (x1).toNatClampNeg (-1)), (upd around (x1).toNatClampNeg inner), x1), rfl, hF.symm, pz_hp ht hP⟩, hS.F ht⟩) hS.2.2 dX4_look_219 hlocks
              · have hF := hF.trans (if_pos c_64)
                refine lv_bipush (v := 7) hx hb dX4_look_160 (by decide) ?_
                exact W.iret (v := 7) hx hb hr (fun t ht hW => ⟨⟨7, (w_63_formulas, w_63_kind, w_63_left, w_63_right, w_63_height, opened, (upd ruleThen (x1).toNatClampNeg (rules (x1).toNatClampNeg)), heads, boxOf, shutBy, around, inner), rfl, hF.symm, pz_hp ht hP⟩, hS.F ht⟩) hS.2.2 dX4_look_162 hlocks
            · have hF := hF.trans (if_pos c_62)
              refine lv_aload_n hx hb dX4_look_98 rfl (lv_at hl 3 rfl) ?_
              refine va_get (D := D) (ci := 4) (v := .ref (q 14)) (C := RX4) (T := TX4) (N := 25) hx hb hts in_X4_look_X4 hown hK hP 0 rfl rfl 19 (by decide) (hts _ fl_X4_look_50) (fun _ h9 => h9) rfl dX4_look_99 ?_
              refine lv_aload_n hx hb dX4_look_102 rfl (lv_at hl 3 rfl) ?_
              refine va_get (D := D) (ci := 4) (v := .int (inner)) (C := RX4) (T := TX4) (N := 25) hx hb hts in_X4_look_X4 hown hK hP 0 rfl rfl 21 (by decide) (hts _ fl_X4_look_102) (fun _ h9 => h9) rfl dX4_look_103 ?_
              refine lv_iload_n hx hb dX4_look_106 rfl (lv_at hl 4 rfl) ?_
              have hi_72 : vp_in inner 60 := by first | exact pz_bxi hmi.2.2.2.2.1 (pz_BB2 ‹_› ‹_› ‹_›) | contradiction
              refine va_iast hx hb hK hP (pz_D hKX.2 rfl) hS 14 0 rfl rfl hi_72 dX4_look_107 (fun H locs hP _ hS => ?_)
              have hP : va_P D vwCl (pz_M q k formulas kind left right height laid rules ps qs rs fs checked stopped reason made opened (upd ruleThen (x1).toNatClampNeg (rules (x1).toNatClampNeg)) heads boxOf (upd shutBy (inner).toNatClampNeg x1) around inner truth turned pile) H := hP
              refine lv_aload_n hx hb dX4_look_108 rfl (lv_at hl 3 rfl) ?_
              refine lv_aload_n hx hb dX4_look_109 rfl (lv_at hl 3 rfl) ?_
              refine va_get (D := D) (ci := 4) (v := .ref (q 15)) (C := RX4) (T := TX4) (N := 25) hx hb hts in_X4_look_X4 hown hK hP 0 rfl rfl 20 (by decide) (hts _ fl_X4_look_53) (fun _ h9 => h9) rfl dX4_look_110 ?_
              refine lv_aload_n hx hb dX4_look_113 rfl (lv_at hl 3 rfl) ?_
              refine va_get (D := D) (ci := 4) (v := .int (inner)) (C := RX4) (T := TX4) (N := 25) hx hb hts in_X4_look_X4 hown hK hP 0 rfl rfl 21 (by decide) (hts _ fl_X4_look_102) (fun _ h9 => h9) rfl dX4_look_114 ?_
              have hi_73 : vp_in inner 60 := by first | exact pz_bxi hmi.2.2.2.2.1 (pz_BB2 ‹_› ‹_› ‹_›) | contradiction
              refine va_iald hx hb hK hP 15 0 rfl rfl hi_73 dX4_look_117 ?_
              refine va_put (D := D) (ci := 4) (v := .int ((around (inner).toNatClampNeg))) (ty := .int) (C := RX4) (T := TX4) (N := 25) hx hb hts in_X4_look_X4 tyX4 tyX4_ok nmX4 hown hK hP (pz_D hKX.2 rfl) hS 0 rfl rfl 21 (by decide) (hts _ fl_X4_look_102) (fun _ h9 => h9) rfl (by decide +kernel) rfl rfl (Nat.le_of_ble_eq_true rfl) dX4_look_118 (fun H locs hP _ hS => ?_)
              have hP : va_P D vwCl (pz_M q k formulas kind left right height laid rules ps qs rs fs checked stopped reason made opened (upd ruleThen (x1).toNatClampNeg (rules (x1).toNatClampNeg)) heads boxOf (upd shutBy (inner).toNatClampNeg x1) around (around (inner).toNatClampNeg) truth turned pile) H := hP
              refine lv_aload_n hx hb dX4_look_121 rfl (lv_at hl 3 rfl) ?_
              refine va_get (D := D) (ci := 4) (v := .ref (q 13)) (C := RX4) (T := TX4) (N := 25) hx hb hts in_X4_look_X4 hown hK hP 0 rfl rfl 18 (by decide) (hts _ fl_X4_look_47) (fun _ h9 => h9) rfl dX4_look_122 ?_
              refine lv_iload_n hx hb dX4_look_125 rfl (lv_at hl 4 rfl) ?_
              refine lv_aload_n hx hb dX4_look_126 rfl (lv_at hl 3 rfl) ?_
              refine va_get (D := D) (ci := 4) (v := .int ((around (inner).toNatClampNeg))) (C := RX4) (T := TX4) (N := 25) hx hb hts in_X4_look_X4 hown hK hP 0 rfl rfl 21 (by decide) (hts _ fl_X4_look_102) (fun _ h9 => h9) rfl dX4_look_127 ?_
              have hi_74 : vp_in x1 60 := hk
              refine va_iast hx hb hK hP (pz_D hKX.2 rfl) hS 13 0 rfl rfl hi_74 dX4_look_130 (fun H locs hP _ hS => ?_)
              have hP : va_P D vwCl (pz_M q k formulas kind left right height laid rules ps qs rs fs checked stopped reason made opened (upd ruleThen (x1).toNatClampNeg (rules (x1).toNatClampNeg)) heads (upd boxOf (x1).toNatClampNeg (around (inner).toNatClampNeg)) (upd shutBy (inner).toNatClampNeg x1) around (around (inner).toNatClampNeg) truth turned pile) H := hP
              refine lv_aload_n hx hb dX4_look_131 rfl (lv_at hl 3 rfl) ?_
              refine lv_dup hx hb dX4_look_132 rfl ?_
              refine va_get (D := D) (ci := 4) (v := .int (opened)) (C := RX4) (T := TX4) (N := 25) hx hb hts in_X4_look_X4 hown hK hP 0 rfl rfl 15 (by decide) (hts _ fl_X4_look_122) (fun _ h9 => h9) rfl dX4_look_133 ?_
              refine lv_iconst (v := 1) hx hb dX4_look_136 (by decide) ?_
              refine lv_isub hx hb dX4_look_137 ?_
              refine va_put (D := D) (ci := 4) (v := .int ((opened - 1))) (ty := .int) (C := RX4) (T := TX4) (N := 25) hx hb hts in_X4_look_X4 tyX4 tyX4_ok nmX4 hown hK hP (pz_D hKX.2 rfl) hS 0 rfl rfl 15 (by decide) (hts _ fl_X4_look_122) (fun _ h9 => h9) rfl (by decide +kernel) rfl rfl (Nat.le_of_ble_eq_true rfl) dX4_look_138 (fun H locs hP _ hS => ?_)
              have hP : va_P D vwCl (pz_M q k formulas kind left right height laid rules ps qs rs fs checked stopped reason made (opened - 1) (upd ruleThen (x1).toNatClampNeg (rules (x1).toNatClampNeg)) heads (upd boxOf (x1).toNatClampNeg (around (inner).toNatClampNeg)) (upd shutBy (inner).toNatClampNeg x1) around (around (inner).toNatClampNeg) truth turned pile) H := hP
              refine lv_iconst (v := 0) hx hb dX4_look_141 (by decide) ?_
              exact W.iret (v := 0) hx hb hr (fun t ht hW => ⟨⟨0, (formulas, kind, left, right, height, (opened - 1), (upd ruleThen (x1).toNatClampNeg (rules (x1).toNatClampNeg)), heads, (upd boxOf (x1).toNatClampNeg (around (inner).toNatClampNeg)), (upd shutBy (inner).toNatClampNeg x1), around, (around (inner).toNatClampNeg)), rfl, hF.symm, pz_hp ht hP⟩, hS.F ht⟩) hS.2.2 dX4_look_142 hlocks
          · have hF := hF.trans (if_neg c_60)
            refine lv_iload_n hx hb dX4_look_84 rfl (lv_at hl 0 rfl) ?_
            exact W.iret (v := r_59) hx hb hr (fun t ht hW => ⟨⟨r_59, (formulas, kind, left, right, height, opened, ruleThen, heads, boxOf, shutBy, around, inner), rfl, hF.symm, pz_hp ht hP⟩, hS.F ht⟩) hS.2.2 dX4_look_85 hlocks
    · have hF := hF.trans (if_neg c_5)
      refine lv_iload_n hx hb dX4_look_31 rfl (lv_at hl 0 rfl) ?_
      exact W.iret (v := r_4) hx hb hr (fun t ht hW => ⟨⟨r_4, (formulas, kind, left, right, height, opened, ruleThen, heads, boxOf, shutBy, around, inner), rfl, hF.symm, pz_hp ht hP⟩, hS.F ht⟩) hS.2.2 dX4_look_32 hlocks
  · have hF := hF.trans (if_pos c_3)
    refine lv_bipush (v := 8) hx hb dX4_look_17 (by decide) ?_
    exact W.iret (v := 8) hx hb hr (fun t ht hW => ⟨⟨8, (formulas, kind, left, right, height, opened, ruleThen, heads, boxOf, shutBy, around, inner), rfl, hF.symm, pz_hp ht hP⟩, hS.F ht⟩) hS.2.2 dX4_look_19 hlocks

