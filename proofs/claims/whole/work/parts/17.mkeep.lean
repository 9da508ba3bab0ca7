/-! a line looked at by the reference keeps its bounds -/
abbrev pz_T13 : Type := Int32 × Int32 × (Nat → Int32) × (Nat → Int32) × (Nat → Int32) × (Nat → Int32) × Int32 × (Nat → Int32) × (Nat → Int32) × (Nat → Int32) × (Nat → Int32) × (Nat → Int32) × Int32
def pz_LK (formulas : Int32) (k : Int) (z : pz_T13) : Prop := pz_F z.2.1 z.2.2.1 z.2.2.2.1 z.2.2.2.2.1 ∧ formulas.toInt ≤ z.2.1.toInt ∧ (z.1 = 0 → pz_MI (k + 1) z.2.1 z.2.2.2.2.2.2.2.1 z.2.2.2.2.2.2.2.2.1 z.2.2.2.2.2.2.2.2.2.1 z.2.2.2.2.2.2.2.2.2.2.1 z.2.2.2.2.2.2.2.2.2.2.2.1 z.2.2.2.2.2.2.2.2.2.2.2.2) ∧ (¬ z.1 = 0 → pz_MI k z.2.1 z.2.2.2.2.2.2.2.1 z.2.2.2.2.2.2.2.2.1 z.2.2.2.2.2.2.2.2.2.1 z.2.2.2.2.2.2.2.2.2.2.1 z.2.2.2.2.2.2.2.2.2.2.2.1 z.2.2.2.2.2.2.2.2.2.2.2.2)
theorem pz_vfm {f f' x : Int32} (h : f.toInt ≤ f'.toInt) (hv : pz_vf f x) : pz_vf f' x := ⟨hv.1, by have := hv.2; omega⟩
section PzU
variable {rt around shutBy heads boxOf : Nat → Int32} {K : Nat} {r b formulas formulas' : Int32}
theorem pz_bxu (hlt : ∀ j, j < 60 → rt j = 1 → j < K) (h : pz_bx rt b) : pz_bx (upd rt K r) b := by
  rcases h with h | ⟨h0, h1, h2⟩
  · exact Or.inl h
  · have e := pz_tn h0
    have l := hlt b.toNatClampNeg (by omega) h2
    exact Or.inr ⟨h0, h1, by rw [pk_un (by omega)]; exact h2⟩
theorem pz_aru (hlt : ∀ j, j < 60 → rt j = 1 → j < K) (har : pz_ar rt around) (hr : ¬ r = 1) : pz_ar (upd rt K r) around := by
  intro j hj h1
  by_cases c : j = K
  · subst c; rw [pk_us] at h1; exact absurd h1 hr
  · rw [pk_un c] at h1
    rcases har j hj h1 with a | ⟨a, b, d⟩
    · exact Or.inl a
    · have e := pz_tn a
      have l := hlt _ (by omega) d
      exact Or.inr ⟨a, b, by rw [pk_un (by omega)]; exact d⟩
theorem pz_sbu (hsb : pz_sb rt shutBy) (hr : ¬ r = 1) : pz_sb (upd rt K r) shutBy := by
  intro j hj h1
  by_cases c : j = K
  · subst c; rw [pk_us] at h1; exact absurd h1 hr
  · rw [pk_un c] at h1; exact hsb j hj h1
theorem pz_ltu (hlt : ∀ j, j < 60 → rt j = 1 → j < K) (hr : ¬ r = 1) : ∀ j, j < 60 → upd rt K r j = 1 → j < K := by
  intro j hj h1
  by_cases c : j = K
  · subst c; rw [pk_us] at h1; exact absurd h1 hr
  · rw [pk_un c] at h1; exact hlt j hj h1
end PzU
section PzT
variable {formulas : Int32} {kind left right height ps qs rs fs ruleThen heads boxOf shutBy around : Nat → Int32} {opened inner x1 rule g : Int32}
theorem pz_lk_same (hf : pz_F formulas kind left right) {k : Int} (hmi : pz_MI k formulas ruleThen heads boxOf shutBy around inner) {r : Int32} (hr : ¬ r = 0) : pz_LK formulas k (r, formulas, kind, left, right, height, opened, ruleThen, heads, boxOf, shutBy, around, inner) := ⟨hf, Int.le_refl _, fun h => absurd h hr, fun _ => hmi⟩
theorem pz_lk_tail (hf : pz_F formulas kind left right) (hk : vp_in x1 60) (hmi : pz_MI x1.toInt formulas ruleThen heads boxOf shutBy around inner) (hH : ¬ rule = 2 → pz_MK formulas (f_X4_headOf formulas kind left right height ps qs fs heads shutBy x1 rule g)) (hz : rule = 0 ∨ rule = 1 → ¬ (f_X4_headOf formulas kind left right height ps qs fs heads shutBy x1 rule g).1 = -4) (h2 : rule = 2 → ¬ inner = -1) :
    pz_LK formulas x1.toInt (if rule = 2 then ((0, formulas, kind, left, right, height, (opened - 1), (upd ruleThen (x1).toNatClampNeg rule), heads, (upd boxOf (x1).toNatClampNeg (around (inner).toNatClampNeg)), (upd shutBy (inner).toNatClampNeg x1), around, (around (inner).toNatClampNeg))) else (pz_bnd (f_X4_headOf formulas kind left right height ps qs fs heads shutBy x1 rule g) (fun z_28 => if z_28.1 = (-4) then ((7, z_28.2.1, z_28.2.2.1, z_28.2.2.2.1, z_28.2.2.2.2.1, z_28.2.2.2.2.2, opened, (upd ruleThen (x1).toNatClampNeg rule), heads, boxOf, shutBy, around, inner)) else (if rule = 1 then ((0, z_28.2.1, z_28.2.2.1, z_28.2.2.2.1, z_28.2.2.2.2.1, z_28.2.2.2.2.2, (opened + 1), (upd ruleThen (x1).toNatClampNeg rule), (upd heads (x1).toNatClampNeg z_28.1), (upd boxOf (x1).toNatClampNeg x1), (upd shutBy (x1).toNatClampNeg (-1)), (upd around (x1).toNatClampNeg inner), x1)) else ((0, z_28.2.1, z_28.2.2.1, z_28.2.2.2.1, z_28.2.2.2.2.1, z_28.2.2.2.2.2, opened, (upd ruleThen (x1).toNatClampNeg rule), (upd heads (x1).toNatClampNeg z_28.1), (upd boxOf (x1).toNatClampNeg inner), shutBy, around, inner)))))) := by
  obtain ⟨har, hsb, hhd, hgr, hin, hl⟩ := hmi
  have ki := vp_in_iff.mp hk
  have ke := pz_tn ki.1
  have kn := pz_ixN hk
  have hlt : ∀ j, j < 60 → ruleThen j = 1 → j < x1.toNatClampNeg := fun j a b => by have := hl j a b; omega
  refine pz_it (P := pz_LK formulas x1.toInt) (fun c2 => ?_) (fun c2 => ?_)
  · -- SHUT
    have n1 : ¬ rule = 1 := by rw [c2]; decide
    have ni := h2 c2
    have ii := pz_bxi hin ni
    have ia := pz_arb har hin ni
    have i1 : ruleThen inner.toNatClampNeg = 1 := by rcases hin with h | h; exact absurd h ni; exact h.2.2
    refine ⟨hf, Int.le_refl _, fun _ => ⟨pz_aru hlt har n1, ?_, ?_, ?_, pz_bxu hlt ia.1, fun j a b => by have := pz_ltu hlt n1 j a b; omega⟩, fun h => absurd rfl h⟩
    · intro j hj h1
      have h1' := pz_sbu (K := x1.toNatClampNeg) hsb n1 j hj h1
      show upd shutBy inner.toNatClampNeg x1 j = -1 ∨ _
      by_cases cj : j = inner.toNatClampNeg
      · right
        have l := hlt _ (pz_ixN ii) i1
        show (j : Int) < (upd shutBy inner.toNatClampNeg x1 j).toInt ∧ (upd shutBy inner.toNatClampNeg x1 j).toInt < 60
        rw [cj, pk_us]; omega
      · show upd shutBy inner.toNatClampNeg x1 j = -1 ∨ ((j : Int) < (upd shutBy inner.toNatClampNeg x1 j).toInt ∧ (upd shutBy inner.toNatClampNeg x1 j).toInt < 60)
        rw [pk_un cj]; exact h1'
    · intro j hj h1
      have a := hhd j hj h1
      refine ⟨a.1, ?_⟩
      show pz_bx (upd ruleThen x1.toNatClampNeg rule) (upd boxOf x1.toNatClampNeg (around inner.toNatClampNeg) j)
      by_cases cj : j = x1.toNatClampNeg
      · rw [cj, pk_us]; exact pz_bxu hlt ia.1
      · rw [pk_un cj]; exact pz_bxu hlt a.2
    · intro j hj h1
      have h1 : upd ruleThen x1.toNatClampNeg rule j = 0 ∨ upd ruleThen x1.toNatClampNeg rule j = 1 := h1
      by_cases cj : j = x1.toNatClampNeg
      · rw [cj, pk_us, c2] at h1; exact absurd h1 (by decide)
      · rw [pk_un cj] at h1; exact hgr j hj h1
  · refine pz_bi (P := pz_LK formulas x1.toInt) (fun z e => ?_)
    have m := hH c2
    rw [← e] at m hz
    obtain ⟨mf, mle, mv⟩ := m
    have hhd' : pz_hd z.2.1 ruleThen heads boxOf := fun j hj h1 => ⟨pz_vfm mle (hhd j hj h1).1, (hhd j hj h1).2⟩
    have hgr' : pz_gr z.2.1 ruleThen heads := fun j hj h1 => pz_vfm mle (hgr j hj h1)
    refine pz_it (P := pz_LK formulas x1.toInt) (fun c4 => ?_) (fun c4 => ?_)
    · -- FULL
      have n0 : ¬ (rule = 0 ∨ rule = 1) := fun q => hz q c4
      have n1 : ¬ rule = 1 := fun q => n0 (Or.inr q)
      refine ⟨mf, mle, fun h => absurd (show (7 : Int32) = 0 from h) (by decide), fun _ => ⟨pz_aru hlt har n1, pz_sbu hsb n1, fun j hj h1 => ⟨(hhd' j hj h1).1, pz_bxu hlt (hhd' j hj h1).2⟩, ?_, pz_bxu hlt hin, fun j a b => by have := pz_ltu hlt n1 j a b; omega⟩⟩
      intro j hj h1
      have h1 : upd ruleThen x1.toNatClampNeg rule j = 0 ∨ upd ruleThen x1.toNatClampNeg rule j = 1 := h1
      by_cases cj : j = x1.toNatClampNeg
      · rw [cj, pk_us] at h1; exact absurd h1 n0
      · rw [pk_un cj] at h1; exact hgr' j hj h1
    · have hv : pz_vf z.2.1 z.1 := mv.elim (fun q => absurd q c4) id
      refine pz_it (P := pz_LK formulas x1.toInt) (fun c1 => ?_) (fun c1 => ?_)
      · -- ASSUME
        have bxk : pz_bx (upd ruleThen x1.toNatClampNeg rule) x1 := Or.inr ⟨ki.1, by omega, by rw [pk_us]; exact c1⟩
        refine ⟨mf, mle, fun _ => ⟨?_, ?_, ?_, ?_, bxk, ?_⟩, fun h => absurd rfl h⟩
        · intro j hj h1
          have h1 : upd ruleThen x1.toNatClampNeg rule j = 1 := h1
          show upd around x1.toNatClampNeg inner j = -1 ∨ (0 ≤ (upd around x1.toNatClampNeg inner j).toInt ∧ (upd around x1.toNatClampNeg inner j).toInt < j ∧ upd ruleThen x1.toNatClampNeg rule (upd around x1.toNatClampNeg inner j).toNatClampNeg = 1)
          by_cases cj : j = x1.toNatClampNeg
          · rw [cj, pk_us]
            rcases hin with h | ⟨h0, h3, h4⟩
            · exact Or.inl h
            · have l := hlt _ (pz_ixN (pz_inI h0 h3)) h4
              have e0 := pz_tn h0
              exact Or.inr ⟨h0, by omega, by rw [pk_un (by omega)]; exact h4⟩
          · rw [pk_un cj] at h1 ⊢
            rcases har j hj h1 with a | ⟨a, b, d⟩
            · exact Or.inl a
            · have e0 := pz_tn a
              have l := hlt _ (by omega) d
              exact Or.inr ⟨a, b, by rw [pk_un (by omega)]; exact d⟩
        · intro j hj h1
          have h1 : upd ruleThen x1.toNatClampNeg rule j = 1 := h1
          show upd shutBy x1.toNatClampNeg (-1) j = -1 ∨ ((j : Int) < (upd shutBy x1.toNatClampNeg (-1) j).toInt ∧ (upd shutBy x1.toNatClampNeg (-1) j).toInt < 60)
          by_cases cj : j = x1.toNatClampNeg
          · rw [cj, pk_us]; exact Or.inl rfl
          · rw [pk_un cj] at h1 ⊢; exact hsb j hj h1
        · intro j hj h1
          have h1 : ¬ upd heads x1.toNatClampNeg z.1 j = -1 := h1
          show pz_vf z.2.1 (upd heads x1.toNatClampNeg z.1 j) ∧ pz_bx (upd ruleThen x1.toNatClampNeg rule) (upd boxOf x1.toNatClampNeg x1 j)
          by_cases cj : j = x1.toNatClampNeg
          · rw [cj, pk_us, pk_us]; exact ⟨hv, bxk⟩
          · rw [pk_un cj] at h1; rw [pk_un cj, pk_un cj]
            exact ⟨(hhd' j hj h1).1, pz_bxu hlt (hhd' j hj h1).2⟩
        · intro j hj h1
          have h1 : upd ruleThen x1.toNatClampNeg rule j = 0 ∨ upd ruleThen x1.toNatClampNeg rule j = 1 := h1
          show pz_vf z.2.1 (upd heads x1.toNatClampNeg z.1 j)
          by_cases cj : j = x1.toNatClampNeg
          · rw [cj, pk_us]; exact hv
          · rw [pk_un cj] at h1 ⊢; exact hgr' j hj h1
        · intro j hj h1
          have h1 : upd ruleThen x1.toNatClampNeg rule j = 1 := h1
          by_cases cj : j = x1.toNatClampNeg
          · omega
          · rw [pk_un cj] at h1; have := hlt j hj h1; omega
      · -- any other
        refine ⟨mf, mle, fun _ => ⟨pz_aru hlt har c1, pz_sbu hsb c1, ?_, ?_, pz_bxu hlt hin, fun j a b => by have := pz_ltu hlt c1 j a b; omega⟩, fun h => absurd rfl h⟩
        · intro j hj h1
          have h1 : ¬ upd heads x1.toNatClampNeg z.1 j = -1 := h1
          show pz_vf z.2.1 (upd heads x1.toNatClampNeg z.1 j) ∧ pz_bx (upd ruleThen x1.toNatClampNeg rule) (upd boxOf x1.toNatClampNeg inner j)
          by_cases cj : j = x1.toNatClampNeg
          · rw [cj, pk_us, pk_us]; exact ⟨hv, pz_bxu hlt hin⟩
          · rw [pk_un cj] at h1; rw [pk_un cj, pk_un cj]
            exact ⟨(hhd' j hj h1).1, pz_bxu hlt (hhd' j hj h1).2⟩
        · intro j hj h1
          have h1 : upd ruleThen x1.toNatClampNeg rule j = 0 ∨ upd ruleThen x1.toNatClampNeg rule j = 1 := h1
          show pz_vf z.2.1 (upd heads x1.toNatClampNeg z.1 j)
          by_cases cj : j = x1.toNatClampNeg
          · rw [cj, pk_us]; exact hv
          · rw [pk_un cj] at h1 ⊢; exact hgr' j hj h1
end PzT
section PzLo
variable {formulas : Int32} {kind left right height rules ps qs rs fs ruleThen heads boxOf shutBy around : Nat → Int32} {opened inner x1 : Int32}
/-- the facts of a line that nothing stands against, as its head needs them -/
theorem pz_look_head {rule g zn zf zb : Int32} (hf : pz_F formulas kind left right) (hmi : pz_MI x1.toInt formulas ruleThen heads boxOf shutBy around inner) (hw : 0 ≤ rule.toInt ∧ rule.toInt ≤ 13) (en : zn = f_X4_badNumbers formulas ps qs rs fs heads boxOf shutBy around x1 rule) (n0 : zn = 0) (ef : zf = f_X4_badForm kind left right rule g) (f0 : zf = 0) (eb : zb = f_X4_badBoxes left right ps qs rs ruleThen heads shutBy around inner x1 rule g) (b0 : zb = 0) (hg : ∀ n : Int32, rule = n → 2 < n → ¬ n = 10 → pz_vf formulas g) : (¬ rule = 2 → pz_MK formulas (f_X4_headOf formulas kind left right height ps qs fs heads shutBy x1 rule g)) ∧ (rule = 0 ∨ rule = 1 → ¬ (f_X4_headOf formulas kind left right height ps qs fs heads shutBy x1 rule g).1 = -4) := by
  have ln := pz_LN en n0
  have bf := pz_BFk ef f0
  have fsv : rule < 2 ∨ rule = 7 ∨ rule = 8 ∨ rule = 12 → pz_vf formulas (fs x1.toNatClampNeg) := fun c => pz_isF hf.1 rfl (ln.2.2.2 c)
  have hend : ∀ x : Int32, vp_in x 60 → f_X4_badBox ruleThen heads shutBy around x = 0 → pz_vf formulas (f_X4_endOf heads shutBy x) := by
    intro x hx hb
    obtain ⟨b1, -, -, b4⟩ := pz_bb hmi.2.1 hx rfl hb
    exact (hmi.2.2.1 _ (pz_ixN b1) b4).1
  refine ⟨fun n2 => ?_, fun c => ?_⟩
  · refine pz_headOf_ok hf (fun c => hg _ c (by decide) (by decide)) (fun c => ⟨hg _ c (by decide) (by decide), ?_⟩) (fun c => ?_) (fun c => ?_) (fun c => ⟨?_, fsv (Or.inr (by rcases c with c | c; exact Or.inl c; exact Or.inr (Or.inl c)))⟩) (fun c => hend _ (ln.2.1 (Or.inr (Or.inl c))).1 (pz_BB9 eb b0 c)) (fun c => ⟨?_, hend _ (pz_Hp en n0 c) (pz_BB10 eb b0 c)⟩) (fun c => ?_) (fun m3 m4 m5 m6 m7 m8 m9 m10 m11 m13 => ?_)
    · have a := ln.2.1 (Or.inl c)
      exact (hmi.2.2.1 _ (pz_ixN a.1) (a.2.2 (by rw [c]; decide))).1
    · have k2 := bf.1 (Or.inl c)
      exact (pz_FLR hf (hg _ c (by decide) (by decide)) (by rw [k2]; decide) (by rw [k2]; decide)).1
    · rcases c with c | c
      · have k2 := bf.1 (Or.inr c)
        exact (pz_FLR hf (hg _ c (by decide) (by decide)) (by rw [k2]; decide) (by rw [k2]; decide)).2
      · have k2 := bf.2.2.1 c
        exact (pz_FLR hf (hg _ c (by decide) (by decide)) (by rw [k2]; decide) (by rw [k2]; decide)).2
    · rcases c with c | c <;> exact hg _ c (by decide) (by decide)
    · obtain ⟨-, b2, -, -⟩ := pz_bb hmi.2.1 (pz_Hp en n0 c) rfl (pz_BB10 eb b0 c)
      exact hmi.2.2.2.1 _ (pz_ixN (pz_Hp en n0 c)) (Or.inr b2)
    · obtain ⟨k1, -, k3, -⟩ := bf.2.2.2.2 c
      have a := (pz_FLR hf (hg _ c (by decide) (by decide)) (by rw [k1]; decide) (by rw [k1]; decide)).1
      exact (pz_FLR hf a (by rw [k3]; decide) (by rw [k3]; decide)).1
    · refine fsv ?_
      have e : ∀ v : Int32, ¬ rule = v → rule.toInt ≠ v.toInt := fun v h => pz_ne h
      have q2 := e _ n2; have q3 := e _ m3; have q4 := e _ m4; have q5 := e _ m5; have q6 := e _ m6; have q7 := e _ m7; have q8 := e _ m8; have q9 := e _ m9; have q10 := e _ m10; have q11 := e _ m11; have q13 := e _ m13
      have r2 : (2 : Int32).toInt = 2 := rfl
      have r3 : (3 : Int32).toInt = 3 := rfl
      have r4 : (4 : Int32).toInt = 4 := rfl
      have r5 : (5 : Int32).toInt = 5 := rfl
      have r6 : (6 : Int32).toInt = 6 := rfl
      have r7 : (7 : Int32).toInt = 7 := rfl
      have r8 : (8 : Int32).toInt = 8 := rfl
      have r9 : (9 : Int32).toInt = 9 := rfl
      have r10 : (10 : Int32).toInt = 10 := rfl
      have r11 : (11 : Int32).toInt = 11 := rfl
      have r13 : (13 : Int32).toInt = 13 := rfl
      by_cases c12 : rule.toInt = 12
      · exact Or.inr (Or.inr (Or.inr (Int32.toInt_inj.mp (c12.trans rfl))))
      · exact Or.inl (Int32.lt_iff_toInt_lt.mpr (by omega))
  · have v := fsv (Or.inl (by rcases c with c | c <;> rw [c] <;> decide))
    have e : (f_X4_headOf formulas kind left right height ps qs fs heads shutBy x1 rule g).1 = fs x1.toNatClampNeg := by
      unfold f_X4_headOf
      rcases c with c | c <;> rw [c] <;> rfl
    rw [e]
    intro q
    have v0 := v.1
    rw [q, pz_m4] at v0
    exact absurd v0 (by decide)
theorem pz_look_ok (hf : pz_F formulas kind left right) (hk : vp_in x1 60) (hmi : pz_MI x1.toInt formulas ruleThen heads boxOf shutBy around inner) : pz_LK formulas x1.toInt (f_X4_look formulas kind left right height rules ps qs rs fs opened ruleThen heads boxOf shutBy around inner x1) := by
  unfold f_X4_look
  refine pz_bi (P := pz_LK formulas x1.toInt) (fun zw ew => ?_)
  refine pz_it (P := pz_LK formulas x1.toInt) (fun _ => pz_lk_same hf hmi (by decide)) (fun cw => ?_)
  have hw := pz_within_1 ew cw
  have e13 : (13 : Int32).toInt = 13 := rfl
  rw [pz_zero, e13] at hw
  refine pz_bi (P := pz_LK formulas x1.toInt) (fun zn en => ?_)
  refine pz_it (P := pz_LK formulas x1.toInt) (fun n0 => ?_) (fun n0 => pz_lk_same hf hmi n0)
  refine pz_it (P := pz_LK formulas x1.toInt) (fun c2 => ?_) (fun c2 => ?_)
  · refine pz_bi (P := pz_LK formulas x1.toInt) (fun zf ef => ?_)
    refine pz_it (P := pz_LK formulas x1.toInt) (fun f0 => ?_) (fun f0 => ?_)
    · refine pz_bi (P := pz_LK formulas x1.toInt) (fun zb eb => ?_)
      refine pz_it (P := pz_LK formulas x1.toInt) (fun b0 => ?_) (fun b0 => pz_lk_same hf hmi b0)
      have hh := pz_look_head (height := height) hf hmi hw en n0 ef f0 eb b0 (pz_HG0 c2)
      exact pz_lk_tail hf hk hmi hh.1 hh.2 (pz_BB2 eb b0)
    · exact pz_it (P := pz_LK formulas x1.toInt) (fun q => absurd q f0) (fun _ => pz_lk_same hf hmi f0)
  · refine pz_bi (P := pz_LK formulas x1.toInt) (fun zf ef => ?_)
    refine pz_it (P := pz_LK formulas x1.toInt) (fun f0 => ?_) (fun f0 => ?_)
    · refine pz_bi (P := pz_LK formulas x1.toInt) (fun zb eb => ?_)
      refine pz_it (P := pz_LK formulas x1.toInt) (fun b0 => ?_) (fun b0 => pz_lk_same hf hmi b0)
      have hh := pz_look_head (height := height) hf hmi hw en n0 ef f0 eb b0 (pz_HG hmi en n0)
      exact pz_lk_tail hf hk hmi hh.1 hh.2 (pz_BB2 eb b0)
    · exact pz_it (P := pz_LK formulas x1.toInt) (fun q => absurd q f0) (fun _ => pz_lk_same hf hmi f0)
end PzLo

