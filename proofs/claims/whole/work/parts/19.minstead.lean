/-! the reference's instead: its pile ends, and stays in its bounds -/
def pz_kn (formulas : Int32) (kind : Nat → Int32) : Prop := ∀ j : Nat, (j : Int) < formulas.toInt → 0 ≤ (kind j).toInt
def pz_KP (formulas : Int32) (kind left right : Nat → Int32) (z : pz_T6) : Prop := (∀ j : Nat, (j : Int) < formulas.toInt → z.2.2.1 j = kind j ∧ z.2.2.2.1 j = left j ∧ z.2.2.2.2.1 j = right j) ∧ pz_kn z.2.1 z.2.2.1
section PzKp
variable {formulas : Int32} {kind left right height : Nat → Int32} {x1 x2 x3 x4 x5 x6 : Int32}
theorem pz_kp122 (hc : pz_c formulas) (hk : pz_kn formulas kind) (hx : 0 ≤ x1.toInt) : pz_KP formulas kind left right (F_X4_make_122 formulas kind left right height x1 x2 x3 x4 x5 x6) := by
  unfold F_X4_make_122
  refine pz_it (P := pz_KP formulas kind left right) (fun c => ⟨fun _ _ => ⟨rfl, rfl, rfl⟩, hk⟩) (fun c => ?_)
  refine pz_it (P := pz_KP formulas kind left right) (fun c2 => ?_) (fun _ => ⟨fun _ _ => ⟨rfl, rfl, rfl⟩, hk⟩)
  have e := pz_tn hc.1
  have b := hc.2
  have i := pz_inc (x := formulas) (by omega)
  refine ⟨fun j hj => ?_, fun j hj => ?_⟩
  · have n : j ≠ formulas.toNatClampNeg := by omega
    exact ⟨pk_un n, pk_un n, pk_un n⟩
  · have hj : (j : Int) < (formulas + 1).toInt := hj
    show 0 ≤ (upd kind formulas.toNatClampNeg x1 j).toInt
    by_cases cj : j = formulas.toNatClampNeg
    · rw [cj, pk_us]; exact hx
    · rw [pk_un cj]; exact hk j (by omega)
theorem pz_kp26 (hc : pz_c formulas) (hk : pz_kn formulas kind) (hx : 0 ≤ x1.toInt) : ∀ (n : Nat) (x6 : Int32), pz_KP formulas kind left right (F_X4_make_26 n formulas kind left right height x1 x2 x3 x4 x5 x6) := by
  intro n
  induction n with
  | zero => intro x6; exact ⟨fun _ _ => ⟨rfl, rfl, rfl⟩, hk⟩
  | succ n ih =>
    intro x6
    unfold F_X4_make_26
    refine pz_it (P := pz_KP formulas kind left right) (fun c => ?_) (fun c => ?_)
    · refine pz_it (P := pz_KP formulas kind left right) (fun _ => ?_) (fun _ => pz_kp122 hc hk hx)
      exact pz_it (P := pz_KP formulas kind left right) (fun _ => pz_kp122 hc hk hx) (fun _ => pz_kp122 hc hk hx)
    · have nx := ih (x6 + 1)
      refine pz_it (P := pz_KP formulas kind left right) (fun _ => ?_) (fun _ => nx)
      refine pz_it (P := pz_KP formulas kind left right) (fun _ => ?_) (fun _ => nx)
      refine pz_it (P := pz_KP formulas kind left right) (fun _ => ?_) (fun _ => nx)
      exact ⟨fun _ _ => ⟨rfl, rfl, rfl⟩, hk⟩
theorem pz_kp (hc : pz_c formulas) (hk : pz_kn formulas kind) (hx : 0 ≤ x1.toInt) : pz_KP formulas kind left right (f_X4_make formulas kind left right height x1 x2 x3) := by
  unfold f_X4_make
  refine pz_it (P := pz_KP formulas kind left right) (fun _ => ?_) (fun _ => ?_)
  · exact pz_it (P := pz_KP formulas kind left right) (fun _ => pz_kp26 hc hk hx 81 0) (fun _ => pz_kp26 hc hk hx 81 0)
  · exact pz_it (P := pz_KP formulas kind left right) (fun _ => pz_kp26 hc hk hx 81 0) (fun _ => pz_kp26 hc hk hx 81 0)
end PzKp
def pz_un (t : Nat → Int32) : Nat → Nat
  | 0 => 0
  | m + 1 => pz_un t m + (if t m = -1 then 1 else 0)
theorem pz_un_le (t : Nat → Int32) : ∀ m, pz_un t m ≤ m := by
  intro m
  induction m with
  | zero => exact Nat.le_refl 0
  | succ m ih => unfold pz_un; split <;> omega
theorem pz_un_ge {t : Nat → Int32} {g : Nat} {v : Int32} : ∀ m, m ≤ g → pz_un (upd t g v) m = pz_un t m := by
  intro m
  induction m with
  | zero => intro _; rfl
  | succ m ih => intro h; unfold pz_un; rw [ih (by omega), pk_un (by omega)]
theorem pz_un_upd {t : Nat → Int32} {g : Nat} {v : Int32} (h1 : t g = -1) (hv : ¬ v = -1) : ∀ m, g < m → pz_un (upd t g v) m + 1 = pz_un t m := by
  intro m
  induction m with
  | zero => intro h; exact absurd h (Nat.not_lt_zero g)
  | succ m ih =>
    intro h
    unfold pz_un
    by_cases c : m = g
    · subst c
      rw [pk_us, if_neg hv, pz_un_ge m (Nat.le_refl m), h1, if_pos rfl]
    · rw [pk_un c]
      have a := ih (by omega)
      omega
def pz_tu (formulas : Int32) (kind turned : Nat → Int32) (x : Int32) : Prop := ∀ j : Nat, (j : Int) < x.toInt → (turned j = -1 ∧ ¬ kind j = 0 ∧ ¬ kind j = 1) ∨ pz_vf formulas (turned j)
theorem pz_tus {formulas : Int32} {kind turned : Nat → Int32} {x v : Int32} (h : pz_tu formulas kind turned x) (h0 : 0 ≤ x.toInt) (hx : (x + 1).toInt = x.toInt + 1) (hv : (v = -1 ∧ ¬ kind x.toNatClampNeg = 0 ∧ ¬ kind x.toNatClampNeg = 1) ∨ pz_vf formulas v) : pz_tu formulas kind (upd turned x.toNatClampNeg v) (x + 1) := by
  intro j hj
  by_cases c : j = x.toNatClampNeg
  · rw [c, pk_us]; exact hv
  · rw [pk_un c]
    have e := pz_tn h0
    exact h j (by omega)
def pz_WI (formulas : Int32) (kind turned pile : Nat → Int32) (x1 x4 : Int32) (n : Nat) : Prop :=
  (0 ≤ x4.toInt ∧ 1 ≤ n) ∧ (∀ j : Nat, (j : Int) ≤ x1.toInt → (turned j = -1 ∧ ¬ kind j = 0 ∧ ¬ kind j = 1) ∨ pz_vf formulas (turned j)) ∧ (∀ i : Nat, (i : Int) < x4.toInt → 0 ≤ (pile i).toInt ∧ (pile i).toInt + i ≤ x1.toInt) ∧ (∀ i j : Nat, i < j → (j : Int) < x4.toInt → (pile j).toInt < (pile i).toInt) ∧ (x4.toInt ≤ 1 ∨ ∀ i : Nat, (i : Int) < x4.toInt → turned (pile i).toNatClampNeg = -1) ∧ (x4.toInt = 0 ∨ (pz_un turned 80 : Int) * 200 + (100 - x4.toInt) + 2 ≤ n)
section PzW
variable {formulas formulas' : Int32} {kind left right kind' turned pile : Nat → Int32} {x1 x4 v : Int32} {n : Nat}
theorem pz_W0 (h : pz_tu formulas kind turned x4) (hx : x1 < x4) (hv : pz_vf formulas x1) : pz_WI formulas kind turned (upd pile (0 : Int32).toNatClampNeg x1) x1 1 16200 := by
  have a := pz_lt hx
  have e1 : (1 : Int32).toInt = 1 := rfl
  have e0 : (0 : Int32).toNatClampNeg = 0 := rfl
  have u := pz_un_le turned 80
  refine ⟨⟨by decide, by decide⟩, fun j hj => h j (by omega), fun i hi => ?_, fun i j hij hj => ?_, Or.inl (by decide), Or.inr (by rw [e1]; omega)⟩
  · rw [e1] at hi
    have : i = 0 := by omega
    subst this
    rw [e0, pk_us]
    have := hv.1
    omega
  · rw [e1] at hj; omega
/-- where the top lies, and what it is -/
theorem pz_Wtop (hv : pz_vf formulas x1) (hc : pz_c formulas) (h : pz_WI formulas kind turned pile x1 x4 n) (hp : ¬ x4 ≤ 0) : (0 < x4.toInt ∧ x4.toInt ≤ 80 ∧ (x4 - 1).toInt = x4.toInt - 1 ∧ ((x4 - 1).toNatClampNeg : Int) = x4.toInt - 1) ∧ 0 ≤ (pile (x4 - 1).toNatClampNeg).toInt ∧ (pile (x4 - 1).toNatClampNeg).toInt + (x4.toInt - 1) ≤ x1.toInt := by
  have a := pz_nle hp
  rw [pz_zero] at a
  have e := pz_sub1 (f := x4) (by omega)
  have e2 := pz_tn (x := x4 - 1) (by omega)
  have t := h.2.2.1 (x4 - 1).toNatClampNeg (by omega)
  have b := hc.2
  have b2 := hv.2
  exact ⟨⟨a, by omega, e, by omega⟩, t.1, by omega⟩
theorem pz_Wa (h : pz_WI formulas kind turned pile x1 x4 (n + 1)) (hv : pz_vf formulas x1) (hc : pz_c formulas) (hp : ¬ x4 ≤ 0) (ht : ¬ turned (pile (x4 - 1).toNatClampNeg).toNatClampNeg = -1) : pz_WI formulas kind turned pile x1 (x4 + (-1)) n := by
  obtain ⟨⟨p1, p2, p3, p4⟩, p5, p6⟩ := pz_Wtop hv hc h hp
  obtain ⟨⟨a1, a2⟩, a3, a4, a5, a6, a7⟩ := h
  have d := pz_dec (x := x4) (by omega)
  have one : x4.toInt = 1 := by
    rcases a6 with a6 | a6
    · omega
    · exact absurd (a6 _ (by omega)) ht
  refine ⟨⟨by omega, ?_⟩, a3, fun i hi => a4 i (by omega), fun i j hij hj => a5 i j hij (by omega), Or.inl (by omega), Or.inl (by omega)⟩
  rcases a7 with a7 | a7 <;> omega
theorem pz_Wb (h : pz_WI formulas kind turned pile x1 x4 (n + 1)) (hv : pz_vf formulas x1) (hc : pz_c formulas) (hp : ¬ x4 ≤ 0) (ht : turned (pile (x4 - 1).toNatClampNeg).toNatClampNeg = -1) (h0 : 0 ≤ v.toInt) (hlt : v.toInt < (pile (x4 - 1).toNatClampNeg).toInt) (hvt : turned v.toNatClampNeg = -1) : pz_WI formulas kind turned (upd pile x4.toNatClampNeg v) x1 (x4 + 1) n := by
  obtain ⟨⟨p1, p2, p3, p4⟩, p5, p6⟩ := pz_Wtop hv hc h hp
  obtain ⟨⟨a1, a2⟩, a3, a4, a5, a6, a7⟩ := h
  have d := pz_inc (x := x4) (by omega)
  have e := pz_tn a1
  have all : ∀ i : Nat, (i : Int) < x4.toInt → turned (pile i).toNatClampNeg = -1 := by
    rcases a6 with a6 | a6
    · intro i hi
      have : i = (x4 - 1).toNatClampNeg := by omega
      rw [this]; exact ht
    · exact a6
  refine ⟨⟨by omega, by rcases a7 with a7 | a7 <;> omega⟩, a3, fun i hi => ?_, fun i j hij hj => ?_, Or.inr (fun i hi => ?_), Or.inr (by rcases a7 with a7 | a7 <;> omega)⟩
  · by_cases c : i = x4.toNatClampNeg
    · rw [c, pk_us]; omega
    · rw [pk_un c]; exact a4 i (by omega)
  · by_cases c : j = x4.toNatClampNeg
    · rw [c, pk_us, pk_un (by omega)]
      by_cases ci : i = (x4 - 1).toNatClampNeg
      · rw [ci]; exact hlt
      · have := a5 i (x4 - 1).toNatClampNeg (by omega) (by omega); omega
    · rw [pk_un c, pk_un (by omega)]; exact a5 i j hij (by omega)
  · by_cases c : i = x4.toNatClampNeg
    · rw [c, pk_us]; exact hvt
    · rw [pk_un c]; exact all i (by omega)
theorem pz_Wd (h : pz_WI formulas kind turned pile x1 x4 (n + 1)) (hv : pz_vf formulas x1) (hc : pz_c formulas) (hp : ¬ x4 ≤ 0) (ht : turned (pile (x4 - 1).toNatClampNeg).toNatClampNeg = -1) (hle : formulas.toInt ≤ formulas'.toInt) (hk : ∀ j : Nat, (j : Int) < formulas.toInt → kind' j = kind j) (hr : pz_vf formulas' v) : pz_WI formulas' kind' (upd turned (pile (x4 - 1).toNatClampNeg).toNatClampNeg v) pile x1 (x4 + (-1)) n := by
  obtain ⟨⟨p1, p2, p3, p4⟩, p5, p6⟩ := pz_Wtop hv hc h hp
  obtain ⟨⟨a1, a2⟩, a3, a4, a5, a6, a7⟩ := h
  have d := pz_dec (x := x4) (by omega)
  have e := pz_tn p5
  have hv2 := hv.2
  have hc2 := hc.2
  have vn : ¬ v = -1 := fun q => by have := hr.1; rw [q, pz_m1] at this; exact absurd this (by decide)
  have un := pz_un_upd (t := turned) (g := (pile (x4 - 1).toNatClampNeg).toNatClampNeg) (v := v) ht vn 80 (by omega)
  refine ⟨⟨by omega, by rcases a7 with a7 | a7 <;> omega⟩, fun j hj => ?_, fun i hi => a4 i (by omega), fun i j hij hj => a5 i j hij (by omega), ?_, ?_⟩
  · by_cases c : j = (pile (x4 - 1).toNatClampNeg).toNatClampNeg
    · rw [c, pk_us]; exact Or.inr hr
    · rw [pk_un c, hk j (by omega)]
      rcases a3 j hj with q | q
      · exact Or.inl q
      · exact Or.inr (pz_vfm hle q)
  · by_cases one : x4.toInt ≤ 1
    · exact Or.inl (by omega)
    · refine Or.inr (fun i hi => ?_)
      have b := a5 i (x4 - 1).toNatClampNeg (by omega) (by omega)
      have b0 := (a4 i (by omega)).1
      have ei := pz_tn b0
      rw [pk_un (by omega)]
      rcases a6 with a6 | a6
      · exact absurd a6 one
      · exact a6 i (by omega)
  · rcases a7 with a7 | a7
    · omega
    · exact Or.inr (by omega)
/-- the parts of an unturned top -/
theorem pz_Wg (hf : pz_F formulas kind left right) (h : pz_WI formulas kind turned pile x1 x4 n) (hv : pz_vf formulas x1) (hp : ¬ x4 ≤ 0) (ht : turned (pile (x4 - 1).toNatClampNeg).toNatClampNeg = -1) : (0 ≤ (left (pile (x4 - 1).toNatClampNeg).toNatClampNeg).toInt ∧ (left (pile (x4 - 1).toNatClampNeg).toNatClampNeg).toInt < (pile (x4 - 1).toNatClampNeg).toInt) ∧ (0 ≤ (right (pile (x4 - 1).toNatClampNeg).toNatClampNeg).toInt ∧ (right (pile (x4 - 1).toNatClampNeg).toNatClampNeg).toInt < (pile (x4 - 1).toNatClampNeg).toInt) ∧ ¬ kind (pile (x4 - 1).toNatClampNeg).toNatClampNeg = 0 ∧ ¬ kind (pile (x4 - 1).toNatClampNeg).toNatClampNeg = 1 := by
  obtain ⟨⟨p1, p2, p3, p4⟩, p5, p6⟩ := pz_Wtop hv hf.1 h hp
  have e := pz_tn p5
  have hv2 := hv.2
  have q := h.2.1 (pile (x4 - 1).toNatClampNeg).toNatClampNeg (by omega)
  rcases q with q | q
  · have r := hf.2 (pile (x4 - 1).toNatClampNeg).toNatClampNeg (by omega) q.2.1 q.2.2
    exact ⟨⟨r.1.1, by omega⟩, ⟨r.2.1, by omega⟩, q.2.1, q.2.2⟩
  · have := q.1; rw [ht, pz_m1] at this; exact absurd this (by decide)
theorem pz_Wt (h : pz_WI formulas kind turned pile x1 x4 n) {y : Int32} (h0 : 0 ≤ y.toInt) (hy : y.toInt ≤ x1.toInt) (ht : ¬ turned y.toNatClampNeg = -1) : pz_vf formulas (turned y.toNatClampNeg) := by
  have e := pz_tn h0
  rcases h.2.1 y.toNatClampNeg (by omega) with q | q
  · exact absurd q.1 ht
  · exact q
end PzW

-- == X4_instead
def F_X4_instead_110 : Nat → (Int32) → (Nat → Int32) → (Nat → Int32) → (Nat → Int32) → (Nat → Int32) → (Nat → Int32) → (Nat → Int32) → (Int32) → (Int32) → (Int32) → (Int32) → Int32 × (Int32) × (Nat → Int32) × (Nat → Int32) × (Nat → Int32) × (Nat → Int32) × (Nat → Int32) × (Nat → Int32)
  | 0, formulas, kind, left, right, height, turned, pile, x1, x2, x3, x4 => (0, formulas, kind, left, right, height, turned, pile)
  | n + 1, formulas, kind, left, right, height, turned, pile, x1, x2, x3, x4 => if x4 ≤ 0 then (((turned (x1).toNatClampNeg), formulas, kind, left, right, height, turned, pile)) else (if (turned ((pile ((x4 - 1)).toNatClampNeg)).toNatClampNeg) = (-1) then (if (turned ((left ((pile ((x4 - 1)).toNatClampNeg)).toNatClampNeg)).toNatClampNeg) = (-1) then (F_X4_instead_110 n formulas kind left right height turned (upd pile (x4).toNatClampNeg (left ((pile ((x4 - 1)).toNatClampNeg)).toNatClampNeg)) x1 x2 x3 (x4 + 1)) else (if (turned ((right ((pile ((x4 - 1)).toNatClampNeg)).toNatClampNeg)).toNatClampNeg) = (-1) then (F_X4_instead_110 n formulas kind left right height turned (upd pile (x4).toNatClampNeg (right ((pile ((x4 - 1)).toNatClampNeg)).toNatClampNeg)) x1 x2 x3 (x4 + 1)) else (pz_bnd (f_X4_make formulas kind left right height (kind ((pile ((x4 - 1)).toNatClampNeg)).toNatClampNeg) (turned ((left ((pile ((x4 - 1)).toNatClampNeg)).toNatClampNeg)).toNatClampNeg) (turned ((right ((pile ((x4 - 1)).toNatClampNeg)).toNatClampNeg)).toNatClampNeg)) (fun z_17 => if z_17.1 = (-4) then (((-4), z_17.2.1, z_17.2.2.1, z_17.2.2.2.1, z_17.2.2.2.2.1, z_17.2.2.2.2.2, turned, pile)) else (F_X4_instead_110 n z_17.2.1 z_17.2.2.1 z_17.2.2.2.1 z_17.2.2.2.2.1 z_17.2.2.2.2.2 (upd turned ((pile ((x4 - 1)).toNatClampNeg)).toNatClampNeg z_17.1) pile x1 x2 x3 (x4 + (-1))))))) else (F_X4_instead_110 n formulas kind left right height turned pile x1 x2 x3 (x4 + (-1))))
def F_X4_instead_34 : Nat → (Int32) → (Nat → Int32) → (Nat → Int32) → (Nat → Int32) → (Nat → Int32) → (Nat → Int32) → (Nat → Int32) → (Int32) → (Int32) → (Int32) → (Int32) → Int32 × (Int32) × (Nat → Int32) × (Nat → Int32) × (Nat → Int32) × (Nat → Int32) × (Nat → Int32) × (Nat → Int32)
  | 0, formulas, kind, left, right, height, turned, pile, x1, x2, x3, x4 => (0, formulas, kind, left, right, height, turned, pile)
  | n + 1, formulas, kind, left, right, height, turned, pile, x1, x2, x3, x4 => if x1 < x4 then (F_X4_instead_110 16200 formulas kind left right height turned (upd pile (0 : Int32).toNatClampNeg x1) x1 x2 x3 1) else (if (kind (x4).toNatClampNeg) = 0 then (F_X4_instead_34 n formulas kind left right height (upd turned (x4).toNatClampNeg x4) pile x1 x2 x3 (x4 + 1)) else (if (kind (x4).toNatClampNeg) = 1 then (if (left (x4).toNatClampNeg) = x2 then (F_X4_instead_34 n formulas kind left right height (upd turned (x4).toNatClampNeg x3) pile x1 x2 x3 (x4 + 1)) else (F_X4_instead_34 n formulas kind left right height (upd turned (x4).toNatClampNeg x4) pile x1 x2 x3 (x4 + 1))) else (F_X4_instead_34 n formulas kind left right height (upd turned (x4).toNatClampNeg (-1)) pile x1 x2 x3 (x4 + 1))))
def f_X4_instead (formulas : Int32) (kind : Nat → Int32) (left : Nat → Int32) (right : Nat → Int32) (height : Nat → Int32) (turned : Nat → Int32) (pile : Nat → Int32) (x1 : Int32) (x2 : Int32) (x3 : Int32) : Int32 × (Int32) × (Nat → Int32) × (Nat → Int32) × (Nat → Int32) × (Nat → Int32) × (Nat → Int32) × (Nat → Int32) := pz_bnd (f_X4_isFormula formulas x1) (fun z_36 => if z_36 = 0 then (((-2), formulas, kind, left, right, height, turned, pile)) else (pz_bnd (f_X4_isFormula formulas x3) (fun z_38 => if z_38 = 0 then (((-2), formulas, kind, left, right, height, turned, pile)) else (pz_bnd (f_X4_within x2 0 5) (fun z_40 => if z_40 = 0 then (((-3), formulas, kind, left, right, height, turned, pile)) else (F_X4_instead_34 81 formulas kind left right height turned pile x1 x2 x3 0))))))
theorem fl_X4_instead_13 : Cond.fieldLink RX4 13 "BoxProofsModel" "left" "[I" ∈ wsX4_instead := by decide +kernel
theorem fl_X4_instead_16 : Cond.fieldLink RX4 16 "BoxProofsModel" "right" "[I" ∈ wsX4_instead := by decide +kernel
theorem fl_X4_instead_59 : Cond.fieldLink RX4 59 "BoxProofsModel" "turned" "[I" ∈ wsX4_instead := by decide +kernel
theorem fl_X4_instead_62 : Cond.fieldLink RX4 62 "BoxProofsModel" "pile" "[I" ∈ wsX4_instead := by decide +kernel
theorem fl_X4_instead_7 : Cond.fieldLink RX4 7 "BoxProofsModel" "kind" "[I" ∈ wsX4_instead := by decide +kernel
theorem in_X4_instead_X4 : ∀ w ∈ wsX40, w ∈ wsX4_instead := by decide +kernel
set_option maxHeartbeats 4000000 in
set_option maxRecDepth 100000 in
theorem k_X4_instead_110 {p : Program} {l : Launch} {e : Env} {s : State} {m : MethodId} {args : Array Value} {below : List Frame} {meth : Method} {c : Code} {D : va_G} {q : Nat → Nat} {k : Nat → ClassId} (hC : pz_C p s m args meth c cX4_instead wsX4_instead RX4 7 (some .int)) (hKX : pz_KM D q k s) (laid : Nat → Int32) (rules : Nat → Int32) (ps : Nat → Int32) (qs : Nat → Int32) (rs : Nat → Int32) (fs : Nat → Int32) (checked : Int32) (stopped : Int32) (reason : Int32) (made : Int32) (opened : Int32) (ruleThen : Nat → Int32) (heads : Nat → Int32) (boxOf : Nat → Int32) (shutBy : Nat → Int32) (around : Nat → Int32) (inner : Int32) (truth : Nat → Int32) {G : Int32 × (Int32) × (Nat → Int32) × (Nat → Int32) × (Nat → Int32) × (Nat → Int32) × (Nat → Int32) × (Nat → Int32)} :
    ∀ (n : Nat) (formulas : Int32) (kind : Nat → Int32) (left : Nat → Int32) (right : Nat → Int32) (height : Nat → Int32) (turned : Nat → Int32) (pile : Nat → Int32) (x1 : Int32) (x2 : Int32) (x3 : Int32) (x4 : Int32) (hv1 : pz_vf formulas x1) (hw : pz_WI formulas kind turned pile x1 x4 n) (hf : pz_F formulas kind left right) (hkn : pz_kn formulas kind) (H : Heap) (locs : List Loc) (ls : Array Slot), G = F_X4_instead_110 n formulas kind left right height turned pile x1 x2 x3 x4 → va_P D vwCl (pz_M q k formulas kind left right height laid rules ps qs rs fs checked stopped reason made opened ruleThen heads boxOf shutBy around inner truth turned pile) H → va_S (pz_A 19 q) s.heap H locs → lv_has ls 7 [(0, .ref (q 0)), (1, .int (x1)), (2, .int (x2)), (3, .int (x3)), (4, .int (x4))] → W p l e (headSpec wsX4_instead { frames := 2, cells := 0, slots := 0, locals := 43 }).room s m args below meth c H locs 0 0 (MQ below (va_Qi (fun r (u : (Int32) × (Nat → Int32) × (Nat → Int32) × (Nat → Int32) × (Nat → Int32) × (Nat → Int32) × (Nat → Int32)) => (r, u) = G) (fun u t => va_P D vwCl (pz_M q k u.1 u.2.1 u.2.2.1 u.2.2.2.1 u.2.2.2.2.1 laid rules ps qs rs fs checked stopped reason made opened ruleThen heads boxOf shutBy around inner truth u.2.2.2.2.2.1 u.2.2.2.2.2.2) t.heap) (pz_A 19 q)) args s 0 0 (pz_A 19 q)) (F0 m 110 ls []) := by
  obtain ⟨hx, hb, hml, hown, hts, hr, hlocks⟩ := hC
  have hC : pz_C p s m args meth c cX4_instead wsX4_instead RX4 7 (some .int) := ⟨hx, hb, hml, hown, hts, hr, hlocks⟩
  have hK := hKX.1
  intro n
  induction n with
  | zero =>
    intro formulas kind left right height turned pile x1 x2 x3 x4 hv1 hw hf hkn H locs ls hF hP hS hl
    exact absurd hw.1.2 (by omega)
  | succ n ih =>
    intro formulas kind left right height turned pile x1 x2 x3 x4 hv1 hw hf hkn H locs ls hF hP hS hl
    unfold F_X4_instead_110 at hF
    refine lv_iload hx hb dX4_instead_110 (lv_at hl 4 rfl) ?_
    refine lv_if_le (tgt := 277) hx hb dX4_instead_112 (by decide) (fun c_1 => ?_) (fun c_1 => ?_)
    · have hF := hF.trans (if_pos c_1)
      refine lv_aload_n hx hb dX4_instead_277 rfl (lv_at hl 0 rfl) ?_
      refine va_get (D := D) (ci := 4) (v := .ref (q 17)) (C := RX4) (T := TX4) (N := 25) hx hb hts in_X4_instead_X4 hown hK hP 0 rfl rfl 23 (by decide) (hts _ fl_X4_instead_59) (fun _ h9 => h9) rfl dX4_instead_278 ?_
      refine lv_iload_n hx hb dX4_instead_281 rfl (lv_at hl 1 rfl) ?_
      have hi_2 : vp_in x1 80 := pz_vin hf.1 hv1
      refine va_iald hx hb hK hP 17 0 rfl rfl hi_2 dX4_instead_282 ?_
      exact W.iret (v := (turned (x1).toNatClampNeg)) hx hb hr (fun t ht hW => ⟨⟨(turned (x1).toNatClampNeg), (formulas, kind, left, right, height, turned, pile), rfl, hF.symm, pz_hp ht hP⟩, hS.F ht⟩) hS.2.2 dX4_instead_283 hlocks
    · have hF := hF.trans (if_neg c_1)
      refine lv_aload_n hx hb dX4_instead_115 rfl (lv_at hl 0 rfl) ?_
      refine va_get (D := D) (ci := 4) (v := .ref (q 18)) (C := RX4) (T := TX4) (N := 25) hx hb hts in_X4_instead_X4 hown hK hP 0 rfl rfl 24 (by decide) (hts _ fl_X4_instead_62) (fun _ h9 => h9) rfl dX4_instead_116 ?_
      refine lv_iload hx hb dX4_instead_119 (lv_at hl 4 rfl) ?_
      refine lv_iconst (v := 1) hx hb dX4_instead_121 (by decide) ?_
      refine lv_isub hx hb dX4_instead_122 ?_
      have hi_3 : vp_in (x4 - 1) 200 := (pz_inI (by have a := (pz_Wtop hv1 hf.1 hw ‹¬ x4 ≤ 0›); omega) (by have a := (pz_Wtop hv1 hf.1 hw ‹¬ x4 ≤ 0›); omega))
      refine va_iald hx hb hK hP 18 0 rfl rfl hi_3 dX4_instead_123 ?_
      refine lv_istore (lv' := [(5, .int ((pile ((x4 - 1)).toNatClampNeg))), (0, .ref (q 0)), (1, .int (x1)), (2, .int (x2)), (3, .int (x3)), (4, .int (x4))]) hx hb dX4_instead_124 hl (by decide) rfl (fun ls hl => ?_)
      refine lv_aload_n hx hb dX4_instead_126 rfl (lv_at hl 1 rfl) ?_
      refine va_get (D := D) (ci := 4) (v := .ref (q 17)) (C := RX4) (T := TX4) (N := 25) hx hb hts in_X4_instead_X4 hown hK hP 0 rfl rfl 23 (by decide) (hts _ fl_X4_instead_59) (fun _ h9 => h9) rfl dX4_instead_127 ?_
      refine lv_iload hx hb dX4_instead_130 (lv_at hl 0 rfl) ?_
      have hi_4 : vp_in (pile ((x4 - 1)).toNatClampNeg) 80 := (pz_inI (pz_Wtop hv1 hf.1 hw ‹¬ x4 ≤ 0›).2.1 (by have a := (pz_Wtop hv1 hf.1 hw ‹¬ x4 ≤ 0›); have b := hv1.2; have c := hf.1.2; omega))
      refine va_iald hx hb hK hP 17 0 rfl rfl hi_4 dX4_instead_132 ?_
      refine lv_iconst (v := (-1)) hx hb dX4_instead_133 (by decide) ?_
      refine lv_icmp_eq (tgt := 143) hx hb dX4_instead_134 (by decide) (fun c_5 => ?_) (fun c_5 => ?_)
      · have hF := hF.trans (if_pos c_5)
        refine lv_aload_n hx hb dX4_instead_143 rfl (lv_at hl 1 rfl) ?_
        refine va_get (D := D) (ci := 4) (v := .ref (q 17)) (C := RX4) (T := TX4) (N := 25) hx hb hts in_X4_instead_X4 hown hK hP 0 rfl rfl 23 (by decide) (hts _ fl_X4_instead_59) (fun _ h9 => h9) rfl dX4_instead_144 ?_
        refine lv_aload_n hx hb dX4_instead_147 rfl (lv_at hl 1 rfl) ?_
        refine va_get (D := D) (ci := 4) (v := .ref (q 2)) (C := RX4) (T := TX4) (N := 25) hx hb hts in_X4_instead_X4 hown hK hP 0 rfl rfl 2 (by decide) (hts _ fl_X4_instead_13) (fun _ h9 => h9) rfl dX4_instead_148 ?_
        refine lv_iload hx hb dX4_instead_151 (lv_at hl 0 rfl) ?_
        have hi_6 : vp_in (pile ((x4 - 1)).toNatClampNeg) 80 := (pz_inI (pz_Wtop hv1 hf.1 hw ‹¬ x4 ≤ 0›).2.1 (by have a := (pz_Wtop hv1 hf.1 hw ‹¬ x4 ≤ 0›); have b := hv1.2; have c := hf.1.2; omega))
        refine va_iald hx hb hK hP 2 0 rfl rfl hi_6 dX4_instead_153 ?_
        have hi_7 : vp_in (left ((pile ((x4 - 1)).toNatClampNeg)).toNatClampNeg) 80 := (pz_inI (pz_Wg hf hw hv1 ‹¬ x4 ≤ 0› ‹turned (pile (x4 - 1).toNatClampNeg).toNatClampNeg = (-1)›).1.1 (by have a := (pz_Wtop hv1 hf.1 hw ‹¬ x4 ≤ 0›); have d := (pz_Wg hf hw hv1 ‹¬ x4 ≤ 0› ‹turned (pile (x4 - 1).toNatClampNeg).toNatClampNeg = (-1)›); have b := hv1.2; have c := hf.1.2; omega))
        refine va_iald hx hb hK hP 17 0 rfl rfl hi_7 dX4_instead_154 ?_
        refine lv_iconst (v := (-1)) hx hb dX4_instead_155 (by decide) ?_
        refine lv_icmp_ne (tgt := 179) hx hb dX4_instead_156 (by decide) (fun c_8 => ?_) (fun c_8 => ?_)
        · have hF := hF.trans (if_neg c_8)
          refine lv_aload_n hx hb dX4_instead_179 rfl (lv_at hl 1 rfl) ?_
          refine va_get (D := D) (ci := 4) (v := .ref (q 17)) (C := RX4) (T := TX4) (N := 25) hx hb hts in_X4_instead_X4 hown hK hP 0 rfl rfl 23 (by decide) (hts _ fl_X4_instead_59) (fun _ h9 => h9) rfl dX4_instead_180 ?_
          refine lv_aload_n hx hb dX4_instead_183 rfl (lv_at hl 1 rfl) ?_
          refine va_get (D := D) (ci := 4) (v := .ref (q 3)) (C := RX4) (T := TX4) (N := 25) hx hb hts in_X4_instead_X4 hown hK hP 0 rfl rfl 3 (by decide) (hts _ fl_X4_instead_16) (fun _ h9 => h9) rfl dX4_instead_184 ?_
          refine lv_iload hx hb dX4_instead_187 (lv_at hl 0 rfl) ?_
          have hi_9 : vp_in (pile ((x4 - 1)).toNatClampNeg) 80 := (pz_inI (pz_Wtop hv1 hf.1 hw ‹¬ x4 ≤ 0›).2.1 (by have a := (pz_Wtop hv1 hf.1 hw ‹¬ x4 ≤ 0›); have b := hv1.2; have c := hf.1.2; omega))
          refine va_iald hx hb hK hP 3 0 rfl rfl hi_9 dX4_instead_189 ?_
          have hi_10 : vp_in (right ((pile ((x4 - 1)).toNatClampNeg)).toNatClampNeg) 80 := (pz_inI (pz_Wg hf hw hv1 ‹¬ x4 ≤ 0› ‹turned (pile (x4 - 1).toNatClampNeg).toNatClampNeg = (-1)›).2.1.1 (by have a := (pz_Wtop hv1 hf.1 hw ‹¬ x4 ≤ 0›); have d := (pz_Wg hf hw hv1 ‹¬ x4 ≤ 0› ‹turned (pile (x4 - 1).toNatClampNeg).toNatClampNeg = (-1)›); have b := hv1.2; have c := hf.1.2; omega))
          refine va_iald hx hb hK hP 17 0 rfl rfl hi_10 dX4_instead_190 ?_
          refine lv_iconst (v := (-1)) hx hb dX4_instead_191 (by decide) ?_
          refine lv_icmp_ne (tgt := 215) hx hb dX4_instead_192 (by decide) (fun c_11 => ?_) (fun c_11 => ?_)
          · have hF := hF.trans (if_neg c_11)
            refine lv_aload_n hx hb dX4_instead_215 rfl (lv_at hl 1 rfl) ?_
            refine lv_aload_n hx hb dX4_instead_216 rfl (lv_at hl 1 rfl) ?_
            refine va_get (D := D) (ci := 4) (v := .ref (q 1)) (C := RX4) (T := TX4) (N := 25) hx hb hts in_X4_instead_X4 hown hK hP 0 rfl rfl 1 (by decide) (hts _ fl_X4_instead_7) (fun _ h9 => h9) rfl dX4_instead_217 ?_
            refine lv_iload hx hb dX4_instead_220 (lv_at hl 0 rfl) ?_
            have hi_12 : vp_in (pile ((x4 - 1)).toNatClampNeg) 80 := (pz_inI (pz_Wtop hv1 hf.1 hw ‹¬ x4 ≤ 0›).2.1 (by have a := (pz_Wtop hv1 hf.1 hw ‹¬ x4 ≤ 0›); have b := hv1.2; have c := hf.1.2; omega))
            refine va_iald hx hb hK hP 1 0 rfl rfl hi_12 dX4_instead_222 ?_
            refine lv_aload_n hx hb dX4_instead_223 rfl (lv_at hl 1 rfl) ?_
            refine va_get (D := D) (ci := 4) (v := .ref (q 17)) (C := RX4) (T := TX4) (N := 25) hx hb hts in_X4_instead_X4 hown hK hP 0 rfl rfl 23 (by decide) (hts _ fl_X4_instead_59) (fun _ h9 => h9) rfl dX4_instead_224 ?_
            refine lv_aload_n hx hb dX4_instead_227 rfl (lv_at hl 1 rfl) ?_
            refine va_get (D := D) (ci := 4) (v := .ref (q 2)) (C := RX4) (T := TX4) (N := 25) hx hb hts in_X4_instead_X4 hown hK hP 0 rfl rfl 2 (by decide) (hts _ fl_X4_instead_13) (fun _ h9 => h9) rfl dX4_instead_228 ?_
            refine lv_iload hx hb dX4_instead_231 (lv_at hl 0 rfl) ?_
            have hi_13 : vp_in (pile ((x4 - 1)).toNatClampNeg) 80 := (pz_inI (pz_Wtop hv1 hf.1 hw ‹¬ x4 ≤ 0›).2.1 (by have a := (pz_Wtop hv1 hf.1 hw ‹¬ x4 ≤ 0›); have b := hv1.2; have c := hf.1.2; omega))
            refine va_iald hx hb hK hP 2 0 rfl rfl hi_13 dX4_instead_233 ?_
            have hi_14 : vp_in (left ((pile ((x4 - 1)).toNatClampNeg)).toNatClampNeg) 80 := (pz_inI (pz_Wg hf hw hv1 ‹¬ x4 ≤ 0› ‹turned (pile (x4 - 1).toNatClampNeg).toNatClampNeg = (-1)›).1.1 (by have a := (pz_Wtop hv1 hf.1 hw ‹¬ x4 ≤ 0›); have d := (pz_Wg hf hw hv1 ‹¬ x4 ≤ 0› ‹turned (pile (x4 - 1).toNatClampNeg).toNatClampNeg = (-1)›); have b := hv1.2; have c := hf.1.2; omega))
            refine va_iald hx hb hK hP 17 0 rfl rfl hi_14 dX4_instead_234 ?_
            refine lv_aload_n hx hb dX4_instead_235 rfl (lv_at hl 1 rfl) ?_
            refine va_get (D := D) (ci := 4) (v := .ref (q 17)) (C := RX4) (T := TX4) (N := 25) hx hb hts in_X4_instead_X4 hown hK hP 0 rfl rfl 23 (by decide) (hts _ fl_X4_instead_59) (fun _ h9 => h9) rfl dX4_instead_236 ?_
            refine lv_aload_n hx hb dX4_instead_239 rfl (lv_at hl 1 rfl) ?_
            refine va_get (D := D) (ci := 4) (v := .ref (q 3)) (C := RX4) (T := TX4) (N := 25) hx hb hts in_X4_instead_X4 hown hK hP 0 rfl rfl 3 (by decide) (hts _ fl_X4_instead_16) (fun _ h9 => h9) rfl dX4_instead_240 ?_
            refine lv_iload hx hb dX4_instead_243 (lv_at hl 0 rfl) ?_
            have hi_15 : vp_in (pile ((x4 - 1)).toNatClampNeg) 80 := (pz_inI (pz_Wtop hv1 hf.1 hw ‹¬ x4 ≤ 0›).2.1 (by have a := (pz_Wtop hv1 hf.1 hw ‹¬ x4 ≤ 0›); have b := hv1.2; have c := hf.1.2; omega))
            refine va_iald hx hb hK hP 3 0 rfl rfl hi_15 dX4_instead_245 ?_
            have hi_16 : vp_in (right ((pile ((x4 - 1)).toNatClampNeg)).toNatClampNeg) 80 := (pz_inI (pz_Wg hf hw hv1 ‹¬ x4 ≤ 0› ‹turned (pile (x4 - 1).toNatClampNeg).toNatClampNeg = (-1)›).2.1.1 (by have a := (pz_Wtop hv1 hf.1 hw ‹¬ x4 ≤ 0›); have d := (pz_Wg hf hw hv1 ‹¬ x4 ≤ 0› ‹turned (pile (x4 - 1).toNatClampNeg).toNatClampNeg = (-1)›); have b := hv1.2; have c := hf.1.2; omega))
            refine va_iald hx hb hK hP 17 0 rfl rfl hi_16 dX4_instead_246 ?_
            refine pz_Vi (As := [.int ((kind ((pile ((x4 - 1)).toNatClampNeg)).toNatClampNeg)), .int ((turned ((left ((pile ((x4 - 1)).toNatClampNeg)).toNatClampNeg)).toNatClampNeg)), .int ((turned ((right ((pile ((x4 - 1)).toNatClampNeg)).toNatClampNeg)).toNatClampNeg))]) (rest := []) ⟨hx, hb, hml, hown, hts⟩ (c_X4_make l D q k formulas kind left right height laid rules ps qs rs fs checked stopped reason made opened ruleThen heads boxOf shutBy around inner truth turned pile (kind ((pile ((x4 - 1)).toNatClampNeg)).toNatClampNeg) (turned ((left ((pile ((x4 - 1)).toNatClampNeg)).toNatClampNeg)).toNatClampNeg) (turned ((right ((pile ((x4 - 1)).toNatClampNeg)).toNatClampNeg)).toNatClampNeg) hf.1 (fun _ => ⟨pz_vin hf.1 (pz_Wt hw (pz_Wg hf hw hv1 ‹¬ x4 ≤ 0› ‹turned (pile (x4 - 1).toNatClampNeg).toNatClampNeg = (-1)›).1.1 (by have a := (pz_Wtop hv1 hf.1 hw ‹¬ x4 ≤ 0›); have d := (pz_Wg hf hw hv1 ‹¬ x4 ≤ 0› ‹turned (pile (x4 - 1).toNatClampNeg).toNatClampNeg = (-1)›); omega) ‹¬ turned (left (pile (x4 - 1).toNatClampNeg).toNatClampNeg).toNatClampNeg = (-1)›), pz_vin hf.1 (pz_Wt hw (pz_Wg hf hw hv1 ‹¬ x4 ≤ 0› ‹turned (pile (x4 - 1).toNatClampNeg).toNatClampNeg = (-1)›).2.1.1 (by have a := (pz_Wtop hv1 hf.1 hw ‹¬ x4 ≤ 0›); have d := (pz_Wg hf hw hv1 ‹¬ x4 ≤ 0› ‹turned (pile (x4 - 1).toNatClampNeg).toNatClampNeg = (-1)›); omega) ‹¬ turned (right (pile (x4 - 1).toNatClampNeg).toNatClampNeg).toNatClampNeg = (-1)›)⟩)) (cwV 3 hts gX4_instead_X4_make rfl rfl rfl hdV_X4_make ⟨Nat.le_of_ble_eq_true rfl, Nat.le_of_ble_eq_true rfl⟩) pz_KM.call hKX.go (va_recv hK hP (ci := 4) (q0 := 0) rfl rfl) hP hS rfl hl.1 rfl (Nat.le_of_ble_eq_true rfl) dX4_instead_247 ⟨Nat.zero_le _, Nat.zero_le _⟩ (fun r_17 u_17 H locs hF_17 hP hS => ?_)
            obtain ⟨w_17_formulas, w_17_kind, w_17_left, w_17_right, w_17_height⟩ := u_17
            have hP : va_P D vwCl (pz_M q k w_17_formulas w_17_kind w_17_left w_17_right w_17_height laid rules ps qs rs fs checked stopped reason made opened ruleThen heads boxOf shutBy around inner truth turned pile) H := hP
            have hF := hF.trans (pz_be hF_17)
            try dsimp only at hF
            have hmk : pz_MK formulas (r_17, w_17_formulas, w_17_kind, w_17_left, w_17_right, w_17_height) := by rw [hF_17]; exact pz_mk hf (fun _ => ⟨(pz_Wt hw (pz_Wg hf hw hv1 ‹¬ x4 ≤ 0› ‹turned (pile (x4 - 1).toNatClampNeg).toNatClampNeg = (-1)›).1.1 (by have a := (pz_Wtop hv1 hf.1 hw ‹¬ x4 ≤ 0›); have d := (pz_Wg hf hw hv1 ‹¬ x4 ≤ 0› ‹turned (pile (x4 - 1).toNatClampNeg).toNatClampNeg = (-1)›); omega) ‹¬ turned (left (pile (x4 - 1).toNatClampNeg).toNatClampNeg).toNatClampNeg = (-1)›), (pz_Wt hw (pz_Wg hf hw hv1 ‹¬ x4 ≤ 0› ‹turned (pile (x4 - 1).toNatClampNeg).toNatClampNeg = (-1)›).2.1.1 (by have a := (pz_Wtop hv1 hf.1 hw ‹¬ x4 ≤ 0›); have d := (pz_Wg hf hw hv1 ‹¬ x4 ≤ 0› ‹turned (pile (x4 - 1).toNatClampNeg).toNatClampNeg = (-1)›); omega) ‹¬ turned (right (pile (x4 - 1).toNatClampNeg).toNatClampNeg).toNatClampNeg = (-1)›)⟩) (hkn _ (by have a := (pz_Wtop hv1 hf.1 hw ‹¬ x4 ≤ 0›); have e := pz_tn (pz_Wtop hv1 hf.1 hw ‹¬ x4 ≤ 0›).2.1; have b := hv1.2; omega))
            have hkp : pz_KP formulas kind left right (r_17, w_17_formulas, w_17_kind, w_17_left, w_17_right, w_17_height) := by rw [hF_17]; exact pz_kp hf.1 hkn (hkn _ (by have a := (pz_Wtop hv1 hf.1 hw ‹¬ x4 ≤ 0›); have e := pz_tn (pz_Wtop hv1 hf.1 hw ‹¬ x4 ≤ 0›).2.1; have b := hv1.2; omega))
            have hfO := hf
            have hf : pz_F w_17_formulas w_17_kind w_17_left w_17_right := hmk.1
            have hknO := hkn
            have hkn : pz_kn w_17_formulas w_17_kind := hkp.2
            refine lv_istore (lv' := [(6, .int (r_17)), (5, .int ((pile ((x4 - 1)).toNatClampNeg))), (0, .ref (q 0)), (1, .int (x1)), (2, .int (x2)), (3, .int (x3)), (4, .int (x4))]) hx hb dX4_instead_250 hl (by decide) rfl (fun ls hl => ?_)
            refine lv_iload hx hb dX4_instead_252 (lv_at hl 0 rfl) ?_
            refine lv_bipush (v := (-4)) hx hb dX4_instead_254 (by decide) ?_
            refine lv_icmp_ne (tgt := 262) hx hb dX4_instead_256 (by decide) (fun c_18 => ?_) (fun c_18 => ?_)
            · have hF := hF.trans (if_neg c_18)
              refine lv_aload_n hx hb dX4_instead_262 rfl (lv_at hl 2 rfl) ?_
              refine va_get (D := D) (ci := 4) (v := .ref (q 17)) (C := RX4) (T := TX4) (N := 25) hx hb hts in_X4_instead_X4 hown hK hP 0 rfl rfl 23 (by decide) (hts _ fl_X4_instead_59) (fun _ h9 => h9) rfl dX4_instead_263 ?_
              refine lv_iload hx hb dX4_instead_266 (lv_at hl 1 rfl) ?_
              refine lv_iload hx hb dX4_instead_268 (lv_at hl 0 rfl) ?_
              have hi_19 : vp_in (pile ((x4 - 1)).toNatClampNeg) 80 := by first | exact (pz_inI (pz_Wtop hv1 hf.1 hw ‹¬ x4 ≤ 0›).2.1 (by have a := (pz_Wtop hv1 hf.1 hw ‹¬ x4 ≤ 0›); have b := hv1.2; have c := hf.1.2; omega)) | exact (pz_inI (pz_Wtop hv1 hfO.1 hw ‹¬ x4 ≤ 0›).2.1 (by have a := (pz_Wtop hv1 hfO.1 hw ‹¬ x4 ≤ 0›); have b := hv1.2; have c := hfO.1.2; omega))
              refine va_iast hx hb hK hP (pz_D hKX.2 rfl) hS 17 0 rfl rfl hi_19 dX4_instead_270 (fun H locs hP _ hS => ?_)
              have hP : va_P D vwCl (pz_M q k w_17_formulas w_17_kind w_17_left w_17_right w_17_height laid rules ps qs rs fs checked stopped reason made opened ruleThen heads boxOf shutBy around inner truth (upd turned ((pile ((x4 - 1)).toNatClampNeg)).toNatClampNeg r_17) pile) H := hP
              refine lv_iinc (v := (x4 + (-1))) (lv' := [(4, .int ((x4 + (-1)))), (6, .int (r_17)), (5, .int ((pile ((x4 - 1)).toNatClampNeg))), (0, .ref (q 0)), (1, .int (x1)), (2, .int (x2)), (3, .int (x3))]) hx hb dX4_instead_271 hl (k := 6) rfl rfl (by decide) rfl (fun ls hl => ?_)
              refine lv_goto (tgt := 110) hx hb dX4_instead_274 (by decide) ?_
              exact ih w_17_formulas w_17_kind w_17_left w_17_right w_17_height (upd turned ((pile ((x4 - 1)).toNatClampNeg)).toNatClampNeg r_17) pile x1 x2 x3 (x4 + (-1)) (pz_vfm hmk.2.1 hv1) (pz_Wd hw hv1 hfO.1 ‹¬ x4 ≤ 0› ‹turned (pile (x4 - 1).toNatClampNeg).toNatClampNeg = (-1)› hmk.2.1 (fun j hj => (hkp.1 j hj).1) (hmk.2.2.elim (fun z => absurd z ‹_›) id)) hf hkn _ _ _ hF hP hS (lv_sub hl [3, 4, 5, 6, 0] rfl)
            · have hF := hF.trans (if_pos c_18)
              refine lv_bipush (v := (-4)) hx hb dX4_instead_259 (by decide) ?_
              exact W.iret (v := (-4)) hx hb hr (fun t ht hW => ⟨⟨(-4), (w_17_formulas, w_17_kind, w_17_left, w_17_right, w_17_height, turned, pile), rfl, hF.symm, pz_hp ht hP⟩, hS.F ht⟩) hS.2.2 dX4_instead_261 hlocks
          · have hF := hF.trans (if_pos c_11)
            refine lv_aload_n hx hb dX4_instead_195 rfl (lv_at hl 1 rfl) ?_
            refine va_get (D := D) (ci := 4) (v := .ref (q 18)) (C := RX4) (T := TX4) (N := 25) hx hb hts in_X4_instead_X4 hown hK hP 0 rfl rfl 24 (by decide) (hts _ fl_X4_instead_62) (fun _ h9 => h9) rfl dX4_instead_196 ?_
            refine lv_iload hx hb dX4_instead_199 (lv_at hl 5 rfl) ?_
            refine lv_aload_n hx hb dX4_instead_201 rfl (lv_at hl 1 rfl) ?_
            refine va_get (D := D) (ci := 4) (v := .ref (q 3)) (C := RX4) (T := TX4) (N := 25) hx hb hts in_X4_instead_X4 hown hK hP 0 rfl rfl 3 (by decide) (hts _ fl_X4_instead_16) (fun _ h9 => h9) rfl dX4_instead_202 ?_
            refine lv_iload hx hb dX4_instead_205 (lv_at hl 0 rfl) ?_
            have hi_20 : vp_in (pile ((x4 - 1)).toNatClampNeg) 80 := (pz_inI (pz_Wtop hv1 hf.1 hw ‹¬ x4 ≤ 0›).2.1 (by have a := (pz_Wtop hv1 hf.1 hw ‹¬ x4 ≤ 0›); have b := hv1.2; have c := hf.1.2; omega))
            refine va_iald hx hb hK hP 3 0 rfl rfl hi_20 dX4_instead_207 ?_
            have hi_21 : vp_in x4 200 := (pz_inI (by have a := (pz_Wtop hv1 hf.1 hw ‹¬ x4 ≤ 0›); omega) (by have a := (pz_Wtop hv1 hf.1 hw ‹¬ x4 ≤ 0›); omega))
            refine va_iast hx hb hK hP (pz_D hKX.2 rfl) hS 18 0 rfl rfl hi_21 dX4_instead_208 (fun H locs hP _ hS => ?_)
            have hP : va_P D vwCl (pz_M q k formulas kind left right height laid rules ps qs rs fs checked stopped reason made opened ruleThen heads boxOf shutBy around inner truth turned (upd pile (x4).toNatClampNeg (right ((pile ((x4 - 1)).toNatClampNeg)).toNatClampNeg))) H := hP
            refine lv_iinc (v := (x4 + 1)) (lv' := [(4, .int ((x4 + 1))), (5, .int ((pile ((x4 - 1)).toNatClampNeg))), (0, .ref (q 0)), (1, .int (x1)), (2, .int (x2)), (3, .int (x3))]) hx hb dX4_instead_209 hl (k := 5) rfl rfl (by decide) rfl (fun ls hl => ?_)
            refine lv_goto (tgt := 274) hx hb dX4_instead_212 (by decide) ?_
            refine lv_goto (tgt := 110) hx hb dX4_instead_274 (by decide) ?_
            exact ih formulas kind left right height turned (upd pile (x4).toNatClampNeg (right ((pile ((x4 - 1)).toNatClampNeg)).toNatClampNeg)) x1 x2 x3 (x4 + 1) hv1 (pz_Wb hw hv1 hf.1 ‹¬ x4 ≤ 0› ‹turned (pile (x4 - 1).toNatClampNeg).toNatClampNeg = (-1)› (pz_Wg hf hw hv1 ‹¬ x4 ≤ 0› ‹turned (pile (x4 - 1).toNatClampNeg).toNatClampNeg = (-1)›).2.1.1 (pz_Wg hf hw hv1 ‹¬ x4 ≤ 0› ‹turned (pile (x4 - 1).toNatClampNeg).toNatClampNeg = (-1)›).2.1.2 ‹turned (right (pile (x4 - 1).toNatClampNeg).toNatClampNeg).toNatClampNeg = (-1)›) hf hkn _ _ _ hF hP hS (lv_sub hl [2, 3, 4, 5, 0] rfl)
        · have hF := hF.trans (if_pos c_8)
          refine lv_aload_n hx hb dX4_instead_159 rfl (lv_at hl 1 rfl) ?_
          refine va_get (D := D) (ci := 4) (v := .ref (q 18)) (C := RX4) (T := TX4) (N := 25) hx hb hts in_X4_instead_X4 hown hK hP 0 rfl rfl 24 (by decide) (hts _ fl_X4_instead_62) (fun _ h9 => h9) rfl dX4_instead_160 ?_
          refine lv_iload hx hb dX4_instead_163 (lv_at hl 5 rfl) ?_
          refine lv_aload_n hx hb dX4_instead_165 rfl (lv_at hl 1 rfl) ?_
          refine va_get (D := D) (ci := 4) (v := .ref (q 2)) (C := RX4) (T := TX4) (N := 25) hx hb hts in_X4_instead_X4 hown hK hP 0 rfl rfl 2 (by decide) (hts _ fl_X4_instead_13) (fun _ h9 => h9) rfl dX4_instead_166 ?_
          refine lv_iload hx hb dX4_instead_169 (lv_at hl 0 rfl) ?_
          have hi_22 : vp_in (pile ((x4 - 1)).toNatClampNeg) 80 := (pz_inI (pz_Wtop hv1 hf.1 hw ‹¬ x4 ≤ 0›).2.1 (by have a := (pz_Wtop hv1 hf.1 hw ‹¬ x4 ≤ 0›); have b := hv1.2; have c := hf.1.2; omega))
          refine va_iald hx hb hK hP 2 0 rfl rfl hi_22 dX4_instead_171 ?_
          have hi_23 : vp_in x4 200 := (pz_inI (by have a := (pz_Wtop hv1 hf.1 hw ‹¬ x4 ≤ 0›); omega) (by have a := (pz_Wtop hv1 hf.1 hw ‹¬ x4 ≤ 0›); omega))
          refine va_iast hx hb hK hP (pz_D hKX.2 rfl) hS 18 0 rfl rfl hi_23 dX4_instead_172 (fun H locs hP _ hS => ?_)
          have hP : va_P D vwCl (pz_M q k formulas kind left right height laid rules ps qs rs fs checked stopped reason made opened ruleThen heads boxOf shutBy around inner truth turned (upd pile (x4).toNatClampNeg (left ((pile ((x4 - 1)).toNatClampNeg)).toNatClampNeg))) H := hP
          refine lv_iinc (v := (x4 + 1)) (lv' := [(4, .int ((x4 + 1))), (5, .int ((pile ((x4 - 1)).toNatClampNeg))), (0, .ref (q 0)), (1, .int (x1)), (2, .int (x2)), (3, .int (x3))]) hx hb dX4_instead_173 hl (k := 5) rfl rfl (by decide) rfl (fun ls hl => ?_)
          refine lv_goto (tgt := 274) hx hb dX4_instead_176 (by decide) ?_
          refine lv_goto (tgt := 110) hx hb dX4_instead_274 (by decide) ?_
          exact ih formulas kind left right height turned (upd pile (x4).toNatClampNeg (left ((pile ((x4 - 1)).toNatClampNeg)).toNatClampNeg)) x1 x2 x3 (x4 + 1) hv1 (pz_Wb hw hv1 hf.1 ‹¬ x4 ≤ 0› ‹turned (pile (x4 - 1).toNatClampNeg).toNatClampNeg = (-1)› (pz_Wg hf hw hv1 ‹¬ x4 ≤ 0› ‹turned (pile (x4 - 1).toNatClampNeg).toNatClampNeg = (-1)›).1.1 (pz_Wg hf hw hv1 ‹¬ x4 ≤ 0› ‹turned (pile (x4 - 1).toNatClampNeg).toNatClampNeg = (-1)›).1.2 ‹turned (left (pile (x4 - 1).toNatClampNeg).toNatClampNeg).toNatClampNeg = (-1)›) hf hkn _ _ _ hF hP hS (lv_sub hl [2, 3, 4, 5, 0] rfl)
      · have hF := hF.trans (if_neg c_5)
        refine lv_iinc (v := (x4 + (-1))) (lv' := [(4, .int ((x4 + (-1)))), (5, .int ((pile ((x4 - 1)).toNatClampNeg))), (0, .ref (q 0)), (1, .int (x1)), (2, .int (x2)), (3, .int (x3))]) hx hb dX4_instead_137 hl (k := 5) rfl rfl (by decide) rfl (fun ls hl => ?_)
        refine lv_goto (tgt := 274) hx hb dX4_instead_140 (by decide) ?_
        refine lv_goto (tgt := 110) hx hb dX4_instead_274 (by decide) ?_
        exact ih formulas kind left right height turned pile x1 x2 x3 (x4 + (-1)) hv1 (pz_Wa hw hv1 hf.1 ‹¬ x4 ≤ 0› ‹_›) hf hkn _ _ _ hF hP hS (lv_sub hl [2, 3, 4, 5, 0] rfl)
set_option maxHeartbeats 4000000 in
set_option maxRecDepth 100000 in
theorem k_X4_instead_34 {p : Program} {l : Launch} {e : Env} {s : State} {m : MethodId} {args : Array Value} {below : List Frame} {meth : Method} {c : Code} {D : va_G} {q : Nat → Nat} {k : Nat → ClassId} (hC : pz_C p s m args meth c cX4_instead wsX4_instead RX4 7 (some .int)) (hKX : pz_KM D q k s) (laid : Nat → Int32) (rules : Nat → Int32) (ps : Nat → Int32) (qs : Nat → Int32) (rs : Nat → Int32) (fs : Nat → Int32) (checked : Int32) (stopped : Int32) (reason : Int32) (made : Int32) (opened : Int32) (ruleThen : Nat → Int32) (heads : Nat → Int32) (boxOf : Nat → Int32) (shutBy : Nat → Int32) (around : Nat → Int32) (inner : Int32) (truth : Nat → Int32) {G : Int32 × (Int32) × (Nat → Int32) × (Nat → Int32) × (Nat → Int32) × (Nat → Int32) × (Nat → Int32) × (Nat → Int32)} :
    ∀ (n : Nat) (formulas : Int32) (kind : Nat → Int32) (left : Nat → Int32) (right : Nat → Int32) (height : Nat → Int32) (turned : Nat → Int32) (pile : Nat → Int32) (x1 : Int32) (x2 : Int32) (x3 : Int32) (x4 : Int32) (hv1 : pz_vf formulas x1) (hv3 : pz_vf formulas x3) (ht : pz_tu formulas kind turned x4) (h0 : 0 ≤ x4.toInt) (h1 : x4.toInt ≤ 80) (hn : 81 ≤ x4.toInt + n) (hf : pz_F formulas kind left right) (hkn : pz_kn formulas kind) (H : Heap) (locs : List Loc) (ls : Array Slot), G = F_X4_instead_34 n formulas kind left right height turned pile x1 x2 x3 x4 → va_P D vwCl (pz_M q k formulas kind left right height laid rules ps qs rs fs checked stopped reason made opened ruleThen heads boxOf shutBy around inner truth turned pile) H → va_S (pz_A 19 q) s.heap H locs → lv_has ls 7 [(0, .ref (q 0)), (1, .int (x1)), (2, .int (x2)), (3, .int (x3)), (4, .int (x4))] → W p l e (headSpec wsX4_instead { frames := 2, cells := 0, slots := 0, locals := 43 }).room s m args below meth c H locs 0 0 (MQ below (va_Qi (fun r (u : (Int32) × (Nat → Int32) × (Nat → Int32) × (Nat → Int32) × (Nat → Int32) × (Nat → Int32) × (Nat → Int32)) => (r, u) = G) (fun u t => va_P D vwCl (pz_M q k u.1 u.2.1 u.2.2.1 u.2.2.2.1 u.2.2.2.2.1 laid rules ps qs rs fs checked stopped reason made opened ruleThen heads boxOf shutBy around inner truth u.2.2.2.2.2.1 u.2.2.2.2.2.2) t.heap) (pz_A 19 q)) args s 0 0 (pz_A 19 q)) (F0 m 34 ls []) := by
  obtain ⟨hx, hb, hml, hown, hts, hr, hlocks⟩ := hC
  have hC : pz_C p s m args meth c cX4_instead wsX4_instead RX4 7 (some .int) := ⟨hx, hb, hml, hown, hts, hr, hlocks⟩
  have hK := hKX.1
  intro n
  induction n with
  | zero =>
    intro formulas kind left right height turned pile x1 x2 x3 x4 hv1 hv3 ht h0 h1 hn hf hkn H locs ls hF hP hS hl
    exact absurd hn (by omega)
  | succ n ih =>
    intro formulas kind left right height turned pile x1 x2 x3 x4 hv1 hv3 ht h0 h1 hn hf hkn H locs ls hF hP hS hl
    unfold F_X4_instead_34 at hF
    refine lv_iload hx hb dX4_instead_34 (lv_at hl 4 rfl) ?_
    refine lv_iload_n hx hb dX4_instead_36 rfl (lv_at hl 1 rfl) ?_
    refine lv_icmp_gt (tgt := 100) hx hb dX4_instead_37 (by decide) (fun c_24 => ?_) (fun c_24 => ?_)
    · have hF := hF.trans (if_pos c_24)
      refine lv_iconst (v := 1) hx hb dX4_instead_100 (by decide) ?_
      refine lv_istore (lv' := [(4, .int (1)), (0, .ref (q 0)), (1, .int (x1)), (2, .int (x2)), (3, .int (x3))]) hx hb dX4_instead_101 hl (by decide) rfl (fun ls hl => ?_)
      refine lv_aload_n hx hb dX4_instead_103 rfl (lv_at hl 1 rfl) ?_
      refine va_get (D := D) (ci := 4) (v := .ref (q 18)) (C := RX4) (T := TX4) (N := 25) hx hb hts in_X4_instead_X4 hown hK hP 0 rfl rfl 24 (by decide) (hts _ fl_X4_instead_62) (fun _ h9 => h9) rfl dX4_instead_104 ?_
      refine lv_iconst (v := 0) hx hb dX4_instead_107 (by decide) ?_
      refine lv_iload_n hx hb dX4_instead_108 rfl (lv_at hl 2 rfl) ?_
      have hi_25 : vp_in 0 200 := pz_inI (by decide) (by decide)
      refine va_iast hx hb hK hP (pz_D hKX.2 rfl) hS 18 0 rfl rfl hi_25 dX4_instead_109 (fun H locs hP _ hS => ?_)
      have hP : va_P D vwCl (pz_M q k formulas kind left right height laid rules ps qs rs fs checked stopped reason made opened ruleThen heads boxOf shutBy around inner truth turned (upd pile (0 : Int32).toNatClampNeg x1)) H := hP
      exact k_X4_instead_110 hC hKX laid rules ps qs rs fs checked stopped reason made opened ruleThen heads boxOf shutBy around inner truth 16200 formulas kind left right height turned (upd pile (0 : Int32).toNatClampNeg x1) x1 x2 x3 1 hv1 (pz_W0 ht ‹_› hv1) hf hkn _ _ _ hF hP hS (lv_sub hl [1, 2, 3, 4, 0] rfl)
    · have hF := hF.trans (if_neg c_24)
      refine lv_aload_n hx hb dX4_instead_40 rfl (lv_at hl 0 rfl) ?_
      refine va_get (D := D) (ci := 4) (v := .ref (q 17)) (C := RX4) (T := TX4) (N := 25) hx hb hts in_X4_instead_X4 hown hK hP 0 rfl rfl 23 (by decide) (hts _ fl_X4_instead_59) (fun _ h9 => h9) rfl dX4_instead_41 ?_
      refine lv_iload hx hb dX4_instead_44 (lv_at hl 4 rfl) ?_
      refine lv_aload_n hx hb dX4_instead_46 rfl (lv_at hl 0 rfl) ?_
      refine va_get (D := D) (ci := 4) (v := .ref (q 1)) (C := RX4) (T := TX4) (N := 25) hx hb hts in_X4_instead_X4 hown hK hP 0 rfl rfl 1 (by decide) (hts _ fl_X4_instead_7) (fun _ h9 => h9) rfl dX4_instead_47 ?_
      refine lv_iload hx hb dX4_instead_50 (lv_at hl 4 rfl) ?_
      have hi_26 : vp_in x4 80 := (pz_inI h0 (by have a := pz_nlt ‹¬ x1 < x4›; have b := hv1.2; have c := hf.1.2; omega))
      refine va_iald hx hb hK hP 1 0 rfl rfl hi_26 dX4_instead_52 ?_
      refine lv_if_ne (tgt := 61) hx hb dX4_instead_53 (by decide) (fun c_27 => ?_) (fun c_27 => ?_)
      · have hF := hF.trans (if_neg c_27)
        refine lv_aload_n hx hb dX4_instead_61 rfl (lv_at hl 0 rfl) ?_
        refine va_get (D := D) (ci := 4) (v := .ref (q 1)) (C := RX4) (T := TX4) (N := 25) hx hb hts in_X4_instead_X4 hown hK hP 0 rfl rfl 1 (by decide) (hts _ fl_X4_instead_7) (fun _ h9 => h9) rfl dX4_instead_62 ?_
        refine lv_iload hx hb dX4_instead_65 (lv_at hl 4 rfl) ?_
        have hi_28 : vp_in x4 80 := (pz_inI h0 (by have a := pz_nlt ‹¬ x1 < x4›; have b := hv1.2; have c := hf.1.2; omega))
        refine va_iald hx hb hK hP 1 0 rfl rfl hi_28 dX4_instead_67 ?_
        refine lv_iconst (v := 1) hx hb dX4_instead_68 (by decide) ?_
        refine lv_icmp_ne (tgt := 92) hx hb dX4_instead_69 (by decide) (fun c_29 => ?_) (fun c_29 => ?_)
        · have hF := hF.trans (if_neg c_29)
          refine lv_iconst (v := (-1)) hx hb dX4_instead_92 (by decide) ?_
          have hi_30 : vp_in x4 80 := (pz_inI h0 (by have a := pz_nlt ‹¬ x1 < x4›; have b := hv1.2; have c := hf.1.2; omega))
          refine va_iast hx hb hK hP (pz_D hKX.2 rfl) hS 17 0 rfl rfl hi_30 dX4_instead_93 (fun H locs hP _ hS => ?_)
          have hP : va_P D vwCl (pz_M q k formulas kind left right height laid rules ps qs rs fs checked stopped reason made opened ruleThen heads boxOf shutBy around inner truth (upd turned (x4).toNatClampNeg (-1)) pile) H := hP
          refine lv_iinc (v := (x4 + 1)) (lv' := [(4, .int ((x4 + 1))), (0, .ref (q 0)), (1, .int (x1)), (2, .int (x2)), (3, .int (x3))]) hx hb dX4_instead_94 hl (k := 4) rfl rfl (by decide) rfl (fun ls hl => ?_)
          refine lv_goto (tgt := 34) hx hb dX4_instead_97 (by decide) ?_
          exact ih formulas kind left right height (upd turned (x4).toNatClampNeg (-1)) pile x1 x2 x3 (x4 + 1) hv1 hv3 (pz_tus ht h0 (by have a := pz_nlt ‹¬ x1 < x4›; have b := hv1.2; have c := hf.1.2; have i := pz_inc (x := x4) (by omega); omega) (by first | exact Or.inr hv3 | exact Or.inr ⟨h0, by have a := pz_nlt ‹¬ x1 < x4›; have b := hv1.2; omega⟩ | exact Or.inl ⟨rfl, ‹_›, ‹_›⟩)) (by have a := pz_nlt ‹¬ x1 < x4›; have b := hv1.2; have c := hf.1.2; have i := pz_inc (x := x4) (by omega); omega) (by have a := pz_nlt ‹¬ x1 < x4›; have b := hv1.2; have c := hf.1.2; have i := pz_inc (x := x4) (by omega); omega) (by have a := pz_nlt ‹¬ x1 < x4›; have b := hv1.2; have c := hf.1.2; have i := pz_inc (x := x4) (by omega); omega) hf hkn _ _ _ hF hP hS (lv_sub hl [1, 2, 3, 4, 0] rfl)
        · have hF := hF.trans (if_pos c_29)
          refine lv_aload_n hx hb dX4_instead_72 rfl (lv_at hl 0 rfl) ?_
          refine va_get (D := D) (ci := 4) (v := .ref (q 2)) (C := RX4) (T := TX4) (N := 25) hx hb hts in_X4_instead_X4 hown hK hP 0 rfl rfl 2 (by decide) (hts _ fl_X4_instead_13) (fun _ h9 => h9) rfl dX4_instead_73 ?_
          refine lv_iload hx hb dX4_instead_76 (lv_at hl 4 rfl) ?_
          have hi_31 : vp_in x4 80 := (pz_inI h0 (by have a := pz_nlt ‹¬ x1 < x4›; have b := hv1.2; have c := hf.1.2; omega))
          refine va_iald hx hb hK hP 2 0 rfl rfl hi_31 dX4_instead_78 ?_
          refine lv_iload_n hx hb dX4_instead_79 rfl (lv_at hl 2 rfl) ?_
          refine lv_icmp_ne (tgt := 87) hx hb dX4_instead_80 (by decide) (fun c_32 => ?_) (fun c_32 => ?_)
          · have hF := hF.trans (if_neg c_32)
            refine lv_iload hx hb dX4_instead_87 (lv_at hl 4 rfl) ?_
            refine lv_goto (tgt := 93) hx hb dX4_instead_89 (by decide) ?_
            have hi_33 : vp_in x4 80 := (pz_inI h0 (by have a := pz_nlt ‹¬ x1 < x4›; have b := hv1.2; have c := hf.1.2; omega))
            refine va_iast hx hb hK hP (pz_D hKX.2 rfl) hS 17 0 rfl rfl hi_33 dX4_instead_93 (fun H locs hP _ hS => ?_)
            have hP : va_P D vwCl (pz_M q k formulas kind left right height laid rules ps qs rs fs checked stopped reason made opened ruleThen heads boxOf shutBy around inner truth (upd turned (x4).toNatClampNeg x4) pile) H := hP
            refine lv_iinc (v := (x4 + 1)) (lv' := [(4, .int ((x4 + 1))), (0, .ref (q 0)), (1, .int (x1)), (2, .int (x2)), (3, .int (x3))]) hx hb dX4_instead_94 hl (k := 4) rfl rfl (by decide) rfl (fun ls hl => ?_)
            refine lv_goto (tgt := 34) hx hb dX4_instead_97 (by decide) ?_
            exact ih formulas kind left right height (upd turned (x4).toNatClampNeg x4) pile x1 x2 x3 (x4 + 1) hv1 hv3 (pz_tus ht h0 (by have a := pz_nlt ‹¬ x1 < x4›; have b := hv1.2; have c := hf.1.2; have i := pz_inc (x := x4) (by omega); omega) (by first | exact Or.inr hv3 | exact Or.inr ⟨h0, by have a := pz_nlt ‹¬ x1 < x4›; have b := hv1.2; omega⟩ | exact Or.inl ⟨rfl, ‹_›, ‹_›⟩)) (by have a := pz_nlt ‹¬ x1 < x4›; have b := hv1.2; have c := hf.1.2; have i := pz_inc (x := x4) (by omega); omega) (by have a := pz_nlt ‹¬ x1 < x4›; have b := hv1.2; have c := hf.1.2; have i := pz_inc (x := x4) (by omega); omega) (by have a := pz_nlt ‹¬ x1 < x4›; have b := hv1.2; have c := hf.1.2; have i := pz_inc (x := x4) (by omega); omega) hf hkn _ _ _ hF hP hS (lv_sub hl [1, 2, 3, 4, 0] rfl)
          · have hF := hF.trans (if_pos c_32)
            refine lv_iload_n hx hb dX4_instead_83 rfl (lv_at hl 3 rfl) ?_
            refine lv_goto (tgt := 93) hx hb dX4_instead_84 (by decide) ?_
            have hi_34 : vp_in x4 80 := (pz_inI h0 (by have a := pz_nlt ‹¬ x1 < x4›; have b := hv1.2; have c := hf.1.2; omega))
            refine va_iast hx hb hK hP (pz_D hKX.2 rfl) hS 17 0 rfl rfl hi_34 dX4_instead_93 (fun H locs hP _ hS => ?_)
            have hP : va_P D vwCl (pz_M q k formulas kind left right height laid rules ps qs rs fs checked stopped reason made opened ruleThen heads boxOf shutBy around inner truth (upd turned (x4).toNatClampNeg x3) pile) H := hP
            refine lv_iinc (v := (x4 + 1)) (lv' := [(4, .int ((x4 + 1))), (0, .ref (q 0)), (1, .int (x1)), (2, .int (x2)), (3, .int (x3))]) hx hb dX4_instead_94 hl (k := 4) rfl rfl (by decide) rfl (fun ls hl => ?_)
            refine lv_goto (tgt := 34) hx hb dX4_instead_97 (by decide) ?_
            exact ih formulas kind left right height (upd turned (x4).toNatClampNeg x3) pile x1 x2 x3 (x4 + 1) hv1 hv3 (pz_tus ht h0 (by have a := pz_nlt ‹¬ x1 < x4›; have b := hv1.2; have c := hf.1.2; have i := pz_inc (x := x4) (by omega); omega) (by first | exact Or.inr hv3 | exact Or.inr ⟨h0, by have a := pz_nlt ‹¬ x1 < x4›; have b := hv1.2; omega⟩ | exact Or.inl ⟨rfl, ‹_›, ‹_›⟩)) (by have a := pz_nlt ‹¬ x1 < x4›; have b := hv1.2; have c := hf.1.2; have i := pz_inc (x := x4) (by omega); omega) (by have a := pz_nlt ‹¬ x1 < x4›; have b := hv1.2; have c := hf.1.2; have i := pz_inc (x := x4) (by omega); omega) (by have a := pz_nlt ‹¬ x1 < x4›; have b := hv1.2; have c := hf.1.2; have i := pz_inc (x := x4) (by omega); omega) hf hkn _ _ _ hF hP hS (lv_sub hl [1, 2, 3, 4, 0] rfl)
      · have hF := hF.trans (if_pos c_27)
        refine lv_iload hx hb dX4_instead_56 (lv_at hl 4 rfl) ?_
        refine lv_goto (tgt := 93) hx hb dX4_instead_58 (by decide) ?_
        have hi_35 : vp_in x4 80 := (pz_inI h0 (by have a := pz_nlt ‹¬ x1 < x4›; have b := hv1.2; have c := hf.1.2; omega))
        refine va_iast hx hb hK hP (pz_D hKX.2 rfl) hS 17 0 rfl rfl hi_35 dX4_instead_93 (fun H locs hP _ hS => ?_)
        have hP : va_P D vwCl (pz_M q k formulas kind left right height laid rules ps qs rs fs checked stopped reason made opened ruleThen heads boxOf shutBy around inner truth (upd turned (x4).toNatClampNeg x4) pile) H := hP
        refine lv_iinc (v := (x4 + 1)) (lv' := [(4, .int ((x4 + 1))), (0, .ref (q 0)), (1, .int (x1)), (2, .int (x2)), (3, .int (x3))]) hx hb dX4_instead_94 hl (k := 4) rfl rfl (by decide) rfl (fun ls hl => ?_)
        refine lv_goto (tgt := 34) hx hb dX4_instead_97 (by decide) ?_
        exact ih formulas kind left right height (upd turned (x4).toNatClampNeg x4) pile x1 x2 x3 (x4 + 1) hv1 hv3 (pz_tus ht h0 (by have a := pz_nlt ‹¬ x1 < x4›; have b := hv1.2; have c := hf.1.2; have i := pz_inc (x := x4) (by omega); omega) (by first | exact Or.inr hv3 | exact Or.inr ⟨h0, by have a := pz_nlt ‹¬ x1 < x4›; have b := hv1.2; omega⟩ | exact Or.inl ⟨rfl, ‹_›, ‹_›⟩)) (by have a := pz_nlt ‹¬ x1 < x4›; have b := hv1.2; have c := hf.1.2; have i := pz_inc (x := x4) (by omega); omega) (by have a := pz_nlt ‹¬ x1 < x4›; have b := hv1.2; have c := hf.1.2; have i := pz_inc (x := x4) (by omega); omega) (by have a := pz_nlt ‹¬ x1 < x4›; have b := hv1.2; have c := hf.1.2; have i := pz_inc (x := x4) (by omega); omega) hf hkn _ _ _ hF hP hS (lv_sub hl [1, 2, 3, 4, 0] rfl)
set_option maxHeartbeats 4000000 in
set_option maxRecDepth 100000 in
theorem c_X4_instead (l : Launch) (D : va_G) (q : Nat → Nat) (k : Nat → ClassId) (formulas : Int32) (kind : Nat → Int32) (left : Nat → Int32) (right : Nat → Int32) (height : Nat → Int32) (laid : Nat → Int32) (rules : Nat → Int32) (ps : Nat → Int32) (qs : Nat → Int32) (rs : Nat → Int32) (fs : Nat → Int32) (checked : Int32) (stopped : Int32) (reason : Int32) (made : Int32) (opened : Int32) (ruleThen : Nat → Int32) (heads : Nat → Int32) (boxOf : Nat → Int32) (shutBy : Nat → Int32) (around : Nat → Int32) (inner : Int32) (truth : Nat → Int32) (turned : Nat → Int32) (pile : Nat → Int32) (x1 : Int32) (x2 : Int32) (x3 : Int32) (hf : pz_F formulas kind left right) (hkn : pz_kn formulas kind) : Met l yX4_instead wsX4_instead ({ frames := 2, cells := 0, slots := 0, locals := 43 }) (va_Pc [.ref (q 0), .int (x1), .int (x2), .int (x3)] (fun U => va_P D vwCl (pz_M q k formulas kind left right height laid rules ps qs rs fs checked stopped reason made opened ruleThen heads boxOf shutBy around inner truth turned pile) U.heap ∧ pz_KM D q k U)) (va_Qi (fun r (u : (Int32) × (Nat → Int32) × (Nat → Int32) × (Nat → Int32) × (Nat → Int32) × (Nat → Int32) × (Nat → Int32)) => (r, u) = (f_X4_instead formulas kind left right height turned pile x1 x2 x3)) (fun u t => va_P D vwCl (pz_M q k u.1 u.2.1 u.2.2.1 u.2.2.2.1 u.2.2.2.2.1 laid rules ps qs rs fs checked stopped reason made opened ruleThen heads boxOf shutBy around inner truth u.2.2.2.2.2.1 u.2.2.2.2.2.2) t.heap) (pz_A 19 q)) 0 0 (pz_A 19 q) := by
  refine Met.ofW (cc := cX4_instead) (maxL := 7) (ret := (some .int)) (by decide) rfl ?_
  intro p e s m args below meth c s₁ B hml hv
  obtain ⟨rfl, hP, hKX⟩ := hv
  have hx := B.exec
  have hb := B.bytes
  have hr := B.returns
  have hts := atoms_spec (ws := wsX4_instead) B.pre
  have hown : s.vm.findClass RX4 = some m.cls := findClass_of_methodNamed B.named
  have hlocks := B.notSynchronized
  have hC : pz_C p s m ([.ref (q 0), .int (x1), .int (x2), .int (x3)] : List Value).toArray meth c cX4_instead wsX4_instead RX4 7 (some .int) := ⟨hx, hb, hml, hown, hts, hr, hlocks⟩
  have hK := hKX.1
  have hS : va_S (pz_A 19 q) s.heap s.heap [] := va_S.rf
  have hl := lv_entry [.ref (q 0), .int (x1), .int (x2), .int (x3)] (n := 7) (Nat.le_of_ble_eq_true rfl)
  rw [lg_entry_eq]
  generalize (lg_sl [.ref (q 0), .int (x1), .int (x2), .int (x3)] ++ List.replicate (7 - (lg_sl [.ref (q 0), .int (x1), .int (x2), .int (x3)]).length) Slot.unset).toArray = ls at hl ⊢
  have hl : lv_has ls 7 [(0, .ref (q 0)), (1, .int (x1)), (2, .int (x2)), (3, .int (x3))] := hl
  generalize hF : f_X4_instead formulas kind left right height turned pile x1 x2 x3 = G
  replace hF := hF.symm
  unfold f_X4_instead at hF
  refine lv_aload_n hx hb dX4_instead_0 rfl (lv_at hl 0 rfl) ?_
  refine lv_iload_n hx hb dX4_instead_1 rfl (lv_at hl 1 rfl) ?_
  refine pz_Vi (As := [.int (x1)]) (rest := []) ⟨hx, hb, hml, hown, hts⟩ (c_X4_isFormula l D q k formulas kind left right height laid rules ps qs rs fs checked stopped reason made opened ruleThen heads boxOf shutBy around inner truth turned pile x1) (cwV 1 hts gX4_instead_X4_isFormula rfl rfl rfl hdV_X4_isFormula ⟨Nat.le_of_ble_eq_true rfl, Nat.le_of_ble_eq_true rfl⟩) pz_KM.call hKX.go (va_recv hK hP (ci := 4) (q0 := 0) rfl rfl) hP hS rfl hl.1 rfl (Nat.le_of_ble_eq_true rfl) dX4_instead_2 ⟨Nat.zero_le _, Nat.zero_le _⟩ (fun r_36 u_36 H locs hF_36 hP hS => ?_)
  have hF := hF.trans (pz_be hF_36)
  refine lv_if_eq (tgt := 16) hx hb dX4_instead_5 (by decide) (fun c_37 => ?_) (fun c_37 => ?_)
  · have hF := hF.trans (if_pos c_37)
    refine lv_bipush (v := (-2)) hx hb dX4_instead_16 (by decide) ?_
    exact W.iret (v := (-2)) hx hb hr (fun t ht hW => ⟨⟨(-2), (formulas, kind, left, right, height, turned, pile), rfl, hF.symm, pz_hp ht hP⟩, hS.F ht⟩) hS.2.2 dX4_instead_18 hlocks
  · have hF := hF.trans (if_neg c_37)
    refine lv_aload_n hx hb dX4_instead_8 rfl (lv_at hl 0 rfl) ?_
    refine lv_iload_n hx hb dX4_instead_9 rfl (lv_at hl 3 rfl) ?_
    refine pz_Vi (As := [.int (x3)]) (rest := []) ⟨hx, hb, hml, hown, hts⟩ (c_X4_isFormula l D q k formulas kind left right height laid rules ps qs rs fs checked stopped reason made opened ruleThen heads boxOf shutBy around inner truth turned pile x3) (cwV 1 hts gX4_instead_X4_isFormula rfl rfl rfl hdV_X4_isFormula ⟨Nat.le_of_ble_eq_true rfl, Nat.le_of_ble_eq_true rfl⟩) pz_KM.call hKX.go (va_recv hK hP (ci := 4) (q0 := 0) rfl rfl) hP hS rfl hl.1 rfl (Nat.le_of_ble_eq_true rfl) dX4_instead_10 ⟨Nat.zero_le _, Nat.zero_le _⟩ (fun r_38 u_38 H locs hF_38 hP hS => ?_)
    have hF := hF.trans (pz_be hF_38)
    refine lv_if_ne (tgt := 19) hx hb dX4_instead_13 (by decide) (fun c_39 => ?_) (fun c_39 => ?_)
    · have hF := hF.trans (if_neg c_39)
      refine lv_iload_n hx hb dX4_instead_19 rfl (lv_at hl 2 rfl) ?_
      refine lv_iconst (v := 0) hx hb dX4_instead_20 (by decide) ?_
      refine lv_iconst (v := 5) hx hb dX4_instead_21 (by decide) ?_
      refine pz_Si (As := [.int (x2), .int (0), .int (5)]) (rest := []) ⟨hx, hb, hml, hown, hts⟩ (c_X4_within l x2 0 5) (va_cwS 3 hts gX4_instead_X4_within rfl rfl rfl hdS_X4_within ⟨Nat.le_of_ble_eq_true rfl, Nat.le_of_ble_eq_true rfl⟩) hP hS rfl hl.1 rfl (Nat.le_of_ble_eq_true rfl) dX4_instead_22 ⟨Nat.zero_le _, Nat.zero_le _⟩ (fun r_40 H locs hF_40 hP hS => ?_)
      have hF := hF.trans (pz_be hF_40)
      refine lv_if_ne (tgt := 31) hx hb dX4_instead_25 (by decide) (fun c_41 => ?_) (fun c_41 => ?_)
      · have hF := hF.trans (if_neg c_41)
        refine lv_iconst (v := 0) hx hb dX4_instead_31 (by decide) ?_
        refine lv_istore (lv' := [(4, .int (0)), (0, .ref (q 0)), (1, .int (x1)), (2, .int (x2)), (3, .int (x3))]) hx hb dX4_instead_32 hl (by decide) rfl (fun ls hl => ?_)
        exact k_X4_instead_34 hC hKX laid rules ps qs rs fs checked stopped reason made opened ruleThen heads boxOf shutBy around inner truth 81 formulas kind left right height turned pile x1 x2 x3 0 (pz_isF (f := x1) hf.1 ‹_› ‹_›) (pz_isF (f := x3) hf.1 ‹_› ‹_›) (fun j hj => absurd hj (by rw [pz_zero]; omega)) (by decide) (by decide) (by decide) hf hkn _ _ _ hF hP hS (lv_sub hl [1, 2, 3, 4, 0] rfl)
      · have hF := hF.trans (if_pos c_41)
        refine lv_bipush (v := (-3)) hx hb dX4_instead_28 (by decide) ?_
        exact W.iret (v := (-3)) hx hb hr (fun t ht hW => ⟨⟨(-3), (formulas, kind, left, right, height, turned, pile), rfl, hF.symm, pz_hp ht hP⟩, hS.F ht⟩) hS.2.2 dX4_instead_30 hlocks
    · have hF := hF.trans (if_pos c_39)
      refine lv_bipush (v := (-2)) hx hb dX4_instead_16 (by decide) ?_
      exact W.iret (v := (-2)) hx hb hr (fun t ht hW => ⟨⟨(-2), (formulas, kind, left, right, height, turned, pile), rfl, hF.symm, pz_hp ht hP⟩, hS.F ht⟩) hS.2.2 dX4_instead_18 hlocks

