/-! the pure part: calls that are nearly the same on both sides -/
theorem pz_lineE (x : Int32) : f_X3_isLine x = f_X4_isLine x := by
  have e : (59 : Int32).toInt = 59 := rfl
  have e6 : (60 : Int32).toInt = 60 := rfl
  rcases pz_within (r := f_X4_isLine x) rfl with ⟨e1, h1⟩ | ⟨e1, h1⟩
  · rw [e1]; rw [pz_zero, e] at h1
    unfold f_X3_isLine
    rw [if_neg (by rw [Int32.lt_iff_toInt_lt, pz_zero]; omega), if_neg (by rw [Int32.le_iff_toInt_le, e6]; omega)]
  · rw [e1]; rw [pz_zero, e] at h1
    unfold f_X3_isLine
    by_cases c1 : x < 0
    · rw [if_pos c1]
    · rw [if_neg c1]
      by_cases c2 : (60 : Int32) ≤ x
      · rw [if_pos c2]
      · have a := pz_n0 c1
        have b := pz_n60 c2
        exact absurd ⟨a, by omega⟩ h1
theorem pz_line01 (x : Int32) : f_X3_isLine x = 1 ∧ vp_in x 60 ∨ f_X3_isLine x = 0 ∧ ¬ vp_in x 60 := by
  have e6 : (60 : Int32).toInt = 60 := rfl
  by_cases c : f_X3_isLine x = 0
  · refine Or.inr ⟨c, fun h => ?_⟩
    have h := vp_in_iff.mp h
    unfold f_X3_isLine at c
    rw [if_neg (by rw [Int32.lt_iff_toInt_lt, pz_zero]; omega), if_neg (by rw [Int32.le_iff_toInt_le, e6]; omega)] at c
    exact absurd c (by decide)
  · refine Or.inl ⟨?_, pz_line rfl c⟩
    unfold f_X3_isLine at c ⊢
    by_cases c1 : x < 0
    · rw [if_pos c1] at c; exact absurd rfl c
    · rw [if_neg c1] at c ⊢
      by_cases c2 : (60 : Int32) ≤ x
      · rw [if_pos c2] at c; exact absurd rfl c
      · rw [if_neg c2]
section PzQ
variable {cnt : Int32} {kinds firsts seconds heights : Nat → Int32} {tables : Nat → Int64} {x1 x2 x3 : Int32}
theorem pz_q_about (hc : pz_c cnt) : f_X3_about cnt kinds firsts seconds heights x1 x2 = f_X4_about cnt kinds firsts seconds heights x1 x2 := by
  unfold f_X3_about f_X4_about
  simp only [pz_bnd]
  rw [pz_isF1 hc]
  have o : ¬ (1 : Int32) = 0 := by decide
  rcases pz_has1 (cnt := cnt) (x := x1) with ⟨e, h⟩ | ⟨e, h⟩
  · rw [e, if_neg o, if_neg o, pz_kOf h, pz_fOf h, pz_sOf h, pz_hOf h]
  · rw [e]; rfl
theorem pz_q_lay {laid rules ps qs rs fs : Nat → Int32} {x4 x5 x6 : Int32} : f_X3_lay laid rules ps qs rs fs x1 x2 x3 x4 x5 x6 = f_X4_lay laid rules ps qs rs fs x1 x2 x3 x4 x5 x6 := by
  unfold f_X3_lay f_X4_lay f_X2_isLaid f_X2_put
  simp only [pz_bnd]
  rw [← pz_lineE]
  rcases pz_line01 x1 with ⟨e, h⟩ | ⟨e, h⟩
  · by_cases c : laid x1.toNatClampNeg = 0
    · simp [e, c]
    · simp [e, c]
  · rw [e]; rfl
theorem pz_q_take {laid : Nat → Int32} : f_X3_take laid x1 = f_X4_take laid x1 := by
  unfold f_X3_take f_X4_take f_X2_isLaid f_X2_clear
  simp only [pz_bnd]
  rw [← pz_lineE]
  rcases pz_line01 x1 with ⟨e, h⟩ | ⟨e, h⟩
  · by_cases c : laid x1.toNatClampNeg = 0
    · simp [e, c]
    · simp [e, c]
  · rw [e]; rfl
theorem pz_h1 {h : Int32} (h0 : 0 ≤ h.toInt) (h1 : h.toInt ≤ 1000) : (1 + h).toInt = 1 + h.toInt := by
  rw [Int32.toInt_add]
  have e : (1 : Int32).toInt = 1 := rfl
  rw [e, Int.bmod_eq_of_le (by omega) (by omega)]
theorem pz_44 (h : pz_Rf cnt kinds firsts seconds heights tables) (hk : 0 ≤ x1.toInt ∧ x1.toInt ≤ 4) {xa xb x4 x5 y2 y3 : Int32} (hf : ¬ x1 = 0 → ¬ x1 = 1 → pz_vf cnt xa ∧ pz_vf cnt xb) (h1 : x1 = 1 → 0 ≤ xa.toInt ∧ xa.toInt ≤ 5) (hh : 1 ≤ x5.toInt) (hh2 : ¬ x1 = 0 → ¬ x1 = 1 → (heights xa.toNatClampNeg).toInt < x5.toInt ∧ (heights xb.toNatClampNeg).toInt < x5.toInt) :
    ∃ T, F_X1_make_44 cnt kinds firsts seconds heights tables x1 xa xb x4 x5 = ((F_X4_make_122 cnt kinds firsts seconds heights x1 y2 y3 xa xb x5).1, (F_X4_make_122 cnt kinds firsts seconds heights x1 y2 y3 xa xb x5).2.1, (F_X4_make_122 cnt kinds firsts seconds heights x1 y2 y3 xa xb x5).2.2.1, (F_X4_make_122 cnt kinds firsts seconds heights x1 y2 y3 xa xb x5).2.2.2.1, (F_X4_make_122 cnt kinds firsts seconds heights x1 y2 y3 xa xb x5).2.2.2.2.1, (F_X4_make_122 cnt kinds firsts seconds heights x1 y2 y3 xa xb x5).2.2.2.2.2, T) ∧ pz_Rf (F_X4_make_122 cnt kinds firsts seconds heights x1 y2 y3 xa xb x5).2.1 (F_X4_make_122 cnt kinds firsts seconds heights x1 y2 y3 xa xb x5).2.2.1 (F_X4_make_122 cnt kinds firsts seconds heights x1 y2 y3 xa xb x5).2.2.2.1 (F_X4_make_122 cnt kinds firsts seconds heights x1 y2 y3 xa xb x5).2.2.2.2.1 (F_X4_make_122 cnt kinds firsts seconds heights x1 y2 y3 xa xb x5).2.2.2.2.2 T := by
  have m := pz_mk122 (height := heights) (x1 := x1) (x2 := y2) (x3 := y3) (x4 := xa) (x5 := xb) (x6 := x5) h.1 hf
  have e80 : (80 : Int32).toInt = 80 := rfl
  have b1 := h.1.1.2
  unfold F_X1_make_44
  unfold F_X4_make_122 at m ⊢
  by_cases c8 : cnt = 80
  · have c8' : (80 : Int32) ≤ cnt := by rw [c8]; decide
    rw [if_pos c8', if_pos c8]
    exact ⟨tables, rfl, h⟩
  · have c8' : ¬ (80 : Int32) ≤ cnt := fun q => by
      have := pz_le q
      exact c8 (Int32.toInt_inj.mp (by rw [e80]; omega))
    rw [if_neg c8', if_neg c8]
    rw [if_neg c8] at m
    by_cases c12 : x5 ≤ 12
    · rw [if_pos c12, if_pos c12, pz_be rfl]
      rw [if_pos c12] at m
      have e12 : (12 : Int32).toInt = 12 := rfl
      have := pz_le c12
      exact ⟨_, rfl, pz_Rf_new h hk hf h1 c8 ⟨hh, by omega⟩ hh2 m.1⟩
    · rw [if_neg c12, if_neg c12]
      exact ⟨tables, rfl, h⟩
/-- make: both sides alike -/
theorem pz_mkeq (h : pz_Rf cnt kinds firsts seconds heights tables) (hk : 0 ≤ x1.toInt ∧ x1.toInt ≤ 4) (hf : 2 ≤ x1 → pz_vf cnt x2 ∧ pz_vf cnt x3) (h1 : x1 = 1 → 0 ≤ x2.toInt ∧ x2.toInt ≤ 5) {xa xb : Int32} (ha : xa = if x1 = 0 then -1 else x2) (hb : xb = if 2 ≤ x1 then x3 else -1) {M : pz_T6} (hM : M = f_X4_make cnt kinds firsts seconds heights x1 x2 x3) :
    ∃ T, f_X1_make cnt kinds firsts seconds heights tables x1 xa xb = (M.1, M.2.1, M.2.2.1, M.2.2.2.1, M.2.2.2.2.1, M.2.2.2.2.2, T) ∧ pz_Rf M.2.1 M.2.2.1 M.2.2.2.1 M.2.2.2.2.1 M.2.2.2.2.2 T := by
  have e2 : (2 : Int32).toInt = 2 := rfl
  have e1 : (1 : Int32).toInt = 1 := rfl
  have two : ¬ x1 = 0 → ¬ x1 = 1 → 2 ≤ x1 := fun a b => by
    have p := pz_ne a
    have q := pz_ne b
    rw [pz_zero] at p
    rw [Int32.le_iff_toInt_le]; omega
  have hM2 : M = F_X4_make_26 81 cnt kinds firsts seconds heights x1 x2 x3 xa xb 0 := by
    rw [hM, ha, hb]; unfold f_X4_make
    by_cases c0 : x1 = 0
    · rw [if_pos c0, if_pos c0]
      by_cases c2 : 2 ≤ x1
      · rw [if_pos c2, if_pos c2]
      · rw [if_neg c2, if_neg c2]
    · rw [if_neg c0, if_neg c0]
      by_cases c2 : 2 ≤ x1
      · rw [if_pos c2, if_pos c2]
      · rw [if_neg c2, if_neg c2]
  rw [pz_m26 h.1.1 81 0 (by decide) (by decide) (by decide)] at hM2
  unfold f_X1_make f_X1_find
  rw [pz_be rfl]
  by_cases cf : F_X1_find_3 81 cnt kinds firsts seconds x1 xa xb 0 = -1
  · rw [if_pos cf] at hM2
    rw [if_pos cf]
    unfold pz_mt at hM2
    by_cases c2 : 2 ≤ x1
    · have n0 : ¬ x1 = 0 := fun q => by rw [q] at c2; exact absurd c2 (by decide)
      have n1 : ¬ x1 = 1 := fun q => by rw [q] at c2; exact absurd c2 (by decide)
      rw [if_pos c2] at hM2 hb
      rw [if_neg n0] at ha
      have v := hf c2
      have va := pz_tn v.1.1
      have vb := pz_tn v.2.1
      have ga := (h.2 x2.toNatClampNeg (by have := v.1.2; omega)).2.2.2.1
      have gb := (h.2 x3.toNatClampNeg (by have := v.2.2; omega)).2.2.2.1
      have i2 := pz_h1 (h := heights x2.toNatClampNeg) (by omega) (by omega)
      have i3 := pz_h1 (h := heights x3.toNatClampNeg) (by omega) (by omega)
      subst ha; subst hb
      rw [if_pos c2, pz_be rfl, pz_be rfl, pz_hOf v.1, pz_hOf v.2]
      by_cases cl : heights xa.toNatClampNeg ≤ heights xb.toNatClampNeg
      · rw [if_pos cl] at hM2
        have q := pz_le cl
        have ex : (if heights xa.toNatClampNeg < heights xb.toNatClampNeg then heights xb.toNatClampNeg else heights xa.toNatClampNeg) = heights xb.toNatClampNeg := by
          by_cases c3 : heights xa.toNatClampNeg < heights xb.toNatClampNeg
          · rw [if_pos c3]
          · rw [if_neg c3]; have := pz_nlt c3; exact Int32.toInt_inj.mp (by omega)
        rw [ex, hM2]
        exact pz_44 h hk (fun _ _ => v) h1 (by omega) (fun _ _ => ⟨by omega, by omega⟩)
      · rw [if_neg cl] at hM2
        have q := pz_nle cl
        rw [if_neg (by rw [Int32.lt_iff_toInt_lt]; omega), hM2]
        exact pz_44 h hk (fun _ _ => v) h1 (by omega) (fun _ _ => ⟨by omega, by omega⟩)
    · rw [if_neg c2] at hM2 ⊢
      rw [hM2]
      refine pz_44 h hk (fun a b => absurd (two a b) c2) (fun q => ?_) (by decide) (fun a b => absurd (two a b) c2)
      rw [ha, if_neg (by rw [q]; decide)]; exact h1 q
  · rw [if_neg cf] at hM2
    rw [if_neg cf, hM2]
    exact ⟨tables, rfl, h⟩
theorem pz_Rm_up {cnt2 : Int32} {rt hm boxOf around : Nat → Int32} (hle : cnt.toInt ≤ cnt2.toInt) (h : pz_Rm cnt rt hm boxOf around) : pz_Rm cnt2 rt hm boxOf around := ⟨h.1, fun j hj n => ⟨pz_vfm hle (h.2.1 j hj n).1, (h.2.1 j hj n).2⟩, fun i hi n j hj q => pz_vfm hle (h.2.2 i hi n j hj q)⟩
/-- formula: both sides alike -/
theorem pz_q_formula (h : pz_Rf cnt kinds firsts seconds heights tables) {M : pz_T6} (hM : M = f_X4_formula cnt kinds firsts seconds heights x1 x2 x3) :
    ∃ T, f_X3_formula cnt kinds firsts seconds heights tables x1 x2 x3 = (M.1, M.2.1, M.2.2.1, M.2.2.2.1, M.2.2.2.2.1, M.2.2.2.2.2, T) ∧ pz_Rf M.2.1 M.2.2.1 M.2.2.2.1 M.2.2.2.2.1 M.2.2.2.2.2 T ∧ cnt.toInt ≤ M.2.1.toInt := by
  have e4 : (4 : Int32).toInt = 4 := rfl
  have e2 : (2 : Int32).toInt = 2 := rfl
  have e5 : (5 : Int32).toInt = 5 := rfl
  have hc := h.1.1
  unfold f_X4_formula at hM
  unfold f_X3_formula
  have wi : ∀ v lo hi : Int32, lo.toInt ≤ v.toInt → v.toInt ≤ hi.toInt → f_X4_within v lo hi = 1 := fun v lo hi a b => (pz_within (r := f_X4_within v lo hi) rfl).elim (fun q => q.1) (fun q => absurd ⟨a, b⟩ q.2)
  have wo : ∀ v lo hi : Int32, ¬ (lo.toInt ≤ v.toInt ∧ v.toInt ≤ hi.toInt) → f_X4_within v lo hi = 0 := fun v lo hi a => (pz_within (r := f_X4_within v lo hi) rfl).elim (fun q => absurd q.2 a) (fun q => q.1)
  have letter : f_X3_isLetter x2 = f_X4_within x2 0 5 := by
    have e6 : (6 : Int32).toInt = 6 := rfl
    by_cases q : 0 ≤ x2.toInt ∧ x2.toInt ≤ 5
    · rw [wi x2 0 5 (by rw [pz_zero]; exact q.1) (by rw [e5]; exact q.2)]
      unfold f_X3_isLetter
      rw [if_neg (by rw [Int32.lt_iff_toInt_lt, pz_zero]; omega), if_neg (by rw [Int32.le_iff_toInt_le, e6]; omega)]
    · rw [wo x2 0 5 (by rw [pz_zero, e5]; exact q)]
      unfold f_X3_isLetter
      by_cases c1 : x2 < 0
      · rw [if_pos c1]
      · rw [if_neg c1]
        have := pz_n0 c1
        rw [if_pos (by rw [Int32.le_iff_toInt_le, e6]; omega)]
  by_cases k0 : x1 = 0
  · rw [if_pos k0]
    rw [k0] at hM
    rw [pz_be rfl, wo 0 2 4 (by decide), if_pos rfl, pz_be rfl, wi 0 0 4 (by decide) (by decide), if_neg (by decide), if_neg (by decide), pz_be rfl] at hM
    obtain ⟨T, a, b⟩ := pz_mkeq (x1 := 0) (x2 := x2) (x3 := x3) h (by decide) (fun q => absurd q (by decide)) (fun q => absurd q (by decide)) (xa := -1) (xb := -1) rfl rfl rfl
    have m := (pz_mk (height := heights) (x1 := 0) (x2 := x2) (x3 := x3) h.1 (fun q => absurd q (by decide)) (by decide)).2.1
    rw [pz_be rfl, a, hM]
    exact ⟨T, rfl, b, m⟩
  rw [if_neg k0]
  by_cases k1 : x1 = 1
  · rw [if_pos k1, pz_be rfl, letter]
    rw [k1] at hM
    rw [pz_be rfl, wo 1 2 4 (by decide), if_pos rfl, pz_be rfl, wi 1 0 4 (by decide) (by decide), if_neg (by decide), if_pos rfl, pz_be rfl] at hM
    by_cases cl : f_X4_within x2 0 5 = 0
    · rw [if_pos cl] at hM ⊢
      rw [hM]
      exact ⟨tables, rfl, h, Int.le_refl _⟩
    · rw [if_neg cl, pz_be rfl] at hM
      rw [if_neg cl]
      have q := pz_within_1 rfl cl
      rw [pz_zero, e5] at q
      obtain ⟨T, a, b⟩ := pz_mkeq (x1 := 1) (x2 := x2) (x3 := x3) h (by decide) (fun q => absurd q (by decide)) (fun _ => q) (xa := x2) (xb := -1) rfl rfl rfl
      have m := (pz_mk (height := heights) (x1 := 1) (x2 := x2) (x3 := x3) h.1 (fun q => absurd q (by decide)) (by decide)).2.1
      rw [pz_be rfl, a, hM]
      exact ⟨T, rfl, b, m⟩
  rw [if_neg k1]
  by_cases kk : x1 = 2 ∨ x1 = 3 ∨ x1 = 4
  · have kb : 2 ≤ x1.toInt ∧ x1.toInt ≤ 4 := by rcases kk with q | q | q <;> rw [q] <;> decide
    have k2 : 2 ≤ x1 := by rw [Int32.le_iff_toInt_le, e2]; omega
    have body : ∃ T, (pz_bnd (f_X1_has cnt x2) (fun z_8 => if z_8 = 0 then (((-2 : Int32), cnt, kinds, firsts, seconds, heights, tables)) else (pz_bnd (f_X1_has cnt x3) (fun z_10 => if z_10 = 0 then (((-2 : Int32), cnt, kinds, firsts, seconds, heights, tables)) else (pz_bnd (f_X1_make cnt kinds firsts seconds heights tables x1 x2 x3) (fun z_12 => (z_12.1, z_12.2.1, z_12.2.2.1, z_12.2.2.2.1, z_12.2.2.2.2.1, z_12.2.2.2.2.2.1, z_12.2.2.2.2.2.2))))))) = (M.1, M.2.1, M.2.2.1, M.2.2.2.1, M.2.2.2.2.1, M.2.2.2.2.2, T) ∧ pz_Rf M.2.1 M.2.2.1 M.2.2.2.1 M.2.2.2.2.1 M.2.2.2.2.2 T ∧ cnt.toInt ≤ M.2.1.toInt := by
      rw [pz_be rfl, wi x1 2 4 (by rw [e2]; exact kb.1) (by rw [e4]; exact kb.2), if_neg (by decide), pz_be rfl, pz_isF1 hc] at hM
      rw [pz_be rfl]
      rcases pz_has1 (cnt := cnt) (x := x2) with ⟨ea, va⟩ | ⟨ea, va⟩
      · rw [ea, if_neg (by decide), pz_be rfl, pz_isF1 hc] at hM
        rw [ea, if_neg (by decide), pz_be rfl]
        rcases pz_has1 (cnt := cnt) (x := x3) with ⟨eb, vb⟩ | ⟨eb, vb⟩
        · rw [eb, if_neg (by decide), pz_be rfl, wi x1 0 4 (by rw [pz_zero]; omega) (by rw [e4]; omega), if_neg (by decide), if_neg k1, pz_be rfl] at hM
          rw [eb, if_neg (by decide)]
          obtain ⟨T, a, b⟩ := pz_mkeq (x1 := x1) (x2 := x2) (x3 := x3) h ⟨by omega, kb.2⟩ (fun _ => ⟨va, vb⟩) (fun q => absurd q k1) (xa := x2) (xb := x3) (by rw [if_neg k0]) (by rw [if_pos k2]) rfl
          have m := (pz_mk (height := heights) (x1 := x1) (x2 := x2) (x3 := x3) h.1 (fun _ => ⟨va, vb⟩) (by omega)).2.1
          rw [pz_be rfl, a, hM]
          exact ⟨T, rfl, b, m⟩
        · rw [eb, if_pos rfl] at hM ⊢
          rw [hM]; exact ⟨tables, rfl, h, Int.le_refl _⟩
      · rw [ea, if_pos rfl] at hM ⊢
        rw [hM]; exact ⟨tables, rfl, h, Int.le_refl _⟩
    by_cases q2 : x1 = 2
    · rw [if_pos q2]; exact body
    · rw [if_neg q2]
      by_cases q3 : x1 = 3
      · rw [if_pos q3]; exact body
      · rw [if_neg q3]
        by_cases q4 : x1 = 4
        · rw [if_pos q4]; exact body
        · rcases kk with q | q | q
          · exact absurd q q2
          · exact absurd q q3
          · exact absurd q q4
  · have q2 : ¬ x1 = 2 := fun q => kk (Or.inl q)
    have q3 : ¬ x1 = 3 := fun q => kk (Or.inr (Or.inl q))
    have q4 : ¬ x1 = 4 := fun q => kk (Or.inr (Or.inr q))
    have p0 := pz_ne k0
    have p1 := pz_ne k1
    have p2 := pz_ne q2
    have p3 := pz_ne q3
    have p4 := pz_ne q4
    have e1 : (1 : Int32).toInt = 1 := rfl
    have e3 : (3 : Int32).toInt = 3 := rfl
    rw [pz_zero] at p0
    rw [pz_be rfl, wo x1 2 4 (by rw [e2, e4]; omega), if_pos rfl, pz_be rfl, wo x1 0 4 (by rw [pz_zero, e4]; omega), if_pos rfl] at hM
    rw [if_neg q2, if_neg q3, if_neg q4, hM]
    exact ⟨tables, rfl, h, Int.le_refl _⟩
theorem pz_q_told {summ : Nat → Int32} {checked stopped reason made opened : Int32} (h : (checked = 0 ∧ ∀ i, i < 4 → summ i = -1) ∨ (¬ checked = 0 ∧ summ 0 = reason ∧ summ 1 = stopped ∧ summ 2 = opened ∧ summ 3 = made)) : f_X3_told summ x1 = f_X4_told checked stopped reason made opened x1 := by
  have e3 : (3 : Int32).toInt = 3 := rfl
  have e4 : (4 : Int32).toInt = 4 := rfl
  unfold f_X3_told f_X4_told
  simp only [pz_bnd]
  have o : ¬ (1 : Int32) = 0 := by decide
  rcases pz_within (r := f_X4_within x1 0 3) rfl with ⟨e, hw⟩ | ⟨e, hw⟩
  · rw [pz_zero, e3] at hw
    rw [e, if_neg (by rw [Int32.lt_iff_toInt_lt, pz_zero]; omega), if_neg (by rw [Int32.le_iff_toInt_le, e4]; omega), if_neg o]
    unfold f_X0_summaryOf
    rw [if_neg (by rw [Int32.lt_iff_toInt_lt, pz_zero]; omega), if_neg (by rw [Int32.le_iff_toInt_le, e4]; omega)]
    have t := pz_tn hw.1
    rcases h with ⟨c, h⟩ | ⟨c, h0, h1, h2, h3⟩
    · rw [if_pos c]; exact h _ (by omega)
    · rw [if_neg c]
      rcases (show x1.toInt = 0 ∨ x1.toInt = 1 ∨ x1.toInt = 2 ∨ x1.toInt = 3 by omega) with q | q | q | q
      · have : x1 = 0 := Int32.toInt_inj.mp (q.trans rfl)
        subst this; exact h0
      · have : x1 = 1 := Int32.toInt_inj.mp (q.trans rfl)
        subst this; exact h1
      · have : x1 = 2 := Int32.toInt_inj.mp (q.trans rfl)
        subst this; exact h2
      · have : x1 = 3 := Int32.toInt_inj.mp (q.trans rfl)
        subst this; exact h3
  · rw [pz_zero, e3] at hw
    rw [e]
    by_cases c1 : x1 < 0
    · rw [if_pos c1]; rfl
    · rw [if_neg c1]
      have := pz_n0 c1
      rw [if_pos (by rw [Int32.le_iff_toInt_le, e4]; omega)]; rfl
theorem pz_q_head {heads hm : Nat → Int32} (h : ∀ j, j < 60 → heads j = hm j) : f_X3_head heads x1 = f_X4_head hm x1 := by
  unfold f_X3_head f_X4_head f_X0_headOf
  rw [← pz_lineE]
  rcases pz_line01 x1 with ⟨e, q⟩ | ⟨e, q⟩
  · rw [e]; exact h _ (pz_ixN q)
  · rw [e]; rfl
end PzQ
