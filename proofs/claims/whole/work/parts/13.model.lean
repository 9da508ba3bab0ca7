/-! the reference: what keeps its indices in their bounds -/
/-- of two formulas each comes from lesser ones -/
def pz_F (formulas : Int32) (kind left right : Nat → Int32) : Prop := pz_c formulas ∧ ∀ j : Nat, (j : Int) < formulas.toInt → ¬ kind j = 0 → ¬ kind j = 1 → (0 ≤ (left j).toInt ∧ (left j).toInt < j) ∧ (0 ≤ (right j).toInt ∧ (right j).toInt < j)
theorem pz_tn {x : Int32} (h : 0 ≤ x.toInt) : (x.toNatClampNeg : Int) = x.toInt := Int.toNat_of_nonneg h
theorem pz_Fl {formulas : Int32} {kind left right : Nat → Int32} {x : Int32} (hf : pz_F formulas kind left right) (h0 : 0 ≤ x.toInt) (h : ¬ formulas ≤ x) (c0 : ¬ kind x.toNatClampNeg = 0) (c1 : ¬ kind x.toNatClampNeg = 1) : vp_in (left x.toNatClampNeg) 80 ∧ vp_in (right x.toNatClampNeg) 80 := by
  have a := pz_nle h
  have b := hf.1.2
  have e := pz_tn h0
  obtain ⟨⟨l1, l2⟩, r1, r2⟩ := hf.2 x.toNatClampNeg (by omega) c0 c1
  exact ⟨pz_inI l1 (by omega), pz_inI r1 (by omega)⟩
theorem pz_upk {x K : Int32} {N : Int} (h : ¬ K ≤ x) (hK : K.toInt = N) (hN : N ≤ 1000) : (x + 1).toInt = x.toInt + 1 ∧ x.toInt < N := by
  have a := pz_nle h
  rw [hK] at a
  exact ⟨pz_inc (by omega), a⟩
theorem pz_cne {f : Int32} (hc : pz_c f) (h : ¬ f = 80) : vp_in f 80 := by
  have a := pz_ne h
  have e : (80 : Int32).toInt = 80 := rfl
  rw [e] at a
  have b := hc.2
  exact pz_inI hc.1 (by omega)
theorem pz_sub1 {f : Int32} (h : -2147483648 < f.toInt) : (f - 1).toInt = f.toInt - 1 := by
  have h0 := Int32.toInt_lt f
  rw [Int32.toInt_sub]
  have e : (1 : Int32).toInt = 1 := rfl
  rw [e, Int.bmod_eq_of_le (by omega) (by omega)]
theorem pz_le {x y : Int32} (h : x ≤ y) : x.toInt ≤ y.toInt := Int32.le_iff_toInt_le.mp h
theorem pz_lt {x y : Int32} (h : x < y) : x.toInt < y.toInt := Int32.lt_iff_toInt_lt.mp h

-- == X4_within
def f_X4_within (x0 : Int32) (x1 : Int32) (x2 : Int32) : Int32 := if x0 < x1 then (0) else (if x2 < x0 then (0) else (1))
set_option maxHeartbeats 4000000 in
set_option maxRecDepth 100000 in
theorem c_X4_within (l : Launch)   (x0 : Int32) (x1 : Int32) (x2 : Int32)  : Met l yX4_within wsX4_within ({ frames := 0, cells := 0, slots := 0, locals := 0 }) (va_Pc [.int (x0), .int (x1), .int (x2)] (fun _ => True)) (va_Qi (fun r (_ : Unit) => r = (f_X4_within x0 x1 x2)) (fun _ _ => True) (fun _ => False)) 0 0 (fun _ => False) := by
  refine Met.ofW (cc := cX4_within) (maxL := 3) (ret := (some .boolean)) (by decide) rfl ?_
  intro p e s m args below meth c s₁ B hml hv
  obtain ⟨rfl, -⟩ := hv
  have hx := B.exec
  have hb := B.bytes
  have hr := B.returns
  have hts := atoms_spec (ws := wsX4_within) B.pre
  have hown : s.vm.findClass RX4 = some m.cls := findClass_of_methodNamed B.named
  have hlocks := B.notSynchronized
  have hC : pz_C p s m ([.int (x0), .int (x1), .int (x2)] : List Value).toArray meth c cX4_within wsX4_within RX4 3 (some .boolean) := ⟨hx, hb, hml, hown, hts, hr, hlocks⟩
  have hS : va_S (fun _ => False) s.heap s.heap [] := va_S.rf
  have hl := lv_entry [.int (x0), .int (x1), .int (x2)] (n := 3) (Nat.le_of_ble_eq_true rfl)
  rw [lg_entry_eq]
  generalize (lg_sl [.int (x0), .int (x1), .int (x2)] ++ List.replicate (3 - (lg_sl [.int (x0), .int (x1), .int (x2)]).length) Slot.unset).toArray = ls at hl ⊢
  have hl : lv_has ls 3 [(0, .int (x0)), (1, .int (x1)), (2, .int (x2))] := hl
  generalize hF : f_X4_within x0 x1 x2 = G
  replace hF := hF.symm
  unfold f_X4_within at hF
  refine lv_iload_n hx hb dX4_within_0 rfl (lv_at hl 0 rfl) ?_
  refine lv_iload_n hx hb dX4_within_1 rfl (lv_at hl 1 rfl) ?_
  refine lv_icmp_lt (tgt := 14) hx hb dX4_within_2 (by decide) (fun c_1 => ?_) (fun c_1 => ?_)
  · have hF := hF.trans (if_pos c_1)
    refine lv_iconst (v := 0) hx hb dX4_within_14 (by decide) ?_
    exact W.zret (v := 0) hx hb hr rfl (fun t ht hW => ⟨⟨0, (), rfl, hF.symm, trivial⟩, hS.F ht⟩) hS.2.2 dX4_within_15 hlocks
  · have hF := hF.trans (if_neg c_1)
    refine lv_iload_n hx hb dX4_within_5 rfl (lv_at hl 0 rfl) ?_
    refine lv_iload_n hx hb dX4_within_6 rfl (lv_at hl 2 rfl) ?_
    refine lv_icmp_gt (tgt := 14) hx hb dX4_within_7 (by decide) (fun c_2 => ?_) (fun c_2 => ?_)
    · have hF := hF.trans (if_pos c_2)
      refine lv_iconst (v := 0) hx hb dX4_within_14 (by decide) ?_
      exact W.zret (v := 0) hx hb hr rfl (fun t ht hW => ⟨⟨0, (), rfl, hF.symm, trivial⟩, hS.F ht⟩) hS.2.2 dX4_within_15 hlocks
    · have hF := hF.trans (if_neg c_2)
      refine lv_iconst (v := 1) hx hb dX4_within_10 (by decide) ?_
      refine lv_goto (tgt := 15) hx hb dX4_within_11 (by decide) ?_
      exact W.zret (v := 1) hx hb hr rfl (fun t ht hW => ⟨⟨1, (), rfl, hF.symm, trivial⟩, hS.F ht⟩) hS.2.2 dX4_within_15 hlocks

theorem pz_within {r v lo hi : Int32} (h : r = f_X4_within v lo hi) : (r = 1 ∧ lo.toInt ≤ v.toInt ∧ v.toInt ≤ hi.toInt) ∨ (r = 0 ∧ ¬ (lo.toInt ≤ v.toInt ∧ v.toInt ≤ hi.toInt)) := by
  rw [h]; unfold f_X4_within
  by_cases c1 : v < lo
  · rw [if_pos c1]; have a := pz_lt c1; exact Or.inr ⟨rfl, by omega⟩
  · rw [if_neg c1]
    have a := pz_nlt c1
    by_cases c2 : hi < v
    · rw [if_pos c2]; have b := pz_lt c2; exact Or.inr ⟨rfl, by omega⟩
    · rw [if_neg c2]; have b := pz_nlt c2; exact Or.inl ⟨rfl, a, b⟩
theorem pz_within_01 {r v lo hi : Int32} (h : r = f_X4_within v lo hi) : r = 0 ∨ r = 1 := (pz_within h).elim (fun a => Or.inr a.1) (fun a => Or.inl a.1)
theorem pz_within_1 {r v lo hi : Int32} (h : r = f_X4_within v lo hi) (h0 : ¬ r = 0) : lo.toInt ≤ v.toInt ∧ v.toInt ≤ hi.toInt := (pz_within h).elim (fun a => a.2) (fun a => absurd a.1 h0)
theorem pz_within_0 {r v lo hi : Int32} (h : r = f_X4_within v lo hi) (h0 : r = 0) : ¬ (lo.toInt ≤ v.toInt ∧ v.toInt ≤ hi.toInt) := (pz_within h).elim (fun a => absurd (a.1.symm.trans h0) (by decide)) (fun a => a.2)

-- == X4_isFormula
def f_X4_isFormula (formulas : Int32) (x1 : Int32) : Int32 := pz_bnd (f_X4_within x1 0 (formulas - 1)) (fun z_1 => z_1)
theorem fl_X4_isFormula_65 : Cond.fieldLink RX4 65 "BoxProofsModel" "formulas" "I" ∈ wsX4_isFormula := by decide +kernel
theorem hdS_X4_within : yX4_within.cls ≠ "java/lang/invoke/MethodHandle" ∧ yX4_within.cls ≠ "java/lang/invoke/VarHandle" ∧ (parseMethodDescriptor yX4_within.desc).map (fun d => d.parameters.length) = some 3 := by decide +kernel
theorem in_X4_isFormula_X4 : ∀ w ∈ wsX40, w ∈ wsX4_isFormula := by decide +kernel
set_option maxHeartbeats 4000000 in
set_option maxRecDepth 100000 in
theorem c_X4_isFormula (l : Launch) (D : va_G) (q : Nat → Nat) (k : Nat → ClassId) (formulas : Int32) (kind : Nat → Int32) (left : Nat → Int32) (right : Nat → Int32) (height : Nat → Int32) (laid : Nat → Int32) (rules : Nat → Int32) (ps : Nat → Int32) (qs : Nat → Int32) (rs : Nat → Int32) (fs : Nat → Int32) (checked : Int32) (stopped : Int32) (reason : Int32) (made : Int32) (opened : Int32) (ruleThen : Nat → Int32) (heads : Nat → Int32) (boxOf : Nat → Int32) (shutBy : Nat → Int32) (around : Nat → Int32) (inner : Int32) (truth : Nat → Int32) (turned : Nat → Int32) (pile : Nat → Int32) (x1 : Int32)  : Met l yX4_isFormula wsX4_isFormula ({ frames := 1, cells := 0, slots := 0, locals := 22 }) (va_Pc [.ref (q 0), .int (x1)] (fun U => va_P D vwCl (pz_M q k formulas kind left right height laid rules ps qs rs fs checked stopped reason made opened ruleThen heads boxOf shutBy around inner truth turned pile) U.heap ∧ pz_KM D q k U)) (va_Qi (fun r (_ : Unit) => r = (f_X4_isFormula formulas x1)) (fun _ t => va_P D vwCl (pz_M q k formulas kind left right height laid rules ps qs rs fs checked stopped reason made opened ruleThen heads boxOf shutBy around inner truth turned pile) t.heap) (pz_A 19 q)) 0 0 (pz_A 19 q) := by
  refine Met.ofW (cc := cX4_isFormula) (maxL := 2) (ret := (some .boolean)) (by decide) rfl ?_
  intro p e s m args below meth c s₁ B hml hv
  obtain ⟨rfl, hP, hKX⟩ := hv
  have hx := B.exec
  have hb := B.bytes
  have hr := B.returns
  have hts := atoms_spec (ws := wsX4_isFormula) B.pre
  have hown : s.vm.findClass RX4 = some m.cls := findClass_of_methodNamed B.named
  have hlocks := B.notSynchronized
  have hC : pz_C p s m ([.ref (q 0), .int (x1)] : List Value).toArray meth c cX4_isFormula wsX4_isFormula RX4 2 (some .boolean) := ⟨hx, hb, hml, hown, hts, hr, hlocks⟩
  have hK := hKX.1
  have hS : va_S (pz_A 19 q) s.heap s.heap [] := va_S.rf
  have hl := lv_entry [.ref (q 0), .int (x1)] (n := 2) (Nat.le_of_ble_eq_true rfl)
  rw [lg_entry_eq]
  generalize (lg_sl [.ref (q 0), .int (x1)] ++ List.replicate (2 - (lg_sl [.ref (q 0), .int (x1)]).length) Slot.unset).toArray = ls at hl ⊢
  have hl : lv_has ls 2 [(0, .ref (q 0)), (1, .int (x1))] := hl
  generalize hF : f_X4_isFormula formulas x1 = G
  replace hF := hF.symm
  unfold f_X4_isFormula at hF
  refine lv_iload_n hx hb dX4_isFormula_0 rfl (lv_at hl 1 rfl) ?_
  refine lv_iconst (v := 0) hx hb dX4_isFormula_1 (by decide) ?_
  refine lv_aload_n hx hb dX4_isFormula_2 rfl (lv_at hl 0 rfl) ?_
  refine va_get (D := D) (ci := 4) (v := .int (formulas)) (C := RX4) (T := TX4) (N := 25) hx hb hts in_X4_isFormula_X4 hown hK hP 0 rfl rfl 0 (by decide) (hts _ fl_X4_isFormula_65) (fun _ h9 => h9) rfl dX4_isFormula_3 ?_
  refine lv_iconst (v := 1) hx hb dX4_isFormula_6 (by decide) ?_
  refine lv_isub hx hb dX4_isFormula_7 ?_
  refine pz_Si (As := [.int (x1), .int (0), .int ((formulas - 1))]) (rest := []) ⟨hx, hb, hml, hown, hts⟩ (c_X4_within l x1 0 (formulas - 1)) (va_cwS 3 hts gX4_isFormula_X4_within rfl rfl rfl hdS_X4_within ⟨Nat.le_of_ble_eq_true rfl, Nat.le_of_ble_eq_true rfl⟩) hP hS rfl hl.1 rfl (Nat.le_of_ble_eq_true rfl) dX4_isFormula_8 ⟨Nat.zero_le _, Nat.zero_le _⟩ (fun r_1 H locs hF_1 hP hS => ?_)
  have hF := hF.trans (pz_be hF_1)
  exact W.zret (v := r_1) hx hb hr (pz_n01 (pz_within_01 ‹_›)) (fun t ht hW => ⟨⟨r_1, (), rfl, hF.symm, pz_hp ht hP⟩, hS.F ht⟩) hS.2.2 dX4_isFormula_11 hlocks

theorem pz_isF {r f formulas : Int32} (hc : pz_c formulas) (h : r = f_X4_isFormula formulas f) (h0 : ¬ r = 0) : 0 ≤ f.toInt ∧ f.toInt < formulas.toInt := by
  have a := pz_within_1 h h0
  rw [pz_zero, pz_sub1 (by have := hc.1; omega)] at a
  omega
theorem pz_isFin {r f formulas : Int32} (hc : pz_c formulas) (h : r = f_X4_isFormula formulas f) (h0 : ¬ r = 0) : vp_in f 80 := by
  have a := pz_isF hc h h0
  have b := hc.2
  exact pz_inI a.1 (by omega)
theorem pz_hab0 {ra rb v : Int32} {P : Prop} (h1 : ra = f_X4_within v 2 4) (h2 : ra = 0) (h3 : rb = f_X4_within v 0 4) (h4 : ¬ rb = 0) : 2 ≤ v → P := by
  intro h
  have a := pz_within_0 h1 h2
  have b := pz_within_1 h3 h4
  have c := pz_le h
  have e : (4 : Int32).toInt = 4 := rfl
  rw [e] at a b
  omega

-- == X4_isLine
def f_X4_isLine (x0 : Int32) : Int32 := pz_bnd (f_X4_within x0 0 59) (fun z_1 => z_1)
set_option maxHeartbeats 4000000 in
set_option maxRecDepth 100000 in
theorem c_X4_isLine (l : Launch)   (x0 : Int32)  : Met l yX4_isLine wsX4_isLine ({ frames := 1, cells := 0, slots := 0, locals := 22 }) (va_Pc [.int (x0)] (fun _ => True)) (va_Qi (fun r (_ : Unit) => r = (f_X4_isLine x0)) (fun _ _ => True) (fun _ => False)) 0 0 (fun _ => False) := by
  refine Met.ofW (cc := cX4_isLine) (maxL := 1) (ret := (some .boolean)) (by decide) rfl ?_
  intro p e s m args below meth c s₁ B hml hv
  obtain ⟨rfl, -⟩ := hv
  have hx := B.exec
  have hb := B.bytes
  have hr := B.returns
  have hts := atoms_spec (ws := wsX4_isLine) B.pre
  have hown : s.vm.findClass RX4 = some m.cls := findClass_of_methodNamed B.named
  have hlocks := B.notSynchronized
  have hC : pz_C p s m ([.int (x0)] : List Value).toArray meth c cX4_isLine wsX4_isLine RX4 1 (some .boolean) := ⟨hx, hb, hml, hown, hts, hr, hlocks⟩
  have hS : va_S (fun _ => False) s.heap s.heap [] := va_S.rf
  have hl := lv_entry [.int (x0)] (n := 1) (Nat.le_of_ble_eq_true rfl)
  rw [lg_entry_eq]
  generalize (lg_sl [.int (x0)] ++ List.replicate (1 - (lg_sl [.int (x0)]).length) Slot.unset).toArray = ls at hl ⊢
  have hl : lv_has ls 1 [(0, .int (x0))] := hl
  generalize hF : f_X4_isLine x0 = G
  replace hF := hF.symm
  unfold f_X4_isLine at hF
  refine lv_iload_n hx hb dX4_isLine_0 rfl (lv_at hl 0 rfl) ?_
  refine lv_iconst (v := 0) hx hb dX4_isLine_1 (by decide) ?_
  refine lv_bipush (v := 59) hx hb dX4_isLine_2 (by decide) ?_
  refine pz_Si (As := [.int (x0), .int (0), .int (59)]) (rest := []) (D := (fun _ => 0, fun _ _ => 0)) (W0 := []) ⟨hx, hb, hml, hown, hts⟩ (c_X4_within l x0 0 59) (va_cwS 3 hts gX4_isLine_X4_within rfl rfl rfl hdS_X4_within ⟨Nat.le_of_ble_eq_true rfl, Nat.le_of_ble_eq_true rfl⟩) (fun k q h => by simp at h) hS rfl hl.1 rfl (Nat.le_of_ble_eq_true rfl) dX4_isLine_4 ⟨Nat.zero_le _, Nat.zero_le _⟩ (fun r_1 H locs hF_1 _ hS => ?_)
  have hF := hF.trans (pz_be hF_1)
  exact W.zret (v := r_1) hx hb hr (pz_n01 (pz_within_01 ‹_›)) (fun t ht hW => ⟨⟨r_1, (), rfl, hF.symm, trivial⟩, hS.F ht⟩) hS.2.2 dX4_isLine_7 hlocks

theorem pz_lineM {r k : Int32} (h : r = f_X4_isLine k) (h0 : ¬ r = 0) : vp_in k 60 := by
  have a := pz_within_1 h h0
  have e : (59 : Int32).toInt = 59 := rfl
  rw [pz_zero, e] at a
  exact pz_inI a.1 (by omega)

-- == X4_make
def F_X4_make_122 (formulas : Int32) (kind : Nat → Int32) (left : Nat → Int32) (right : Nat → Int32) (height : Nat → Int32) (x1 : Int32) (x2 : Int32) (x3 : Int32) (x4 : Int32) (x5 : Int32) (x6 : Int32) : Int32 × (Int32) × (Nat → Int32) × (Nat → Int32) × (Nat → Int32) × (Nat → Int32) := if formulas = 80 then (((-4), formulas, kind, left, right, height)) else (if x6 ≤ 12 then ((((formulas + 1) - 1), (formulas + 1), (upd kind (formulas).toNatClampNeg x1), (upd left (formulas).toNatClampNeg x4), (upd right (formulas).toNatClampNeg x5), (upd height (formulas).toNatClampNeg x6))) else (((-4), formulas, kind, left, right, height)))
def F_X4_make_26 : Nat → (Int32) → (Nat → Int32) → (Nat → Int32) → (Nat → Int32) → (Nat → Int32) → (Int32) → (Int32) → (Int32) → (Int32) → (Int32) → (Int32) → Int32 × (Int32) × (Nat → Int32) × (Nat → Int32) × (Nat → Int32) × (Nat → Int32)
  | 0, formulas, kind, left, right, height, x1, x2, x3, x4, x5, x6 => (0, formulas, kind, left, right, height)
  | n + 1, formulas, kind, left, right, height, x1, x2, x3, x4, x5, x6 => if formulas ≤ x6 then (if 2 ≤ x1 then (if (height (x2).toNatClampNeg) ≤ (height (x3).toNatClampNeg) then (F_X4_make_122 formulas kind left right height x1 x2 x3 x4 x5 (1 + (height (x3).toNatClampNeg))) else (F_X4_make_122 formulas kind left right height x1 x2 x3 x4 x5 (1 + (height (x2).toNatClampNeg)))) else (F_X4_make_122 formulas kind left right height x1 x2 x3 x4 x5 1)) else (if (kind (x6).toNatClampNeg) = x1 then (if (left (x6).toNatClampNeg) = x4 then (if (right (x6).toNatClampNeg) = x5 then ((x6, formulas, kind, left, right, height)) else (F_X4_make_26 n formulas kind left right height x1 x2 x3 x4 x5 (x6 + 1))) else (F_X4_make_26 n formulas kind left right height x1 x2 x3 x4 x5 (x6 + 1))) else (F_X4_make_26 n formulas kind left right height x1 x2 x3 x4 x5 (x6 + 1)))
def f_X4_make (formulas : Int32) (kind : Nat → Int32) (left : Nat → Int32) (right : Nat → Int32) (height : Nat → Int32) (x1 : Int32) (x2 : Int32) (x3 : Int32) : Int32 × (Int32) × (Nat → Int32) × (Nat → Int32) × (Nat → Int32) × (Nat → Int32) := if x1 = 0 then (if 2 ≤ x1 then (F_X4_make_26 81 formulas kind left right height x1 x2 x3 (-1) x3 0) else (F_X4_make_26 81 formulas kind left right height x1 x2 x3 (-1) (-1) 0)) else (if 2 ≤ x1 then (F_X4_make_26 81 formulas kind left right height x1 x2 x3 x2 x3 0) else (F_X4_make_26 81 formulas kind left right height x1 x2 x3 x2 (-1) 0))
theorem fl_X4_make_13 : Cond.fieldLink RX4 13 "BoxProofsModel" "left" "[I" ∈ wsX4_make := by decide +kernel
theorem fl_X4_make_16 : Cond.fieldLink RX4 16 "BoxProofsModel" "right" "[I" ∈ wsX4_make := by decide +kernel
theorem fl_X4_make_19 : Cond.fieldLink RX4 19 "BoxProofsModel" "height" "[I" ∈ wsX4_make := by decide +kernel
theorem fl_X4_make_65 : Cond.fieldLink RX4 65 "BoxProofsModel" "formulas" "I" ∈ wsX4_make := by decide +kernel
theorem fl_X4_make_7 : Cond.fieldLink RX4 7 "BoxProofsModel" "kind" "[I" ∈ wsX4_make := by decide +kernel
theorem in_X4_make_X4 : ∀ w ∈ wsX40, w ∈ wsX4_make := by decide +kernel
set_option maxHeartbeats 4000000 in
set_option maxRecDepth 100000 in
theorem k_X4_make_122 {p : Program} {l : Launch} {e : Env} {s : State} {m : MethodId} {args : Array Value} {below : List Frame} {meth : Method} {c : Code} {D : va_G} {q : Nat → Nat} {k : Nat → ClassId} (hC : pz_C p s m args meth c cX4_make wsX4_make RX4 7 (some .int)) (hKX : pz_KM D q k s) (laid : Nat → Int32) (rules : Nat → Int32) (ps : Nat → Int32) (qs : Nat → Int32) (rs : Nat → Int32) (fs : Nat → Int32) (checked : Int32) (stopped : Int32) (reason : Int32) (made : Int32) (opened : Int32) (ruleThen : Nat → Int32) (heads : Nat → Int32) (boxOf : Nat → Int32) (shutBy : Nat → Int32) (around : Nat → Int32) (inner : Int32) (truth : Nat → Int32) (turned : Nat → Int32) (pile : Nat → Int32) {G : Int32 × (Int32) × (Nat → Int32) × (Nat → Int32) × (Nat → Int32) × (Nat → Int32)} :
    ∀ (formulas : Int32) (kind : Nat → Int32) (left : Nat → Int32) (right : Nat → Int32) (height : Nat → Int32) (x1 : Int32) (x2 : Int32) (x3 : Int32) (x4 : Int32) (x5 : Int32) (x6 : Int32)  (hc : pz_c formulas) (hab : 2 ≤ x1 → vp_in x2 80 ∧ vp_in x3 80) (H : Heap) (locs : List Loc) (ls : Array Slot), G = F_X4_make_122 formulas kind left right height x1 x2 x3 x4 x5 x6 → va_P D vwCl (pz_M q k formulas kind left right height laid rules ps qs rs fs checked stopped reason made opened ruleThen heads boxOf shutBy around inner truth turned pile) H → va_S (pz_A 19 q) s.heap H locs → lv_has ls 7 [(0, .ref (q 0)), (1, .int (x1)), (2, .int (x2)), (3, .int (x3)), (4, .int (x4)), (5, .int (x5)), (6, .int (x6))] → W p l e (headSpec wsX4_make { frames := 0, cells := 0, slots := 0, locals := 0 }).room s m args below meth c H locs 0 0 (MQ below (va_Qi (fun r (u : (Int32) × (Nat → Int32) × (Nat → Int32) × (Nat → Int32) × (Nat → Int32)) => (r, u) = G) (fun u t => va_P D vwCl (pz_M q k u.1 u.2.1 u.2.2.1 u.2.2.2.1 u.2.2.2.2 laid rules ps qs rs fs checked stopped reason made opened ruleThen heads boxOf shutBy around inner truth turned pile) t.heap) (pz_A 19 q)) args s 0 0 (pz_A 19 q)) (F0 m 122 ls []) := by
  obtain ⟨hx, hb, hml, hown, hts, hr, hlocks⟩ := hC
  have hC : pz_C p s m args meth c cX4_make wsX4_make RX4 7 (some .int) := ⟨hx, hb, hml, hown, hts, hr, hlocks⟩
  have hK := hKX.1
  intro formulas kind left right height x1 x2 x3 x4 x5 x6 hc hab H locs ls hF hP hS hl
  unfold F_X4_make_122 at hF
  refine lv_aload_n hx hb dX4_make_122 rfl (lv_at hl 0 rfl) ?_
  refine va_get (D := D) (ci := 4) (v := .int (formulas)) (C := RX4) (T := TX4) (N := 25) hx hb hts in_X4_make_X4 hown hK hP 0 rfl rfl 0 (by decide) (hts _ fl_X4_make_65) (fun _ h9 => h9) rfl dX4_make_123 ?_
  refine lv_bipush (v := 80) hx hb dX4_make_126 (by decide) ?_
  refine lv_icmp_eq (tgt := 138) hx hb dX4_make_128 (by decide) (fun c_1 => ?_) (fun c_1 => ?_)
  · have hF := hF.trans (if_pos c_1)
    refine lv_bipush (v := (-4)) hx hb dX4_make_138 (by decide) ?_
    exact W.iret (v := (-4)) hx hb hr (fun t ht hW => ⟨⟨(-4), (formulas, kind, left, right, height), rfl, hF.symm, pz_hp ht hP⟩, hS.F ht⟩) hS.2.2 dX4_make_140 hlocks
  · have hF := hF.trans (if_neg c_1)
    refine lv_iload hx hb dX4_make_131 (lv_at hl 6 rfl) ?_
    refine lv_bipush (v := 12) hx hb dX4_make_133 (by decide) ?_
    refine lv_icmp_le (tgt := 141) hx hb dX4_make_135 (by decide) (fun c_2 => ?_) (fun c_2 => ?_)
    · have hF := hF.trans (if_pos c_2)
      refine lv_aload_n hx hb dX4_make_141 rfl (lv_at hl 0 rfl) ?_
      refine va_get (D := D) (ci := 4) (v := .ref (q 1)) (C := RX4) (T := TX4) (N := 25) hx hb hts in_X4_make_X4 hown hK hP 0 rfl rfl 1 (by decide) (hts _ fl_X4_make_7) (fun _ h9 => h9) rfl dX4_make_142 ?_
      refine lv_aload_n hx hb dX4_make_145 rfl (lv_at hl 0 rfl) ?_
      refine va_get (D := D) (ci := 4) (v := .int (formulas)) (C := RX4) (T := TX4) (N := 25) hx hb hts in_X4_make_X4 hown hK hP 0 rfl rfl 0 (by decide) (hts _ fl_X4_make_65) (fun _ h9 => h9) rfl dX4_make_146 ?_
      refine lv_iload_n hx hb dX4_make_149 rfl (lv_at hl 1 rfl) ?_
      have hi_3 : vp_in formulas 80 := pz_cne hc ‹_›
      refine va_iast hx hb hK hP (pz_D hKX.2 rfl) hS 1 0 rfl rfl hi_3 dX4_make_150 (fun H locs hP _ hS => ?_)
      have hP : va_P D vwCl (pz_M q k formulas (upd kind (formulas).toNatClampNeg x1) left right height laid rules ps qs rs fs checked stopped reason made opened ruleThen heads boxOf shutBy around inner truth turned pile) H := hP
      refine lv_aload_n hx hb dX4_make_151 rfl (lv_at hl 0 rfl) ?_
      refine va_get (D := D) (ci := 4) (v := .ref (q 2)) (C := RX4) (T := TX4) (N := 25) hx hb hts in_X4_make_X4 hown hK hP 0 rfl rfl 2 (by decide) (hts _ fl_X4_make_13) (fun _ h9 => h9) rfl dX4_make_152 ?_
      refine lv_aload_n hx hb dX4_make_155 rfl (lv_at hl 0 rfl) ?_
      refine va_get (D := D) (ci := 4) (v := .int (formulas)) (C := RX4) (T := TX4) (N := 25) hx hb hts in_X4_make_X4 hown hK hP 0 rfl rfl 0 (by decide) (hts _ fl_X4_make_65) (fun _ h9 => h9) rfl dX4_make_156 ?_
      refine lv_iload hx hb dX4_make_159 (lv_at hl 4 rfl) ?_
      have hi_4 : vp_in formulas 80 := pz_cne hc ‹_›
      refine va_iast hx hb hK hP (pz_D hKX.2 rfl) hS 2 0 rfl rfl hi_4 dX4_make_161 (fun H locs hP _ hS => ?_)
      have hP : va_P D vwCl (pz_M q k formulas (upd kind (formulas).toNatClampNeg x1) (upd left (formulas).toNatClampNeg x4) right height laid rules ps qs rs fs checked stopped reason made opened ruleThen heads boxOf shutBy around inner truth turned pile) H := hP
      refine lv_aload_n hx hb dX4_make_162 rfl (lv_at hl 0 rfl) ?_
      refine va_get (D := D) (ci := 4) (v := .ref (q 3)) (C := RX4) (T := TX4) (N := 25) hx hb hts in_X4_make_X4 hown hK hP 0 rfl rfl 3 (by decide) (hts _ fl_X4_make_16) (fun _ h9 => h9) rfl dX4_make_163 ?_
      refine lv_aload_n hx hb dX4_make_166 rfl (lv_at hl 0 rfl) ?_
      refine va_get (D := D) (ci := 4) (v := .int (formulas)) (C := RX4) (T := TX4) (N := 25) hx hb hts in_X4_make_X4 hown hK hP 0 rfl rfl 0 (by decide) (hts _ fl_X4_make_65) (fun _ h9 => h9) rfl dX4_make_167 ?_
      refine lv_iload hx hb dX4_make_170 (lv_at hl 5 rfl) ?_
      have hi_5 : vp_in formulas 80 := pz_cne hc ‹_›
      refine va_iast hx hb hK hP (pz_D hKX.2 rfl) hS 3 0 rfl rfl hi_5 dX4_make_172 (fun H locs hP _ hS => ?_)
      have hP : va_P D vwCl (pz_M q k formulas (upd kind (formulas).toNatClampNeg x1) (upd left (formulas).toNatClampNeg x4) (upd right (formulas).toNatClampNeg x5) height laid rules ps qs rs fs checked stopped reason made opened ruleThen heads boxOf shutBy around inner truth turned pile) H := hP
      refine lv_aload_n hx hb dX4_make_173 rfl (lv_at hl 0 rfl) ?_
      refine va_get (D := D) (ci := 4) (v := .ref (q 4)) (C := RX4) (T := TX4) (N := 25) hx hb hts in_X4_make_X4 hown hK hP 0 rfl rfl 4 (by decide) (hts _ fl_X4_make_19) (fun _ h9 => h9) rfl dX4_make_174 ?_
      refine lv_aload_n hx hb dX4_make_177 rfl (lv_at hl 0 rfl) ?_
      refine va_get (D := D) (ci := 4) (v := .int (formulas)) (C := RX4) (T := TX4) (N := 25) hx hb hts in_X4_make_X4 hown hK hP 0 rfl rfl 0 (by decide) (hts _ fl_X4_make_65) (fun _ h9 => h9) rfl dX4_make_178 ?_
      refine lv_iload hx hb dX4_make_181 (lv_at hl 6 rfl) ?_
      have hi_6 : vp_in formulas 80 := pz_cne hc ‹_›
      refine va_iast hx hb hK hP (pz_D hKX.2 rfl) hS 4 0 rfl rfl hi_6 dX4_make_183 (fun H locs hP _ hS => ?_)
      have hP : va_P D vwCl (pz_M q k formulas (upd kind (formulas).toNatClampNeg x1) (upd left (formulas).toNatClampNeg x4) (upd right (formulas).toNatClampNeg x5) (upd height (formulas).toNatClampNeg x6) laid rules ps qs rs fs checked stopped reason made opened ruleThen heads boxOf shutBy around inner truth turned pile) H := hP
      refine lv_aload_n hx hb dX4_make_184 rfl (lv_at hl 0 rfl) ?_
      refine lv_dup hx hb dX4_make_185 rfl ?_
      refine va_get (D := D) (ci := 4) (v := .int (formulas)) (C := RX4) (T := TX4) (N := 25) hx hb hts in_X4_make_X4 hown hK hP 0 rfl rfl 0 (by decide) (hts _ fl_X4_make_65) (fun _ h9 => h9) rfl dX4_make_186 ?_
      refine lv_iconst (v := 1) hx hb dX4_make_189 (by decide) ?_
      refine lv_iadd hx hb dX4_make_190 ?_
      refine va_put (D := D) (ci := 4) (v := .int ((formulas + 1))) (ty := .int) (C := RX4) (T := TX4) (N := 25) hx hb hts in_X4_make_X4 tyX4 tyX4_ok nmX4 hown hK hP (pz_D hKX.2 rfl) hS 0 rfl rfl 0 (by decide) (hts _ fl_X4_make_65) (fun _ h9 => h9) rfl (by decide +kernel) rfl rfl (Nat.le_of_ble_eq_true rfl) dX4_make_191 (fun H locs hP _ hS => ?_)
      have hP : va_P D vwCl (pz_M q k (formulas + 1) (upd kind (formulas).toNatClampNeg x1) (upd left (formulas).toNatClampNeg x4) (upd right (formulas).toNatClampNeg x5) (upd height (formulas).toNatClampNeg x6) laid rules ps qs rs fs checked stopped reason made opened ruleThen heads boxOf shutBy around inner truth turned pile) H := hP
      refine lv_aload_n hx hb dX4_make_194 rfl (lv_at hl 0 rfl) ?_
      refine va_get (D := D) (ci := 4) (v := .int ((formulas + 1))) (C := RX4) (T := TX4) (N := 25) hx hb hts in_X4_make_X4 hown hK hP 0 rfl rfl 0 (by decide) (hts _ fl_X4_make_65) (fun _ h9 => h9) rfl dX4_make_195 ?_
      refine lv_iconst (v := 1) hx hb dX4_make_198 (by decide) ?_
      refine lv_isub hx hb dX4_make_199 ?_
      exact W.iret (v := ((formulas + 1) - 1)) hx hb hr (fun t ht hW => ⟨⟨((formulas + 1) - 1), ((formulas + 1), (upd kind (formulas).toNatClampNeg x1), (upd left (formulas).toNatClampNeg x4), (upd right (formulas).toNatClampNeg x5), (upd height (formulas).toNatClampNeg x6)), rfl, hF.symm, pz_hp ht hP⟩, hS.F ht⟩) hS.2.2 dX4_make_200 hlocks
    · have hF := hF.trans (if_neg c_2)
      refine lv_bipush (v := (-4)) hx hb dX4_make_138 (by decide) ?_
      exact W.iret (v := (-4)) hx hb hr (fun t ht hW => ⟨⟨(-4), (formulas, kind, left, right, height), rfl, hF.symm, pz_hp ht hP⟩, hS.F ht⟩) hS.2.2 dX4_make_140 hlocks
set_option maxHeartbeats 4000000 in
set_option maxRecDepth 100000 in
theorem k_X4_make_26 {p : Program} {l : Launch} {e : Env} {s : State} {m : MethodId} {args : Array Value} {below : List Frame} {meth : Method} {c : Code} {D : va_G} {q : Nat → Nat} {k : Nat → ClassId} (hC : pz_C p s m args meth c cX4_make wsX4_make RX4 7 (some .int)) (hKX : pz_KM D q k s) (laid : Nat → Int32) (rules : Nat → Int32) (ps : Nat → Int32) (qs : Nat → Int32) (rs : Nat → Int32) (fs : Nat → Int32) (checked : Int32) (stopped : Int32) (reason : Int32) (made : Int32) (opened : Int32) (ruleThen : Nat → Int32) (heads : Nat → Int32) (boxOf : Nat → Int32) (shutBy : Nat → Int32) (around : Nat → Int32) (inner : Int32) (truth : Nat → Int32) (turned : Nat → Int32) (pile : Nat → Int32) {G : Int32 × (Int32) × (Nat → Int32) × (Nat → Int32) × (Nat → Int32) × (Nat → Int32)} :
    ∀ (n : Nat) (formulas : Int32) (kind : Nat → Int32) (left : Nat → Int32) (right : Nat → Int32) (height : Nat → Int32) (x1 : Int32) (x2 : Int32) (x3 : Int32) (x4 : Int32) (x5 : Int32) (x6 : Int32) (h0 : 0 ≤ x6.toInt) (h1 : x6.toInt ≤ 80) (hn : 81 ≤ x6.toInt + n) (hc : pz_c formulas) (hab : 2 ≤ x1 → vp_in x2 80 ∧ vp_in x3 80) (H : Heap) (locs : List Loc) (ls : Array Slot), G = F_X4_make_26 n formulas kind left right height x1 x2 x3 x4 x5 x6 → va_P D vwCl (pz_M q k formulas kind left right height laid rules ps qs rs fs checked stopped reason made opened ruleThen heads boxOf shutBy around inner truth turned pile) H → va_S (pz_A 19 q) s.heap H locs → lv_has ls 7 [(0, .ref (q 0)), (1, .int (x1)), (2, .int (x2)), (3, .int (x3)), (4, .int (x4)), (5, .int (x5)), (6, .int (x6))] → W p l e (headSpec wsX4_make { frames := 0, cells := 0, slots := 0, locals := 0 }).room s m args below meth c H locs 0 0 (MQ below (va_Qi (fun r (u : (Int32) × (Nat → Int32) × (Nat → Int32) × (Nat → Int32) × (Nat → Int32)) => (r, u) = G) (fun u t => va_P D vwCl (pz_M q k u.1 u.2.1 u.2.2.1 u.2.2.2.1 u.2.2.2.2 laid rules ps qs rs fs checked stopped reason made opened ruleThen heads boxOf shutBy around inner truth turned pile) t.heap) (pz_A 19 q)) args s 0 0 (pz_A 19 q)) (F0 m 26 ls []) := by
  obtain ⟨hx, hb, hml, hown, hts, hr, hlocks⟩ := hC
  have hC : pz_C p s m args meth c cX4_make wsX4_make RX4 7 (some .int) := ⟨hx, hb, hml, hown, hts, hr, hlocks⟩
  have hK := hKX.1
  intro n
  induction n with
  | zero =>
    intro formulas kind left right height x1 x2 x3 x4 x5 x6 h0 h1 hn hc hab H locs ls hF hP hS hl
    exact absurd hn (by omega)
  | succ n ih =>
    intro formulas kind left right height x1 x2 x3 x4 x5 x6 h0 h1 hn hc hab H locs ls hF hP hS hl
    unfold F_X4_make_26 at hF
    refine lv_iload hx hb dX4_make_26 (lv_at hl 6 rfl) ?_
    refine lv_aload_n hx hb dX4_make_28 rfl (lv_at hl 0 rfl) ?_
    refine va_get (D := D) (ci := 4) (v := .int (formulas)) (C := RX4) (T := TX4) (N := 25) hx hb hts in_X4_make_X4 hown hK hP 0 rfl rfl 0 (by decide) (hts _ fl_X4_make_65) (fun _ h9 => h9) rfl dX4_make_29 ?_
    refine lv_icmp_ge (tgt := 79) hx hb dX4_make_32 (by decide) (fun c_7 => ?_) (fun c_7 => ?_)
    · have hF := hF.trans (if_pos c_7)
      refine lv_iload_n hx hb dX4_make_79 rfl (lv_at hl 1 rfl) ?_
      refine lv_iconst (v := 2) hx hb dX4_make_80 (by decide) ?_
      refine lv_icmp_ge (tgt := 88) hx hb dX4_make_81 (by decide) (fun c_8 => ?_) (fun c_8 => ?_)
      · have hF := hF.trans (if_pos c_8)
        refine lv_iconst (v := 1) hx hb dX4_make_88 (by decide) ?_
        refine lv_aload_n hx hb dX4_make_89 rfl (lv_at hl 0 rfl) ?_
        refine va_get (D := D) (ci := 4) (v := .ref (q 4)) (C := RX4) (T := TX4) (N := 25) hx hb hts in_X4_make_X4 hown hK hP 0 rfl rfl 4 (by decide) (hts _ fl_X4_make_19) (fun _ h9 => h9) rfl dX4_make_90 ?_
        refine lv_iload_n hx hb dX4_make_93 rfl (lv_at hl 2 rfl) ?_
        have hi_9 : vp_in x2 80 := (hab ‹_›).1
        refine va_iald hx hb hK hP 4 0 rfl rfl hi_9 dX4_make_94 ?_
        refine lv_aload_n hx hb dX4_make_95 rfl (lv_at hl 0 rfl) ?_
        refine va_get (D := D) (ci := 4) (v := .ref (q 4)) (C := RX4) (T := TX4) (N := 25) hx hb hts in_X4_make_X4 hown hK hP 0 rfl rfl 4 (by decide) (hts _ fl_X4_make_19) (fun _ h9 => h9) rfl dX4_make_96 ?_
        refine lv_iload_n hx hb dX4_make_99 rfl (lv_at hl 3 rfl) ?_
        have hi_10 : vp_in x3 80 := (hab ‹_›).2
        refine va_iald hx hb hK hP 4 0 rfl rfl hi_10 dX4_make_100 ?_
        refine lv_icmp_le (tgt := 113) hx hb dX4_make_101 (by decide) (fun c_11 => ?_) (fun c_11 => ?_)
        · have hF := hF.trans (if_pos c_11)
          refine lv_aload_n hx hb dX4_make_113 rfl (lv_at hl 0 rfl) ?_
          refine va_get (D := D) (ci := 4) (v := .ref (q 4)) (C := RX4) (T := TX4) (N := 25) hx hb hts in_X4_make_X4 hown hK hP 0 rfl rfl 4 (by decide) (hts _ fl_X4_make_19) (fun _ h9 => h9) rfl dX4_make_114 ?_
          refine lv_iload_n hx hb dX4_make_117 rfl (lv_at hl 3 rfl) ?_
          have hi_12 : vp_in x3 80 := (hab ‹_›).2
          refine va_iald hx hb hK hP 4 0 rfl rfl hi_12 dX4_make_118 ?_
          refine lv_iadd hx hb dX4_make_119 ?_
          refine lv_istore (lv' := [(6, .int ((1 + (height (x3).toNatClampNeg)))), (0, .ref (q 0)), (1, .int (x1)), (2, .int (x2)), (3, .int (x3)), (4, .int (x4)), (5, .int (x5))]) hx hb dX4_make_120 hl (by decide) rfl (fun ls hl => ?_)
          exact k_X4_make_122 hC hKX laid rules ps qs rs fs checked stopped reason made opened ruleThen heads boxOf shutBy around inner truth turned pile formulas kind left right height x1 x2 x3 x4 x5 (1 + (height (x3).toNatClampNeg)) hc hab _ _ _ hF hP hS (lv_sub hl [1, 2, 3, 4, 5, 6, 0] rfl)
        · have hF := hF.trans (if_neg c_11)
          refine lv_aload_n hx hb dX4_make_104 rfl (lv_at hl 0 rfl) ?_
          refine va_get (D := D) (ci := 4) (v := .ref (q 4)) (C := RX4) (T := TX4) (N := 25) hx hb hts in_X4_make_X4 hown hK hP 0 rfl rfl 4 (by decide) (hts _ fl_X4_make_19) (fun _ h9 => h9) rfl dX4_make_105 ?_
          refine lv_iload_n hx hb dX4_make_108 rfl (lv_at hl 2 rfl) ?_
          have hi_13 : vp_in x2 80 := (hab ‹_›).1
          refine va_iald hx hb hK hP 4 0 rfl rfl hi_13 dX4_make_109 ?_
          refine lv_goto (tgt := 119) hx hb dX4_make_110 (by decide) ?_
          refine lv_iadd hx hb dX4_make_119 ?_
          refine lv_istore (lv' := [(6, .int ((1 + (height (x2).toNatClampNeg)))), (0, .ref (q 0)), (1, .int (x1)), (2, .int (x2)), (3, .int (x3)), (4, .int (x4)), (5, .int (x5))]) hx hb dX4_make_120 hl (by decide) rfl (fun ls hl => ?_)
          exact k_X4_make_122 hC hKX laid rules ps qs rs fs checked stopped reason made opened ruleThen heads boxOf shutBy around inner truth turned pile formulas kind left right height x1 x2 x3 x4 x5 (1 + (height (x2).toNatClampNeg)) hc hab _ _ _ hF hP hS (lv_sub hl [1, 2, 3, 4, 5, 6, 0] rfl)
      · have hF := hF.trans (if_neg c_8)
        refine lv_iconst (v := 1) hx hb dX4_make_84 (by decide) ?_
        refine lv_goto (tgt := 120) hx hb dX4_make_85 (by decide) ?_
        refine lv_istore (lv' := [(6, .int (1)), (0, .ref (q 0)), (1, .int (x1)), (2, .int (x2)), (3, .int (x3)), (4, .int (x4)), (5, .int (x5))]) hx hb dX4_make_120 hl (by decide) rfl (fun ls hl => ?_)
        exact k_X4_make_122 hC hKX laid rules ps qs rs fs checked stopped reason made opened ruleThen heads boxOf shutBy around inner truth turned pile formulas kind left right height x1 x2 x3 x4 x5 1 hc hab _ _ _ hF hP hS (lv_sub hl [1, 2, 3, 4, 5, 6, 0] rfl)
    · have hF := hF.trans (if_neg c_7)
      refine lv_aload_n hx hb dX4_make_35 rfl (lv_at hl 0 rfl) ?_
      refine va_get (D := D) (ci := 4) (v := .ref (q 1)) (C := RX4) (T := TX4) (N := 25) hx hb hts in_X4_make_X4 hown hK hP 0 rfl rfl 1 (by decide) (hts _ fl_X4_make_7) (fun _ h9 => h9) rfl dX4_make_36 ?_
      refine lv_iload hx hb dX4_make_39 (lv_at hl 6 rfl) ?_
      have hi_14 : vp_in x6 80 := pz_inI h0 (pz_incf hc ‹¬ formulas ≤ x6›).2
      refine va_iald hx hb hK hP 1 0 rfl rfl hi_14 dX4_make_41 ?_
      refine lv_iload_n hx hb dX4_make_42 rfl (lv_at hl 1 rfl) ?_
      refine lv_icmp_ne (tgt := 73) hx hb dX4_make_43 (by decide) (fun c_15 => ?_) (fun c_15 => ?_)
      · have hF := hF.trans (if_neg c_15)
        refine lv_iinc (v := (x6 + 1)) (lv' := [(6, .int ((x6 + 1))), (0, .ref (q 0)), (1, .int (x1)), (2, .int (x2)), (3, .int (x3)), (4, .int (x4)), (5, .int (x5))]) hx hb dX4_make_73 hl (k := 6) rfl rfl (by decide) rfl (fun ls hl => ?_)
        refine lv_goto (tgt := 26) hx hb dX4_make_76 (by decide) ?_
        exact ih formulas kind left right height x1 x2 x3 x4 x5 (x6 + 1) (by have e := pz_incf hc ‹¬ formulas ≤ x6›; omega) (by have e := pz_incf hc ‹¬ formulas ≤ x6›; omega) (by have e := pz_incf hc ‹¬ formulas ≤ x6›; omega) hc hab _ _ _ hF hP hS (lv_sub hl [1, 2, 3, 4, 5, 6, 0] rfl)
      · have hF := hF.trans (if_pos c_15)
        refine lv_aload_n hx hb dX4_make_46 rfl (lv_at hl 0 rfl) ?_
        refine va_get (D := D) (ci := 4) (v := .ref (q 2)) (C := RX4) (T := TX4) (N := 25) hx hb hts in_X4_make_X4 hown hK hP 0 rfl rfl 2 (by decide) (hts _ fl_X4_make_13) (fun _ h9 => h9) rfl dX4_make_47 ?_
        refine lv_iload hx hb dX4_make_50 (lv_at hl 6 rfl) ?_
        have hi_16 : vp_in x6 80 := pz_inI h0 (pz_incf hc ‹¬ formulas ≤ x6›).2
        refine va_iald hx hb hK hP 2 0 rfl rfl hi_16 dX4_make_52 ?_
        refine lv_iload hx hb dX4_make_53 (lv_at hl 4 rfl) ?_
        refine lv_icmp_ne (tgt := 73) hx hb dX4_make_55 (by decide) (fun c_17 => ?_) (fun c_17 => ?_)
        · have hF := hF.trans (if_neg c_17)
          refine lv_iinc (v := (x6 + 1)) (lv' := [(6, .int ((x6 + 1))), (0, .ref (q 0)), (1, .int (x1)), (2, .int (x2)), (3, .int (x3)), (4, .int (x4)), (5, .int (x5))]) hx hb dX4_make_73 hl (k := 6) rfl rfl (by decide) rfl (fun ls hl => ?_)
          refine lv_goto (tgt := 26) hx hb dX4_make_76 (by decide) ?_
          exact ih formulas kind left right height x1 x2 x3 x4 x5 (x6 + 1) (by have e := pz_incf hc ‹¬ formulas ≤ x6›; omega) (by have e := pz_incf hc ‹¬ formulas ≤ x6›; omega) (by have e := pz_incf hc ‹¬ formulas ≤ x6›; omega) hc hab _ _ _ hF hP hS (lv_sub hl [1, 2, 3, 4, 5, 6, 0] rfl)
        · have hF := hF.trans (if_pos c_17)
          refine lv_aload_n hx hb dX4_make_58 rfl (lv_at hl 0 rfl) ?_
          refine va_get (D := D) (ci := 4) (v := .ref (q 3)) (C := RX4) (T := TX4) (N := 25) hx hb hts in_X4_make_X4 hown hK hP 0 rfl rfl 3 (by decide) (hts _ fl_X4_make_16) (fun _ h9 => h9) rfl dX4_make_59 ?_
          refine lv_iload hx hb dX4_make_62 (lv_at hl 6 rfl) ?_
          have hi_18 : vp_in x6 80 := pz_inI h0 (pz_incf hc ‹¬ formulas ≤ x6›).2
          refine va_iald hx hb hK hP 3 0 rfl rfl hi_18 dX4_make_64 ?_
          refine lv_iload hx hb dX4_make_65 (lv_at hl 5 rfl) ?_
          refine lv_icmp_ne (tgt := 73) hx hb dX4_make_67 (by decide) (fun c_19 => ?_) (fun c_19 => ?_)
          · have hF := hF.trans (if_neg c_19)
            refine lv_iinc (v := (x6 + 1)) (lv' := [(6, .int ((x6 + 1))), (0, .ref (q 0)), (1, .int (x1)), (2, .int (x2)), (3, .int (x3)), (4, .int (x4)), (5, .int (x5))]) hx hb dX4_make_73 hl (k := 6) rfl rfl (by decide) rfl (fun ls hl => ?_)
            refine lv_goto (tgt := 26) hx hb dX4_make_76 (by decide) ?_
            exact ih formulas kind left right height x1 x2 x3 x4 x5 (x6 + 1) (by have e := pz_incf hc ‹¬ formulas ≤ x6›; omega) (by have e := pz_incf hc ‹¬ formulas ≤ x6›; omega) (by have e := pz_incf hc ‹¬ formulas ≤ x6›; omega) hc hab _ _ _ hF hP hS (lv_sub hl [1, 2, 3, 4, 5, 6, 0] rfl)
          · have hF := hF.trans (if_pos c_19)
            refine lv_iload hx hb dX4_make_70 (lv_at hl 6 rfl) ?_
            exact W.iret (v := x6) hx hb hr (fun t ht hW => ⟨⟨x6, (formulas, kind, left, right, height), rfl, hF.symm, pz_hp ht hP⟩, hS.F ht⟩) hS.2.2 dX4_make_72 hlocks
set_option maxHeartbeats 4000000 in
set_option maxRecDepth 100000 in
theorem c_X4_make (l : Launch) (D : va_G) (q : Nat → Nat) (k : Nat → ClassId) (formulas : Int32) (kind : Nat → Int32) (left : Nat → Int32) (right : Nat → Int32) (height : Nat → Int32) (laid : Nat → Int32) (rules : Nat → Int32) (ps : Nat → Int32) (qs : Nat → Int32) (rs : Nat → Int32) (fs : Nat → Int32) (checked : Int32) (stopped : Int32) (reason : Int32) (made : Int32) (opened : Int32) (ruleThen : Nat → Int32) (heads : Nat → Int32) (boxOf : Nat → Int32) (shutBy : Nat → Int32) (around : Nat → Int32) (inner : Int32) (truth : Nat → Int32) (turned : Nat → Int32) (pile : Nat → Int32) (x1 : Int32) (x2 : Int32) (x3 : Int32) (hc : pz_c formulas) (hab : 2 ≤ x1 → vp_in x2 80 ∧ vp_in x3 80) : Met l yX4_make wsX4_make ({ frames := 0, cells := 0, slots := 0, locals := 0 }) (va_Pc [.ref (q 0), .int (x1), .int (x2), .int (x3)] (fun U => va_P D vwCl (pz_M q k formulas kind left right height laid rules ps qs rs fs checked stopped reason made opened ruleThen heads boxOf shutBy around inner truth turned pile) U.heap ∧ pz_KM D q k U)) (va_Qi (fun r (u : (Int32) × (Nat → Int32) × (Nat → Int32) × (Nat → Int32) × (Nat → Int32)) => (r, u) = (f_X4_make formulas kind left right height x1 x2 x3)) (fun u t => va_P D vwCl (pz_M q k u.1 u.2.1 u.2.2.1 u.2.2.2.1 u.2.2.2.2 laid rules ps qs rs fs checked stopped reason made opened ruleThen heads boxOf shutBy around inner truth turned pile) t.heap) (pz_A 19 q)) 0 0 (pz_A 19 q) := by
  refine Met.ofW (cc := cX4_make) (maxL := 7) (ret := (some .int)) (by decide) rfl ?_
  intro p e s m args below meth c s₁ B hml hv
  obtain ⟨rfl, hP, hKX⟩ := hv
  have hx := B.exec
  have hb := B.bytes
  have hr := B.returns
  have hts := atoms_spec (ws := wsX4_make) B.pre
  have hown : s.vm.findClass RX4 = some m.cls := findClass_of_methodNamed B.named
  have hlocks := B.notSynchronized
  have hC : pz_C p s m ([.ref (q 0), .int (x1), .int (x2), .int (x3)] : List Value).toArray meth c cX4_make wsX4_make RX4 7 (some .int) := ⟨hx, hb, hml, hown, hts, hr, hlocks⟩
  have hK := hKX.1
  have hS : va_S (pz_A 19 q) s.heap s.heap [] := va_S.rf
  have hl := lv_entry [.ref (q 0), .int (x1), .int (x2), .int (x3)] (n := 7) (Nat.le_of_ble_eq_true rfl)
  rw [lg_entry_eq]
  generalize (lg_sl [.ref (q 0), .int (x1), .int (x2), .int (x3)] ++ List.replicate (7 - (lg_sl [.ref (q 0), .int (x1), .int (x2), .int (x3)]).length) Slot.unset).toArray = ls at hl ⊢
  have hl : lv_has ls 7 [(0, .ref (q 0)), (1, .int (x1)), (2, .int (x2)), (3, .int (x3))] := hl
  generalize hF : f_X4_make formulas kind left right height x1 x2 x3 = G
  replace hF := hF.symm
  unfold f_X4_make at hF
  refine lv_iload_n hx hb dX4_make_0 rfl (lv_at hl 1 rfl) ?_
  refine lv_if_ne (tgt := 8) hx hb dX4_make_1 (by decide) (fun c_20 => ?_) (fun c_20 => ?_)
  · have hF := hF.trans (if_neg c_20)
    refine lv_iload_n hx hb dX4_make_8 rfl (lv_at hl 2 rfl) ?_
    refine lv_istore (lv' := [(4, .int (x2)), (0, .ref (q 0)), (1, .int (x1)), (2, .int (x2)), (3, .int (x3))]) hx hb dX4_make_9 hl (by decide) rfl (fun ls hl => ?_)
    refine lv_iload_n hx hb dX4_make_11 rfl (lv_at hl 2 rfl) ?_
    refine lv_iconst (v := 2) hx hb dX4_make_12 (by decide) ?_
    refine lv_icmp_ge (tgt := 20) hx hb dX4_make_13 (by decide) (fun c_21 => ?_) (fun c_21 => ?_)
    · have hF := hF.trans (if_pos c_21)
      refine lv_iload_n hx hb dX4_make_20 rfl (lv_at hl 4 rfl) ?_
      refine lv_istore (lv' := [(5, .int (x3)), (4, .int (x2)), (0, .ref (q 0)), (1, .int (x1)), (2, .int (x2)), (3, .int (x3))]) hx hb dX4_make_21 hl (by decide) rfl (fun ls hl => ?_)
      refine lv_iconst (v := 0) hx hb dX4_make_23 (by decide) ?_
      refine lv_istore (lv' := [(6, .int (0)), (5, .int (x3)), (4, .int (x2)), (0, .ref (q 0)), (1, .int (x1)), (2, .int (x2)), (3, .int (x3))]) hx hb dX4_make_24 hl (by decide) rfl (fun ls hl => ?_)
      exact k_X4_make_26 hC hKX laid rules ps qs rs fs checked stopped reason made opened ruleThen heads boxOf shutBy around inner truth turned pile 81 formulas kind left right height x1 x2 x3 x2 x3 0 (by decide) (by decide) (by decide) hc hab _ _ _ hF hP hS (lv_sub hl [3, 4, 5, 6, 2, 1, 0] rfl)
    · have hF := hF.trans (if_neg c_21)
      refine lv_iconst (v := (-1)) hx hb dX4_make_16 (by decide) ?_
      refine lv_goto (tgt := 21) hx hb dX4_make_17 (by decide) ?_
      refine lv_istore (lv' := [(5, .int ((-1))), (4, .int (x2)), (0, .ref (q 0)), (1, .int (x1)), (2, .int (x2)), (3, .int (x3))]) hx hb dX4_make_21 hl (by decide) rfl (fun ls hl => ?_)
      refine lv_iconst (v := 0) hx hb dX4_make_23 (by decide) ?_
      refine lv_istore (lv' := [(6, .int (0)), (5, .int ((-1))), (4, .int (x2)), (0, .ref (q 0)), (1, .int (x1)), (2, .int (x2)), (3, .int (x3))]) hx hb dX4_make_24 hl (by decide) rfl (fun ls hl => ?_)
      exact k_X4_make_26 hC hKX laid rules ps qs rs fs checked stopped reason made opened ruleThen heads boxOf shutBy around inner truth turned pile 81 formulas kind left right height x1 x2 x3 x2 (-1) 0 (by decide) (by decide) (by decide) hc hab _ _ _ hF hP hS (lv_sub hl [3, 4, 5, 6, 2, 1, 0] rfl)
  · have hF := hF.trans (if_pos c_20)
    refine lv_iconst (v := (-1)) hx hb dX4_make_4 (by decide) ?_
    refine lv_goto (tgt := 9) hx hb dX4_make_5 (by decide) ?_
    refine lv_istore (lv' := [(4, .int ((-1))), (0, .ref (q 0)), (1, .int (x1)), (2, .int (x2)), (3, .int (x3))]) hx hb dX4_make_9 hl (by decide) rfl (fun ls hl => ?_)
    refine lv_iload_n hx hb dX4_make_11 rfl (lv_at hl 2 rfl) ?_
    refine lv_iconst (v := 2) hx hb dX4_make_12 (by decide) ?_
    refine lv_icmp_ge (tgt := 20) hx hb dX4_make_13 (by decide) (fun c_22 => ?_) (fun c_22 => ?_)
    · have hF := hF.trans (if_pos c_22)
      refine lv_iload_n hx hb dX4_make_20 rfl (lv_at hl 4 rfl) ?_
      refine lv_istore (lv' := [(5, .int (x3)), (4, .int ((-1))), (0, .ref (q 0)), (1, .int (x1)), (2, .int (x2)), (3, .int (x3))]) hx hb dX4_make_21 hl (by decide) rfl (fun ls hl => ?_)
      refine lv_iconst (v := 0) hx hb dX4_make_23 (by decide) ?_
      refine lv_istore (lv' := [(6, .int (0)), (5, .int (x3)), (4, .int ((-1))), (0, .ref (q 0)), (1, .int (x1)), (2, .int (x2)), (3, .int (x3))]) hx hb dX4_make_24 hl (by decide) rfl (fun ls hl => ?_)
      exact k_X4_make_26 hC hKX laid rules ps qs rs fs checked stopped reason made opened ruleThen heads boxOf shutBy around inner truth turned pile 81 formulas kind left right height x1 x2 x3 (-1) x3 0 (by decide) (by decide) (by decide) hc hab _ _ _ hF hP hS (lv_sub hl [3, 4, 5, 6, 2, 1, 0] rfl)
    · have hF := hF.trans (if_neg c_22)
      refine lv_iconst (v := (-1)) hx hb dX4_make_16 (by decide) ?_
      refine lv_goto (tgt := 21) hx hb dX4_make_17 (by decide) ?_
      refine lv_istore (lv' := [(5, .int ((-1))), (4, .int ((-1))), (0, .ref (q 0)), (1, .int (x1)), (2, .int (x2)), (3, .int (x3))]) hx hb dX4_make_21 hl (by decide) rfl (fun ls hl => ?_)
      refine lv_iconst (v := 0) hx hb dX4_make_23 (by decide) ?_
      refine lv_istore (lv' := [(6, .int (0)), (5, .int ((-1))), (4, .int ((-1))), (0, .ref (q 0)), (1, .int (x1)), (2, .int (x2)), (3, .int (x3))]) hx hb dX4_make_24 hl (by decide) rfl (fun ls hl => ?_)
      exact k_X4_make_26 hC hKX laid rules ps qs rs fs checked stopped reason made opened ruleThen heads boxOf shutBy around inner truth turned pile 81 formulas kind left right height x1 x2 x3 (-1) (-1) 0 (by decide) (by decide) (by decide) hc hab _ _ _ hF hP hS (lv_sub hl [3, 4, 5, 6, 2, 1, 0] rfl)

-- == X4_formula
def f_X4_formula (formulas : Int32) (kind : Nat → Int32) (left : Nat → Int32) (right : Nat → Int32) (height : Nat → Int32) (x1 : Int32) (x2 : Int32) (x3 : Int32) : Int32 × (Int32) × (Nat → Int32) × (Nat → Int32) × (Nat → Int32) × (Nat → Int32) := pz_bnd (f_X4_within x1 2 4) (fun z_1 => if z_1 = 0 then (pz_bnd (f_X4_within x1 0 4) (fun z_3 => if z_3 = 0 then (((-3), formulas, kind, left, right, height)) else (if x1 = 1 then (pz_bnd (f_X4_within x2 0 5) (fun z_7 => if z_7 = 0 then (((-3), formulas, kind, left, right, height)) else (pz_bnd (f_X4_make formulas kind left right height x1 x2 x3) (fun z_9 => (z_9.1, z_9.2.1, z_9.2.2.1, z_9.2.2.2.1, z_9.2.2.2.2.1, z_9.2.2.2.2.2))))) else (pz_bnd (f_X4_make formulas kind left right height x1 x2 x3) (fun z_6 => (z_6.1, z_6.2.1, z_6.2.2.1, z_6.2.2.2.1, z_6.2.2.2.2.1, z_6.2.2.2.2.2)))))) else (pz_bnd (f_X4_isFormula formulas x2) (fun z_10 => if z_10 = 0 then (((-2), formulas, kind, left, right, height)) else (pz_bnd (f_X4_isFormula formulas x3) (fun z_12 => if z_12 = 0 then (((-2), formulas, kind, left, right, height)) else (pz_bnd (f_X4_within x1 0 4) (fun z_14 => if z_14 = 0 then (((-3), formulas, kind, left, right, height)) else (if x1 = 1 then (pz_bnd (f_X4_within x2 0 5) (fun z_18 => if z_18 = 0 then (((-3), formulas, kind, left, right, height)) else (pz_bnd (f_X4_make formulas kind left right height x1 x2 x3) (fun z_20 => (z_20.1, z_20.2.1, z_20.2.2.1, z_20.2.2.2.1, z_20.2.2.2.2.1, z_20.2.2.2.2.2))))) else (pz_bnd (f_X4_make formulas kind left right height x1 x2 x3) (fun z_17 => (z_17.1, z_17.2.1, z_17.2.2.1, z_17.2.2.2.1, z_17.2.2.2.2.1, z_17.2.2.2.2.2)))))))))))
theorem hdV_X4_isFormula : yX4_isFormula.cls = RX4 ∧ yX4_isFormula.cls ≠ "java/lang/invoke/MethodHandle" ∧ yX4_isFormula.cls ≠ "java/lang/invoke/VarHandle" ∧ (parseMethodDescriptor yX4_isFormula.desc).map (fun d => d.parameters.length) = some 1 := by decide +kernel
theorem hdV_X4_make : yX4_make.cls = RX4 ∧ yX4_make.cls ≠ "java/lang/invoke/MethodHandle" ∧ yX4_make.cls ≠ "java/lang/invoke/VarHandle" ∧ (parseMethodDescriptor yX4_make.desc).map (fun d => d.parameters.length) = some 3 := by decide +kernel
set_option maxHeartbeats 4000000 in
set_option maxRecDepth 100000 in
theorem c_X4_formula (l : Launch) (D : va_G) (q : Nat → Nat) (k : Nat → ClassId) (formulas : Int32) (kind : Nat → Int32) (left : Nat → Int32) (right : Nat → Int32) (height : Nat → Int32) (laid : Nat → Int32) (rules : Nat → Int32) (ps : Nat → Int32) (qs : Nat → Int32) (rs : Nat → Int32) (fs : Nat → Int32) (checked : Int32) (stopped : Int32) (reason : Int32) (made : Int32) (opened : Int32) (ruleThen : Nat → Int32) (heads : Nat → Int32) (boxOf : Nat → Int32) (shutBy : Nat → Int32) (around : Nat → Int32) (inner : Int32) (truth : Nat → Int32) (turned : Nat → Int32) (pile : Nat → Int32) (x1 : Int32) (x2 : Int32) (x3 : Int32) (hc : pz_c formulas) : Met l yX4_formula wsX4_formula ({ frames := 2, cells := 0, slots := 0, locals := 43 }) (va_Pc [.ref (q 0), .int (x1), .int (x2), .int (x3)] (fun U => va_P D vwCl (pz_M q k formulas kind left right height laid rules ps qs rs fs checked stopped reason made opened ruleThen heads boxOf shutBy around inner truth turned pile) U.heap ∧ pz_KM D q k U)) (va_Qi (fun r (u : (Int32) × (Nat → Int32) × (Nat → Int32) × (Nat → Int32) × (Nat → Int32)) => (r, u) = (f_X4_formula formulas kind left right height x1 x2 x3)) (fun u t => va_P D vwCl (pz_M q k u.1 u.2.1 u.2.2.1 u.2.2.2.1 u.2.2.2.2 laid rules ps qs rs fs checked stopped reason made opened ruleThen heads boxOf shutBy around inner truth turned pile) t.heap) (pz_A 19 q)) 0 0 (pz_A 19 q) := by
  refine Met.ofW (cc := cX4_formula) (maxL := 4) (ret := (some .int)) (by decide) rfl ?_
  intro p e s m args below meth c s₁ B hml hv
  obtain ⟨rfl, hP, hKX⟩ := hv
  have hx := B.exec
  have hb := B.bytes
  have hr := B.returns
  have hts := atoms_spec (ws := wsX4_formula) B.pre
  have hown : s.vm.findClass RX4 = some m.cls := findClass_of_methodNamed B.named
  have hlocks := B.notSynchronized
  have hC : pz_C p s m ([.ref (q 0), .int (x1), .int (x2), .int (x3)] : List Value).toArray meth c cX4_formula wsX4_formula RX4 4 (some .int) := ⟨hx, hb, hml, hown, hts, hr, hlocks⟩
  have hK := hKX.1
  have hS : va_S (pz_A 19 q) s.heap s.heap [] := va_S.rf
  have hl := lv_entry [.ref (q 0), .int (x1), .int (x2), .int (x3)] (n := 4) (Nat.le_of_ble_eq_true rfl)
  rw [lg_entry_eq]
  generalize (lg_sl [.ref (q 0), .int (x1), .int (x2), .int (x3)] ++ List.replicate (4 - (lg_sl [.ref (q 0), .int (x1), .int (x2), .int (x3)]).length) Slot.unset).toArray = ls at hl ⊢
  have hl : lv_has ls 4 [(0, .ref (q 0)), (1, .int (x1)), (2, .int (x2)), (3, .int (x3))] := hl
  generalize hF : f_X4_formula formulas kind left right height x1 x2 x3 = G
  replace hF := hF.symm
  unfold f_X4_formula at hF
  refine lv_iload_n hx hb dX4_formula_0 rfl (lv_at hl 1 rfl) ?_
  refine lv_iconst (v := 2) hx hb dX4_formula_1 (by decide) ?_
  refine lv_iconst (v := 4) hx hb dX4_formula_2 (by decide) ?_
  refine pz_Si (As := [.int (x1), .int (2), .int (4)]) (rest := []) ⟨hx, hb, hml, hown, hts⟩ (c_X4_within l x1 2 4) (va_cwS 3 hts gX4_formula_X4_within rfl rfl rfl hdS_X4_within ⟨Nat.le_of_ble_eq_true rfl, Nat.le_of_ble_eq_true rfl⟩) hP hS rfl hl.1 rfl (Nat.le_of_ble_eq_true rfl) dX4_formula_3 ⟨Nat.zero_le _, Nat.zero_le _⟩ (fun r_1 H locs hF_1 hP hS => ?_)
  have hF := hF.trans (pz_be hF_1)
  refine lv_if_eq (tgt := 28) hx hb dX4_formula_6 (by decide) (fun c_2 => ?_) (fun c_2 => ?_)
  · have hF := hF.trans (if_pos c_2)
    refine lv_iload_n hx hb dX4_formula_28 rfl (lv_at hl 1 rfl) ?_
    refine lv_iconst (v := 0) hx hb dX4_formula_29 (by decide) ?_
    refine lv_iconst (v := 4) hx hb dX4_formula_30 (by decide) ?_
    refine pz_Si (As := [.int (x1), .int (0), .int (4)]) (rest := []) ⟨hx, hb, hml, hown, hts⟩ (c_X4_within l x1 0 4) (va_cwS 3 hts gX4_formula_X4_within rfl rfl rfl hdS_X4_within ⟨Nat.le_of_ble_eq_true rfl, Nat.le_of_ble_eq_true rfl⟩) hP hS rfl hl.1 rfl (Nat.le_of_ble_eq_true rfl) dX4_formula_31 ⟨Nat.zero_le _, Nat.zero_le _⟩ (fun r_3 H locs hF_3 hP hS => ?_)
    have hF := hF.trans (pz_be hF_3)
    refine lv_if_eq (tgt := 51) hx hb dX4_formula_34 (by decide) (fun c_4 => ?_) (fun c_4 => ?_)
    · have hF := hF.trans (if_pos c_4)
      refine lv_bipush (v := (-3)) hx hb dX4_formula_51 (by decide) ?_
      exact W.iret (v := (-3)) hx hb hr (fun t ht hW => ⟨⟨(-3), (formulas, kind, left, right, height), rfl, hF.symm, pz_hp ht hP⟩, hS.F ht⟩) hS.2.2 dX4_formula_53 hlocks
    · have hF := hF.trans (if_neg c_4)
      refine lv_iload_n hx hb dX4_formula_37 rfl (lv_at hl 1 rfl) ?_
      refine lv_iconst (v := 1) hx hb dX4_formula_38 (by decide) ?_
      refine lv_icmp_ne (tgt := 54) hx hb dX4_formula_39 (by decide) (fun c_5 => ?_) (fun c_5 => ?_)
      · have hF := hF.trans (if_neg c_5)
        refine lv_aload_n hx hb dX4_formula_54 rfl (lv_at hl 0 rfl) ?_
        refine lv_iload_n hx hb dX4_formula_55 rfl (lv_at hl 1 rfl) ?_
        refine lv_iload_n hx hb dX4_formula_56 rfl (lv_at hl 2 rfl) ?_
        refine lv_iload_n hx hb dX4_formula_57 rfl (lv_at hl 3 rfl) ?_
        refine pz_Vi (As := [.int (x1), .int (x2), .int (x3)]) (rest := []) ⟨hx, hb, hml, hown, hts⟩ (c_X4_make l D q k formulas kind left right height laid rules ps qs rs fs checked stopped reason made opened ruleThen heads boxOf shutBy around inner truth turned pile x1 x2 x3 hc (by first | exact fun _ => ⟨pz_isFin hc (f := x2) ‹_› ‹_›, pz_isFin hc (f := x3) ‹_› ‹_›⟩ | exact pz_hab0 ‹_› ‹_› ‹_› ‹_›)) (cwV 3 hts gX4_formula_X4_make rfl rfl rfl hdV_X4_make ⟨Nat.le_of_ble_eq_true rfl, Nat.le_of_ble_eq_true rfl⟩) pz_KM.call hKX.go (va_recv hK hP (ci := 4) (q0 := 0) rfl rfl) hP hS rfl hl.1 rfl (Nat.le_of_ble_eq_true rfl) dX4_formula_58 ⟨Nat.zero_le _, Nat.zero_le _⟩ (fun r_6 u_6 H locs hF_6 hP hS => ?_)
        obtain ⟨w_6_formulas, w_6_kind, w_6_left, w_6_right, w_6_height⟩ := u_6
        have hP : va_P D vwCl (pz_M q k w_6_formulas w_6_kind w_6_left w_6_right w_6_height laid rules ps qs rs fs checked stopped reason made opened ruleThen heads boxOf shutBy around inner truth turned pile) H := hP
        have hF := hF.trans (pz_be hF_6)
        try dsimp only at hF
        exact W.iret (v := r_6) hx hb hr (fun t ht hW => ⟨⟨r_6, (w_6_formulas, w_6_kind, w_6_left, w_6_right, w_6_height), rfl, hF.symm, pz_hp ht hP⟩, hS.F ht⟩) hS.2.2 dX4_formula_61 hlocks
      · have hF := hF.trans (if_pos c_5)
        refine lv_iload_n hx hb dX4_formula_42 rfl (lv_at hl 2 rfl) ?_
        refine lv_iconst (v := 0) hx hb dX4_formula_43 (by decide) ?_
        refine lv_iconst (v := 5) hx hb dX4_formula_44 (by decide) ?_
        refine pz_Si (As := [.int (x2), .int (0), .int (5)]) (rest := []) ⟨hx, hb, hml, hown, hts⟩ (c_X4_within l x2 0 5) (va_cwS 3 hts gX4_formula_X4_within rfl rfl rfl hdS_X4_within ⟨Nat.le_of_ble_eq_true rfl, Nat.le_of_ble_eq_true rfl⟩) hP hS rfl hl.1 rfl (Nat.le_of_ble_eq_true rfl) dX4_formula_45 ⟨Nat.zero_le _, Nat.zero_le _⟩ (fun r_7 H locs hF_7 hP hS => ?_)
        have hF := hF.trans (pz_be hF_7)
        refine lv_if_ne (tgt := 54) hx hb dX4_formula_48 (by decide) (fun c_8 => ?_) (fun c_8 => ?_)
        · have hF := hF.trans (if_neg c_8)
          refine lv_aload_n hx hb dX4_formula_54 rfl (lv_at hl 0 rfl) ?_
          refine lv_iload_n hx hb dX4_formula_55 rfl (lv_at hl 1 rfl) ?_
          refine lv_iload_n hx hb dX4_formula_56 rfl (lv_at hl 2 rfl) ?_
          refine lv_iload_n hx hb dX4_formula_57 rfl (lv_at hl 3 rfl) ?_
          refine pz_Vi (As := [.int (x1), .int (x2), .int (x3)]) (rest := []) ⟨hx, hb, hml, hown, hts⟩ (c_X4_make l D q k formulas kind left right height laid rules ps qs rs fs checked stopped reason made opened ruleThen heads boxOf shutBy around inner truth turned pile x1 x2 x3 hc (by first | exact fun _ => ⟨pz_isFin hc (f := x2) ‹_› ‹_›, pz_isFin hc (f := x3) ‹_› ‹_›⟩ | exact pz_hab0 ‹_› ‹_› ‹_› ‹_›)) (cwV 3 hts gX4_formula_X4_make rfl rfl rfl hdV_X4_make ⟨Nat.le_of_ble_eq_true rfl, Nat.le_of_ble_eq_true rfl⟩) pz_KM.call hKX.go (va_recv hK hP (ci := 4) (q0 := 0) rfl rfl) hP hS rfl hl.1 rfl (Nat.le_of_ble_eq_true rfl) dX4_formula_58 ⟨Nat.zero_le _, Nat.zero_le _⟩ (fun r_9 u_9 H locs hF_9 hP hS => ?_)
          obtain ⟨w_9_formulas, w_9_kind, w_9_left, w_9_right, w_9_height⟩ := u_9
          have hP : va_P D vwCl (pz_M q k w_9_formulas w_9_kind w_9_left w_9_right w_9_height laid rules ps qs rs fs checked stopped reason made opened ruleThen heads boxOf shutBy around inner truth turned pile) H := hP
          have hF := hF.trans (pz_be hF_9)
          try dsimp only at hF
          exact W.iret (v := r_9) hx hb hr (fun t ht hW => ⟨⟨r_9, (w_9_formulas, w_9_kind, w_9_left, w_9_right, w_9_height), rfl, hF.symm, pz_hp ht hP⟩, hS.F ht⟩) hS.2.2 dX4_formula_61 hlocks
        · have hF := hF.trans (if_pos c_8)
          refine lv_bipush (v := (-3)) hx hb dX4_formula_51 (by decide) ?_
          exact W.iret (v := (-3)) hx hb hr (fun t ht hW => ⟨⟨(-3), (formulas, kind, left, right, height), rfl, hF.symm, pz_hp ht hP⟩, hS.F ht⟩) hS.2.2 dX4_formula_53 hlocks
  · have hF := hF.trans (if_neg c_2)
    refine lv_aload_n hx hb dX4_formula_9 rfl (lv_at hl 0 rfl) ?_
    refine lv_iload_n hx hb dX4_formula_10 rfl (lv_at hl 2 rfl) ?_
    refine pz_Vi (As := [.int (x2)]) (rest := []) ⟨hx, hb, hml, hown, hts⟩ (c_X4_isFormula l D q k formulas kind left right height laid rules ps qs rs fs checked stopped reason made opened ruleThen heads boxOf shutBy around inner truth turned pile x2) (cwV 1 hts gX4_formula_X4_isFormula rfl rfl rfl hdV_X4_isFormula ⟨Nat.le_of_ble_eq_true rfl, Nat.le_of_ble_eq_true rfl⟩) pz_KM.call hKX.go (va_recv hK hP (ci := 4) (q0 := 0) rfl rfl) hP hS rfl hl.1 rfl (Nat.le_of_ble_eq_true rfl) dX4_formula_11 ⟨Nat.zero_le _, Nat.zero_le _⟩ (fun r_10 u_10 H locs hF_10 hP hS => ?_)
    have hF := hF.trans (pz_be hF_10)
    refine lv_if_eq (tgt := 25) hx hb dX4_formula_14 (by decide) (fun c_11 => ?_) (fun c_11 => ?_)
    · have hF := hF.trans (if_pos c_11)
      refine lv_bipush (v := (-2)) hx hb dX4_formula_25 (by decide) ?_
      exact W.iret (v := (-2)) hx hb hr (fun t ht hW => ⟨⟨(-2), (formulas, kind, left, right, height), rfl, hF.symm, pz_hp ht hP⟩, hS.F ht⟩) hS.2.2 dX4_formula_27 hlocks
    · have hF := hF.trans (if_neg c_11)
      refine lv_aload_n hx hb dX4_formula_17 rfl (lv_at hl 0 rfl) ?_
      refine lv_iload_n hx hb dX4_formula_18 rfl (lv_at hl 3 rfl) ?_
      refine pz_Vi (As := [.int (x3)]) (rest := []) ⟨hx, hb, hml, hown, hts⟩ (c_X4_isFormula l D q k formulas kind left right height laid rules ps qs rs fs checked stopped reason made opened ruleThen heads boxOf shutBy around inner truth turned pile x3) (cwV 1 hts gX4_formula_X4_isFormula rfl rfl rfl hdV_X4_isFormula ⟨Nat.le_of_ble_eq_true rfl, Nat.le_of_ble_eq_true rfl⟩) pz_KM.call hKX.go (va_recv hK hP (ci := 4) (q0 := 0) rfl rfl) hP hS rfl hl.1 rfl (Nat.le_of_ble_eq_true rfl) dX4_formula_19 ⟨Nat.zero_le _, Nat.zero_le _⟩ (fun r_12 u_12 H locs hF_12 hP hS => ?_)
      have hF := hF.trans (pz_be hF_12)
      refine lv_if_ne (tgt := 28) hx hb dX4_formula_22 (by decide) (fun c_13 => ?_) (fun c_13 => ?_)
      · have hF := hF.trans (if_neg c_13)
        refine lv_iload_n hx hb dX4_formula_28 rfl (lv_at hl 1 rfl) ?_
        refine lv_iconst (v := 0) hx hb dX4_formula_29 (by decide) ?_
        refine lv_iconst (v := 4) hx hb dX4_formula_30 (by decide) ?_
        refine pz_Si (As := [.int (x1), .int (0), .int (4)]) (rest := []) ⟨hx, hb, hml, hown, hts⟩ (c_X4_within l x1 0 4) (va_cwS 3 hts gX4_formula_X4_within rfl rfl rfl hdS_X4_within ⟨Nat.le_of_ble_eq_true rfl, Nat.le_of_ble_eq_true rfl⟩) hP hS rfl hl.1 rfl (Nat.le_of_ble_eq_true rfl) dX4_formula_31 ⟨Nat.zero_le _, Nat.zero_le _⟩ (fun r_14 H locs hF_14 hP hS => ?_)
        have hF := hF.trans (pz_be hF_14)
        refine lv_if_eq (tgt := 51) hx hb dX4_formula_34 (by decide) (fun c_15 => ?_) (fun c_15 => ?_)
        · have hF := hF.trans (if_pos c_15)
          refine lv_bipush (v := (-3)) hx hb dX4_formula_51 (by decide) ?_
          exact W.iret (v := (-3)) hx hb hr (fun t ht hW => ⟨⟨(-3), (formulas, kind, left, right, height), rfl, hF.symm, pz_hp ht hP⟩, hS.F ht⟩) hS.2.2 dX4_formula_53 hlocks
        · have hF := hF.trans (if_neg c_15)
          refine lv_iload_n hx hb dX4_formula_37 rfl (lv_at hl 1 rfl) ?_
          refine lv_iconst (v := 1) hx hb dX4_formula_38 (by decide) ?_
          refine lv_icmp_ne (tgt := 54) hx hb dX4_formula_39 (by decide) (fun c_16 => ?_) (fun c_16 => ?_)
          · have hF := hF.trans (if_neg c_16)
            refine lv_aload_n hx hb dX4_formula_54 rfl (lv_at hl 0 rfl) ?_
            refine lv_iload_n hx hb dX4_formula_55 rfl (lv_at hl 1 rfl) ?_
            refine lv_iload_n hx hb dX4_formula_56 rfl (lv_at hl 2 rfl) ?_
            refine lv_iload_n hx hb dX4_formula_57 rfl (lv_at hl 3 rfl) ?_
            refine pz_Vi (As := [.int (x1), .int (x2), .int (x3)]) (rest := []) ⟨hx, hb, hml, hown, hts⟩ (c_X4_make l D q k formulas kind left right height laid rules ps qs rs fs checked stopped reason made opened ruleThen heads boxOf shutBy around inner truth turned pile x1 x2 x3 hc (by first | exact fun _ => ⟨pz_isFin hc (f := x2) ‹_› ‹_›, pz_isFin hc (f := x3) ‹_› ‹_›⟩ | exact pz_hab0 ‹_› ‹_› ‹_› ‹_›)) (cwV 3 hts gX4_formula_X4_make rfl rfl rfl hdV_X4_make ⟨Nat.le_of_ble_eq_true rfl, Nat.le_of_ble_eq_true rfl⟩) pz_KM.call hKX.go (va_recv hK hP (ci := 4) (q0 := 0) rfl rfl) hP hS rfl hl.1 rfl (Nat.le_of_ble_eq_true rfl) dX4_formula_58 ⟨Nat.zero_le _, Nat.zero_le _⟩ (fun r_17 u_17 H locs hF_17 hP hS => ?_)
            obtain ⟨w_17_formulas, w_17_kind, w_17_left, w_17_right, w_17_height⟩ := u_17
            have hP : va_P D vwCl (pz_M q k w_17_formulas w_17_kind w_17_left w_17_right w_17_height laid rules ps qs rs fs checked stopped reason made opened ruleThen heads boxOf shutBy around inner truth turned pile) H := hP
            have hF := hF.trans (pz_be hF_17)
            try dsimp only at hF
            exact W.iret (v := r_17) hx hb hr (fun t ht hW => ⟨⟨r_17, (w_17_formulas, w_17_kind, w_17_left, w_17_right, w_17_height), rfl, hF.symm, pz_hp ht hP⟩, hS.F ht⟩) hS.2.2 dX4_formula_61 hlocks
          · have hF := hF.trans (if_pos c_16)
            refine lv_iload_n hx hb dX4_formula_42 rfl (lv_at hl 2 rfl) ?_
            refine lv_iconst (v := 0) hx hb dX4_formula_43 (by decide) ?_
            refine lv_iconst (v := 5) hx hb dX4_formula_44 (by decide) ?_
            refine pz_Si (As := [.int (x2), .int (0), .int (5)]) (rest := []) ⟨hx, hb, hml, hown, hts⟩ (c_X4_within l x2 0 5) (va_cwS 3 hts gX4_formula_X4_within rfl rfl rfl hdS_X4_within ⟨Nat.le_of_ble_eq_true rfl, Nat.le_of_ble_eq_true rfl⟩) hP hS rfl hl.1 rfl (Nat.le_of_ble_eq_true rfl) dX4_formula_45 ⟨Nat.zero_le _, Nat.zero_le _⟩ (fun r_18 H locs hF_18 hP hS => ?_)
            have hF := hF.trans (pz_be hF_18)
            refine lv_if_ne (tgt := 54) hx hb dX4_formula_48 (by decide) (fun c_19 => ?_) (fun c_19 => ?_)
            · have hF := hF.trans (if_neg c_19)
              refine lv_aload_n hx hb dX4_formula_54 rfl (lv_at hl 0 rfl) ?_
              refine lv_iload_n hx hb dX4_formula_55 rfl (lv_at hl 1 rfl) ?_
              refine lv_iload_n hx hb dX4_formula_56 rfl (lv_at hl 2 rfl) ?_
              refine lv_iload_n hx hb dX4_formula_57 rfl (lv_at hl 3 rfl) ?_
              refine pz_Vi (As := [.int (x1), .int (x2), .int (x3)]) (rest := []) ⟨hx, hb, hml, hown, hts⟩ (c_X4_make l D q k formulas kind left right height laid rules ps qs rs fs checked stopped reason made opened ruleThen heads boxOf shutBy around inner truth turned pile x1 x2 x3 hc (by first | exact fun _ => ⟨pz_isFin hc (f := x2) ‹_› ‹_›, pz_isFin hc (f := x3) ‹_› ‹_›⟩ | exact pz_hab0 ‹_› ‹_› ‹_› ‹_›)) (cwV 3 hts gX4_formula_X4_make rfl rfl rfl hdV_X4_make ⟨Nat.le_of_ble_eq_true rfl, Nat.le_of_ble_eq_true rfl⟩) pz_KM.call hKX.go (va_recv hK hP (ci := 4) (q0 := 0) rfl rfl) hP hS rfl hl.1 rfl (Nat.le_of_ble_eq_true rfl) dX4_formula_58 ⟨Nat.zero_le _, Nat.zero_le _⟩ (fun r_20 u_20 H locs hF_20 hP hS => ?_)
              obtain ⟨w_20_formulas, w_20_kind, w_20_left, w_20_right, w_20_height⟩ := u_20
              have hP : va_P D vwCl (pz_M q k w_20_formulas w_20_kind w_20_left w_20_right w_20_height laid rules ps qs rs fs checked stopped reason made opened ruleThen heads boxOf shutBy around inner truth turned pile) H := hP
              have hF := hF.trans (pz_be hF_20)
              try dsimp only at hF
              exact W.iret (v := r_20) hx hb hr (fun t ht hW => ⟨⟨r_20, (w_20_formulas, w_20_kind, w_20_left, w_20_right, w_20_height), rfl, hF.symm, pz_hp ht hP⟩, hS.F ht⟩) hS.2.2 dX4_formula_61 hlocks
            · have hF := hF.trans (if_pos c_19)
              refine lv_bipush (v := (-3)) hx hb dX4_formula_51 (by decide) ?_
              exact W.iret (v := (-3)) hx hb hr (fun t ht hW => ⟨⟨(-3), (formulas, kind, left, right, height), rfl, hF.symm, pz_hp ht hP⟩, hS.F ht⟩) hS.2.2 dX4_formula_53 hlocks
      · have hF := hF.trans (if_pos c_13)
        refine lv_bipush (v := (-2)) hx hb dX4_formula_25 (by decide) ?_
        exact W.iret (v := (-2)) hx hb hr (fun t ht hW => ⟨⟨(-2), (formulas, kind, left, right, height), rfl, hF.symm, pz_hp ht hP⟩, hS.F ht⟩) hS.2.2 dX4_formula_27 hlocks

-- == X4_about
def f_X4_about (formulas : Int32) (kind : Nat → Int32) (left : Nat → Int32) (right : Nat → Int32) (height : Nat → Int32) (x1 : Int32) (x2 : Int32) : Int32 := pz_bnd (f_X4_isFormula formulas x1) (fun z_1 => if z_1 = 0 then ((-2)) else (if x2 = 0 then ((kind (x1).toNatClampNeg)) else (if x2 = 1 then ((left (x1).toNatClampNeg)) else (if x2 = 2 then ((right (x1).toNatClampNeg)) else (if x2 = 3 then ((height (x1).toNatClampNeg)) else ((-3)))))))
theorem fl_X4_about_13 : Cond.fieldLink RX4 13 "BoxProofsModel" "left" "[I" ∈ wsX4_about := by decide +kernel
theorem fl_X4_about_16 : Cond.fieldLink RX4 16 "BoxProofsModel" "right" "[I" ∈ wsX4_about := by decide +kernel
theorem fl_X4_about_19 : Cond.fieldLink RX4 19 "BoxProofsModel" "height" "[I" ∈ wsX4_about := by decide +kernel
theorem fl_X4_about_7 : Cond.fieldLink RX4 7 "BoxProofsModel" "kind" "[I" ∈ wsX4_about := by decide +kernel
theorem in_X4_about_X4 : ∀ w ∈ wsX40, w ∈ wsX4_about := by decide +kernel
set_option maxHeartbeats 4000000 in
set_option maxRecDepth 100000 in
theorem c_X4_about (l : Launch) (D : va_G) (q : Nat → Nat) (k : Nat → ClassId) (formulas : Int32) (kind : Nat → Int32) (left : Nat → Int32) (right : Nat → Int32) (height : Nat → Int32) (laid : Nat → Int32) (rules : Nat → Int32) (ps : Nat → Int32) (qs : Nat → Int32) (rs : Nat → Int32) (fs : Nat → Int32) (checked : Int32) (stopped : Int32) (reason : Int32) (made : Int32) (opened : Int32) (ruleThen : Nat → Int32) (heads : Nat → Int32) (boxOf : Nat → Int32) (shutBy : Nat → Int32) (around : Nat → Int32) (inner : Int32) (truth : Nat → Int32) (turned : Nat → Int32) (pile : Nat → Int32) (x1 : Int32) (x2 : Int32) (hc : pz_c formulas) : Met l yX4_about wsX4_about ({ frames := 2, cells := 0, slots := 0, locals := 43 }) (va_Pc [.ref (q 0), .int (x1), .int (x2)] (fun U => va_P D vwCl (pz_M q k formulas kind left right height laid rules ps qs rs fs checked stopped reason made opened ruleThen heads boxOf shutBy around inner truth turned pile) U.heap ∧ pz_KM D q k U)) (va_Qi (fun r (_ : Unit) => r = (f_X4_about formulas kind left right height x1 x2)) (fun _ t => va_P D vwCl (pz_M q k formulas kind left right height laid rules ps qs rs fs checked stopped reason made opened ruleThen heads boxOf shutBy around inner truth turned pile) t.heap) (pz_A 19 q)) 0 0 (pz_A 19 q) := by
  refine Met.ofW (cc := cX4_about) (maxL := 3) (ret := (some .int)) (by decide) rfl ?_
  intro p e s m args below meth c s₁ B hml hv
  obtain ⟨rfl, hP, hKX⟩ := hv
  have hx := B.exec
  have hb := B.bytes
  have hr := B.returns
  have hts := atoms_spec (ws := wsX4_about) B.pre
  have hown : s.vm.findClass RX4 = some m.cls := findClass_of_methodNamed B.named
  have hlocks := B.notSynchronized
  have hC : pz_C p s m ([.ref (q 0), .int (x1), .int (x2)] : List Value).toArray meth c cX4_about wsX4_about RX4 3 (some .int) := ⟨hx, hb, hml, hown, hts, hr, hlocks⟩
  have hK := hKX.1
  have hS : va_S (pz_A 19 q) s.heap s.heap [] := va_S.rf
  have hl := lv_entry [.ref (q 0), .int (x1), .int (x2)] (n := 3) (Nat.le_of_ble_eq_true rfl)
  rw [lg_entry_eq]
  generalize (lg_sl [.ref (q 0), .int (x1), .int (x2)] ++ List.replicate (3 - (lg_sl [.ref (q 0), .int (x1), .int (x2)]).length) Slot.unset).toArray = ls at hl ⊢
  have hl : lv_has ls 3 [(0, .ref (q 0)), (1, .int (x1)), (2, .int (x2))] := hl
  generalize hF : f_X4_about formulas kind left right height x1 x2 = G
  replace hF := hF.symm
  unfold f_X4_about at hF
  refine lv_aload_n hx hb dX4_about_0 rfl (lv_at hl 0 rfl) ?_
  refine lv_iload_n hx hb dX4_about_1 rfl (lv_at hl 1 rfl) ?_
  refine pz_Vi (As := [.int (x1)]) (rest := []) ⟨hx, hb, hml, hown, hts⟩ (c_X4_isFormula l D q k formulas kind left right height laid rules ps qs rs fs checked stopped reason made opened ruleThen heads boxOf shutBy around inner truth turned pile x1) (cwV 1 hts gX4_about_X4_isFormula rfl rfl rfl hdV_X4_isFormula ⟨Nat.le_of_ble_eq_true rfl, Nat.le_of_ble_eq_true rfl⟩) pz_KM.call hKX.go (va_recv hK hP (ci := 4) (q0 := 0) rfl rfl) hP hS rfl hl.1 rfl (Nat.le_of_ble_eq_true rfl) dX4_about_2 ⟨Nat.zero_le _, Nat.zero_le _⟩ (fun r_1 u_1 H locs hF_1 hP hS => ?_)
  have hF := hF.trans (pz_be hF_1)
  refine lv_if_ne (tgt := 11) hx hb dX4_about_5 (by decide) (fun c_2 => ?_) (fun c_2 => ?_)
  · have hF := hF.trans (if_neg c_2)
    refine lv_iload_n hx hb dX4_about_11 rfl (lv_at hl 2 rfl) ?_
    refine pz_cases (P := x2 = 0) (fun c_3 => ?_) (fun c_3 => ?_)
    · have hF := hF.trans (if_pos c_3)
      refine pz_table (tgt := 40) (off := 28) hx hb dX4_about_12 rfl (by rw [c_3]; rfl) (by decide) ?_
      refine lv_aload_n hx hb dX4_about_40 rfl (lv_at hl 0 rfl) ?_
      refine va_get (D := D) (ci := 4) (v := .ref (q 1)) (C := RX4) (T := TX4) (N := 25) hx hb hts in_X4_about_X4 hown hK hP 0 rfl rfl 1 (by decide) (hts _ fl_X4_about_7) (fun _ h9 => h9) rfl dX4_about_41 ?_
      refine lv_iload_n hx hb dX4_about_44 rfl (lv_at hl 1 rfl) ?_
      have hi_4 : vp_in x1 80 := pz_isFin hc ‹_› ‹_›
      refine va_iald hx hb hK hP 1 0 rfl rfl hi_4 dX4_about_45 ?_
      exact W.iret (v := (kind (x1).toNatClampNeg)) hx hb hr (fun t ht hW => ⟨⟨(kind (x1).toNatClampNeg), (), rfl, hF.symm, pz_hp ht hP⟩, hS.F ht⟩) hS.2.2 dX4_about_46 hlocks
    · have hF := hF.trans (if_neg c_3)
      refine pz_cases (P := x2 = 1) (fun c_5 => ?_) (fun c_5 => ?_)
      · have hF := hF.trans (if_pos c_5)
        refine pz_table (tgt := 47) (off := 35) hx hb dX4_about_12 rfl (by rw [c_5]; rfl) (by decide) ?_
        refine lv_aload_n hx hb dX4_about_47 rfl (lv_at hl 0 rfl) ?_
        refine va_get (D := D) (ci := 4) (v := .ref (q 2)) (C := RX4) (T := TX4) (N := 25) hx hb hts in_X4_about_X4 hown hK hP 0 rfl rfl 2 (by decide) (hts _ fl_X4_about_13) (fun _ h9 => h9) rfl dX4_about_48 ?_
        refine lv_iload_n hx hb dX4_about_51 rfl (lv_at hl 1 rfl) ?_
        have hi_6 : vp_in x1 80 := pz_isFin hc ‹_› ‹_›
        refine va_iald hx hb hK hP 2 0 rfl rfl hi_6 dX4_about_52 ?_
        exact W.iret (v := (left (x1).toNatClampNeg)) hx hb hr (fun t ht hW => ⟨⟨(left (x1).toNatClampNeg), (), rfl, hF.symm, pz_hp ht hP⟩, hS.F ht⟩) hS.2.2 dX4_about_53 hlocks
      · have hF := hF.trans (if_neg c_5)
        refine pz_cases (P := x2 = 2) (fun c_7 => ?_) (fun c_7 => ?_)
        · have hF := hF.trans (if_pos c_7)
          refine pz_table (tgt := 54) (off := 42) hx hb dX4_about_12 rfl (by rw [c_7]; rfl) (by decide) ?_
          refine lv_aload_n hx hb dX4_about_54 rfl (lv_at hl 0 rfl) ?_
          refine va_get (D := D) (ci := 4) (v := .ref (q 3)) (C := RX4) (T := TX4) (N := 25) hx hb hts in_X4_about_X4 hown hK hP 0 rfl rfl 3 (by decide) (hts _ fl_X4_about_16) (fun _ h9 => h9) rfl dX4_about_55 ?_
          refine lv_iload_n hx hb dX4_about_58 rfl (lv_at hl 1 rfl) ?_
          have hi_8 : vp_in x1 80 := pz_isFin hc ‹_› ‹_›
          refine va_iald hx hb hK hP 3 0 rfl rfl hi_8 dX4_about_59 ?_
          exact W.iret (v := (right (x1).toNatClampNeg)) hx hb hr (fun t ht hW => ⟨⟨(right (x1).toNatClampNeg), (), rfl, hF.symm, pz_hp ht hP⟩, hS.F ht⟩) hS.2.2 dX4_about_60 hlocks
        · have hF := hF.trans (if_neg c_7)
          have ho : pz_off (49) (0) (2) #[28, 35, 42] x2 = 49 := by
            unfold pz_off
            split
            · rfl
            · have hz : (x2).toInt = 0 ∨ (x2).toInt = 1 ∨ (x2).toInt = 2 := by omega
              rcases hz with hz | hz | hz
              · exact absurd (Int32.toInt_inj.mp (hz.trans (show (0 : Int) = (0 : Int32).toInt from rfl))) c_3
              · exact absurd (Int32.toInt_inj.mp (hz.trans (show (1 : Int) = (1 : Int32).toInt from rfl))) c_5
              · exact absurd (Int32.toInt_inj.mp (hz.trans (show (2 : Int) = (2 : Int32).toInt from rfl))) c_7
          refine pz_table (tgt := 61) hx hb dX4_about_12 rfl ho (by decide) ?_
          refine lv_iload_n hx hb dX4_about_61 rfl (lv_at hl 2 rfl) ?_
          refine lv_iconst (v := 3) hx hb dX4_about_62 (by decide) ?_
          refine lv_icmp_ne (tgt := 75) hx hb dX4_about_63 (by decide) (fun c_9 => ?_) (fun c_9 => ?_)
          · have hF := hF.trans (if_neg c_9)
            refine lv_bipush (v := (-3)) hx hb dX4_about_75 (by decide) ?_
            exact W.iret (v := (-3)) hx hb hr (fun t ht hW => ⟨⟨(-3), (), rfl, hF.symm, pz_hp ht hP⟩, hS.F ht⟩) hS.2.2 dX4_about_77 hlocks
          · have hF := hF.trans (if_pos c_9)
            refine lv_aload_n hx hb dX4_about_66 rfl (lv_at hl 0 rfl) ?_
            refine va_get (D := D) (ci := 4) (v := .ref (q 4)) (C := RX4) (T := TX4) (N := 25) hx hb hts in_X4_about_X4 hown hK hP 0 rfl rfl 4 (by decide) (hts _ fl_X4_about_19) (fun _ h9 => h9) rfl dX4_about_67 ?_
            refine lv_iload_n hx hb dX4_about_70 rfl (lv_at hl 1 rfl) ?_
            have hi_10 : vp_in x1 80 := pz_isFin hc ‹_› ‹_›
            refine va_iald hx hb hK hP 4 0 rfl rfl hi_10 dX4_about_71 ?_
            refine lv_goto (tgt := 77) hx hb dX4_about_72 (by decide) ?_
            exact W.iret (v := (height (x1).toNatClampNeg)) hx hb hr (fun t ht hW => ⟨⟨(height (x1).toNatClampNeg), (), rfl, hF.symm, pz_hp ht hP⟩, hS.F ht⟩) hS.2.2 dX4_about_77 hlocks
  · have hF := hF.trans (if_pos c_2)
    refine lv_bipush (v := (-2)) hx hb dX4_about_8 (by decide) ?_
    exact W.iret (v := (-2)) hx hb hr (fun t ht hW => ⟨⟨(-2), (), rfl, hF.symm, pz_hp ht hP⟩, hS.F ht⟩) hS.2.2 dX4_about_10 hlocks

-- == X4_evaluate
def F_X4_evaluate_2 : Nat → (Int32) → (Nat → Int32) → (Nat → Int32) → (Nat → Int32) → (Nat → Int32) → (Int32) → (Int32) → (Nat → Int32)
  | 0, formulas, kind, left, right, truth, x1, x2 => truth
  | n + 1, formulas, kind, left, right, truth, x1, x2 => if formulas ≤ x2 then (truth) else (if (kind (x2).toNatClampNeg) = 0 then (F_X4_evaluate_2 n formulas kind left right (upd truth (x2).toNatClampNeg 0) x1 (x2 + 1)) else (if (kind (x2).toNatClampNeg) = 1 then (if ((x1 >>> ((left (x2).toNatClampNeg) &&& 31)) &&& 1) = 1 then (F_X4_evaluate_2 n formulas kind left right (upd truth (x2).toNatClampNeg 1) x1 (x2 + 1)) else (F_X4_evaluate_2 n formulas kind left right (upd truth (x2).toNatClampNeg 0) x1 (x2 + 1))) else (if (kind (x2).toNatClampNeg) = 2 then (if (truth ((left (x2).toNatClampNeg)).toNatClampNeg) = 0 then (F_X4_evaluate_2 n formulas kind left right (upd truth (x2).toNatClampNeg 0) x1 (x2 + 1)) else (if (truth ((right (x2).toNatClampNeg)).toNatClampNeg) = 0 then (F_X4_evaluate_2 n formulas kind left right (upd truth (x2).toNatClampNeg 0) x1 (x2 + 1)) else (F_X4_evaluate_2 n formulas kind left right (upd truth (x2).toNatClampNeg 1) x1 (x2 + 1)))) else (if (kind (x2).toNatClampNeg) = 3 then (if (truth ((left (x2).toNatClampNeg)).toNatClampNeg) = 0 then (if (truth ((right (x2).toNatClampNeg)).toNatClampNeg) = 0 then (F_X4_evaluate_2 n formulas kind left right (upd truth (x2).toNatClampNeg 0) x1 (x2 + 1)) else (F_X4_evaluate_2 n formulas kind left right (upd truth (x2).toNatClampNeg 1) x1 (x2 + 1))) else (F_X4_evaluate_2 n formulas kind left right (upd truth (x2).toNatClampNeg 1) x1 (x2 + 1))) else (if (truth ((left (x2).toNatClampNeg)).toNatClampNeg) = 0 then (F_X4_evaluate_2 n formulas kind left right (upd truth (x2).toNatClampNeg 1) x1 (x2 + 1)) else (if (truth ((right (x2).toNatClampNeg)).toNatClampNeg) = 0 then (F_X4_evaluate_2 n formulas kind left right (upd truth (x2).toNatClampNeg 0) x1 (x2 + 1)) else (F_X4_evaluate_2 n formulas kind left right (upd truth (x2).toNatClampNeg 1) x1 (x2 + 1))))))))
def f_X4_evaluate (formulas : Int32) (kind : Nat → Int32) (left : Nat → Int32) (right : Nat → Int32) (truth : Nat → Int32) (x1 : Int32) : (Nat → Int32) := F_X4_evaluate_2 81 formulas kind left right truth x1 0
theorem fl_X4_evaluate_13 : Cond.fieldLink RX4 13 "BoxProofsModel" "left" "[I" ∈ wsX4_evaluate := by decide +kernel
theorem fl_X4_evaluate_16 : Cond.fieldLink RX4 16 "BoxProofsModel" "right" "[I" ∈ wsX4_evaluate := by decide +kernel
theorem fl_X4_evaluate_56 : Cond.fieldLink RX4 56 "BoxProofsModel" "truth" "[Z" ∈ wsX4_evaluate := by decide +kernel
theorem fl_X4_evaluate_65 : Cond.fieldLink RX4 65 "BoxProofsModel" "formulas" "I" ∈ wsX4_evaluate := by decide +kernel
theorem fl_X4_evaluate_7 : Cond.fieldLink RX4 7 "BoxProofsModel" "kind" "[I" ∈ wsX4_evaluate := by decide +kernel
theorem in_X4_evaluate_X4 : ∀ w ∈ wsX40, w ∈ wsX4_evaluate := by decide +kernel
set_option maxHeartbeats 4000000 in
set_option maxRecDepth 100000 in
theorem k_X4_evaluate_2 {p : Program} {l : Launch} {e : Env} {s : State} {m : MethodId} {args : Array Value} {below : List Frame} {meth : Method} {c : Code} {D : va_G} {q : Nat → Nat} {k : Nat → ClassId} (hC : pz_C p s m args meth c cX4_evaluate wsX4_evaluate RX4 3 none) (hKX : pz_KM D q k s) (formulas : Int32) (kind : Nat → Int32) (left : Nat → Int32) (right : Nat → Int32) (height : Nat → Int32) (laid : Nat → Int32) (rules : Nat → Int32) (ps : Nat → Int32) (qs : Nat → Int32) (rs : Nat → Int32) (fs : Nat → Int32) (checked : Int32) (stopped : Int32) (reason : Int32) (made : Int32) (opened : Int32) (ruleThen : Nat → Int32) (heads : Nat → Int32) (boxOf : Nat → Int32) (shutBy : Nat → Int32) (around : Nat → Int32) (inner : Int32) (turned : Nat → Int32) (pile : Nat → Int32) {G : (Nat → Int32)} :
    ∀ (n : Nat) (truth : Nat → Int32) (x1 : Int32) (x2 : Int32) (h0 : 0 ≤ x2.toInt) (h1 : x2.toInt ≤ 80) (hn : 81 ≤ x2.toInt + n) (hf : pz_F formulas kind left right) (H : Heap) (locs : List Loc) (ls : Array Slot), G = F_X4_evaluate_2 n formulas kind left right truth x1 x2 → va_P D vwCl (pz_M q k formulas kind left right height laid rules ps qs rs fs checked stopped reason made opened ruleThen heads boxOf shutBy around inner truth turned pile) H → va_S (pz_A 19 q) s.heap H locs → lv_has ls 3 [(0, .ref (q 0)), (1, .int (x1)), (2, .int (x2))] → W p l e (headSpec wsX4_evaluate { frames := 0, cells := 0, slots := 0, locals := 0 }).room s m args below meth c H locs 0 0 (MQ below (va_Qv (fun (u : (Nat → Int32)) => u = G) (fun u t => va_P D vwCl (pz_M q k formulas kind left right height laid rules ps qs rs fs checked stopped reason made opened ruleThen heads boxOf shutBy around inner u turned pile) t.heap) (pz_A 19 q)) args s 0 0 (pz_A 19 q)) (F0 m 2 ls []) := by
  obtain ⟨hx, hb, hml, hown, hts, hr, hlocks⟩ := hC
  have hC : pz_C p s m args meth c cX4_evaluate wsX4_evaluate RX4 3 none := ⟨hx, hb, hml, hown, hts, hr, hlocks⟩
  have hK := hKX.1
  intro n
  induction n with
  | zero =>
    intro truth x1 x2 h0 h1 hn hf H locs ls hF hP hS hl
    exact absurd hn (by omega)
  | succ n ih =>
    intro truth x1 x2 h0 h1 hn hf H locs ls hF hP hS hl
    unfold F_X4_evaluate_2 at hF
    refine lv_iload_n hx hb dX4_evaluate_2 rfl (lv_at hl 2 rfl) ?_
    refine lv_aload_n hx hb dX4_evaluate_3 rfl (lv_at hl 0 rfl) ?_
    refine va_get (D := D) (ci := 4) (v := .int (formulas)) (C := RX4) (T := TX4) (N := 25) hx hb hts in_X4_evaluate_X4 hown hK hP 0 rfl rfl 0 (by decide) (hts _ fl_X4_evaluate_65) (fun _ h9 => h9) rfl dX4_evaluate_4 ?_
    refine lv_icmp_ge (tgt := 215) hx hb dX4_evaluate_7 (by decide) (fun c_1 => ?_) (fun c_1 => ?_)
    · have hF := hF.trans (if_pos c_1)
      exact W.vret hx hb hr (fun t ht hW => ⟨⟨truth, rfl, hF.symm, pz_hp ht hP⟩, hS.F ht⟩) hS.2.2 dX4_evaluate_215 hlocks
    · have hF := hF.trans (if_neg c_1)
      refine lv_aload_n hx hb dX4_evaluate_10 rfl (lv_at hl 0 rfl) ?_
      refine va_get (D := D) (ci := 4) (v := .ref (q 1)) (C := RX4) (T := TX4) (N := 25) hx hb hts in_X4_evaluate_X4 hown hK hP 0 rfl rfl 1 (by decide) (hts _ fl_X4_evaluate_7) (fun _ h9 => h9) rfl dX4_evaluate_11 ?_
      refine lv_iload_n hx hb dX4_evaluate_14 rfl (lv_at hl 2 rfl) ?_
      have hi_2 : vp_in x2 80 := pz_inI h0 (pz_incf hf.1 ‹¬ formulas ≤ x2›).2
      refine va_iald hx hb hK hP 1 0 rfl rfl hi_2 dX4_evaluate_15 ?_
      refine pz_cases (P := (kind (x2).toNatClampNeg) = 0) (fun c_3 => ?_) (fun c_3 => ?_)
      · have hF := hF.trans (if_pos c_3)
        refine pz_table (tgt := 48) (off := 32) hx hb dX4_evaluate_16 rfl (by rw [c_3]; rfl) (by decide) ?_
        refine lv_aload_n hx hb dX4_evaluate_48 rfl (lv_at hl 0 rfl) ?_
        refine va_get (D := D) (ci := 4) (v := .ref (q 16)) (C := RX4) (T := TX4) (N := 25) hx hb hts in_X4_evaluate_X4 hown hK hP 0 rfl rfl 22 (by decide) (hts _ fl_X4_evaluate_56) (fun _ h9 => h9) rfl dX4_evaluate_49 ?_
        refine lv_iload_n hx hb dX4_evaluate_52 rfl (lv_at hl 2 rfl) ?_
        refine lv_iconst (v := 0) hx hb dX4_evaluate_53 (by decide) ?_
        have hi_4 : vp_in x2 80 := pz_inI h0 (pz_incf hf.1 ‹¬ formulas ≤ x2›).2
        refine va_zast hx hb hK hP (pz_D hKX.2 rfl) hS 16 2 rfl rfl hi_4 dX4_evaluate_54 (fun H locs hP _ hS => ?_)
        have hP : va_P D vwCl (pz_M q k formulas kind left right height laid rules ps qs rs fs checked stopped reason made opened ruleThen heads boxOf shutBy around inner (upd truth (x2).toNatClampNeg 0) turned pile) H := hP
        refine lv_goto (tgt := 209) hx hb dX4_evaluate_55 (by decide) ?_
        refine lv_iinc (v := (x2 + 1)) (lv' := [(2, .int ((x2 + 1))), (0, .ref (q 0)), (1, .int (x1))]) hx hb dX4_evaluate_209 hl (k := 2) rfl rfl (by decide) rfl (fun ls hl => ?_)
        refine lv_goto (tgt := 2) hx hb dX4_evaluate_212 (by decide) ?_
        exact ih (upd truth (x2).toNatClampNeg 0) x1 (x2 + 1) (by have e := pz_incf hf.1 ‹¬ formulas ≤ x2›; omega) (by have e := pz_incf hf.1 ‹¬ formulas ≤ x2›; omega) (by have e := pz_incf hf.1 ‹¬ formulas ≤ x2›; omega) hf _ _ _ hF hP hS (lv_sub hl [1, 2, 0] rfl)
      · have hF := hF.trans (if_neg c_3)
        refine pz_cases (P := (kind (x2).toNatClampNeg) = 1) (fun c_5 => ?_) (fun c_5 => ?_)
        · have hF := hF.trans (if_pos c_5)
          refine pz_table (tgt := 58) (off := 42) hx hb dX4_evaluate_16 rfl (by rw [c_5]; rfl) (by decide) ?_
          refine lv_aload_n hx hb dX4_evaluate_58 rfl (lv_at hl 0 rfl) ?_
          refine va_get (D := D) (ci := 4) (v := .ref (q 16)) (C := RX4) (T := TX4) (N := 25) hx hb hts in_X4_evaluate_X4 hown hK hP 0 rfl rfl 22 (by decide) (hts _ fl_X4_evaluate_56) (fun _ h9 => h9) rfl dX4_evaluate_59 ?_
          refine lv_iload_n hx hb dX4_evaluate_62 rfl (lv_at hl 2 rfl) ?_
          refine lv_iload_n hx hb dX4_evaluate_63 rfl (lv_at hl 1 rfl) ?_
          refine lv_aload_n hx hb dX4_evaluate_64 rfl (lv_at hl 0 rfl) ?_
          refine va_get (D := D) (ci := 4) (v := .ref (q 2)) (C := RX4) (T := TX4) (N := 25) hx hb hts in_X4_evaluate_X4 hown hK hP 0 rfl rfl 2 (by decide) (hts _ fl_X4_evaluate_13) (fun _ h9 => h9) rfl dX4_evaluate_65 ?_
          refine lv_iload_n hx hb dX4_evaluate_68 rfl (lv_at hl 2 rfl) ?_
          have hi_6 : vp_in x2 80 := pz_inI h0 (pz_incf hf.1 ‹¬ formulas ≤ x2›).2
          refine va_iald hx hb hK hP 2 0 rfl rfl hi_6 dX4_evaluate_69 ?_
          refine lv_ishr hx hb dX4_evaluate_70 ?_
          refine lv_iconst (v := 1) hx hb dX4_evaluate_71 (by decide) ?_
          refine lv_iand hx hb dX4_evaluate_72 ?_
          refine lv_iconst (v := 1) hx hb dX4_evaluate_73 (by decide) ?_
          refine lv_icmp_ne (tgt := 81) hx hb dX4_evaluate_74 (by decide) (fun c_7 => ?_) (fun c_7 => ?_)
          · have hF := hF.trans (if_neg c_7)
            refine lv_iconst (v := 0) hx hb dX4_evaluate_81 (by decide) ?_
            have hi_8 : vp_in x2 80 := pz_inI h0 (pz_incf hf.1 ‹¬ formulas ≤ x2›).2
            refine va_zast hx hb hK hP (pz_D hKX.2 rfl) hS 16 2 rfl rfl hi_8 dX4_evaluate_82 (fun H locs hP _ hS => ?_)
            have hP : va_P D vwCl (pz_M q k formulas kind left right height laid rules ps qs rs fs checked stopped reason made opened ruleThen heads boxOf shutBy around inner (upd truth (x2).toNatClampNeg 0) turned pile) H := hP
            refine lv_goto (tgt := 209) hx hb dX4_evaluate_83 (by decide) ?_
            refine lv_iinc (v := (x2 + 1)) (lv' := [(2, .int ((x2 + 1))), (0, .ref (q 0)), (1, .int (x1))]) hx hb dX4_evaluate_209 hl (k := 2) rfl rfl (by decide) rfl (fun ls hl => ?_)
            refine lv_goto (tgt := 2) hx hb dX4_evaluate_212 (by decide) ?_
            exact ih (upd truth (x2).toNatClampNeg 0) x1 (x2 + 1) (by have e := pz_incf hf.1 ‹¬ formulas ≤ x2›; omega) (by have e := pz_incf hf.1 ‹¬ formulas ≤ x2›; omega) (by have e := pz_incf hf.1 ‹¬ formulas ≤ x2›; omega) hf _ _ _ hF hP hS (lv_sub hl [1, 2, 0] rfl)
          · have hF := hF.trans (if_pos c_7)
            refine lv_iconst (v := 1) hx hb dX4_evaluate_77 (by decide) ?_
            refine lv_goto (tgt := 82) hx hb dX4_evaluate_78 (by decide) ?_
            have hi_9 : vp_in x2 80 := pz_inI h0 (pz_incf hf.1 ‹¬ formulas ≤ x2›).2
            refine va_zast hx hb hK hP (pz_D hKX.2 rfl) hS 16 2 rfl rfl hi_9 dX4_evaluate_82 (fun H locs hP _ hS => ?_)
            have hP : va_P D vwCl (pz_M q k formulas kind left right height laid rules ps qs rs fs checked stopped reason made opened ruleThen heads boxOf shutBy around inner (upd truth (x2).toNatClampNeg 1) turned pile) H := hP
            refine lv_goto (tgt := 209) hx hb dX4_evaluate_83 (by decide) ?_
            refine lv_iinc (v := (x2 + 1)) (lv' := [(2, .int ((x2 + 1))), (0, .ref (q 0)), (1, .int (x1))]) hx hb dX4_evaluate_209 hl (k := 2) rfl rfl (by decide) rfl (fun ls hl => ?_)
            refine lv_goto (tgt := 2) hx hb dX4_evaluate_212 (by decide) ?_
            exact ih (upd truth (x2).toNatClampNeg 1) x1 (x2 + 1) (by have e := pz_incf hf.1 ‹¬ formulas ≤ x2›; omega) (by have e := pz_incf hf.1 ‹¬ formulas ≤ x2›; omega) (by have e := pz_incf hf.1 ‹¬ formulas ≤ x2›; omega) hf _ _ _ hF hP hS (lv_sub hl [1, 2, 0] rfl)
        · have hF := hF.trans (if_neg c_5)
          refine pz_cases (P := (kind (x2).toNatClampNeg) = 2) (fun c_10 => ?_) (fun c_10 => ?_)
          · have hF := hF.trans (if_pos c_10)
            refine pz_table (tgt := 86) (off := 70) hx hb dX4_evaluate_16 rfl (by rw [c_10]; rfl) (by decide) ?_
            refine lv_aload_n hx hb dX4_evaluate_86 rfl (lv_at hl 0 rfl) ?_
            refine va_get (D := D) (ci := 4) (v := .ref (q 16)) (C := RX4) (T := TX4) (N := 25) hx hb hts in_X4_evaluate_X4 hown hK hP 0 rfl rfl 22 (by decide) (hts _ fl_X4_evaluate_56) (fun _ h9 => h9) rfl dX4_evaluate_87 ?_
            refine lv_iload_n hx hb dX4_evaluate_90 rfl (lv_at hl 2 rfl) ?_
            refine lv_aload_n hx hb dX4_evaluate_91 rfl (lv_at hl 0 rfl) ?_
            refine va_get (D := D) (ci := 4) (v := .ref (q 16)) (C := RX4) (T := TX4) (N := 25) hx hb hts in_X4_evaluate_X4 hown hK hP 0 rfl rfl 22 (by decide) (hts _ fl_X4_evaluate_56) (fun _ h9 => h9) rfl dX4_evaluate_92 ?_
            refine lv_aload_n hx hb dX4_evaluate_95 rfl (lv_at hl 0 rfl) ?_
            refine va_get (D := D) (ci := 4) (v := .ref (q 2)) (C := RX4) (T := TX4) (N := 25) hx hb hts in_X4_evaluate_X4 hown hK hP 0 rfl rfl 2 (by decide) (hts _ fl_X4_evaluate_13) (fun _ h9 => h9) rfl dX4_evaluate_96 ?_
            refine lv_iload_n hx hb dX4_evaluate_99 rfl (lv_at hl 2 rfl) ?_
            have hi_11 : vp_in x2 80 := pz_inI h0 (pz_incf hf.1 ‹¬ formulas ≤ x2›).2
            refine va_iald hx hb hK hP 2 0 rfl rfl hi_11 dX4_evaluate_100 ?_
            have hi_12 : vp_in (left (x2).toNatClampNeg) 80 := (pz_Fl hf h0 ‹¬ formulas ≤ x2› ‹¬ (kind (x2).toNatClampNeg) = 0› ‹¬ (kind (x2).toNatClampNeg) = 1›).1
            refine va_zald hx hb hK hP 16 2 rfl rfl hi_12 dX4_evaluate_101 ?_
            refine lv_if_eq (tgt := 123) hx hb dX4_evaluate_102 (by decide) (fun c_13 => ?_) (fun c_13 => ?_)
            · have hF := hF.trans (if_pos c_13)
              refine lv_iconst (v := 0) hx hb dX4_evaluate_123 (by decide) ?_
              have hi_14 : vp_in x2 80 := pz_inI h0 (pz_incf hf.1 ‹¬ formulas ≤ x2›).2
              refine va_zast hx hb hK hP (pz_D hKX.2 rfl) hS 16 2 rfl rfl hi_14 dX4_evaluate_124 (fun H locs hP _ hS => ?_)
              have hP : va_P D vwCl (pz_M q k formulas kind left right height laid rules ps qs rs fs checked stopped reason made opened ruleThen heads boxOf shutBy around inner (upd truth (x2).toNatClampNeg 0) turned pile) H := hP
              refine lv_goto (tgt := 209) hx hb dX4_evaluate_125 (by decide) ?_
              refine lv_iinc (v := (x2 + 1)) (lv' := [(2, .int ((x2 + 1))), (0, .ref (q 0)), (1, .int (x1))]) hx hb dX4_evaluate_209 hl (k := 2) rfl rfl (by decide) rfl (fun ls hl => ?_)
              refine lv_goto (tgt := 2) hx hb dX4_evaluate_212 (by decide) ?_
              exact ih (upd truth (x2).toNatClampNeg 0) x1 (x2 + 1) (by have e := pz_incf hf.1 ‹¬ formulas ≤ x2›; omega) (by have e := pz_incf hf.1 ‹¬ formulas ≤ x2›; omega) (by have e := pz_incf hf.1 ‹¬ formulas ≤ x2›; omega) hf _ _ _ hF hP hS (lv_sub hl [1, 2, 0] rfl)
            · have hF := hF.trans (if_neg c_13)
              refine lv_aload_n hx hb dX4_evaluate_105 rfl (lv_at hl 0 rfl) ?_
              refine va_get (D := D) (ci := 4) (v := .ref (q 16)) (C := RX4) (T := TX4) (N := 25) hx hb hts in_X4_evaluate_X4 hown hK hP 0 rfl rfl 22 (by decide) (hts _ fl_X4_evaluate_56) (fun _ h9 => h9) rfl dX4_evaluate_106 ?_
              refine lv_aload_n hx hb dX4_evaluate_109 rfl (lv_at hl 0 rfl) ?_
              refine va_get (D := D) (ci := 4) (v := .ref (q 3)) (C := RX4) (T := TX4) (N := 25) hx hb hts in_X4_evaluate_X4 hown hK hP 0 rfl rfl 3 (by decide) (hts _ fl_X4_evaluate_16) (fun _ h9 => h9) rfl dX4_evaluate_110 ?_
              refine lv_iload_n hx hb dX4_evaluate_113 rfl (lv_at hl 2 rfl) ?_
              have hi_15 : vp_in x2 80 := pz_inI h0 (pz_incf hf.1 ‹¬ formulas ≤ x2›).2
              refine va_iald hx hb hK hP 3 0 rfl rfl hi_15 dX4_evaluate_114 ?_
              have hi_16 : vp_in (right (x2).toNatClampNeg) 80 := (pz_Fl hf h0 ‹¬ formulas ≤ x2› ‹¬ (kind (x2).toNatClampNeg) = 0› ‹¬ (kind (x2).toNatClampNeg) = 1›).2
              refine va_zald hx hb hK hP 16 2 rfl rfl hi_16 dX4_evaluate_115 ?_
              refine lv_if_eq (tgt := 123) hx hb dX4_evaluate_116 (by decide) (fun c_17 => ?_) (fun c_17 => ?_)
              · have hF := hF.trans (if_pos c_17)
                refine lv_iconst (v := 0) hx hb dX4_evaluate_123 (by decide) ?_
                have hi_18 : vp_in x2 80 := pz_inI h0 (pz_incf hf.1 ‹¬ formulas ≤ x2›).2
                refine va_zast hx hb hK hP (pz_D hKX.2 rfl) hS 16 2 rfl rfl hi_18 dX4_evaluate_124 (fun H locs hP _ hS => ?_)
                have hP : va_P D vwCl (pz_M q k formulas kind left right height laid rules ps qs rs fs checked stopped reason made opened ruleThen heads boxOf shutBy around inner (upd truth (x2).toNatClampNeg 0) turned pile) H := hP
                refine lv_goto (tgt := 209) hx hb dX4_evaluate_125 (by decide) ?_
                refine lv_iinc (v := (x2 + 1)) (lv' := [(2, .int ((x2 + 1))), (0, .ref (q 0)), (1, .int (x1))]) hx hb dX4_evaluate_209 hl (k := 2) rfl rfl (by decide) rfl (fun ls hl => ?_)
                refine lv_goto (tgt := 2) hx hb dX4_evaluate_212 (by decide) ?_
                exact ih (upd truth (x2).toNatClampNeg 0) x1 (x2 + 1) (by have e := pz_incf hf.1 ‹¬ formulas ≤ x2›; omega) (by have e := pz_incf hf.1 ‹¬ formulas ≤ x2›; omega) (by have e := pz_incf hf.1 ‹¬ formulas ≤ x2›; omega) hf _ _ _ hF hP hS (lv_sub hl [1, 2, 0] rfl)
              · have hF := hF.trans (if_neg c_17)
                refine lv_iconst (v := 1) hx hb dX4_evaluate_119 (by decide) ?_
                refine lv_goto (tgt := 124) hx hb dX4_evaluate_120 (by decide) ?_
                have hi_19 : vp_in x2 80 := pz_inI h0 (pz_incf hf.1 ‹¬ formulas ≤ x2›).2
                refine va_zast hx hb hK hP (pz_D hKX.2 rfl) hS 16 2 rfl rfl hi_19 dX4_evaluate_124 (fun H locs hP _ hS => ?_)
                have hP : va_P D vwCl (pz_M q k formulas kind left right height laid rules ps qs rs fs checked stopped reason made opened ruleThen heads boxOf shutBy around inner (upd truth (x2).toNatClampNeg 1) turned pile) H := hP
                refine lv_goto (tgt := 209) hx hb dX4_evaluate_125 (by decide) ?_
                refine lv_iinc (v := (x2 + 1)) (lv' := [(2, .int ((x2 + 1))), (0, .ref (q 0)), (1, .int (x1))]) hx hb dX4_evaluate_209 hl (k := 2) rfl rfl (by decide) rfl (fun ls hl => ?_)
                refine lv_goto (tgt := 2) hx hb dX4_evaluate_212 (by decide) ?_
                exact ih (upd truth (x2).toNatClampNeg 1) x1 (x2 + 1) (by have e := pz_incf hf.1 ‹¬ formulas ≤ x2›; omega) (by have e := pz_incf hf.1 ‹¬ formulas ≤ x2›; omega) (by have e := pz_incf hf.1 ‹¬ formulas ≤ x2›; omega) hf _ _ _ hF hP hS (lv_sub hl [1, 2, 0] rfl)
          · have hF := hF.trans (if_neg c_10)
            refine pz_cases (P := (kind (x2).toNatClampNeg) = 3) (fun c_20 => ?_) (fun c_20 => ?_)
            · have hF := hF.trans (if_pos c_20)
              refine pz_table (tgt := 128) (off := 112) hx hb dX4_evaluate_16 rfl (by rw [c_20]; rfl) (by decide) ?_
              refine lv_aload_n hx hb dX4_evaluate_128 rfl (lv_at hl 0 rfl) ?_
              refine va_get (D := D) (ci := 4) (v := .ref (q 16)) (C := RX4) (T := TX4) (N := 25) hx hb hts in_X4_evaluate_X4 hown hK hP 0 rfl rfl 22 (by decide) (hts _ fl_X4_evaluate_56) (fun _ h9 => h9) rfl dX4_evaluate_129 ?_
              refine lv_iload_n hx hb dX4_evaluate_132 rfl (lv_at hl 2 rfl) ?_
              refine lv_aload_n hx hb dX4_evaluate_133 rfl (lv_at hl 0 rfl) ?_
              refine va_get (D := D) (ci := 4) (v := .ref (q 16)) (C := RX4) (T := TX4) (N := 25) hx hb hts in_X4_evaluate_X4 hown hK hP 0 rfl rfl 22 (by decide) (hts _ fl_X4_evaluate_56) (fun _ h9 => h9) rfl dX4_evaluate_134 ?_
              refine lv_aload_n hx hb dX4_evaluate_137 rfl (lv_at hl 0 rfl) ?_
              refine va_get (D := D) (ci := 4) (v := .ref (q 2)) (C := RX4) (T := TX4) (N := 25) hx hb hts in_X4_evaluate_X4 hown hK hP 0 rfl rfl 2 (by decide) (hts _ fl_X4_evaluate_13) (fun _ h9 => h9) rfl dX4_evaluate_138 ?_
              refine lv_iload_n hx hb dX4_evaluate_141 rfl (lv_at hl 2 rfl) ?_
              have hi_21 : vp_in x2 80 := pz_inI h0 (pz_incf hf.1 ‹¬ formulas ≤ x2›).2
              refine va_iald hx hb hK hP 2 0 rfl rfl hi_21 dX4_evaluate_142 ?_
              have hi_22 : vp_in (left (x2).toNatClampNeg) 80 := (pz_Fl hf h0 ‹¬ formulas ≤ x2› ‹¬ (kind (x2).toNatClampNeg) = 0› ‹¬ (kind (x2).toNatClampNeg) = 1›).1
              refine va_zald hx hb hK hP 16 2 rfl rfl hi_22 dX4_evaluate_143 ?_
              refine lv_if_ne (tgt := 161) hx hb dX4_evaluate_144 (by decide) (fun c_23 => ?_) (fun c_23 => ?_)
              · have hF := hF.trans (if_neg c_23)
                refine lv_iconst (v := 1) hx hb dX4_evaluate_161 (by decide) ?_
                refine lv_goto (tgt := 166) hx hb dX4_evaluate_162 (by decide) ?_
                have hi_24 : vp_in x2 80 := pz_inI h0 (pz_incf hf.1 ‹¬ formulas ≤ x2›).2
                refine va_zast hx hb hK hP (pz_D hKX.2 rfl) hS 16 2 rfl rfl hi_24 dX4_evaluate_166 (fun H locs hP _ hS => ?_)
                have hP : va_P D vwCl (pz_M q k formulas kind left right height laid rules ps qs rs fs checked stopped reason made opened ruleThen heads boxOf shutBy around inner (upd truth (x2).toNatClampNeg 1) turned pile) H := hP
                refine lv_goto (tgt := 209) hx hb dX4_evaluate_167 (by decide) ?_
                refine lv_iinc (v := (x2 + 1)) (lv' := [(2, .int ((x2 + 1))), (0, .ref (q 0)), (1, .int (x1))]) hx hb dX4_evaluate_209 hl (k := 2) rfl rfl (by decide) rfl (fun ls hl => ?_)
                refine lv_goto (tgt := 2) hx hb dX4_evaluate_212 (by decide) ?_
                exact ih (upd truth (x2).toNatClampNeg 1) x1 (x2 + 1) (by have e := pz_incf hf.1 ‹¬ formulas ≤ x2›; omega) (by have e := pz_incf hf.1 ‹¬ formulas ≤ x2›; omega) (by have e := pz_incf hf.1 ‹¬ formulas ≤ x2›; omega) hf _ _ _ hF hP hS (lv_sub hl [1, 2, 0] rfl)
              · have hF := hF.trans (if_pos c_23)
                refine lv_aload_n hx hb dX4_evaluate_147 rfl (lv_at hl 0 rfl) ?_
                refine va_get (D := D) (ci := 4) (v := .ref (q 16)) (C := RX4) (T := TX4) (N := 25) hx hb hts in_X4_evaluate_X4 hown hK hP 0 rfl rfl 22 (by decide) (hts _ fl_X4_evaluate_56) (fun _ h9 => h9) rfl dX4_evaluate_148 ?_
                refine lv_aload_n hx hb dX4_evaluate_151 rfl (lv_at hl 0 rfl) ?_
                refine va_get (D := D) (ci := 4) (v := .ref (q 3)) (C := RX4) (T := TX4) (N := 25) hx hb hts in_X4_evaluate_X4 hown hK hP 0 rfl rfl 3 (by decide) (hts _ fl_X4_evaluate_16) (fun _ h9 => h9) rfl dX4_evaluate_152 ?_
                refine lv_iload_n hx hb dX4_evaluate_155 rfl (lv_at hl 2 rfl) ?_
                have hi_25 : vp_in x2 80 := pz_inI h0 (pz_incf hf.1 ‹¬ formulas ≤ x2›).2
                refine va_iald hx hb hK hP 3 0 rfl rfl hi_25 dX4_evaluate_156 ?_
                have hi_26 : vp_in (right (x2).toNatClampNeg) 80 := (pz_Fl hf h0 ‹¬ formulas ≤ x2› ‹¬ (kind (x2).toNatClampNeg) = 0› ‹¬ (kind (x2).toNatClampNeg) = 1›).2
                refine va_zald hx hb hK hP 16 2 rfl rfl hi_26 dX4_evaluate_157 ?_
                refine lv_if_eq (tgt := 165) hx hb dX4_evaluate_158 (by decide) (fun c_27 => ?_) (fun c_27 => ?_)
                · have hF := hF.trans (if_pos c_27)
                  refine lv_iconst (v := 0) hx hb dX4_evaluate_165 (by decide) ?_
                  have hi_28 : vp_in x2 80 := pz_inI h0 (pz_incf hf.1 ‹¬ formulas ≤ x2›).2
                  refine va_zast hx hb hK hP (pz_D hKX.2 rfl) hS 16 2 rfl rfl hi_28 dX4_evaluate_166 (fun H locs hP _ hS => ?_)
                  have hP : va_P D vwCl (pz_M q k formulas kind left right height laid rules ps qs rs fs checked stopped reason made opened ruleThen heads boxOf shutBy around inner (upd truth (x2).toNatClampNeg 0) turned pile) H := hP
                  refine lv_goto (tgt := 209) hx hb dX4_evaluate_167 (by decide) ?_
                  refine lv_iinc (v := (x2 + 1)) (lv' := [(2, .int ((x2 + 1))), (0, .ref (q 0)), (1, .int (x1))]) hx hb dX4_evaluate_209 hl (k := 2) rfl rfl (by decide) rfl (fun ls hl => ?_)
                  refine lv_goto (tgt := 2) hx hb dX4_evaluate_212 (by decide) ?_
                  exact ih (upd truth (x2).toNatClampNeg 0) x1 (x2 + 1) (by have e := pz_incf hf.1 ‹¬ formulas ≤ x2›; omega) (by have e := pz_incf hf.1 ‹¬ formulas ≤ x2›; omega) (by have e := pz_incf hf.1 ‹¬ formulas ≤ x2›; omega) hf _ _ _ hF hP hS (lv_sub hl [1, 2, 0] rfl)
                · have hF := hF.trans (if_neg c_27)
                  refine lv_iconst (v := 1) hx hb dX4_evaluate_161 (by decide) ?_
                  refine lv_goto (tgt := 166) hx hb dX4_evaluate_162 (by decide) ?_
                  have hi_29 : vp_in x2 80 := pz_inI h0 (pz_incf hf.1 ‹¬ formulas ≤ x2›).2
                  refine va_zast hx hb hK hP (pz_D hKX.2 rfl) hS 16 2 rfl rfl hi_29 dX4_evaluate_166 (fun H locs hP _ hS => ?_)
                  have hP : va_P D vwCl (pz_M q k formulas kind left right height laid rules ps qs rs fs checked stopped reason made opened ruleThen heads boxOf shutBy around inner (upd truth (x2).toNatClampNeg 1) turned pile) H := hP
                  refine lv_goto (tgt := 209) hx hb dX4_evaluate_167 (by decide) ?_
                  refine lv_iinc (v := (x2 + 1)) (lv' := [(2, .int ((x2 + 1))), (0, .ref (q 0)), (1, .int (x1))]) hx hb dX4_evaluate_209 hl (k := 2) rfl rfl (by decide) rfl (fun ls hl => ?_)
                  refine lv_goto (tgt := 2) hx hb dX4_evaluate_212 (by decide) ?_
                  exact ih (upd truth (x2).toNatClampNeg 1) x1 (x2 + 1) (by have e := pz_incf hf.1 ‹¬ formulas ≤ x2›; omega) (by have e := pz_incf hf.1 ‹¬ formulas ≤ x2›; omega) (by have e := pz_incf hf.1 ‹¬ formulas ≤ x2›; omega) hf _ _ _ hF hP hS (lv_sub hl [1, 2, 0] rfl)
            · have hF := hF.trans (if_neg c_20)
              have ho : pz_off (154) (0) (3) #[32, 42, 70, 112] (kind (x2).toNatClampNeg) = 154 := by
                unfold pz_off
                split
                · rfl
                · have hz : ((kind (x2).toNatClampNeg)).toInt = 0 ∨ ((kind (x2).toNatClampNeg)).toInt = 1 ∨ ((kind (x2).toNatClampNeg)).toInt = 2 ∨ ((kind (x2).toNatClampNeg)).toInt = 3 := by omega
                  rcases hz with hz | hz | hz | hz
                  · exact absurd (Int32.toInt_inj.mp (hz.trans (show (0 : Int) = (0 : Int32).toInt from rfl))) c_3
                  · exact absurd (Int32.toInt_inj.mp (hz.trans (show (1 : Int) = (1 : Int32).toInt from rfl))) c_5
                  · exact absurd (Int32.toInt_inj.mp (hz.trans (show (2 : Int) = (2 : Int32).toInt from rfl))) c_10
                  · exact absurd (Int32.toInt_inj.mp (hz.trans (show (3 : Int) = (3 : Int32).toInt from rfl))) c_20
              refine pz_table (tgt := 170) hx hb dX4_evaluate_16 rfl ho (by decide) ?_
              refine lv_aload_n hx hb dX4_evaluate_170 rfl (lv_at hl 0 rfl) ?_
              refine va_get (D := D) (ci := 4) (v := .ref (q 16)) (C := RX4) (T := TX4) (N := 25) hx hb hts in_X4_evaluate_X4 hown hK hP 0 rfl rfl 22 (by decide) (hts _ fl_X4_evaluate_56) (fun _ h9 => h9) rfl dX4_evaluate_171 ?_
              refine lv_iload_n hx hb dX4_evaluate_174 rfl (lv_at hl 2 rfl) ?_
              refine lv_aload_n hx hb dX4_evaluate_175 rfl (lv_at hl 0 rfl) ?_
              refine va_get (D := D) (ci := 4) (v := .ref (q 16)) (C := RX4) (T := TX4) (N := 25) hx hb hts in_X4_evaluate_X4 hown hK hP 0 rfl rfl 22 (by decide) (hts _ fl_X4_evaluate_56) (fun _ h9 => h9) rfl dX4_evaluate_176 ?_
              refine lv_aload_n hx hb dX4_evaluate_179 rfl (lv_at hl 0 rfl) ?_
              refine va_get (D := D) (ci := 4) (v := .ref (q 2)) (C := RX4) (T := TX4) (N := 25) hx hb hts in_X4_evaluate_X4 hown hK hP 0 rfl rfl 2 (by decide) (hts _ fl_X4_evaluate_13) (fun _ h9 => h9) rfl dX4_evaluate_180 ?_
              refine lv_iload_n hx hb dX4_evaluate_183 rfl (lv_at hl 2 rfl) ?_
              have hi_30 : vp_in x2 80 := pz_inI h0 (pz_incf hf.1 ‹¬ formulas ≤ x2›).2
              refine va_iald hx hb hK hP 2 0 rfl rfl hi_30 dX4_evaluate_184 ?_
              have hi_31 : vp_in (left (x2).toNatClampNeg) 80 := (pz_Fl hf h0 ‹¬ formulas ≤ x2› ‹¬ (kind (x2).toNatClampNeg) = 0› ‹¬ (kind (x2).toNatClampNeg) = 1›).1
              refine va_zald hx hb hK hP 16 2 rfl rfl hi_31 dX4_evaluate_185 ?_
              refine lv_if_eq (tgt := 203) hx hb dX4_evaluate_186 (by decide) (fun c_32 => ?_) (fun c_32 => ?_)
              · have hF := hF.trans (if_pos c_32)
                refine lv_iconst (v := 1) hx hb dX4_evaluate_203 (by decide) ?_
                refine lv_goto (tgt := 208) hx hb dX4_evaluate_204 (by decide) ?_
                have hi_33 : vp_in x2 80 := pz_inI h0 (pz_incf hf.1 ‹¬ formulas ≤ x2›).2
                refine va_zast hx hb hK hP (pz_D hKX.2 rfl) hS 16 2 rfl rfl hi_33 dX4_evaluate_208 (fun H locs hP _ hS => ?_)
                have hP : va_P D vwCl (pz_M q k formulas kind left right height laid rules ps qs rs fs checked stopped reason made opened ruleThen heads boxOf shutBy around inner (upd truth (x2).toNatClampNeg 1) turned pile) H := hP
                refine lv_iinc (v := (x2 + 1)) (lv' := [(2, .int ((x2 + 1))), (0, .ref (q 0)), (1, .int (x1))]) hx hb dX4_evaluate_209 hl (k := 2) rfl rfl (by decide) rfl (fun ls hl => ?_)
                refine lv_goto (tgt := 2) hx hb dX4_evaluate_212 (by decide) ?_
                exact ih (upd truth (x2).toNatClampNeg 1) x1 (x2 + 1) (by have e := pz_incf hf.1 ‹¬ formulas ≤ x2›; omega) (by have e := pz_incf hf.1 ‹¬ formulas ≤ x2›; omega) (by have e := pz_incf hf.1 ‹¬ formulas ≤ x2›; omega) hf _ _ _ hF hP hS (lv_sub hl [1, 2, 0] rfl)
              · have hF := hF.trans (if_neg c_32)
                refine lv_aload_n hx hb dX4_evaluate_189 rfl (lv_at hl 0 rfl) ?_
                refine va_get (D := D) (ci := 4) (v := .ref (q 16)) (C := RX4) (T := TX4) (N := 25) hx hb hts in_X4_evaluate_X4 hown hK hP 0 rfl rfl 22 (by decide) (hts _ fl_X4_evaluate_56) (fun _ h9 => h9) rfl dX4_evaluate_190 ?_
                refine lv_aload_n hx hb dX4_evaluate_193 rfl (lv_at hl 0 rfl) ?_
                refine va_get (D := D) (ci := 4) (v := .ref (q 3)) (C := RX4) (T := TX4) (N := 25) hx hb hts in_X4_evaluate_X4 hown hK hP 0 rfl rfl 3 (by decide) (hts _ fl_X4_evaluate_16) (fun _ h9 => h9) rfl dX4_evaluate_194 ?_
                refine lv_iload_n hx hb dX4_evaluate_197 rfl (lv_at hl 2 rfl) ?_
                have hi_34 : vp_in x2 80 := pz_inI h0 (pz_incf hf.1 ‹¬ formulas ≤ x2›).2
                refine va_iald hx hb hK hP 3 0 rfl rfl hi_34 dX4_evaluate_198 ?_
                have hi_35 : vp_in (right (x2).toNatClampNeg) 80 := (pz_Fl hf h0 ‹¬ formulas ≤ x2› ‹¬ (kind (x2).toNatClampNeg) = 0› ‹¬ (kind (x2).toNatClampNeg) = 1›).2
                refine va_zald hx hb hK hP 16 2 rfl rfl hi_35 dX4_evaluate_199 ?_
                refine lv_if_eq (tgt := 207) hx hb dX4_evaluate_200 (by decide) (fun c_36 => ?_) (fun c_36 => ?_)
                · have hF := hF.trans (if_pos c_36)
                  refine lv_iconst (v := 0) hx hb dX4_evaluate_207 (by decide) ?_
                  have hi_37 : vp_in x2 80 := pz_inI h0 (pz_incf hf.1 ‹¬ formulas ≤ x2›).2
                  refine va_zast hx hb hK hP (pz_D hKX.2 rfl) hS 16 2 rfl rfl hi_37 dX4_evaluate_208 (fun H locs hP _ hS => ?_)
                  have hP : va_P D vwCl (pz_M q k formulas kind left right height laid rules ps qs rs fs checked stopped reason made opened ruleThen heads boxOf shutBy around inner (upd truth (x2).toNatClampNeg 0) turned pile) H := hP
                  refine lv_iinc (v := (x2 + 1)) (lv' := [(2, .int ((x2 + 1))), (0, .ref (q 0)), (1, .int (x1))]) hx hb dX4_evaluate_209 hl (k := 2) rfl rfl (by decide) rfl (fun ls hl => ?_)
                  refine lv_goto (tgt := 2) hx hb dX4_evaluate_212 (by decide) ?_
                  exact ih (upd truth (x2).toNatClampNeg 0) x1 (x2 + 1) (by have e := pz_incf hf.1 ‹¬ formulas ≤ x2›; omega) (by have e := pz_incf hf.1 ‹¬ formulas ≤ x2›; omega) (by have e := pz_incf hf.1 ‹¬ formulas ≤ x2›; omega) hf _ _ _ hF hP hS (lv_sub hl [1, 2, 0] rfl)
                · have hF := hF.trans (if_neg c_36)
                  refine lv_iconst (v := 1) hx hb dX4_evaluate_203 (by decide) ?_
                  refine lv_goto (tgt := 208) hx hb dX4_evaluate_204 (by decide) ?_
                  have hi_38 : vp_in x2 80 := pz_inI h0 (pz_incf hf.1 ‹¬ formulas ≤ x2›).2
                  refine va_zast hx hb hK hP (pz_D hKX.2 rfl) hS 16 2 rfl rfl hi_38 dX4_evaluate_208 (fun H locs hP _ hS => ?_)
                  have hP : va_P D vwCl (pz_M q k formulas kind left right height laid rules ps qs rs fs checked stopped reason made opened ruleThen heads boxOf shutBy around inner (upd truth (x2).toNatClampNeg 1) turned pile) H := hP
                  refine lv_iinc (v := (x2 + 1)) (lv' := [(2, .int ((x2 + 1))), (0, .ref (q 0)), (1, .int (x1))]) hx hb dX4_evaluate_209 hl (k := 2) rfl rfl (by decide) rfl (fun ls hl => ?_)
                  refine lv_goto (tgt := 2) hx hb dX4_evaluate_212 (by decide) ?_
                  exact ih (upd truth (x2).toNatClampNeg 1) x1 (x2 + 1) (by have e := pz_incf hf.1 ‹¬ formulas ≤ x2›; omega) (by have e := pz_incf hf.1 ‹¬ formulas ≤ x2›; omega) (by have e := pz_incf hf.1 ‹¬ formulas ≤ x2›; omega) hf _ _ _ hF hP hS (lv_sub hl [1, 2, 0] rfl)
set_option maxHeartbeats 4000000 in
set_option maxRecDepth 100000 in
theorem c_X4_evaluate (l : Launch) (D : va_G) (q : Nat → Nat) (k : Nat → ClassId) (formulas : Int32) (kind : Nat → Int32) (left : Nat → Int32) (right : Nat → Int32) (height : Nat → Int32) (laid : Nat → Int32) (rules : Nat → Int32) (ps : Nat → Int32) (qs : Nat → Int32) (rs : Nat → Int32) (fs : Nat → Int32) (checked : Int32) (stopped : Int32) (reason : Int32) (made : Int32) (opened : Int32) (ruleThen : Nat → Int32) (heads : Nat → Int32) (boxOf : Nat → Int32) (shutBy : Nat → Int32) (around : Nat → Int32) (inner : Int32) (truth : Nat → Int32) (turned : Nat → Int32) (pile : Nat → Int32) (x1 : Int32) (hf : pz_F formulas kind left right) : Met l yX4_evaluate wsX4_evaluate ({ frames := 0, cells := 0, slots := 0, locals := 0 }) (va_Pc [.ref (q 0), .int (x1)] (fun U => va_P D vwCl (pz_M q k formulas kind left right height laid rules ps qs rs fs checked stopped reason made opened ruleThen heads boxOf shutBy around inner truth turned pile) U.heap ∧ pz_KM D q k U)) (va_Qv (fun (u : (Nat → Int32)) => u = (f_X4_evaluate formulas kind left right truth x1)) (fun u t => va_P D vwCl (pz_M q k formulas kind left right height laid rules ps qs rs fs checked stopped reason made opened ruleThen heads boxOf shutBy around inner u turned pile) t.heap) (pz_A 19 q)) 0 0 (pz_A 19 q) := by
  refine Met.ofW (cc := cX4_evaluate) (maxL := 3) (ret := none) (by decide) rfl ?_
  intro p e s m args below meth c s₁ B hml hv
  obtain ⟨rfl, hP, hKX⟩ := hv
  have hx := B.exec
  have hb := B.bytes
  have hr := B.returns
  have hts := atoms_spec (ws := wsX4_evaluate) B.pre
  have hown : s.vm.findClass RX4 = some m.cls := findClass_of_methodNamed B.named
  have hlocks := B.notSynchronized
  have hC : pz_C p s m ([.ref (q 0), .int (x1)] : List Value).toArray meth c cX4_evaluate wsX4_evaluate RX4 3 none := ⟨hx, hb, hml, hown, hts, hr, hlocks⟩
  have hK := hKX.1
  have hS : va_S (pz_A 19 q) s.heap s.heap [] := va_S.rf
  have hl := lv_entry [.ref (q 0), .int (x1)] (n := 3) (Nat.le_of_ble_eq_true rfl)
  rw [lg_entry_eq]
  generalize (lg_sl [.ref (q 0), .int (x1)] ++ List.replicate (3 - (lg_sl [.ref (q 0), .int (x1)]).length) Slot.unset).toArray = ls at hl ⊢
  have hl : lv_has ls 3 [(0, .ref (q 0)), (1, .int (x1))] := hl
  generalize hF : f_X4_evaluate formulas kind left right truth x1 = G
  replace hF := hF.symm
  unfold f_X4_evaluate at hF
  refine lv_iconst (v := 0) hx hb dX4_evaluate_0 (by decide) ?_
  refine lv_istore_n (lv' := [(2, .int (0)), (0, .ref (q 0)), (1, .int (x1))]) hx hb dX4_evaluate_1 rfl hl (by decide) rfl (fun ls hl => ?_)
  exact k_X4_evaluate_2 hC hKX formulas kind left right height laid rules ps qs rs fs checked stopped reason made opened ruleThen heads boxOf shutBy around inner turned pile 81 truth x1 0 (by decide) (by decide) (by decide) hf _ _ _ hF hP hS (lv_sub hl [1, 2, 0] rfl)

-- == X4_value
def f_X4_value (formulas : Int32) (kind : Nat → Int32) (left : Nat → Int32) (right : Nat → Int32) (truth : Nat → Int32) (x1 : Int32) (x2 : Int32) : Int32 × (Nat → Int32) := pz_bnd (f_X4_isFormula formulas x1) (fun z_1 => if z_1 = 0 then (((-2), truth)) else (pz_bnd (f_X4_within x2 0 63) (fun z_3 => if z_3 = 0 then (((-3), truth)) else (pz_bnd (f_X4_evaluate formulas kind left right truth x2) (fun z_5 => if (z_5 (x1).toNatClampNeg) = 0 then ((0, z_5)) else ((1, z_5)))))))
theorem fl_X4_value_56 : Cond.fieldLink RX4 56 "BoxProofsModel" "truth" "[Z" ∈ wsX4_value := by decide +kernel
theorem hdV_X4_evaluate : yX4_evaluate.cls = RX4 ∧ yX4_evaluate.cls ≠ "java/lang/invoke/MethodHandle" ∧ yX4_evaluate.cls ≠ "java/lang/invoke/VarHandle" ∧ (parseMethodDescriptor yX4_evaluate.desc).map (fun d => d.parameters.length) = some 1 := by decide +kernel
theorem in_X4_value_X4 : ∀ w ∈ wsX40, w ∈ wsX4_value := by decide +kernel
set_option maxHeartbeats 4000000 in
set_option maxRecDepth 100000 in
theorem c_X4_value (l : Launch) (D : va_G) (q : Nat → Nat) (k : Nat → ClassId) (formulas : Int32) (kind : Nat → Int32) (left : Nat → Int32) (right : Nat → Int32) (height : Nat → Int32) (laid : Nat → Int32) (rules : Nat → Int32) (ps : Nat → Int32) (qs : Nat → Int32) (rs : Nat → Int32) (fs : Nat → Int32) (checked : Int32) (stopped : Int32) (reason : Int32) (made : Int32) (opened : Int32) (ruleThen : Nat → Int32) (heads : Nat → Int32) (boxOf : Nat → Int32) (shutBy : Nat → Int32) (around : Nat → Int32) (inner : Int32) (truth : Nat → Int32) (turned : Nat → Int32) (pile : Nat → Int32) (x1 : Int32) (x2 : Int32) (hf : pz_F formulas kind left right) : Met l yX4_value wsX4_value ({ frames := 2, cells := 0, slots := 0, locals := 43 }) (va_Pc [.ref (q 0), .int (x1), .int (x2)] (fun U => va_P D vwCl (pz_M q k formulas kind left right height laid rules ps qs rs fs checked stopped reason made opened ruleThen heads boxOf shutBy around inner truth turned pile) U.heap ∧ pz_KM D q k U)) (va_Qi (fun r (u : (Nat → Int32)) => (r, u) = (f_X4_value formulas kind left right truth x1 x2)) (fun u t => va_P D vwCl (pz_M q k formulas kind left right height laid rules ps qs rs fs checked stopped reason made opened ruleThen heads boxOf shutBy around inner u turned pile) t.heap) (pz_A 19 q)) 0 0 (pz_A 19 q) := by
  refine Met.ofW (cc := cX4_value) (maxL := 3) (ret := (some .int)) (by decide) rfl ?_
  intro p e s m args below meth c s₁ B hml hv
  obtain ⟨rfl, hP, hKX⟩ := hv
  have hx := B.exec
  have hb := B.bytes
  have hr := B.returns
  have hts := atoms_spec (ws := wsX4_value) B.pre
  have hown : s.vm.findClass RX4 = some m.cls := findClass_of_methodNamed B.named
  have hlocks := B.notSynchronized
  have hC : pz_C p s m ([.ref (q 0), .int (x1), .int (x2)] : List Value).toArray meth c cX4_value wsX4_value RX4 3 (some .int) := ⟨hx, hb, hml, hown, hts, hr, hlocks⟩
  have hK := hKX.1
  have hS : va_S (pz_A 19 q) s.heap s.heap [] := va_S.rf
  have hl := lv_entry [.ref (q 0), .int (x1), .int (x2)] (n := 3) (Nat.le_of_ble_eq_true rfl)
  rw [lg_entry_eq]
  generalize (lg_sl [.ref (q 0), .int (x1), .int (x2)] ++ List.replicate (3 - (lg_sl [.ref (q 0), .int (x1), .int (x2)]).length) Slot.unset).toArray = ls at hl ⊢
  have hl : lv_has ls 3 [(0, .ref (q 0)), (1, .int (x1)), (2, .int (x2))] := hl
  generalize hF : f_X4_value formulas kind left right truth x1 x2 = G
  replace hF := hF.symm
  unfold f_X4_value at hF
  refine lv_aload_n hx hb dX4_value_0 rfl (lv_at hl 0 rfl) ?_
  refine lv_iload_n hx hb dX4_value_1 rfl (lv_at hl 1 rfl) ?_
  refine pz_Vi (As := [.int (x1)]) (rest := []) ⟨hx, hb, hml, hown, hts⟩ (c_X4_isFormula l D q k formulas kind left right height laid rules ps qs rs fs checked stopped reason made opened ruleThen heads boxOf shutBy around inner truth turned pile x1) (cwV 1 hts gX4_value_X4_isFormula rfl rfl rfl hdV_X4_isFormula ⟨Nat.le_of_ble_eq_true rfl, Nat.le_of_ble_eq_true rfl⟩) pz_KM.call hKX.go (va_recv hK hP (ci := 4) (q0 := 0) rfl rfl) hP hS rfl hl.1 rfl (Nat.le_of_ble_eq_true rfl) dX4_value_2 ⟨Nat.zero_le _, Nat.zero_le _⟩ (fun r_1 u_1 H locs hF_1 hP hS => ?_)
  have hF := hF.trans (pz_be hF_1)
  refine lv_if_ne (tgt := 11) hx hb dX4_value_5 (by decide) (fun c_2 => ?_) (fun c_2 => ?_)
  · have hF := hF.trans (if_neg c_2)
    refine lv_iload_n hx hb dX4_value_11 rfl (lv_at hl 2 rfl) ?_
    refine lv_iconst (v := 0) hx hb dX4_value_12 (by decide) ?_
    refine lv_bipush (v := 63) hx hb dX4_value_13 (by decide) ?_
    refine pz_Si (As := [.int (x2), .int (0), .int (63)]) (rest := []) ⟨hx, hb, hml, hown, hts⟩ (c_X4_within l x2 0 63) (va_cwS 3 hts gX4_value_X4_within rfl rfl rfl hdS_X4_within ⟨Nat.le_of_ble_eq_true rfl, Nat.le_of_ble_eq_true rfl⟩) hP hS rfl hl.1 rfl (Nat.le_of_ble_eq_true rfl) dX4_value_15 ⟨Nat.zero_le _, Nat.zero_le _⟩ (fun r_3 H locs hF_3 hP hS => ?_)
    have hF := hF.trans (pz_be hF_3)
    refine lv_if_ne (tgt := 24) hx hb dX4_value_18 (by decide) (fun c_4 => ?_) (fun c_4 => ?_)
    · have hF := hF.trans (if_neg c_4)
      refine lv_aload_n hx hb dX4_value_24 rfl (lv_at hl 0 rfl) ?_
      refine lv_iload_n hx hb dX4_value_25 rfl (lv_at hl 2 rfl) ?_
      refine pz_Vv (As := [.int (x2)]) (rest := []) ⟨hx, hb, hml, hown, hts⟩ (c_X4_evaluate l D q k formulas kind left right height laid rules ps qs rs fs checked stopped reason made opened ruleThen heads boxOf shutBy around inner truth turned pile x2 hf) (cwV 1 hts gX4_value_X4_evaluate rfl rfl rfl hdV_X4_evaluate ⟨Nat.le_of_ble_eq_true rfl, Nat.le_of_ble_eq_true rfl⟩) pz_KM.call hKX.go (va_recv hK hP (ci := 4) (q0 := 0) rfl rfl) hP hS rfl hl.1 rfl (Nat.le_of_ble_eq_true rfl) dX4_value_26 ⟨Nat.zero_le _, Nat.zero_le _⟩ (fun u_5 H locs hF_5 hP hS => ?_)
      obtain ⟨w_5_truth, rfl⟩ : ∃ z, z = u_5 := ⟨_, rfl⟩
      have hP : va_P D vwCl (pz_M q k formulas kind left right height laid rules ps qs rs fs checked stopped reason made opened ruleThen heads boxOf shutBy around inner w_5_truth turned pile) H := hP
      have hF := hF.trans (pz_be hF_5)
      try dsimp only at hF
      refine lv_aload_n hx hb dX4_value_29 rfl (lv_at hl 0 rfl) ?_
      refine va_get (D := D) (ci := 4) (v := .ref (q 16)) (C := RX4) (T := TX4) (N := 25) hx hb hts in_X4_value_X4 hown hK hP 0 rfl rfl 22 (by decide) (hts _ fl_X4_value_56) (fun _ h9 => h9) rfl dX4_value_30 ?_
      refine lv_iload_n hx hb dX4_value_33 rfl (lv_at hl 1 rfl) ?_
      have hi_6 : vp_in x1 80 := pz_isFin hf.1 ‹_› ‹_›
      refine va_zald hx hb hK hP 16 2 rfl rfl hi_6 dX4_value_34 ?_
      refine lv_if_eq (tgt := 42) hx hb dX4_value_35 (by decide) (fun c_7 => ?_) (fun c_7 => ?_)
      · have hF := hF.trans (if_pos c_7)
        refine lv_iconst (v := 0) hx hb dX4_value_42 (by decide) ?_
        exact W.iret (v := 0) hx hb hr (fun t ht hW => ⟨⟨0, w_5_truth, rfl, hF.symm, pz_hp ht hP⟩, hS.F ht⟩) hS.2.2 dX4_value_43 hlocks
      · have hF := hF.trans (if_neg c_7)
        refine lv_iconst (v := 1) hx hb dX4_value_38 (by decide) ?_
        refine lv_goto (tgt := 43) hx hb dX4_value_39 (by decide) ?_
        exact W.iret (v := 1) hx hb hr (fun t ht hW => ⟨⟨1, w_5_truth, rfl, hF.symm, pz_hp ht hP⟩, hS.F ht⟩) hS.2.2 dX4_value_43 hlocks
    · have hF := hF.trans (if_pos c_4)
      refine lv_bipush (v := (-3)) hx hb dX4_value_21 (by decide) ?_
      exact W.iret (v := (-3)) hx hb hr (fun t ht hW => ⟨⟨(-3), truth, rfl, hF.symm, pz_hp ht hP⟩, hS.F ht⟩) hS.2.2 dX4_value_23 hlocks
  · have hF := hF.trans (if_pos c_2)
    refine lv_bipush (v := (-2)) hx hb dX4_value_8 (by decide) ?_
    exact W.iret (v := (-2)) hx hb hr (fun t ht hW => ⟨⟨(-2), truth, rfl, hF.symm, pz_hp ht hP⟩, hS.F ht⟩) hS.2.2 dX4_value_10 hlocks

-- == X4_truths
def F_X4_truths_15 : Nat → (Int32) → (Nat → Int32) → (Nat → Int32) → (Nat → Int32) → (Nat → Int32) → (Int32) → (Int32) → (Int32) → Int32 × (Nat → Int32)
  | 0, formulas, kind, left, right, truth, x1, x2, x3 => (0, truth)
  | n + 1, formulas, kind, left, right, truth, x1, x2, x3 => if 64 ≤ x3 then ((x2, truth)) else (pz_bnd (f_X4_evaluate formulas kind left right truth x3) (fun z_2 => if (z_2 (x1).toNatClampNeg) = 0 then (F_X4_truths_15 n formulas kind left right z_2 x1 (x2 + 0) (x3 + 1)) else (F_X4_truths_15 n formulas kind left right z_2 x1 (x2 + 1) (x3 + 1))))
def f_X4_truths (formulas : Int32) (kind : Nat → Int32) (left : Nat → Int32) (right : Nat → Int32) (truth : Nat → Int32) (x1 : Int32) : Int32 × (Nat → Int32) := pz_bnd (f_X4_isFormula formulas x1) (fun z_5 => if z_5 = 0 then (((-2), truth)) else (F_X4_truths_15 65 formulas kind left right truth x1 0 0))
theorem fl_X4_truths_56 : Cond.fieldLink RX4 56 "BoxProofsModel" "truth" "[Z" ∈ wsX4_truths := by decide +kernel
theorem in_X4_truths_X4 : ∀ w ∈ wsX40, w ∈ wsX4_truths := by decide +kernel
set_option maxHeartbeats 4000000 in
set_option maxRecDepth 100000 in
theorem k_X4_truths_15 {p : Program} {l : Launch} {e : Env} {s : State} {m : MethodId} {args : Array Value} {below : List Frame} {meth : Method} {c : Code} {D : va_G} {q : Nat → Nat} {k : Nat → ClassId} (hC : pz_C p s m args meth c cX4_truths wsX4_truths RX4 4 (some .int)) (hKX : pz_KM D q k s) (formulas : Int32) (kind : Nat → Int32) (left : Nat → Int32) (right : Nat → Int32) (height : Nat → Int32) (laid : Nat → Int32) (rules : Nat → Int32) (ps : Nat → Int32) (qs : Nat → Int32) (rs : Nat → Int32) (fs : Nat → Int32) (checked : Int32) (stopped : Int32) (reason : Int32) (made : Int32) (opened : Int32) (ruleThen : Nat → Int32) (heads : Nat → Int32) (boxOf : Nat → Int32) (shutBy : Nat → Int32) (around : Nat → Int32) (inner : Int32) (turned : Nat → Int32) (pile : Nat → Int32) {G : Int32 × (Nat → Int32)} :
    ∀ (n : Nat) (truth : Nat → Int32) (x1 : Int32) (x2 : Int32) (x3 : Int32) (hx1 : vp_in x1 80) (h0 : 0 ≤ x3.toInt) (h1 : x3.toInt ≤ 64) (hn : 65 ≤ x3.toInt + n) (hf : pz_F formulas kind left right) (H : Heap) (locs : List Loc) (ls : Array Slot), G = F_X4_truths_15 n formulas kind left right truth x1 x2 x3 → va_P D vwCl (pz_M q k formulas kind left right height laid rules ps qs rs fs checked stopped reason made opened ruleThen heads boxOf shutBy around inner truth turned pile) H → va_S (pz_A 19 q) s.heap H locs → lv_has ls 4 [(0, .ref (q 0)), (1, .int (x1)), (2, .int (x2)), (3, .int (x3))] → W p l e (headSpec wsX4_truths { frames := 2, cells := 0, slots := 0, locals := 43 }).room s m args below meth c H locs 0 0 (MQ below (va_Qi (fun r (u : (Nat → Int32)) => (r, u) = G) (fun u t => va_P D vwCl (pz_M q k formulas kind left right height laid rules ps qs rs fs checked stopped reason made opened ruleThen heads boxOf shutBy around inner u turned pile) t.heap) (pz_A 19 q)) args s 0 0 (pz_A 19 q)) (F0 m 15 ls []) := by
  obtain ⟨hx, hb, hml, hown, hts, hr, hlocks⟩ := hC
  have hC : pz_C p s m args meth c cX4_truths wsX4_truths RX4 4 (some .int) := ⟨hx, hb, hml, hown, hts, hr, hlocks⟩
  have hK := hKX.1
  intro n
  induction n with
  | zero =>
    intro truth x1 x2 x3 hx1 h0 h1 hn hf H locs ls hF hP hS hl
    exact absurd hn (by omega)
  | succ n ih =>
    intro truth x1 x2 x3 hx1 h0 h1 hn hf H locs ls hF hP hS hl
    unfold F_X4_truths_15 at hF
    refine lv_iload_n hx hb dX4_truths_15 rfl (lv_at hl 3 rfl) ?_
    refine lv_bipush (v := 64) hx hb dX4_truths_16 (by decide) ?_
    refine lv_icmp_ge (tgt := 49) hx hb dX4_truths_18 (by decide) (fun c_1 => ?_) (fun c_1 => ?_)
    · have hF := hF.trans (if_pos c_1)
      refine lv_iload_n hx hb dX4_truths_49 rfl (lv_at hl 2 rfl) ?_
      exact W.iret (v := x2) hx hb hr (fun t ht hW => ⟨⟨x2, truth, rfl, hF.symm, pz_hp ht hP⟩, hS.F ht⟩) hS.2.2 dX4_truths_50 hlocks
    · have hF := hF.trans (if_neg c_1)
      refine lv_aload_n hx hb dX4_truths_21 rfl (lv_at hl 0 rfl) ?_
      refine lv_iload_n hx hb dX4_truths_22 rfl (lv_at hl 3 rfl) ?_
      refine pz_Vv (As := [.int (x3)]) (rest := []) ⟨hx, hb, hml, hown, hts⟩ (c_X4_evaluate l D q k formulas kind left right height laid rules ps qs rs fs checked stopped reason made opened ruleThen heads boxOf shutBy around inner truth turned pile x3 hf) (cwV 1 hts gX4_truths_X4_evaluate rfl rfl rfl hdV_X4_evaluate ⟨Nat.le_of_ble_eq_true rfl, Nat.le_of_ble_eq_true rfl⟩) pz_KM.call hKX.go (va_recv hK hP (ci := 4) (q0 := 0) rfl rfl) hP hS rfl hl.1 rfl (Nat.le_of_ble_eq_true rfl) dX4_truths_23 ⟨Nat.zero_le _, Nat.zero_le _⟩ (fun u_2 H locs hF_2 hP hS => ?_)
      obtain ⟨w_2_truth, rfl⟩ : ∃ z, z = u_2 := ⟨_, rfl⟩
      have hP : va_P D vwCl (pz_M q k formulas kind left right height laid rules ps qs rs fs checked stopped reason made opened ruleThen heads boxOf shutBy around inner w_2_truth turned pile) H := hP
      have hF := hF.trans (pz_be hF_2)
      try dsimp only at hF
      refine lv_iload_n hx hb dX4_truths_26 rfl (lv_at hl 2 rfl) ?_
      refine lv_aload_n hx hb dX4_truths_27 rfl (lv_at hl 0 rfl) ?_
      refine va_get (D := D) (ci := 4) (v := .ref (q 16)) (C := RX4) (T := TX4) (N := 25) hx hb hts in_X4_truths_X4 hown hK hP 0 rfl rfl 22 (by decide) (hts _ fl_X4_truths_56) (fun _ h9 => h9) rfl dX4_truths_28 ?_
      refine lv_iload_n hx hb dX4_truths_31 rfl (lv_at hl 1 rfl) ?_
      have hi_3 : vp_in x1 80 := hx1
      refine va_zald hx hb hK hP 16 2 rfl rfl hi_3 dX4_truths_32 ?_
      refine lv_if_eq (tgt := 40) hx hb dX4_truths_33 (by decide) (fun c_4 => ?_) (fun c_4 => ?_)
      · have hF := hF.trans (if_pos c_4)
        refine lv_iconst (v := 0) hx hb dX4_truths_40 (by decide) ?_
        refine lv_iadd hx hb dX4_truths_41 ?_
        refine lv_istore_n (lv' := [(2, .int ((x2 + 0))), (0, .ref (q 0)), (1, .int (x1)), (3, .int (x3))]) hx hb dX4_truths_42 rfl hl (by decide) rfl (fun ls hl => ?_)
        refine lv_iinc (v := (x3 + 1)) (lv' := [(3, .int ((x3 + 1))), (2, .int ((x2 + 0))), (0, .ref (q 0)), (1, .int (x1))]) hx hb dX4_truths_43 hl (k := 3) rfl rfl (by decide) rfl (fun ls hl => ?_)
        refine lv_goto (tgt := 15) hx hb dX4_truths_46 (by decide) ?_
        exact ih w_2_truth x1 (x2 + 0) (x3 + 1) hx1 (by have e := pz_upk (N := 64) ‹¬ (64 : Int32) ≤ x3› rfl (by decide); omega) (by have e := pz_upk (N := 64) ‹¬ (64 : Int32) ≤ x3› rfl (by decide); omega) (by have e := pz_upk (N := 64) ‹¬ (64 : Int32) ≤ x3› rfl (by decide); omega) hf _ _ _ hF hP hS (lv_sub hl [2, 3, 1, 0] rfl)
      · have hF := hF.trans (if_neg c_4)
        refine lv_iconst (v := 1) hx hb dX4_truths_36 (by decide) ?_
        refine lv_goto (tgt := 41) hx hb dX4_truths_37 (by decide) ?_
        refine lv_iadd hx hb dX4_truths_41 ?_
        refine lv_istore_n (lv' := [(2, .int ((x2 + 1))), (0, .ref (q 0)), (1, .int (x1)), (3, .int (x3))]) hx hb dX4_truths_42 rfl hl (by decide) rfl (fun ls hl => ?_)
        refine lv_iinc (v := (x3 + 1)) (lv' := [(3, .int ((x3 + 1))), (2, .int ((x2 + 1))), (0, .ref (q 0)), (1, .int (x1))]) hx hb dX4_truths_43 hl (k := 3) rfl rfl (by decide) rfl (fun ls hl => ?_)
        refine lv_goto (tgt := 15) hx hb dX4_truths_46 (by decide) ?_
        exact ih w_2_truth x1 (x2 + 1) (x3 + 1) hx1 (by have e := pz_upk (N := 64) ‹¬ (64 : Int32) ≤ x3› rfl (by decide); omega) (by have e := pz_upk (N := 64) ‹¬ (64 : Int32) ≤ x3› rfl (by decide); omega) (by have e := pz_upk (N := 64) ‹¬ (64 : Int32) ≤ x3› rfl (by decide); omega) hf _ _ _ hF hP hS (lv_sub hl [2, 3, 1, 0] rfl)
set_option maxHeartbeats 4000000 in
set_option maxRecDepth 100000 in
theorem c_X4_truths (l : Launch) (D : va_G) (q : Nat → Nat) (k : Nat → ClassId) (formulas : Int32) (kind : Nat → Int32) (left : Nat → Int32) (right : Nat → Int32) (height : Nat → Int32) (laid : Nat → Int32) (rules : Nat → Int32) (ps : Nat → Int32) (qs : Nat → Int32) (rs : Nat → Int32) (fs : Nat → Int32) (checked : Int32) (stopped : Int32) (reason : Int32) (made : Int32) (opened : Int32) (ruleThen : Nat → Int32) (heads : Nat → Int32) (boxOf : Nat → Int32) (shutBy : Nat → Int32) (around : Nat → Int32) (inner : Int32) (truth : Nat → Int32) (turned : Nat → Int32) (pile : Nat → Int32) (x1 : Int32) (hf : pz_F formulas kind left right) : Met l yX4_truths wsX4_truths ({ frames := 2, cells := 0, slots := 0, locals := 43 }) (va_Pc [.ref (q 0), .int (x1)] (fun U => va_P D vwCl (pz_M q k formulas kind left right height laid rules ps qs rs fs checked stopped reason made opened ruleThen heads boxOf shutBy around inner truth turned pile) U.heap ∧ pz_KM D q k U)) (va_Qi (fun r (u : (Nat → Int32)) => (r, u) = (f_X4_truths formulas kind left right truth x1)) (fun u t => va_P D vwCl (pz_M q k formulas kind left right height laid rules ps qs rs fs checked stopped reason made opened ruleThen heads boxOf shutBy around inner u turned pile) t.heap) (pz_A 19 q)) 0 0 (pz_A 19 q) := by
  refine Met.ofW (cc := cX4_truths) (maxL := 4) (ret := (some .int)) (by decide) rfl ?_
  intro p e s m args below meth c s₁ B hml hv
  obtain ⟨rfl, hP, hKX⟩ := hv
  have hx := B.exec
  have hb := B.bytes
  have hr := B.returns
  have hts := atoms_spec (ws := wsX4_truths) B.pre
  have hown : s.vm.findClass RX4 = some m.cls := findClass_of_methodNamed B.named
  have hlocks := B.notSynchronized
  have hC : pz_C p s m ([.ref (q 0), .int (x1)] : List Value).toArray meth c cX4_truths wsX4_truths RX4 4 (some .int) := ⟨hx, hb, hml, hown, hts, hr, hlocks⟩
  have hK := hKX.1
  have hS : va_S (pz_A 19 q) s.heap s.heap [] := va_S.rf
  have hl := lv_entry [.ref (q 0), .int (x1)] (n := 4) (Nat.le_of_ble_eq_true rfl)
  rw [lg_entry_eq]
  generalize (lg_sl [.ref (q 0), .int (x1)] ++ List.replicate (4 - (lg_sl [.ref (q 0), .int (x1)]).length) Slot.unset).toArray = ls at hl ⊢
  have hl : lv_has ls 4 [(0, .ref (q 0)), (1, .int (x1))] := hl
  generalize hF : f_X4_truths formulas kind left right truth x1 = G
  replace hF := hF.symm
  unfold f_X4_truths at hF
  refine lv_aload_n hx hb dX4_truths_0 rfl (lv_at hl 0 rfl) ?_
  refine lv_iload_n hx hb dX4_truths_1 rfl (lv_at hl 1 rfl) ?_
  refine pz_Vi (As := [.int (x1)]) (rest := []) ⟨hx, hb, hml, hown, hts⟩ (c_X4_isFormula l D q k formulas kind left right height laid rules ps qs rs fs checked stopped reason made opened ruleThen heads boxOf shutBy around inner truth turned pile x1) (cwV 1 hts gX4_truths_X4_isFormula rfl rfl rfl hdV_X4_isFormula ⟨Nat.le_of_ble_eq_true rfl, Nat.le_of_ble_eq_true rfl⟩) pz_KM.call hKX.go (va_recv hK hP (ci := 4) (q0 := 0) rfl rfl) hP hS rfl hl.1 rfl (Nat.le_of_ble_eq_true rfl) dX4_truths_2 ⟨Nat.zero_le _, Nat.zero_le _⟩ (fun r_5 u_5 H locs hF_5 hP hS => ?_)
  have hF := hF.trans (pz_be hF_5)
  refine lv_if_ne (tgt := 11) hx hb dX4_truths_5 (by decide) (fun c_6 => ?_) (fun c_6 => ?_)
  · have hF := hF.trans (if_neg c_6)
    refine lv_iconst (v := 0) hx hb dX4_truths_11 (by decide) ?_
    refine lv_istore_n (lv' := [(2, .int (0)), (0, .ref (q 0)), (1, .int (x1))]) hx hb dX4_truths_12 rfl hl (by decide) rfl (fun ls hl => ?_)
    refine lv_iconst (v := 0) hx hb dX4_truths_13 (by decide) ?_
    refine lv_istore_n (lv' := [(3, .int (0)), (2, .int (0)), (0, .ref (q 0)), (1, .int (x1))]) hx hb dX4_truths_14 rfl hl (by decide) rfl (fun ls hl => ?_)
    exact k_X4_truths_15 hC hKX formulas kind left right height laid rules ps qs rs fs checked stopped reason made opened ruleThen heads boxOf shutBy around inner turned pile 65 truth x1 0 0 (pz_isFin hf.1 ‹_› ‹_›) (by decide) (by decide) (by decide) hf _ _ _ hF hP hS (lv_sub hl [2, 3, 1, 0] rfl)
  · have hF := hF.trans (if_pos c_6)
    refine lv_bipush (v := (-2)) hx hb dX4_truths_8 (by decide) ?_
    exact W.iret (v := (-2)) hx hb hr (fun t ht hW => ⟨⟨(-2), truth, rfl, hF.symm, pz_hp ht hP⟩, hS.F ht⟩) hS.2.2 dX4_truths_10 hlocks

-- == X4_formulas
def f_X4_formulas (formulas : Int32) : Int32 := formulas
theorem fl_X4_formulas_65 : Cond.fieldLink RX4 65 "BoxProofsModel" "formulas" "I" ∈ wsX4_formulas := by decide +kernel
theorem in_X4_formulas_X4 : ∀ w ∈ wsX40, w ∈ wsX4_formulas := by decide +kernel
set_option maxHeartbeats 4000000 in
set_option maxRecDepth 100000 in
theorem c_X4_formulas (l : Launch) (D : va_G) (q : Nat → Nat) (k : Nat → ClassId) (formulas : Int32) (kind : Nat → Int32) (left : Nat → Int32) (right : Nat → Int32) (height : Nat → Int32) (laid : Nat → Int32) (rules : Nat → Int32) (ps : Nat → Int32) (qs : Nat → Int32) (rs : Nat → Int32) (fs : Nat → Int32) (checked : Int32) (stopped : Int32) (reason : Int32) (made : Int32) (opened : Int32) (ruleThen : Nat → Int32) (heads : Nat → Int32) (boxOf : Nat → Int32) (shutBy : Nat → Int32) (around : Nat → Int32) (inner : Int32) (truth : Nat → Int32) (turned : Nat → Int32) (pile : Nat → Int32)   : Met l yX4_formulas wsX4_formulas ({ frames := 0, cells := 0, slots := 0, locals := 0 }) (va_Pc [.ref (q 0)] (fun U => va_P D vwCl (pz_M q k formulas kind left right height laid rules ps qs rs fs checked stopped reason made opened ruleThen heads boxOf shutBy around inner truth turned pile) U.heap ∧ pz_KM D q k U)) (va_Qi (fun r (_ : Unit) => r = (f_X4_formulas formulas)) (fun _ t => va_P D vwCl (pz_M q k formulas kind left right height laid rules ps qs rs fs checked stopped reason made opened ruleThen heads boxOf shutBy around inner truth turned pile) t.heap) (pz_A 19 q)) 0 0 (pz_A 19 q) := by
  refine Met.ofW (cc := cX4_formulas) (maxL := 1) (ret := (some .int)) (by decide) rfl ?_
  intro p e s m args below meth c s₁ B hml hv
  obtain ⟨rfl, hP, hKX⟩ := hv
  have hx := B.exec
  have hb := B.bytes
  have hr := B.returns
  have hts := atoms_spec (ws := wsX4_formulas) B.pre
  have hown : s.vm.findClass RX4 = some m.cls := findClass_of_methodNamed B.named
  have hlocks := B.notSynchronized
  have hC : pz_C p s m ([.ref (q 0)] : List Value).toArray meth c cX4_formulas wsX4_formulas RX4 1 (some .int) := ⟨hx, hb, hml, hown, hts, hr, hlocks⟩
  have hK := hKX.1
  have hS : va_S (pz_A 19 q) s.heap s.heap [] := va_S.rf
  have hl := lv_entry [.ref (q 0)] (n := 1) (Nat.le_of_ble_eq_true rfl)
  rw [lg_entry_eq]
  generalize (lg_sl [.ref (q 0)] ++ List.replicate (1 - (lg_sl [.ref (q 0)]).length) Slot.unset).toArray = ls at hl ⊢
  have hl : lv_has ls 1 [(0, .ref (q 0))] := hl
  generalize hF : f_X4_formulas formulas = G
  replace hF := hF.symm
  unfold f_X4_formulas at hF
  refine lv_aload_n hx hb dX4_formulas_0 rfl (lv_at hl 0 rfl) ?_
  refine va_get (D := D) (ci := 4) (v := .int (formulas)) (C := RX4) (T := TX4) (N := 25) hx hb hts in_X4_formulas_X4 hown hK hP 0 rfl rfl 0 (by decide) (hts _ fl_X4_formulas_65) (fun _ h9 => h9) rfl dX4_formulas_1 ?_
  exact W.iret (v := formulas) hx hb hr (fun t ht hW => ⟨⟨formulas, (), rfl, hF.symm, pz_hp ht hP⟩, hS.F ht⟩) hS.2.2 dX4_formulas_4 hlocks

-- == X4_lay
def f_X4_lay (laid : Nat → Int32) (rules : Nat → Int32) (ps : Nat → Int32) (qs : Nat → Int32) (rs : Nat → Int32) (fs : Nat → Int32) (x1 : Int32) (x2 : Int32) (x3 : Int32) (x4 : Int32) (x5 : Int32) (x6 : Int32) : Int32 × (Nat → Int32) × (Nat → Int32) × (Nat → Int32) × (Nat → Int32) × (Nat → Int32) × (Nat → Int32) := pz_bnd (f_X4_isLine x1) (fun z_1 => if z_1 = 0 then (((-3), laid, rules, ps, qs, rs, fs)) else (if (laid (x1).toNatClampNeg) = 0 then ((1, (upd laid (x1).toNatClampNeg 1), (upd rules (x1).toNatClampNeg x2), (upd ps (x1).toNatClampNeg x3), (upd qs (x1).toNatClampNeg x4), (upd rs (x1).toNatClampNeg x5), (upd fs (x1).toNatClampNeg x6))) else ((0, (upd laid (x1).toNatClampNeg 1), (upd rules (x1).toNatClampNeg x2), (upd ps (x1).toNatClampNeg x3), (upd qs (x1).toNatClampNeg x4), (upd rs (x1).toNatClampNeg x5), (upd fs (x1).toNatClampNeg x6)))))
theorem fl_X4_lay_22 : Cond.fieldLink RX4 22 "BoxProofsModel" "laid" "[Z" ∈ wsX4_lay := by decide +kernel
theorem fl_X4_lay_26 : Cond.fieldLink RX4 26 "BoxProofsModel" "rules" "[I" ∈ wsX4_lay := by decide +kernel
theorem fl_X4_lay_29 : Cond.fieldLink RX4 29 "BoxProofsModel" "ps" "[I" ∈ wsX4_lay := by decide +kernel
theorem fl_X4_lay_32 : Cond.fieldLink RX4 32 "BoxProofsModel" "qs" "[I" ∈ wsX4_lay := by decide +kernel
theorem fl_X4_lay_35 : Cond.fieldLink RX4 35 "BoxProofsModel" "rs" "[I" ∈ wsX4_lay := by decide +kernel
theorem fl_X4_lay_38 : Cond.fieldLink RX4 38 "BoxProofsModel" "fs" "[I" ∈ wsX4_lay := by decide +kernel
theorem hdS_X4_isLine : yX4_isLine.cls ≠ "java/lang/invoke/MethodHandle" ∧ yX4_isLine.cls ≠ "java/lang/invoke/VarHandle" ∧ (parseMethodDescriptor yX4_isLine.desc).map (fun d => d.parameters.length) = some 1 := by decide +kernel
theorem in_X4_lay_X4 : ∀ w ∈ wsX40, w ∈ wsX4_lay := by decide +kernel
set_option maxHeartbeats 4000000 in
set_option maxRecDepth 100000 in
theorem c_X4_lay (l : Launch) (D : va_G) (q : Nat → Nat) (k : Nat → ClassId) (formulas : Int32) (kind : Nat → Int32) (left : Nat → Int32) (right : Nat → Int32) (height : Nat → Int32) (laid : Nat → Int32) (rules : Nat → Int32) (ps : Nat → Int32) (qs : Nat → Int32) (rs : Nat → Int32) (fs : Nat → Int32) (checked : Int32) (stopped : Int32) (reason : Int32) (made : Int32) (opened : Int32) (ruleThen : Nat → Int32) (heads : Nat → Int32) (boxOf : Nat → Int32) (shutBy : Nat → Int32) (around : Nat → Int32) (inner : Int32) (truth : Nat → Int32) (turned : Nat → Int32) (pile : Nat → Int32) (x1 : Int32) (x2 : Int32) (x3 : Int32) (x4 : Int32) (x5 : Int32) (x6 : Int32)  : Met l yX4_lay wsX4_lay ({ frames := 2, cells := 0, slots := 0, locals := 42 }) (va_Pc [.ref (q 0), .int (x1), .int (x2), .int (x3), .int (x4), .int (x5), .int (x6)] (fun U => va_P D vwCl (pz_M q k formulas kind left right height laid rules ps qs rs fs checked stopped reason made opened ruleThen heads boxOf shutBy around inner truth turned pile) U.heap ∧ pz_KM D q k U)) (va_Qi (fun r (u : (Nat → Int32) × (Nat → Int32) × (Nat → Int32) × (Nat → Int32) × (Nat → Int32) × (Nat → Int32)) => (r, u) = (f_X4_lay laid rules ps qs rs fs x1 x2 x3 x4 x5 x6)) (fun u t => va_P D vwCl (pz_M q k formulas kind left right height u.1 u.2.1 u.2.2.1 u.2.2.2.1 u.2.2.2.2.1 u.2.2.2.2.2 checked stopped reason made opened ruleThen heads boxOf shutBy around inner truth turned pile) t.heap) (pz_A 19 q)) 0 0 (pz_A 19 q) := by
  refine Met.ofW (cc := cX4_lay) (maxL := 8) (ret := (some .int)) (by decide) rfl ?_
  intro p e s m args below meth c s₁ B hml hv
  obtain ⟨rfl, hP, hKX⟩ := hv
  have hx := B.exec
  have hb := B.bytes
  have hr := B.returns
  have hts := atoms_spec (ws := wsX4_lay) B.pre
  have hown : s.vm.findClass RX4 = some m.cls := findClass_of_methodNamed B.named
  have hlocks := B.notSynchronized
  have hC : pz_C p s m ([.ref (q 0), .int (x1), .int (x2), .int (x3), .int (x4), .int (x5), .int (x6)] : List Value).toArray meth c cX4_lay wsX4_lay RX4 8 (some .int) := ⟨hx, hb, hml, hown, hts, hr, hlocks⟩
  have hK := hKX.1
  have hS : va_S (pz_A 19 q) s.heap s.heap [] := va_S.rf
  have hl := lv_entry [.ref (q 0), .int (x1), .int (x2), .int (x3), .int (x4), .int (x5), .int (x6)] (n := 8) (Nat.le_of_ble_eq_true rfl)
  rw [lg_entry_eq]
  generalize (lg_sl [.ref (q 0), .int (x1), .int (x2), .int (x3), .int (x4), .int (x5), .int (x6)] ++ List.replicate (8 - (lg_sl [.ref (q 0), .int (x1), .int (x2), .int (x3), .int (x4), .int (x5), .int (x6)]).length) Slot.unset).toArray = ls at hl ⊢
  have hl : lv_has ls 8 [(0, .ref (q 0)), (1, .int (x1)), (2, .int (x2)), (3, .int (x3)), (4, .int (x4)), (5, .int (x5)), (6, .int (x6))] := hl
  generalize hF : f_X4_lay laid rules ps qs rs fs x1 x2 x3 x4 x5 x6 = G
  replace hF := hF.symm
  unfold f_X4_lay at hF
  refine lv_iload_n hx hb dX4_lay_0 rfl (lv_at hl 1 rfl) ?_
  refine pz_Si (As := [.int (x1)]) (rest := []) ⟨hx, hb, hml, hown, hts⟩ (c_X4_isLine l x1) (va_cwS 1 hts gX4_lay_X4_isLine rfl rfl rfl hdS_X4_isLine ⟨Nat.le_of_ble_eq_true rfl, Nat.le_of_ble_eq_true rfl⟩) hP hS rfl hl.1 rfl (Nat.le_of_ble_eq_true rfl) dX4_lay_1 ⟨Nat.zero_le _, Nat.zero_le _⟩ (fun r_1 H locs hF_1 hP hS => ?_)
  have hF := hF.trans (pz_be hF_1)
  refine lv_if_ne (tgt := 10) hx hb dX4_lay_4 (by decide) (fun c_2 => ?_) (fun c_2 => ?_)
  · have hF := hF.trans (if_neg c_2)
    refine lv_aload_n hx hb dX4_lay_10 rfl (lv_at hl 0 rfl) ?_
    refine va_get (D := D) (ci := 4) (v := .ref (q 5)) (C := RX4) (T := TX4) (N := 25) hx hb hts in_X4_lay_X4 hown hK hP 0 rfl rfl 5 (by decide) (hts _ fl_X4_lay_22) (fun _ h9 => h9) rfl dX4_lay_11 ?_
    refine lv_iload_n hx hb dX4_lay_14 rfl (lv_at hl 1 rfl) ?_
    have hi_3 : vp_in x1 60 := pz_lineM ‹_› ‹_›
    refine va_zald hx hb hK hP 5 2 rfl rfl hi_3 dX4_lay_15 ?_
    refine lv_if_eq (tgt := 23) hx hb dX4_lay_16 (by decide) (fun c_4 => ?_) (fun c_4 => ?_)
    · have hF := hF.trans (if_pos c_4)
      refine lv_iconst (v := 1) hx hb dX4_lay_23 (by decide) ?_
      refine lv_istore (lv' := [(7, .int (1)), (0, .ref (q 0)), (1, .int (x1)), (2, .int (x2)), (3, .int (x3)), (4, .int (x4)), (5, .int (x5)), (6, .int (x6))]) hx hb dX4_lay_24 hl (by decide) rfl (fun ls hl => ?_)
      refine lv_aload_n hx hb dX4_lay_26 rfl (lv_at hl 1 rfl) ?_
      refine va_get (D := D) (ci := 4) (v := .ref (q 5)) (C := RX4) (T := TX4) (N := 25) hx hb hts in_X4_lay_X4 hown hK hP 0 rfl rfl 5 (by decide) (hts _ fl_X4_lay_22) (fun _ h9 => h9) rfl dX4_lay_27 ?_
      refine lv_iload_n hx hb dX4_lay_30 rfl (lv_at hl 2 rfl) ?_
      refine lv_iconst (v := 1) hx hb dX4_lay_31 (by decide) ?_
      have hi_5 : vp_in x1 60 := pz_lineM ‹_› ‹_›
      refine va_zast hx hb hK hP (pz_D hKX.2 rfl) hS 5 2 rfl rfl hi_5 dX4_lay_32 (fun H locs hP _ hS => ?_)
      have hP : va_P D vwCl (pz_M q k formulas kind left right height (upd laid (x1).toNatClampNeg 1) rules ps qs rs fs checked stopped reason made opened ruleThen heads boxOf shutBy around inner truth turned pile) H := hP
      refine lv_aload_n hx hb dX4_lay_33 rfl (lv_at hl 1 rfl) ?_
      refine va_get (D := D) (ci := 4) (v := .ref (q 6)) (C := RX4) (T := TX4) (N := 25) hx hb hts in_X4_lay_X4 hown hK hP 0 rfl rfl 6 (by decide) (hts _ fl_X4_lay_26) (fun _ h9 => h9) rfl dX4_lay_34 ?_
      refine lv_iload_n hx hb dX4_lay_37 rfl (lv_at hl 2 rfl) ?_
      refine lv_iload_n hx hb dX4_lay_38 rfl (lv_at hl 3 rfl) ?_
      have hi_6 : vp_in x1 60 := pz_lineM ‹_› ‹_›
      refine va_iast hx hb hK hP (pz_D hKX.2 rfl) hS 6 0 rfl rfl hi_6 dX4_lay_39 (fun H locs hP _ hS => ?_)
      have hP : va_P D vwCl (pz_M q k formulas kind left right height (upd laid (x1).toNatClampNeg 1) (upd rules (x1).toNatClampNeg x2) ps qs rs fs checked stopped reason made opened ruleThen heads boxOf shutBy around inner truth turned pile) H := hP
      refine lv_aload_n hx hb dX4_lay_40 rfl (lv_at hl 1 rfl) ?_
      refine va_get (D := D) (ci := 4) (v := .ref (q 7)) (C := RX4) (T := TX4) (N := 25) hx hb hts in_X4_lay_X4 hown hK hP 0 rfl rfl 7 (by decide) (hts _ fl_X4_lay_29) (fun _ h9 => h9) rfl dX4_lay_41 ?_
      refine lv_iload_n hx hb dX4_lay_44 rfl (lv_at hl 2 rfl) ?_
      refine lv_iload_n hx hb dX4_lay_45 rfl (lv_at hl 4 rfl) ?_
      have hi_7 : vp_in x1 60 := pz_lineM ‹_› ‹_›
      refine va_iast hx hb hK hP (pz_D hKX.2 rfl) hS 7 0 rfl rfl hi_7 dX4_lay_46 (fun H locs hP _ hS => ?_)
      have hP : va_P D vwCl (pz_M q k formulas kind left right height (upd laid (x1).toNatClampNeg 1) (upd rules (x1).toNatClampNeg x2) (upd ps (x1).toNatClampNeg x3) qs rs fs checked stopped reason made opened ruleThen heads boxOf shutBy around inner truth turned pile) H := hP
      refine lv_aload_n hx hb dX4_lay_47 rfl (lv_at hl 1 rfl) ?_
      refine va_get (D := D) (ci := 4) (v := .ref (q 8)) (C := RX4) (T := TX4) (N := 25) hx hb hts in_X4_lay_X4 hown hK hP 0 rfl rfl 8 (by decide) (hts _ fl_X4_lay_32) (fun _ h9 => h9) rfl dX4_lay_48 ?_
      refine lv_iload_n hx hb dX4_lay_51 rfl (lv_at hl 2 rfl) ?_
      refine lv_iload hx hb dX4_lay_52 (lv_at hl 5 rfl) ?_
      have hi_8 : vp_in x1 60 := pz_lineM ‹_› ‹_›
      refine va_iast hx hb hK hP (pz_D hKX.2 rfl) hS 8 0 rfl rfl hi_8 dX4_lay_54 (fun H locs hP _ hS => ?_)
      have hP : va_P D vwCl (pz_M q k formulas kind left right height (upd laid (x1).toNatClampNeg 1) (upd rules (x1).toNatClampNeg x2) (upd ps (x1).toNatClampNeg x3) (upd qs (x1).toNatClampNeg x4) rs fs checked stopped reason made opened ruleThen heads boxOf shutBy around inner truth turned pile) H := hP
      refine lv_aload_n hx hb dX4_lay_55 rfl (lv_at hl 1 rfl) ?_
      refine va_get (D := D) (ci := 4) (v := .ref (q 9)) (C := RX4) (T := TX4) (N := 25) hx hb hts in_X4_lay_X4 hown hK hP 0 rfl rfl 9 (by decide) (hts _ fl_X4_lay_35) (fun _ h9 => h9) rfl dX4_lay_56 ?_
      refine lv_iload_n hx hb dX4_lay_59 rfl (lv_at hl 2 rfl) ?_
      refine lv_iload hx hb dX4_lay_60 (lv_at hl 6 rfl) ?_
      have hi_9 : vp_in x1 60 := pz_lineM ‹_› ‹_›
      refine va_iast hx hb hK hP (pz_D hKX.2 rfl) hS 9 0 rfl rfl hi_9 dX4_lay_62 (fun H locs hP _ hS => ?_)
      have hP : va_P D vwCl (pz_M q k formulas kind left right height (upd laid (x1).toNatClampNeg 1) (upd rules (x1).toNatClampNeg x2) (upd ps (x1).toNatClampNeg x3) (upd qs (x1).toNatClampNeg x4) (upd rs (x1).toNatClampNeg x5) fs checked stopped reason made opened ruleThen heads boxOf shutBy around inner truth turned pile) H := hP
      refine lv_aload_n hx hb dX4_lay_63 rfl (lv_at hl 1 rfl) ?_
      refine va_get (D := D) (ci := 4) (v := .ref (q 10)) (C := RX4) (T := TX4) (N := 25) hx hb hts in_X4_lay_X4 hown hK hP 0 rfl rfl 10 (by decide) (hts _ fl_X4_lay_38) (fun _ h9 => h9) rfl dX4_lay_64 ?_
      refine lv_iload_n hx hb dX4_lay_67 rfl (lv_at hl 2 rfl) ?_
      refine lv_iload hx hb dX4_lay_68 (lv_at hl 7 rfl) ?_
      have hi_10 : vp_in x1 60 := pz_lineM ‹_› ‹_›
      refine va_iast hx hb hK hP (pz_D hKX.2 rfl) hS 10 0 rfl rfl hi_10 dX4_lay_70 (fun H locs hP _ hS => ?_)
      have hP : va_P D vwCl (pz_M q k formulas kind left right height (upd laid (x1).toNatClampNeg 1) (upd rules (x1).toNatClampNeg x2) (upd ps (x1).toNatClampNeg x3) (upd qs (x1).toNatClampNeg x4) (upd rs (x1).toNatClampNeg x5) (upd fs (x1).toNatClampNeg x6) checked stopped reason made opened ruleThen heads boxOf shutBy around inner truth turned pile) H := hP
      refine lv_iload hx hb dX4_lay_71 (lv_at hl 0 rfl) ?_
      exact W.iret (v := 1) hx hb hr (fun t ht hW => ⟨⟨1, ((upd laid (x1).toNatClampNeg 1), (upd rules (x1).toNatClampNeg x2), (upd ps (x1).toNatClampNeg x3), (upd qs (x1).toNatClampNeg x4), (upd rs (x1).toNatClampNeg x5), (upd fs (x1).toNatClampNeg x6)), rfl, hF.symm, pz_hp ht hP⟩, hS.F ht⟩) hS.2.2 dX4_lay_73 hlocks
    · have hF := hF.trans (if_neg c_4)
      refine lv_iconst (v := 0) hx hb dX4_lay_19 (by decide) ?_
      refine lv_goto (tgt := 24) hx hb dX4_lay_20 (by decide) ?_
      refine lv_istore (lv' := [(7, .int (0)), (0, .ref (q 0)), (1, .int (x1)), (2, .int (x2)), (3, .int (x3)), (4, .int (x4)), (5, .int (x5)), (6, .int (x6))]) hx hb dX4_lay_24 hl (by decide) rfl (fun ls hl => ?_)
      refine lv_aload_n hx hb dX4_lay_26 rfl (lv_at hl 1 rfl) ?_
      refine va_get (D := D) (ci := 4) (v := .ref (q 5)) (C := RX4) (T := TX4) (N := 25) hx hb hts in_X4_lay_X4 hown hK hP 0 rfl rfl 5 (by decide) (hts _ fl_X4_lay_22) (fun _ h9 => h9) rfl dX4_lay_27 ?_
      refine lv_iload_n hx hb dX4_lay_30 rfl (lv_at hl 2 rfl) ?_
      refine lv_iconst (v := 1) hx hb dX4_lay_31 (by decide) ?_
      have hi_11 : vp_in x1 60 := pz_lineM ‹_› ‹_›
      refine va_zast hx hb hK hP (pz_D hKX.2 rfl) hS 5 2 rfl rfl hi_11 dX4_lay_32 (fun H locs hP _ hS => ?_)
      have hP : va_P D vwCl (pz_M q k formulas kind left right height (upd laid (x1).toNatClampNeg 1) rules ps qs rs fs checked stopped reason made opened ruleThen heads boxOf shutBy around inner truth turned pile) H := hP
      refine lv_aload_n hx hb dX4_lay_33 rfl (lv_at hl 1 rfl) ?_
      refine va_get (D := D) (ci := 4) (v := .ref (q 6)) (C := RX4) (T := TX4) (N := 25) hx hb hts in_X4_lay_X4 hown hK hP 0 rfl rfl 6 (by decide) (hts _ fl_X4_lay_26) (fun _ h9 => h9) rfl dX4_lay_34 ?_
      refine lv_iload_n hx hb dX4_lay_37 rfl (lv_at hl 2 rfl) ?_
      refine lv_iload_n hx hb dX4_lay_38 rfl (lv_at hl 3 rfl) ?_
      have hi_12 : vp_in x1 60 := pz_lineM ‹_› ‹_›
      refine va_iast hx hb hK hP (pz_D hKX.2 rfl) hS 6 0 rfl rfl hi_12 dX4_lay_39 (fun H locs hP _ hS => ?_)
      have hP : va_P D vwCl (pz_M q k formulas kind left right height (upd laid (x1).toNatClampNeg 1) (upd rules (x1).toNatClampNeg x2) ps qs rs fs checked stopped reason made opened ruleThen heads boxOf shutBy around inner truth turned pile) H := hP
      refine lv_aload_n hx hb dX4_lay_40 rfl (lv_at hl 1 rfl) ?_
      refine va_get (D := D) (ci := 4) (v := .ref (q 7)) (C := RX4) (T := TX4) (N := 25) hx hb hts in_X4_lay_X4 hown hK hP 0 rfl rfl 7 (by decide) (hts _ fl_X4_lay_29) (fun _ h9 => h9) rfl dX4_lay_41 ?_
      refine lv_iload_n hx hb dX4_lay_44 rfl (lv_at hl 2 rfl) ?_
      refine lv_iload_n hx hb dX4_lay_45 rfl (lv_at hl 4 rfl) ?_
      have hi_13 : vp_in x1 60 := pz_lineM ‹_› ‹_›
      refine va_iast hx hb hK hP (pz_D hKX.2 rfl) hS 7 0 rfl rfl hi_13 dX4_lay_46 (fun H locs hP _ hS => ?_)
      have hP : va_P D vwCl (pz_M q k formulas kind left right height (upd laid (x1).toNatClampNeg 1) (upd rules (x1).toNatClampNeg x2) (upd ps (x1).toNatClampNeg x3) qs rs fs checked stopped reason made opened ruleThen heads boxOf shutBy around inner truth turned pile) H := hP
      refine lv_aload_n hx hb dX4_lay_47 rfl (lv_at hl 1 rfl) ?_
      refine va_get (D := D) (ci := 4) (v := .ref (q 8)) (C := RX4) (T := TX4) (N := 25) hx hb hts in_X4_lay_X4 hown hK hP 0 rfl rfl 8 (by decide) (hts _ fl_X4_lay_32) (fun _ h9 => h9) rfl dX4_lay_48 ?_
      refine lv_iload_n hx hb dX4_lay_51 rfl (lv_at hl 2 rfl) ?_
      refine lv_iload hx hb dX4_lay_52 (lv_at hl 5 rfl) ?_
      have hi_14 : vp_in x1 60 := pz_lineM ‹_› ‹_›
      refine va_iast hx hb hK hP (pz_D hKX.2 rfl) hS 8 0 rfl rfl hi_14 dX4_lay_54 (fun H locs hP _ hS => ?_)
      have hP : va_P D vwCl (pz_M q k formulas kind left right height (upd laid (x1).toNatClampNeg 1) (upd rules (x1).toNatClampNeg x2) (upd ps (x1).toNatClampNeg x3) (upd qs (x1).toNatClampNeg x4) rs fs checked stopped reason made opened ruleThen heads boxOf shutBy around inner truth turned pile) H := hP
      refine lv_aload_n hx hb dX4_lay_55 rfl (lv_at hl 1 rfl) ?_
      refine va_get (D := D) (ci := 4) (v := .ref (q 9)) (C := RX4) (T := TX4) (N := 25) hx hb hts in_X4_lay_X4 hown hK hP 0 rfl rfl 9 (by decide) (hts _ fl_X4_lay_35) (fun _ h9 => h9) rfl dX4_lay_56 ?_
      refine lv_iload_n hx hb dX4_lay_59 rfl (lv_at hl 2 rfl) ?_
      refine lv_iload hx hb dX4_lay_60 (lv_at hl 6 rfl) ?_
      have hi_15 : vp_in x1 60 := pz_lineM ‹_› ‹_›
      refine va_iast hx hb hK hP (pz_D hKX.2 rfl) hS 9 0 rfl rfl hi_15 dX4_lay_62 (fun H locs hP _ hS => ?_)
      have hP : va_P D vwCl (pz_M q k formulas kind left right height (upd laid (x1).toNatClampNeg 1) (upd rules (x1).toNatClampNeg x2) (upd ps (x1).toNatClampNeg x3) (upd qs (x1).toNatClampNeg x4) (upd rs (x1).toNatClampNeg x5) fs checked stopped reason made opened ruleThen heads boxOf shutBy around inner truth turned pile) H := hP
      refine lv_aload_n hx hb dX4_lay_63 rfl (lv_at hl 1 rfl) ?_
      refine va_get (D := D) (ci := 4) (v := .ref (q 10)) (C := RX4) (T := TX4) (N := 25) hx hb hts in_X4_lay_X4 hown hK hP 0 rfl rfl 10 (by decide) (hts _ fl_X4_lay_38) (fun _ h9 => h9) rfl dX4_lay_64 ?_
      refine lv_iload_n hx hb dX4_lay_67 rfl (lv_at hl 2 rfl) ?_
      refine lv_iload hx hb dX4_lay_68 (lv_at hl 7 rfl) ?_
      have hi_16 : vp_in x1 60 := pz_lineM ‹_› ‹_›
      refine va_iast hx hb hK hP (pz_D hKX.2 rfl) hS 10 0 rfl rfl hi_16 dX4_lay_70 (fun H locs hP _ hS => ?_)
      have hP : va_P D vwCl (pz_M q k formulas kind left right height (upd laid (x1).toNatClampNeg 1) (upd rules (x1).toNatClampNeg x2) (upd ps (x1).toNatClampNeg x3) (upd qs (x1).toNatClampNeg x4) (upd rs (x1).toNatClampNeg x5) (upd fs (x1).toNatClampNeg x6) checked stopped reason made opened ruleThen heads boxOf shutBy around inner truth turned pile) H := hP
      refine lv_iload hx hb dX4_lay_71 (lv_at hl 0 rfl) ?_
      exact W.iret (v := 0) hx hb hr (fun t ht hW => ⟨⟨0, ((upd laid (x1).toNatClampNeg 1), (upd rules (x1).toNatClampNeg x2), (upd ps (x1).toNatClampNeg x3), (upd qs (x1).toNatClampNeg x4), (upd rs (x1).toNatClampNeg x5), (upd fs (x1).toNatClampNeg x6)), rfl, hF.symm, pz_hp ht hP⟩, hS.F ht⟩) hS.2.2 dX4_lay_73 hlocks
  · have hF := hF.trans (if_pos c_2)
    refine lv_bipush (v := (-3)) hx hb dX4_lay_7 (by decide) ?_
    exact W.iret (v := (-3)) hx hb hr (fun t ht hW => ⟨⟨(-3), (laid, rules, ps, qs, rs, fs), rfl, hF.symm, pz_hp ht hP⟩, hS.F ht⟩) hS.2.2 dX4_lay_9 hlocks

-- == X4_take
def f_X4_take (laid : Nat → Int32) (x1 : Int32) : Int32 × (Nat → Int32) := pz_bnd (f_X4_isLine x1) (fun z_1 => if z_1 = 0 then (((-3), laid)) else (if (laid (x1).toNatClampNeg) = 0 then ((0, (upd laid (x1).toNatClampNeg 0))) else ((1, (upd laid (x1).toNatClampNeg 0)))))
theorem fl_X4_take_22 : Cond.fieldLink RX4 22 "BoxProofsModel" "laid" "[Z" ∈ wsX4_take := by decide +kernel
theorem in_X4_take_X4 : ∀ w ∈ wsX40, w ∈ wsX4_take := by decide +kernel
set_option maxHeartbeats 4000000 in
set_option maxRecDepth 100000 in
theorem c_X4_take (l : Launch) (D : va_G) (q : Nat → Nat) (k : Nat → ClassId) (formulas : Int32) (kind : Nat → Int32) (left : Nat → Int32) (right : Nat → Int32) (height : Nat → Int32) (laid : Nat → Int32) (rules : Nat → Int32) (ps : Nat → Int32) (qs : Nat → Int32) (rs : Nat → Int32) (fs : Nat → Int32) (checked : Int32) (stopped : Int32) (reason : Int32) (made : Int32) (opened : Int32) (ruleThen : Nat → Int32) (heads : Nat → Int32) (boxOf : Nat → Int32) (shutBy : Nat → Int32) (around : Nat → Int32) (inner : Int32) (truth : Nat → Int32) (turned : Nat → Int32) (pile : Nat → Int32) (x1 : Int32)  : Met l yX4_take wsX4_take ({ frames := 2, cells := 0, slots := 0, locals := 42 }) (va_Pc [.ref (q 0), .int (x1)] (fun U => va_P D vwCl (pz_M q k formulas kind left right height laid rules ps qs rs fs checked stopped reason made opened ruleThen heads boxOf shutBy around inner truth turned pile) U.heap ∧ pz_KM D q k U)) (va_Qi (fun r (u : (Nat → Int32)) => (r, u) = (f_X4_take laid x1)) (fun u t => va_P D vwCl (pz_M q k formulas kind left right height u rules ps qs rs fs checked stopped reason made opened ruleThen heads boxOf shutBy around inner truth turned pile) t.heap) (pz_A 19 q)) 0 0 (pz_A 19 q) := by
  refine Met.ofW (cc := cX4_take) (maxL := 3) (ret := (some .int)) (by decide) rfl ?_
  intro p e s m args below meth c s₁ B hml hv
  obtain ⟨rfl, hP, hKX⟩ := hv
  have hx := B.exec
  have hb := B.bytes
  have hr := B.returns
  have hts := atoms_spec (ws := wsX4_take) B.pre
  have hown : s.vm.findClass RX4 = some m.cls := findClass_of_methodNamed B.named
  have hlocks := B.notSynchronized
  have hC : pz_C p s m ([.ref (q 0), .int (x1)] : List Value).toArray meth c cX4_take wsX4_take RX4 3 (some .int) := ⟨hx, hb, hml, hown, hts, hr, hlocks⟩
  have hK := hKX.1
  have hS : va_S (pz_A 19 q) s.heap s.heap [] := va_S.rf
  have hl := lv_entry [.ref (q 0), .int (x1)] (n := 3) (Nat.le_of_ble_eq_true rfl)
  rw [lg_entry_eq]
  generalize (lg_sl [.ref (q 0), .int (x1)] ++ List.replicate (3 - (lg_sl [.ref (q 0), .int (x1)]).length) Slot.unset).toArray = ls at hl ⊢
  have hl : lv_has ls 3 [(0, .ref (q 0)), (1, .int (x1))] := hl
  generalize hF : f_X4_take laid x1 = G
  replace hF := hF.symm
  unfold f_X4_take at hF
  refine lv_iload_n hx hb dX4_take_0 rfl (lv_at hl 1 rfl) ?_
  refine pz_Si (As := [.int (x1)]) (rest := []) ⟨hx, hb, hml, hown, hts⟩ (c_X4_isLine l x1) (va_cwS 1 hts gX4_take_X4_isLine rfl rfl rfl hdS_X4_isLine ⟨Nat.le_of_ble_eq_true rfl, Nat.le_of_ble_eq_true rfl⟩) hP hS rfl hl.1 rfl (Nat.le_of_ble_eq_true rfl) dX4_take_1 ⟨Nat.zero_le _, Nat.zero_le _⟩ (fun r_1 H locs hF_1 hP hS => ?_)
  have hF := hF.trans (pz_be hF_1)
  refine lv_if_ne (tgt := 10) hx hb dX4_take_4 (by decide) (fun c_2 => ?_) (fun c_2 => ?_)
  · have hF := hF.trans (if_neg c_2)
    refine lv_aload_n hx hb dX4_take_10 rfl (lv_at hl 0 rfl) ?_
    refine va_get (D := D) (ci := 4) (v := .ref (q 5)) (C := RX4) (T := TX4) (N := 25) hx hb hts in_X4_take_X4 hown hK hP 0 rfl rfl 5 (by decide) (hts _ fl_X4_take_22) (fun _ h9 => h9) rfl dX4_take_11 ?_
    refine lv_iload_n hx hb dX4_take_14 rfl (lv_at hl 1 rfl) ?_
    have hi_3 : vp_in x1 60 := pz_lineM ‹_› ‹_›
    refine va_zald hx hb hK hP 5 2 rfl rfl hi_3 dX4_take_15 ?_
    refine lv_if_eq (tgt := 23) hx hb dX4_take_16 (by decide) (fun c_4 => ?_) (fun c_4 => ?_)
    · have hF := hF.trans (if_pos c_4)
      refine lv_iconst (v := 0) hx hb dX4_take_23 (by decide) ?_
      refine lv_istore_n (lv' := [(2, .int (0)), (0, .ref (q 0)), (1, .int (x1))]) hx hb dX4_take_24 rfl hl (by decide) rfl (fun ls hl => ?_)
      refine lv_aload_n hx hb dX4_take_25 rfl (lv_at hl 1 rfl) ?_
      refine va_get (D := D) (ci := 4) (v := .ref (q 5)) (C := RX4) (T := TX4) (N := 25) hx hb hts in_X4_take_X4 hown hK hP 0 rfl rfl 5 (by decide) (hts _ fl_X4_take_22) (fun _ h9 => h9) rfl dX4_take_26 ?_
      refine lv_iload_n hx hb dX4_take_29 rfl (lv_at hl 2 rfl) ?_
      refine lv_iconst (v := 0) hx hb dX4_take_30 (by decide) ?_
      have hi_5 : vp_in x1 60 := pz_lineM ‹_› ‹_›
      refine va_zast hx hb hK hP (pz_D hKX.2 rfl) hS 5 2 rfl rfl hi_5 dX4_take_31 (fun H locs hP _ hS => ?_)
      have hP : va_P D vwCl (pz_M q k formulas kind left right height (upd laid (x1).toNatClampNeg 0) rules ps qs rs fs checked stopped reason made opened ruleThen heads boxOf shutBy around inner truth turned pile) H := hP
      refine lv_iload_n hx hb dX4_take_32 rfl (lv_at hl 0 rfl) ?_
      exact W.iret (v := 0) hx hb hr (fun t ht hW => ⟨⟨0, (upd laid (x1).toNatClampNeg 0), rfl, hF.symm, pz_hp ht hP⟩, hS.F ht⟩) hS.2.2 dX4_take_33 hlocks
    · have hF := hF.trans (if_neg c_4)
      refine lv_iconst (v := 1) hx hb dX4_take_19 (by decide) ?_
      refine lv_goto (tgt := 24) hx hb dX4_take_20 (by decide) ?_
      refine lv_istore_n (lv' := [(2, .int (1)), (0, .ref (q 0)), (1, .int (x1))]) hx hb dX4_take_24 rfl hl (by decide) rfl (fun ls hl => ?_)
      refine lv_aload_n hx hb dX4_take_25 rfl (lv_at hl 1 rfl) ?_
      refine va_get (D := D) (ci := 4) (v := .ref (q 5)) (C := RX4) (T := TX4) (N := 25) hx hb hts in_X4_take_X4 hown hK hP 0 rfl rfl 5 (by decide) (hts _ fl_X4_take_22) (fun _ h9 => h9) rfl dX4_take_26 ?_
      refine lv_iload_n hx hb dX4_take_29 rfl (lv_at hl 2 rfl) ?_
      refine lv_iconst (v := 0) hx hb dX4_take_30 (by decide) ?_
      have hi_6 : vp_in x1 60 := pz_lineM ‹_› ‹_›
      refine va_zast hx hb hK hP (pz_D hKX.2 rfl) hS 5 2 rfl rfl hi_6 dX4_take_31 (fun H locs hP _ hS => ?_)
      have hP : va_P D vwCl (pz_M q k formulas kind left right height (upd laid (x1).toNatClampNeg 0) rules ps qs rs fs checked stopped reason made opened ruleThen heads boxOf shutBy around inner truth turned pile) H := hP
      refine lv_iload_n hx hb dX4_take_32 rfl (lv_at hl 0 rfl) ?_
      exact W.iret (v := 1) hx hb hr (fun t ht hW => ⟨⟨1, (upd laid (x1).toNatClampNeg 0), rfl, hF.symm, pz_hp ht hP⟩, hS.F ht⟩) hS.2.2 dX4_take_33 hlocks
  · have hF := hF.trans (if_pos c_2)
    refine lv_bipush (v := (-3)) hx hb dX4_take_7 (by decide) ?_
    exact W.iret (v := (-3)) hx hb hr (fun t ht hW => ⟨⟨(-3), laid, rfl, hF.symm, pz_hp ht hP⟩, hS.F ht⟩) hS.2.2 dX4_take_9 hlocks

-- == X4_told
def f_X4_told (checked : Int32) (stopped : Int32) (reason : Int32) (made : Int32) (opened : Int32) (x1 : Int32) : Int32 := pz_bnd (f_X4_within x1 0 3) (fun z_1 => if z_1 = 0 then ((-3)) else (if checked = 0 then ((-1)) else (if x1 = 0 then (reason) else (if x1 = 1 then (stopped) else (if x1 = 2 then (opened) else (made))))))
theorem fl_X4_told_122 : Cond.fieldLink RX4 122 "BoxProofsModel" "opened" "I" ∈ wsX4_told := by decide +kernel
theorem fl_X4_told_128 : Cond.fieldLink RX4 128 "BoxProofsModel" "checked" "Z" ∈ wsX4_told := by decide +kernel
theorem fl_X4_told_132 : Cond.fieldLink RX4 132 "BoxProofsModel" "reason" "I" ∈ wsX4_told := by decide +kernel
theorem fl_X4_told_135 : Cond.fieldLink RX4 135 "BoxProofsModel" "stopped" "I" ∈ wsX4_told := by decide +kernel
theorem fl_X4_told_141 : Cond.fieldLink RX4 141 "BoxProofsModel" "made" "I" ∈ wsX4_told := by decide +kernel
theorem in_X4_told_X4 : ∀ w ∈ wsX40, w ∈ wsX4_told := by decide +kernel
set_option maxHeartbeats 4000000 in
set_option maxRecDepth 100000 in
theorem c_X4_told (l : Launch) (D : va_G) (q : Nat → Nat) (k : Nat → ClassId) (formulas : Int32) (kind : Nat → Int32) (left : Nat → Int32) (right : Nat → Int32) (height : Nat → Int32) (laid : Nat → Int32) (rules : Nat → Int32) (ps : Nat → Int32) (qs : Nat → Int32) (rs : Nat → Int32) (fs : Nat → Int32) (checked : Int32) (stopped : Int32) (reason : Int32) (made : Int32) (opened : Int32) (ruleThen : Nat → Int32) (heads : Nat → Int32) (boxOf : Nat → Int32) (shutBy : Nat → Int32) (around : Nat → Int32) (inner : Int32) (truth : Nat → Int32) (turned : Nat → Int32) (pile : Nat → Int32) (x1 : Int32)  : Met l yX4_told wsX4_told ({ frames := 1, cells := 0, slots := 0, locals := 22 }) (va_Pc [.ref (q 0), .int (x1)] (fun U => va_P D vwCl (pz_M q k formulas kind left right height laid rules ps qs rs fs checked stopped reason made opened ruleThen heads boxOf shutBy around inner truth turned pile) U.heap ∧ pz_KM D q k U)) (va_Qi (fun r (_ : Unit) => r = (f_X4_told checked stopped reason made opened x1)) (fun _ t => va_P D vwCl (pz_M q k formulas kind left right height laid rules ps qs rs fs checked stopped reason made opened ruleThen heads boxOf shutBy around inner truth turned pile) t.heap) (pz_A 19 q)) 0 0 (pz_A 19 q) := by
  refine Met.ofW (cc := cX4_told) (maxL := 2) (ret := (some .int)) (by decide) rfl ?_
  intro p e s m args below meth c s₁ B hml hv
  obtain ⟨rfl, hP, hKX⟩ := hv
  have hx := B.exec
  have hb := B.bytes
  have hr := B.returns
  have hts := atoms_spec (ws := wsX4_told) B.pre
  have hown : s.vm.findClass RX4 = some m.cls := findClass_of_methodNamed B.named
  have hlocks := B.notSynchronized
  have hC : pz_C p s m ([.ref (q 0), .int (x1)] : List Value).toArray meth c cX4_told wsX4_told RX4 2 (some .int) := ⟨hx, hb, hml, hown, hts, hr, hlocks⟩
  have hK := hKX.1
  have hS : va_S (pz_A 19 q) s.heap s.heap [] := va_S.rf
  have hl := lv_entry [.ref (q 0), .int (x1)] (n := 2) (Nat.le_of_ble_eq_true rfl)
  rw [lg_entry_eq]
  generalize (lg_sl [.ref (q 0), .int (x1)] ++ List.replicate (2 - (lg_sl [.ref (q 0), .int (x1)]).length) Slot.unset).toArray = ls at hl ⊢
  have hl : lv_has ls 2 [(0, .ref (q 0)), (1, .int (x1))] := hl
  generalize hF : f_X4_told checked stopped reason made opened x1 = G
  replace hF := hF.symm
  unfold f_X4_told at hF
  refine lv_iload_n hx hb dX4_told_0 rfl (lv_at hl 1 rfl) ?_
  refine lv_iconst (v := 0) hx hb dX4_told_1 (by decide) ?_
  refine lv_iconst (v := 3) hx hb dX4_told_2 (by decide) ?_
  refine pz_Si (As := [.int (x1), .int (0), .int (3)]) (rest := []) ⟨hx, hb, hml, hown, hts⟩ (c_X4_within l x1 0 3) (va_cwS 3 hts gX4_told_X4_within rfl rfl rfl hdS_X4_within ⟨Nat.le_of_ble_eq_true rfl, Nat.le_of_ble_eq_true rfl⟩) hP hS rfl hl.1 rfl (Nat.le_of_ble_eq_true rfl) dX4_told_3 ⟨Nat.zero_le _, Nat.zero_le _⟩ (fun r_1 H locs hF_1 hP hS => ?_)
  have hF := hF.trans (pz_be hF_1)
  refine lv_if_ne (tgt := 12) hx hb dX4_told_6 (by decide) (fun c_2 => ?_) (fun c_2 => ?_)
  · have hF := hF.trans (if_neg c_2)
    refine lv_aload_n hx hb dX4_told_12 rfl (lv_at hl 0 rfl) ?_
    refine va_get (D := D) (ci := 4) (v := .int (checked)) (C := RX4) (T := TX4) (N := 25) hx hb hts in_X4_told_X4 hown hK hP 0 rfl rfl 11 (by decide) (hts _ fl_X4_told_128) (fun _ h9 => h9) rfl dX4_told_13 ?_
    refine lv_if_ne (tgt := 23) hx hb dX4_told_16 (by decide) (fun c_3 => ?_) (fun c_3 => ?_)
    · have hF := hF.trans (if_neg c_3)
      refine lv_iload_n hx hb dX4_told_23 rfl (lv_at hl 1 rfl) ?_
      refine lv_if_ne (tgt := 34) hx hb dX4_told_24 (by decide) (fun c_4 => ?_) (fun c_4 => ?_)
      · have hF := hF.trans (if_neg c_4)
        refine lv_iload_n hx hb dX4_told_34 rfl (lv_at hl 1 rfl) ?_
        refine lv_iconst (v := 1) hx hb dX4_told_35 (by decide) ?_
        refine lv_icmp_ne (tgt := 46) hx hb dX4_told_36 (by decide) (fun c_5 => ?_) (fun c_5 => ?_)
        · have hF := hF.trans (if_neg c_5)
          refine lv_iload_n hx hb dX4_told_46 rfl (lv_at hl 1 rfl) ?_
          refine lv_iconst (v := 2) hx hb dX4_told_47 (by decide) ?_
          refine lv_icmp_ne (tgt := 58) hx hb dX4_told_48 (by decide) (fun c_6 => ?_) (fun c_6 => ?_)
          · have hF := hF.trans (if_neg c_6)
            refine lv_aload_n hx hb dX4_told_58 rfl (lv_at hl 0 rfl) ?_
            refine va_get (D := D) (ci := 4) (v := .int (made)) (C := RX4) (T := TX4) (N := 25) hx hb hts in_X4_told_X4 hown hK hP 0 rfl rfl 14 (by decide) (hts _ fl_X4_told_141) (fun _ h9 => h9) rfl dX4_told_59 ?_
            exact W.iret (v := made) hx hb hr (fun t ht hW => ⟨⟨made, (), rfl, hF.symm, pz_hp ht hP⟩, hS.F ht⟩) hS.2.2 dX4_told_62 hlocks
          · have hF := hF.trans (if_pos c_6)
            refine lv_aload_n hx hb dX4_told_51 rfl (lv_at hl 0 rfl) ?_
            refine va_get (D := D) (ci := 4) (v := .int (opened)) (C := RX4) (T := TX4) (N := 25) hx hb hts in_X4_told_X4 hown hK hP 0 rfl rfl 15 (by decide) (hts _ fl_X4_told_122) (fun _ h9 => h9) rfl dX4_told_52 ?_
            refine lv_goto (tgt := 62) hx hb dX4_told_55 (by decide) ?_
            exact W.iret (v := opened) hx hb hr (fun t ht hW => ⟨⟨opened, (), rfl, hF.symm, pz_hp ht hP⟩, hS.F ht⟩) hS.2.2 dX4_told_62 hlocks
        · have hF := hF.trans (if_pos c_5)
          refine lv_aload_n hx hb dX4_told_39 rfl (lv_at hl 0 rfl) ?_
          refine va_get (D := D) (ci := 4) (v := .int (stopped)) (C := RX4) (T := TX4) (N := 25) hx hb hts in_X4_told_X4 hown hK hP 0 rfl rfl 12 (by decide) (hts _ fl_X4_told_135) (fun _ h9 => h9) rfl dX4_told_40 ?_
          refine lv_goto (tgt := 62) hx hb dX4_told_43 (by decide) ?_
          exact W.iret (v := stopped) hx hb hr (fun t ht hW => ⟨⟨stopped, (), rfl, hF.symm, pz_hp ht hP⟩, hS.F ht⟩) hS.2.2 dX4_told_62 hlocks
      · have hF := hF.trans (if_pos c_4)
        refine lv_aload_n hx hb dX4_told_27 rfl (lv_at hl 0 rfl) ?_
        refine va_get (D := D) (ci := 4) (v := .int (reason)) (C := RX4) (T := TX4) (N := 25) hx hb hts in_X4_told_X4 hown hK hP 0 rfl rfl 13 (by decide) (hts _ fl_X4_told_132) (fun _ h9 => h9) rfl dX4_told_28 ?_
        refine lv_goto (tgt := 62) hx hb dX4_told_31 (by decide) ?_
        exact W.iret (v := reason) hx hb hr (fun t ht hW => ⟨⟨reason, (), rfl, hF.symm, pz_hp ht hP⟩, hS.F ht⟩) hS.2.2 dX4_told_62 hlocks
    · have hF := hF.trans (if_pos c_3)
      refine lv_iconst (v := (-1)) hx hb dX4_told_19 (by decide) ?_
      refine lv_goto (tgt := 62) hx hb dX4_told_20 (by decide) ?_
      exact W.iret (v := (-1)) hx hb hr (fun t ht hW => ⟨⟨(-1), (), rfl, hF.symm, pz_hp ht hP⟩, hS.F ht⟩) hS.2.2 dX4_told_62 hlocks
  · have hF := hF.trans (if_pos c_2)
    refine lv_bipush (v := (-3)) hx hb dX4_told_9 (by decide) ?_
    exact W.iret (v := (-3)) hx hb hr (fun t ht hW => ⟨⟨(-3), (), rfl, hF.symm, pz_hp ht hP⟩, hS.F ht⟩) hS.2.2 dX4_told_11 hlocks

-- == X4_head
def f_X4_head (heads : Nat → Int32) (x1 : Int32) : Int32 := pz_bnd (f_X4_isLine x1) (fun z_1 => if z_1 = 0 then ((-3)) else ((heads (x1).toNatClampNeg)))
theorem fl_X4_head_44 : Cond.fieldLink RX4 44 "BoxProofsModel" "heads" "[I" ∈ wsX4_head := by decide +kernel
theorem in_X4_head_X4 : ∀ w ∈ wsX40, w ∈ wsX4_head := by decide +kernel
set_option maxHeartbeats 4000000 in
set_option maxRecDepth 100000 in
theorem c_X4_head (l : Launch) (D : va_G) (q : Nat → Nat) (k : Nat → ClassId) (formulas : Int32) (kind : Nat → Int32) (left : Nat → Int32) (right : Nat → Int32) (height : Nat → Int32) (laid : Nat → Int32) (rules : Nat → Int32) (ps : Nat → Int32) (qs : Nat → Int32) (rs : Nat → Int32) (fs : Nat → Int32) (checked : Int32) (stopped : Int32) (reason : Int32) (made : Int32) (opened : Int32) (ruleThen : Nat → Int32) (heads : Nat → Int32) (boxOf : Nat → Int32) (shutBy : Nat → Int32) (around : Nat → Int32) (inner : Int32) (truth : Nat → Int32) (turned : Nat → Int32) (pile : Nat → Int32) (x1 : Int32)  : Met l yX4_head wsX4_head ({ frames := 2, cells := 0, slots := 0, locals := 42 }) (va_Pc [.ref (q 0), .int (x1)] (fun U => va_P D vwCl (pz_M q k formulas kind left right height laid rules ps qs rs fs checked stopped reason made opened ruleThen heads boxOf shutBy around inner truth turned pile) U.heap ∧ pz_KM D q k U)) (va_Qi (fun r (_ : Unit) => r = (f_X4_head heads x1)) (fun _ t => va_P D vwCl (pz_M q k formulas kind left right height laid rules ps qs rs fs checked stopped reason made opened ruleThen heads boxOf shutBy around inner truth turned pile) t.heap) (pz_A 19 q)) 0 0 (pz_A 19 q) := by
  refine Met.ofW (cc := cX4_head) (maxL := 2) (ret := (some .int)) (by decide) rfl ?_
  intro p e s m args below meth c s₁ B hml hv
  obtain ⟨rfl, hP, hKX⟩ := hv
  have hx := B.exec
  have hb := B.bytes
  have hr := B.returns
  have hts := atoms_spec (ws := wsX4_head) B.pre
  have hown : s.vm.findClass RX4 = some m.cls := findClass_of_methodNamed B.named
  have hlocks := B.notSynchronized
  have hC : pz_C p s m ([.ref (q 0), .int (x1)] : List Value).toArray meth c cX4_head wsX4_head RX4 2 (some .int) := ⟨hx, hb, hml, hown, hts, hr, hlocks⟩
  have hK := hKX.1
  have hS : va_S (pz_A 19 q) s.heap s.heap [] := va_S.rf
  have hl := lv_entry [.ref (q 0), .int (x1)] (n := 2) (Nat.le_of_ble_eq_true rfl)
  rw [lg_entry_eq]
  generalize (lg_sl [.ref (q 0), .int (x1)] ++ List.replicate (2 - (lg_sl [.ref (q 0), .int (x1)]).length) Slot.unset).toArray = ls at hl ⊢
  have hl : lv_has ls 2 [(0, .ref (q 0)), (1, .int (x1))] := hl
  generalize hF : f_X4_head heads x1 = G
  replace hF := hF.symm
  unfold f_X4_head at hF
  refine lv_iload_n hx hb dX4_head_0 rfl (lv_at hl 1 rfl) ?_
  refine pz_Si (As := [.int (x1)]) (rest := []) ⟨hx, hb, hml, hown, hts⟩ (c_X4_isLine l x1) (va_cwS 1 hts gX4_head_X4_isLine rfl rfl rfl hdS_X4_isLine ⟨Nat.le_of_ble_eq_true rfl, Nat.le_of_ble_eq_true rfl⟩) hP hS rfl hl.1 rfl (Nat.le_of_ble_eq_true rfl) dX4_head_1 ⟨Nat.zero_le _, Nat.zero_le _⟩ (fun r_1 H locs hF_1 hP hS => ?_)
  have hF := hF.trans (pz_be hF_1)
  refine lv_if_eq (tgt := 16) hx hb dX4_head_4 (by decide) (fun c_2 => ?_) (fun c_2 => ?_)
  · have hF := hF.trans (if_pos c_2)
    refine lv_bipush (v := (-3)) hx hb dX4_head_16 (by decide) ?_
    exact W.iret (v := (-3)) hx hb hr (fun t ht hW => ⟨⟨(-3), (), rfl, hF.symm, pz_hp ht hP⟩, hS.F ht⟩) hS.2.2 dX4_head_18 hlocks
  · have hF := hF.trans (if_neg c_2)
    refine lv_aload_n hx hb dX4_head_7 rfl (lv_at hl 0 rfl) ?_
    refine va_get (D := D) (ci := 4) (v := .ref (q 12)) (C := RX4) (T := TX4) (N := 25) hx hb hts in_X4_head_X4 hown hK hP 0 rfl rfl 17 (by decide) (hts _ fl_X4_head_44) (fun _ h9 => h9) rfl dX4_head_8 ?_
    refine lv_iload_n hx hb dX4_head_11 rfl (lv_at hl 1 rfl) ?_
    have hi_3 : vp_in x1 60 := pz_lineM ‹_› ‹_›
    refine va_iald hx hb hK hP 12 0 rfl rfl hi_3 dX4_head_12 ?_
    refine lv_goto (tgt := 18) hx hb dX4_head_13 (by decide) ?_
    exact W.iret (v := (heads (x1).toNatClampNeg)) hx hb hr (fun t ht hW => ⟨⟨(heads (x1).toNatClampNeg), (), rfl, hF.symm, pz_hp ht hP⟩, hS.F ht⟩) hS.2.2 dX4_head_18 hlocks

