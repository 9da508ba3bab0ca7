-- == X1_count
def f_X1_count (cnt : Int32) : Int32 := cnt
theorem fl_X1_count_31 : Cond.fieldLink RX1 31 "BoxProofs$Formulas" "count" "I" ∈ wsX1_count := by decide +kernel
theorem in_X1_count_X1 : ∀ w ∈ wsX10, w ∈ wsX1_count := by decide +kernel
set_option maxHeartbeats 4000000 in
set_option maxRecDepth 100000 in
theorem c_X1_count (l : Launch) (D : va_G) (q : Nat → Nat) (k : Nat → ClassId) (t : Nat → Nat) (cnt : Int32) (kinds : Nat → Int32) (firsts : Nat → Int32) (seconds : Nat → Int32) (heights : Nat → Int32) (tables : Nat → Int64) (replaced : Nat → Int32) (laid : Nat → Int32) (rules : Nat → Int32) (ps : Nat → Int32) (qs : Nat → Int32) (rs : Nat → Int32) (fs : Nat → Int32) (frules : Nat → Int32) (heads : Nat → Int32) (ends : Nat → Int32) (inforce : Nat → Int32) (usable : Nat → Int32) (summ : Nat → Int32)   : Met l yX1_count wsX1_count ({ frames := 0, cells := 0, slots := 0, locals := 0 }) (va_Pc [.ref (q 1)] (fun U => va_P D vwCl (pz_X q k cnt kinds firsts seconds heights tables replaced laid rules ps qs rs fs frules heads ends inforce usable summ) U.heap ∧ pz_KX D q k t U)) (va_Qi (fun r (_ : Unit) => r = (f_X1_count cnt)) (fun _ t => va_P D vwCl (pz_X q k cnt kinds firsts seconds heights tables replaced laid rules ps qs rs fs frules heads ends inforce usable summ) t.heap) (pz_A 22 q)) 0 0 (pz_A 22 q) := by
  refine Met.ofW (cc := cX1_count) (maxL := 1) (ret := (some .int)) (by decide) rfl ?_
  intro p e s m args below meth c s₁ B hml hv
  obtain ⟨rfl, hP, hKX⟩ := hv
  have hx := B.exec
  have hb := B.bytes
  have hr := B.returns
  have hts := atoms_spec (ws := wsX1_count) B.pre
  have hown : s.vm.findClass RX1 = some m.cls := findClass_of_methodNamed B.named
  have hlocks := B.notSynchronized
  have hC : pz_C p s m ([.ref (q 1)] : List Value).toArray meth c cX1_count wsX1_count RX1 1 (some .int) := ⟨hx, hb, hml, hown, hts, hr, hlocks⟩
  have hK := hKX.1
  have hS : va_S (pz_A 22 q) s.heap s.heap [] := va_S.rf
  have hl := lv_entry [.ref (q 1)] (n := 1) (Nat.le_of_ble_eq_true rfl)
  rw [lg_entry_eq]
  generalize (lg_sl [.ref (q 1)] ++ List.replicate (1 - (lg_sl [.ref (q 1)]).length) Slot.unset).toArray = ls at hl ⊢
  have hl : lv_has ls 1 [(0, .ref (q 1))] := hl
  generalize hF : f_X1_count cnt = G
  replace hF := hF.symm
  unfold f_X1_count at hF
  refine lv_aload_n hx hb dX1_count_0 rfl (lv_at hl 0 rfl) ?_
  refine va_get (D := D) (ci := 1) (v := .int (cnt)) (C := RX1) (T := TX1) (N := 7) hx hb hts in_X1_count_X1 hown hK hP 1 rfl rfl 6 (by decide) (hts _ fl_X1_count_31) (fun _ h9 => h9) rfl dX1_count_1 ?_
  exact W.iret (v := cnt) hx hb hr (fun t ht hW => ⟨⟨cnt, (), rfl, hF.symm, pz_hp ht hP⟩, hS.F ht⟩) hS.2.2 dX1_count_4 hlocks

-- == X1_has
def f_X1_has (cnt : Int32) (x1 : Int32) : Int32 := if x1 < 0 then (0) else (if cnt ≤ x1 then (0) else (1))
theorem fl_X1_has_31 : Cond.fieldLink RX1 31 "BoxProofs$Formulas" "count" "I" ∈ wsX1_has := by decide +kernel
theorem in_X1_has_X1 : ∀ w ∈ wsX10, w ∈ wsX1_has := by decide +kernel
set_option maxHeartbeats 4000000 in
set_option maxRecDepth 100000 in
theorem c_X1_has (l : Launch) (D : va_G) (q : Nat → Nat) (k : Nat → ClassId) (t : Nat → Nat) (cnt : Int32) (kinds : Nat → Int32) (firsts : Nat → Int32) (seconds : Nat → Int32) (heights : Nat → Int32) (tables : Nat → Int64) (replaced : Nat → Int32) (laid : Nat → Int32) (rules : Nat → Int32) (ps : Nat → Int32) (qs : Nat → Int32) (rs : Nat → Int32) (fs : Nat → Int32) (frules : Nat → Int32) (heads : Nat → Int32) (ends : Nat → Int32) (inforce : Nat → Int32) (usable : Nat → Int32) (summ : Nat → Int32) (x1 : Int32)  : Met l yX1_has wsX1_has ({ frames := 0, cells := 0, slots := 0, locals := 0 }) (va_Pc [.ref (q 1), .int (x1)] (fun U => va_P D vwCl (pz_X q k cnt kinds firsts seconds heights tables replaced laid rules ps qs rs fs frules heads ends inforce usable summ) U.heap ∧ pz_KX D q k t U)) (va_Qi (fun r (_ : Unit) => r = (f_X1_has cnt x1)) (fun _ t => va_P D vwCl (pz_X q k cnt kinds firsts seconds heights tables replaced laid rules ps qs rs fs frules heads ends inforce usable summ) t.heap) (pz_A 22 q)) 0 0 (pz_A 22 q) := by
  refine Met.ofW (cc := cX1_has) (maxL := 2) (ret := (some .boolean)) (by decide) rfl ?_
  intro p e s m args below meth c s₁ B hml hv
  obtain ⟨rfl, hP, hKX⟩ := hv
  have hx := B.exec
  have hb := B.bytes
  have hr := B.returns
  have hts := atoms_spec (ws := wsX1_has) B.pre
  have hown : s.vm.findClass RX1 = some m.cls := findClass_of_methodNamed B.named
  have hlocks := B.notSynchronized
  have hC : pz_C p s m ([.ref (q 1), .int (x1)] : List Value).toArray meth c cX1_has wsX1_has RX1 2 (some .boolean) := ⟨hx, hb, hml, hown, hts, hr, hlocks⟩
  have hK := hKX.1
  have hS : va_S (pz_A 22 q) s.heap s.heap [] := va_S.rf
  have hl := lv_entry [.ref (q 1), .int (x1)] (n := 2) (Nat.le_of_ble_eq_true rfl)
  rw [lg_entry_eq]
  generalize (lg_sl [.ref (q 1), .int (x1)] ++ List.replicate (2 - (lg_sl [.ref (q 1), .int (x1)]).length) Slot.unset).toArray = ls at hl ⊢
  have hl : lv_has ls 2 [(0, .ref (q 1)), (1, .int (x1))] := hl
  generalize hF : f_X1_has cnt x1 = G
  replace hF := hF.symm
  unfold f_X1_has at hF
  refine lv_iload_n hx hb dX1_has_0 rfl (lv_at hl 1 rfl) ?_
  refine lv_if_lt (tgt := 16) hx hb dX1_has_1 (by decide) (fun c_1 => ?_) (fun c_1 => ?_)
  · have hF := hF.trans (if_pos c_1)
    refine lv_iconst (v := 0) hx hb dX1_has_16 (by decide) ?_
    exact W.zret (v := 0) hx hb hr rfl (fun t ht hW => ⟨⟨0, (), rfl, hF.symm, pz_hp ht hP⟩, hS.F ht⟩) hS.2.2 dX1_has_17 hlocks
  · have hF := hF.trans (if_neg c_1)
    refine lv_iload_n hx hb dX1_has_4 rfl (lv_at hl 1 rfl) ?_
    refine lv_aload_n hx hb dX1_has_5 rfl (lv_at hl 0 rfl) ?_
    refine va_get (D := D) (ci := 1) (v := .int (cnt)) (C := RX1) (T := TX1) (N := 7) hx hb hts in_X1_has_X1 hown hK hP 1 rfl rfl 6 (by decide) (hts _ fl_X1_has_31) (fun _ h9 => h9) rfl dX1_has_6 ?_
    refine lv_icmp_ge (tgt := 16) hx hb dX1_has_9 (by decide) (fun c_2 => ?_) (fun c_2 => ?_)
    · have hF := hF.trans (if_pos c_2)
      refine lv_iconst (v := 0) hx hb dX1_has_16 (by decide) ?_
      exact W.zret (v := 0) hx hb hr rfl (fun t ht hW => ⟨⟨0, (), rfl, hF.symm, pz_hp ht hP⟩, hS.F ht⟩) hS.2.2 dX1_has_17 hlocks
    · have hF := hF.trans (if_neg c_2)
      refine lv_iconst (v := 1) hx hb dX1_has_12 (by decide) ?_
      refine lv_goto (tgt := 17) hx hb dX1_has_13 (by decide) ?_
      exact W.zret (v := 1) hx hb hr rfl (fun t ht hW => ⟨⟨1, (), rfl, hF.symm, pz_hp ht hP⟩, hS.F ht⟩) hS.2.2 dX1_has_17 hlocks

theorem pz_has {r cnt f : Int32} (hc : pz_c cnt) (h : r = f_X1_has cnt f) (h0 : ¬ r = 0) : vp_in f 80 := by
  rw [h] at h0; unfold f_X1_has at h0
  by_cases c1 : f < 0
  · rw [if_pos c1] at h0; exact absurd rfl h0
  · rw [if_neg c1] at h0
    by_cases c2 : cnt ≤ f
    · rw [if_pos c2] at h0; exact absurd rfl h0
    · exact pz_in c1 (c := cnt) (by rw [Int32.lt_iff_toInt_lt]; exact pz_nle c2) hc.2

-- == X1_kindOf
def f_X1_kindOf (cnt : Int32) (kinds : Nat → Int32) (x1 : Int32) : Int32 := pz_bnd (f_X1_has cnt x1) (fun z_1 => if z_1 = 0 then ((-1)) else ((kinds (x1).toNatClampNeg)))
theorem fl_X1_kindOf_9 : Cond.fieldLink RX1 9 "BoxProofs$Formulas" "kinds" "[I" ∈ wsX1_kindOf := by decide +kernel
theorem hdV_X1_has : yX1_has.cls = RX1 ∧ yX1_has.cls ≠ "java/lang/invoke/MethodHandle" ∧ yX1_has.cls ≠ "java/lang/invoke/VarHandle" ∧ (parseMethodDescriptor yX1_has.desc).map (fun d => d.parameters.length) = some 1 := by decide +kernel
theorem in_X1_kindOf_X1 : ∀ w ∈ wsX10, w ∈ wsX1_kindOf := by decide +kernel
set_option maxHeartbeats 4000000 in
set_option maxRecDepth 100000 in
theorem c_X1_kindOf (l : Launch) (D : va_G) (q : Nat → Nat) (k : Nat → ClassId) (t : Nat → Nat) (cnt : Int32) (kinds : Nat → Int32) (firsts : Nat → Int32) (seconds : Nat → Int32) (heights : Nat → Int32) (tables : Nat → Int64) (replaced : Nat → Int32) (laid : Nat → Int32) (rules : Nat → Int32) (ps : Nat → Int32) (qs : Nat → Int32) (rs : Nat → Int32) (fs : Nat → Int32) (frules : Nat → Int32) (heads : Nat → Int32) (ends : Nat → Int32) (inforce : Nat → Int32) (usable : Nat → Int32) (summ : Nat → Int32) (x1 : Int32) (hc : pz_c cnt) : Met l yX1_kindOf wsX1_kindOf ({ frames := 1, cells := 0, slots := 0, locals := 21 }) (va_Pc [.ref (q 1), .int (x1)] (fun U => va_P D vwCl (pz_X q k cnt kinds firsts seconds heights tables replaced laid rules ps qs rs fs frules heads ends inforce usable summ) U.heap ∧ pz_KX D q k t U)) (va_Qi (fun r (_ : Unit) => r = (f_X1_kindOf cnt kinds x1)) (fun _ t => va_P D vwCl (pz_X q k cnt kinds firsts seconds heights tables replaced laid rules ps qs rs fs frules heads ends inforce usable summ) t.heap) (pz_A 22 q)) 0 0 (pz_A 22 q) := by
  refine Met.ofW (cc := cX1_kindOf) (maxL := 2) (ret := (some .int)) (by decide) rfl ?_
  intro p e s m args below meth c s₁ B hml hv
  obtain ⟨rfl, hP, hKX⟩ := hv
  have hx := B.exec
  have hb := B.bytes
  have hr := B.returns
  have hts := atoms_spec (ws := wsX1_kindOf) B.pre
  have hown : s.vm.findClass RX1 = some m.cls := findClass_of_methodNamed B.named
  have hlocks := B.notSynchronized
  have hC : pz_C p s m ([.ref (q 1), .int (x1)] : List Value).toArray meth c cX1_kindOf wsX1_kindOf RX1 2 (some .int) := ⟨hx, hb, hml, hown, hts, hr, hlocks⟩
  have hK := hKX.1
  have hS : va_S (pz_A 22 q) s.heap s.heap [] := va_S.rf
  have hl := lv_entry [.ref (q 1), .int (x1)] (n := 2) (Nat.le_of_ble_eq_true rfl)
  rw [lg_entry_eq]
  generalize (lg_sl [.ref (q 1), .int (x1)] ++ List.replicate (2 - (lg_sl [.ref (q 1), .int (x1)]).length) Slot.unset).toArray = ls at hl ⊢
  have hl : lv_has ls 2 [(0, .ref (q 1)), (1, .int (x1))] := hl
  generalize hF : f_X1_kindOf cnt kinds x1 = G
  replace hF := hF.symm
  unfold f_X1_kindOf at hF
  refine lv_aload_n hx hb dX1_kindOf_0 rfl (lv_at hl 0 rfl) ?_
  refine lv_iload_n hx hb dX1_kindOf_1 rfl (lv_at hl 1 rfl) ?_
  refine pz_Vi (As := [.int (x1)]) (rest := []) ⟨hx, hb, hml, hown, hts⟩ (c_X1_has l D q k t cnt kinds firsts seconds heights tables replaced laid rules ps qs rs fs frules heads ends inforce usable summ x1) (cwV 1 hts gX1_kindOf_X1_has rfl rfl rfl hdV_X1_has ⟨Nat.le_of_ble_eq_true rfl, Nat.le_of_ble_eq_true rfl⟩) pz_KX.call (hKX.go hS) (va_recv hK hP (ci := 1) (q0 := 1) rfl rfl) hP hS rfl hl.1 rfl (Nat.le_of_ble_eq_true rfl) dX1_kindOf_2 ⟨Nat.zero_le _, Nat.zero_le _⟩ (fun r_1 u_1 H locs hF_1 hP hS => ?_)
  have hF := hF.trans (pz_be hF_1)
  refine lv_if_eq (tgt := 17) hx hb dX1_kindOf_5 (by decide) (fun c_2 => ?_) (fun c_2 => ?_)
  · have hF := hF.trans (if_pos c_2)
    refine lv_iconst (v := (-1)) hx hb dX1_kindOf_17 (by decide) ?_
    exact W.iret (v := (-1)) hx hb hr (fun t ht hW => ⟨⟨(-1), (), rfl, hF.symm, pz_hp ht hP⟩, hS.F ht⟩) hS.2.2 dX1_kindOf_18 hlocks
  · have hF := hF.trans (if_neg c_2)
    refine lv_aload_n hx hb dX1_kindOf_8 rfl (lv_at hl 0 rfl) ?_
    refine va_get (D := D) (ci := 1) (v := .ref (q 4)) (C := RX1) (T := TX1) (N := 7) hx hb hts in_X1_kindOf_X1 hown hK hP 1 rfl rfl 0 (by decide) (hts _ fl_X1_kindOf_9) (fun _ h9 => h9) rfl dX1_kindOf_9 ?_
    refine lv_iload_n hx hb dX1_kindOf_12 rfl (lv_at hl 1 rfl) ?_
    have hi_3 : vp_in x1 80 := by first | exact pz_has hc ‹_› ‹_› | assumption
    refine va_iald hx hb hK hP 4 0 rfl rfl hi_3 dX1_kindOf_13 ?_
    refine lv_goto (tgt := 18) hx hb dX1_kindOf_14 (by decide) ?_
    exact W.iret (v := (kinds (x1).toNatClampNeg)) hx hb hr (fun t ht hW => ⟨⟨(kinds (x1).toNatClampNeg), (), rfl, hF.symm, pz_hp ht hP⟩, hS.F ht⟩) hS.2.2 dX1_kindOf_18 hlocks

-- == X1_firstOf
def f_X1_firstOf (cnt : Int32) (firsts : Nat → Int32) (x1 : Int32) : Int32 := pz_bnd (f_X1_has cnt x1) (fun z_1 => if z_1 = 0 then ((-1)) else ((firsts (x1).toNatClampNeg)))
theorem fl_X1_firstOf_15 : Cond.fieldLink RX1 15 "BoxProofs$Formulas" "firsts" "[I" ∈ wsX1_firstOf := by decide +kernel
theorem in_X1_firstOf_X1 : ∀ w ∈ wsX10, w ∈ wsX1_firstOf := by decide +kernel
set_option maxHeartbeats 4000000 in
set_option maxRecDepth 100000 in
theorem c_X1_firstOf (l : Launch) (D : va_G) (q : Nat → Nat) (k : Nat → ClassId) (t : Nat → Nat) (cnt : Int32) (kinds : Nat → Int32) (firsts : Nat → Int32) (seconds : Nat → Int32) (heights : Nat → Int32) (tables : Nat → Int64) (replaced : Nat → Int32) (laid : Nat → Int32) (rules : Nat → Int32) (ps : Nat → Int32) (qs : Nat → Int32) (rs : Nat → Int32) (fs : Nat → Int32) (frules : Nat → Int32) (heads : Nat → Int32) (ends : Nat → Int32) (inforce : Nat → Int32) (usable : Nat → Int32) (summ : Nat → Int32) (x1 : Int32) (hc : pz_c cnt) : Met l yX1_firstOf wsX1_firstOf ({ frames := 1, cells := 0, slots := 0, locals := 21 }) (va_Pc [.ref (q 1), .int (x1)] (fun U => va_P D vwCl (pz_X q k cnt kinds firsts seconds heights tables replaced laid rules ps qs rs fs frules heads ends inforce usable summ) U.heap ∧ pz_KX D q k t U)) (va_Qi (fun r (_ : Unit) => r = (f_X1_firstOf cnt firsts x1)) (fun _ t => va_P D vwCl (pz_X q k cnt kinds firsts seconds heights tables replaced laid rules ps qs rs fs frules heads ends inforce usable summ) t.heap) (pz_A 22 q)) 0 0 (pz_A 22 q) := by
  refine Met.ofW (cc := cX1_firstOf) (maxL := 2) (ret := (some .int)) (by decide) rfl ?_
  intro p e s m args below meth c s₁ B hml hv
  obtain ⟨rfl, hP, hKX⟩ := hv
  have hx := B.exec
  have hb := B.bytes
  have hr := B.returns
  have hts := atoms_spec (ws := wsX1_firstOf) B.pre
  have hown : s.vm.findClass RX1 = some m.cls := findClass_of_methodNamed B.named
  have hlocks := B.notSynchronized
  have hC : pz_C p s m ([.ref (q 1), .int (x1)] : List Value).toArray meth c cX1_firstOf wsX1_firstOf RX1 2 (some .int) := ⟨hx, hb, hml, hown, hts, hr, hlocks⟩
  have hK := hKX.1
  have hS : va_S (pz_A 22 q) s.heap s.heap [] := va_S.rf
  have hl := lv_entry [.ref (q 1), .int (x1)] (n := 2) (Nat.le_of_ble_eq_true rfl)
  rw [lg_entry_eq]
  generalize (lg_sl [.ref (q 1), .int (x1)] ++ List.replicate (2 - (lg_sl [.ref (q 1), .int (x1)]).length) Slot.unset).toArray = ls at hl ⊢
  have hl : lv_has ls 2 [(0, .ref (q 1)), (1, .int (x1))] := hl
  generalize hF : f_X1_firstOf cnt firsts x1 = G
  replace hF := hF.symm
  unfold f_X1_firstOf at hF
  refine lv_aload_n hx hb dX1_firstOf_0 rfl (lv_at hl 0 rfl) ?_
  refine lv_iload_n hx hb dX1_firstOf_1 rfl (lv_at hl 1 rfl) ?_
  refine pz_Vi (As := [.int (x1)]) (rest := []) ⟨hx, hb, hml, hown, hts⟩ (c_X1_has l D q k t cnt kinds firsts seconds heights tables replaced laid rules ps qs rs fs frules heads ends inforce usable summ x1) (cwV 1 hts gX1_firstOf_X1_has rfl rfl rfl hdV_X1_has ⟨Nat.le_of_ble_eq_true rfl, Nat.le_of_ble_eq_true rfl⟩) pz_KX.call (hKX.go hS) (va_recv hK hP (ci := 1) (q0 := 1) rfl rfl) hP hS rfl hl.1 rfl (Nat.le_of_ble_eq_true rfl) dX1_firstOf_2 ⟨Nat.zero_le _, Nat.zero_le _⟩ (fun r_1 u_1 H locs hF_1 hP hS => ?_)
  have hF := hF.trans (pz_be hF_1)
  refine lv_if_eq (tgt := 17) hx hb dX1_firstOf_5 (by decide) (fun c_2 => ?_) (fun c_2 => ?_)
  · have hF := hF.trans (if_pos c_2)
    refine lv_iconst (v := (-1)) hx hb dX1_firstOf_17 (by decide) ?_
    exact W.iret (v := (-1)) hx hb hr (fun t ht hW => ⟨⟨(-1), (), rfl, hF.symm, pz_hp ht hP⟩, hS.F ht⟩) hS.2.2 dX1_firstOf_18 hlocks
  · have hF := hF.trans (if_neg c_2)
    refine lv_aload_n hx hb dX1_firstOf_8 rfl (lv_at hl 0 rfl) ?_
    refine va_get (D := D) (ci := 1) (v := .ref (q 5)) (C := RX1) (T := TX1) (N := 7) hx hb hts in_X1_firstOf_X1 hown hK hP 1 rfl rfl 1 (by decide) (hts _ fl_X1_firstOf_15) (fun _ h9 => h9) rfl dX1_firstOf_9 ?_
    refine lv_iload_n hx hb dX1_firstOf_12 rfl (lv_at hl 1 rfl) ?_
    have hi_3 : vp_in x1 80 := by first | exact pz_has hc ‹_› ‹_› | assumption
    refine va_iald hx hb hK hP 5 0 rfl rfl hi_3 dX1_firstOf_13 ?_
    refine lv_goto (tgt := 18) hx hb dX1_firstOf_14 (by decide) ?_
    exact W.iret (v := (firsts (x1).toNatClampNeg)) hx hb hr (fun t ht hW => ⟨⟨(firsts (x1).toNatClampNeg), (), rfl, hF.symm, pz_hp ht hP⟩, hS.F ht⟩) hS.2.2 dX1_firstOf_18 hlocks

-- == X1_secondOf
def f_X1_secondOf (cnt : Int32) (seconds : Nat → Int32) (x1 : Int32) : Int32 := pz_bnd (f_X1_has cnt x1) (fun z_1 => if z_1 = 0 then ((-1)) else ((seconds (x1).toNatClampNeg)))
theorem fl_X1_secondOf_18 : Cond.fieldLink RX1 18 "BoxProofs$Formulas" "seconds" "[I" ∈ wsX1_secondOf := by decide +kernel
theorem in_X1_secondOf_X1 : ∀ w ∈ wsX10, w ∈ wsX1_secondOf := by decide +kernel
set_option maxHeartbeats 4000000 in
set_option maxRecDepth 100000 in
theorem c_X1_secondOf (l : Launch) (D : va_G) (q : Nat → Nat) (k : Nat → ClassId) (t : Nat → Nat) (cnt : Int32) (kinds : Nat → Int32) (firsts : Nat → Int32) (seconds : Nat → Int32) (heights : Nat → Int32) (tables : Nat → Int64) (replaced : Nat → Int32) (laid : Nat → Int32) (rules : Nat → Int32) (ps : Nat → Int32) (qs : Nat → Int32) (rs : Nat → Int32) (fs : Nat → Int32) (frules : Nat → Int32) (heads : Nat → Int32) (ends : Nat → Int32) (inforce : Nat → Int32) (usable : Nat → Int32) (summ : Nat → Int32) (x1 : Int32) (hc : pz_c cnt) : Met l yX1_secondOf wsX1_secondOf ({ frames := 1, cells := 0, slots := 0, locals := 21 }) (va_Pc [.ref (q 1), .int (x1)] (fun U => va_P D vwCl (pz_X q k cnt kinds firsts seconds heights tables replaced laid rules ps qs rs fs frules heads ends inforce usable summ) U.heap ∧ pz_KX D q k t U)) (va_Qi (fun r (_ : Unit) => r = (f_X1_secondOf cnt seconds x1)) (fun _ t => va_P D vwCl (pz_X q k cnt kinds firsts seconds heights tables replaced laid rules ps qs rs fs frules heads ends inforce usable summ) t.heap) (pz_A 22 q)) 0 0 (pz_A 22 q) := by
  refine Met.ofW (cc := cX1_secondOf) (maxL := 2) (ret := (some .int)) (by decide) rfl ?_
  intro p e s m args below meth c s₁ B hml hv
  obtain ⟨rfl, hP, hKX⟩ := hv
  have hx := B.exec
  have hb := B.bytes
  have hr := B.returns
  have hts := atoms_spec (ws := wsX1_secondOf) B.pre
  have hown : s.vm.findClass RX1 = some m.cls := findClass_of_methodNamed B.named
  have hlocks := B.notSynchronized
  have hC : pz_C p s m ([.ref (q 1), .int (x1)] : List Value).toArray meth c cX1_secondOf wsX1_secondOf RX1 2 (some .int) := ⟨hx, hb, hml, hown, hts, hr, hlocks⟩
  have hK := hKX.1
  have hS : va_S (pz_A 22 q) s.heap s.heap [] := va_S.rf
  have hl := lv_entry [.ref (q 1), .int (x1)] (n := 2) (Nat.le_of_ble_eq_true rfl)
  rw [lg_entry_eq]
  generalize (lg_sl [.ref (q 1), .int (x1)] ++ List.replicate (2 - (lg_sl [.ref (q 1), .int (x1)]).length) Slot.unset).toArray = ls at hl ⊢
  have hl : lv_has ls 2 [(0, .ref (q 1)), (1, .int (x1))] := hl
  generalize hF : f_X1_secondOf cnt seconds x1 = G
  replace hF := hF.symm
  unfold f_X1_secondOf at hF
  refine lv_aload_n hx hb dX1_secondOf_0 rfl (lv_at hl 0 rfl) ?_
  refine lv_iload_n hx hb dX1_secondOf_1 rfl (lv_at hl 1 rfl) ?_
  refine pz_Vi (As := [.int (x1)]) (rest := []) ⟨hx, hb, hml, hown, hts⟩ (c_X1_has l D q k t cnt kinds firsts seconds heights tables replaced laid rules ps qs rs fs frules heads ends inforce usable summ x1) (cwV 1 hts gX1_secondOf_X1_has rfl rfl rfl hdV_X1_has ⟨Nat.le_of_ble_eq_true rfl, Nat.le_of_ble_eq_true rfl⟩) pz_KX.call (hKX.go hS) (va_recv hK hP (ci := 1) (q0 := 1) rfl rfl) hP hS rfl hl.1 rfl (Nat.le_of_ble_eq_true rfl) dX1_secondOf_2 ⟨Nat.zero_le _, Nat.zero_le _⟩ (fun r_1 u_1 H locs hF_1 hP hS => ?_)
  have hF := hF.trans (pz_be hF_1)
  refine lv_if_eq (tgt := 17) hx hb dX1_secondOf_5 (by decide) (fun c_2 => ?_) (fun c_2 => ?_)
  · have hF := hF.trans (if_pos c_2)
    refine lv_iconst (v := (-1)) hx hb dX1_secondOf_17 (by decide) ?_
    exact W.iret (v := (-1)) hx hb hr (fun t ht hW => ⟨⟨(-1), (), rfl, hF.symm, pz_hp ht hP⟩, hS.F ht⟩) hS.2.2 dX1_secondOf_18 hlocks
  · have hF := hF.trans (if_neg c_2)
    refine lv_aload_n hx hb dX1_secondOf_8 rfl (lv_at hl 0 rfl) ?_
    refine va_get (D := D) (ci := 1) (v := .ref (q 6)) (C := RX1) (T := TX1) (N := 7) hx hb hts in_X1_secondOf_X1 hown hK hP 1 rfl rfl 2 (by decide) (hts _ fl_X1_secondOf_18) (fun _ h9 => h9) rfl dX1_secondOf_9 ?_
    refine lv_iload_n hx hb dX1_secondOf_12 rfl (lv_at hl 1 rfl) ?_
    have hi_3 : vp_in x1 80 := by first | exact pz_has hc ‹_› ‹_› | assumption
    refine va_iald hx hb hK hP 6 0 rfl rfl hi_3 dX1_secondOf_13 ?_
    refine lv_goto (tgt := 18) hx hb dX1_secondOf_14 (by decide) ?_
    exact W.iret (v := (seconds (x1).toNatClampNeg)) hx hb hr (fun t ht hW => ⟨⟨(seconds (x1).toNatClampNeg), (), rfl, hF.symm, pz_hp ht hP⟩, hS.F ht⟩) hS.2.2 dX1_secondOf_18 hlocks

-- == X1_heightOf
def f_X1_heightOf (cnt : Int32) (heights : Nat → Int32) (x1 : Int32) : Int32 := pz_bnd (f_X1_has cnt x1) (fun z_1 => if z_1 = 0 then (0) else ((heights (x1).toNatClampNeg)))
theorem fl_X1_heightOf_21 : Cond.fieldLink RX1 21 "BoxProofs$Formulas" "heights" "[I" ∈ wsX1_heightOf := by decide +kernel
theorem in_X1_heightOf_X1 : ∀ w ∈ wsX10, w ∈ wsX1_heightOf := by decide +kernel
set_option maxHeartbeats 4000000 in
set_option maxRecDepth 100000 in
theorem c_X1_heightOf (l : Launch) (D : va_G) (q : Nat → Nat) (k : Nat → ClassId) (t : Nat → Nat) (cnt : Int32) (kinds : Nat → Int32) (firsts : Nat → Int32) (seconds : Nat → Int32) (heights : Nat → Int32) (tables : Nat → Int64) (replaced : Nat → Int32) (laid : Nat → Int32) (rules : Nat → Int32) (ps : Nat → Int32) (qs : Nat → Int32) (rs : Nat → Int32) (fs : Nat → Int32) (frules : Nat → Int32) (heads : Nat → Int32) (ends : Nat → Int32) (inforce : Nat → Int32) (usable : Nat → Int32) (summ : Nat → Int32) (x1 : Int32) (hc : pz_c cnt) : Met l yX1_heightOf wsX1_heightOf ({ frames := 1, cells := 0, slots := 0, locals := 21 }) (va_Pc [.ref (q 1), .int (x1)] (fun U => va_P D vwCl (pz_X q k cnt kinds firsts seconds heights tables replaced laid rules ps qs rs fs frules heads ends inforce usable summ) U.heap ∧ pz_KX D q k t U)) (va_Qi (fun r (_ : Unit) => r = (f_X1_heightOf cnt heights x1)) (fun _ t => va_P D vwCl (pz_X q k cnt kinds firsts seconds heights tables replaced laid rules ps qs rs fs frules heads ends inforce usable summ) t.heap) (pz_A 22 q)) 0 0 (pz_A 22 q) := by
  refine Met.ofW (cc := cX1_heightOf) (maxL := 2) (ret := (some .int)) (by decide) rfl ?_
  intro p e s m args below meth c s₁ B hml hv
  obtain ⟨rfl, hP, hKX⟩ := hv
  have hx := B.exec
  have hb := B.bytes
  have hr := B.returns
  have hts := atoms_spec (ws := wsX1_heightOf) B.pre
  have hown : s.vm.findClass RX1 = some m.cls := findClass_of_methodNamed B.named
  have hlocks := B.notSynchronized
  have hC : pz_C p s m ([.ref (q 1), .int (x1)] : List Value).toArray meth c cX1_heightOf wsX1_heightOf RX1 2 (some .int) := ⟨hx, hb, hml, hown, hts, hr, hlocks⟩
  have hK := hKX.1
  have hS : va_S (pz_A 22 q) s.heap s.heap [] := va_S.rf
  have hl := lv_entry [.ref (q 1), .int (x1)] (n := 2) (Nat.le_of_ble_eq_true rfl)
  rw [lg_entry_eq]
  generalize (lg_sl [.ref (q 1), .int (x1)] ++ List.replicate (2 - (lg_sl [.ref (q 1), .int (x1)]).length) Slot.unset).toArray = ls at hl ⊢
  have hl : lv_has ls 2 [(0, .ref (q 1)), (1, .int (x1))] := hl
  generalize hF : f_X1_heightOf cnt heights x1 = G
  replace hF := hF.symm
  unfold f_X1_heightOf at hF
  refine lv_aload_n hx hb dX1_heightOf_0 rfl (lv_at hl 0 rfl) ?_
  refine lv_iload_n hx hb dX1_heightOf_1 rfl (lv_at hl 1 rfl) ?_
  refine pz_Vi (As := [.int (x1)]) (rest := []) ⟨hx, hb, hml, hown, hts⟩ (c_X1_has l D q k t cnt kinds firsts seconds heights tables replaced laid rules ps qs rs fs frules heads ends inforce usable summ x1) (cwV 1 hts gX1_heightOf_X1_has rfl rfl rfl hdV_X1_has ⟨Nat.le_of_ble_eq_true rfl, Nat.le_of_ble_eq_true rfl⟩) pz_KX.call (hKX.go hS) (va_recv hK hP (ci := 1) (q0 := 1) rfl rfl) hP hS rfl hl.1 rfl (Nat.le_of_ble_eq_true rfl) dX1_heightOf_2 ⟨Nat.zero_le _, Nat.zero_le _⟩ (fun r_1 u_1 H locs hF_1 hP hS => ?_)
  have hF := hF.trans (pz_be hF_1)
  refine lv_if_eq (tgt := 17) hx hb dX1_heightOf_5 (by decide) (fun c_2 => ?_) (fun c_2 => ?_)
  · have hF := hF.trans (if_pos c_2)
    refine lv_iconst (v := 0) hx hb dX1_heightOf_17 (by decide) ?_
    exact W.iret (v := 0) hx hb hr (fun t ht hW => ⟨⟨0, (), rfl, hF.symm, pz_hp ht hP⟩, hS.F ht⟩) hS.2.2 dX1_heightOf_18 hlocks
  · have hF := hF.trans (if_neg c_2)
    refine lv_aload_n hx hb dX1_heightOf_8 rfl (lv_at hl 0 rfl) ?_
    refine va_get (D := D) (ci := 1) (v := .ref (q 7)) (C := RX1) (T := TX1) (N := 7) hx hb hts in_X1_heightOf_X1 hown hK hP 1 rfl rfl 3 (by decide) (hts _ fl_X1_heightOf_21) (fun _ h9 => h9) rfl dX1_heightOf_9 ?_
    refine lv_iload_n hx hb dX1_heightOf_12 rfl (lv_at hl 1 rfl) ?_
    have hi_3 : vp_in x1 80 := by first | exact pz_has hc ‹_› ‹_› | assumption
    refine va_iald hx hb hK hP 7 0 rfl rfl hi_3 dX1_heightOf_13 ?_
    refine lv_goto (tgt := 18) hx hb dX1_heightOf_14 (by decide) ?_
    exact W.iret (v := (heights (x1).toNatClampNeg)) hx hb hr (fun t ht hW => ⟨⟨(heights (x1).toNatClampNeg), (), rfl, hF.symm, pz_hp ht hP⟩, hS.F ht⟩) hS.2.2 dX1_heightOf_18 hlocks

-- == X1_tableOf
def f_X1_tableOf (cnt : Int32) (tables : Nat → Int64) (x1 : Int32) : Int64 := pz_bnd (f_X1_has cnt x1) (fun z_1 => if z_1 = 0 then (0) else ((tables (x1).toNatClampNeg)))
theorem fl_X1_tableOf_24 : Cond.fieldLink RX1 24 "BoxProofs$Formulas" "tables" "[J" ∈ wsX1_tableOf := by decide +kernel
theorem in_X1_tableOf_X1 : ∀ w ∈ wsX10, w ∈ wsX1_tableOf := by decide +kernel
set_option maxHeartbeats 4000000 in
set_option maxRecDepth 100000 in
theorem c_X1_tableOf (l : Launch) (D : va_G) (q : Nat → Nat) (k : Nat → ClassId) (t : Nat → Nat) (cnt : Int32) (kinds : Nat → Int32) (firsts : Nat → Int32) (seconds : Nat → Int32) (heights : Nat → Int32) (tables : Nat → Int64) (replaced : Nat → Int32) (laid : Nat → Int32) (rules : Nat → Int32) (ps : Nat → Int32) (qs : Nat → Int32) (rs : Nat → Int32) (fs : Nat → Int32) (frules : Nat → Int32) (heads : Nat → Int32) (ends : Nat → Int32) (inforce : Nat → Int32) (usable : Nat → Int32) (summ : Nat → Int32) (x1 : Int32) (hc : pz_c cnt) : Met l yX1_tableOf wsX1_tableOf ({ frames := 1, cells := 0, slots := 0, locals := 21 }) (va_Pc [.ref (q 1), .int (x1)] (fun U => va_P D vwCl (pz_X q k cnt kinds firsts seconds heights tables replaced laid rules ps qs rs fs frules heads ends inforce usable summ) U.heap ∧ pz_KX D q k t U)) (va_Ql (fun r (_ : Unit) => r = (f_X1_tableOf cnt tables x1)) (fun _ t => va_P D vwCl (pz_X q k cnt kinds firsts seconds heights tables replaced laid rules ps qs rs fs frules heads ends inforce usable summ) t.heap) (pz_A 22 q)) 0 0 (pz_A 22 q) := by
  refine Met.ofW (cc := cX1_tableOf) (maxL := 2) (ret := (some .long)) (by decide) rfl ?_
  intro p e s m args below meth c s₁ B hml hv
  obtain ⟨rfl, hP, hKX⟩ := hv
  have hx := B.exec
  have hb := B.bytes
  have hr := B.returns
  have hts := atoms_spec (ws := wsX1_tableOf) B.pre
  have hown : s.vm.findClass RX1 = some m.cls := findClass_of_methodNamed B.named
  have hlocks := B.notSynchronized
  have hC : pz_C p s m ([.ref (q 1), .int (x1)] : List Value).toArray meth c cX1_tableOf wsX1_tableOf RX1 2 (some .long) := ⟨hx, hb, hml, hown, hts, hr, hlocks⟩
  have hK := hKX.1
  have hS : va_S (pz_A 22 q) s.heap s.heap [] := va_S.rf
  have hl := lv_entry [.ref (q 1), .int (x1)] (n := 2) (Nat.le_of_ble_eq_true rfl)
  rw [lg_entry_eq]
  generalize (lg_sl [.ref (q 1), .int (x1)] ++ List.replicate (2 - (lg_sl [.ref (q 1), .int (x1)]).length) Slot.unset).toArray = ls at hl ⊢
  have hl : lv_has ls 2 [(0, .ref (q 1)), (1, .int (x1))] := hl
  generalize hF : f_X1_tableOf cnt tables x1 = G
  replace hF := hF.symm
  unfold f_X1_tableOf at hF
  refine lv_aload_n hx hb dX1_tableOf_0 rfl (lv_at hl 0 rfl) ?_
  refine lv_iload_n hx hb dX1_tableOf_1 rfl (lv_at hl 1 rfl) ?_
  refine pz_Vi (As := [.int (x1)]) (rest := []) ⟨hx, hb, hml, hown, hts⟩ (c_X1_has l D q k t cnt kinds firsts seconds heights tables replaced laid rules ps qs rs fs frules heads ends inforce usable summ x1) (cwV 1 hts gX1_tableOf_X1_has rfl rfl rfl hdV_X1_has ⟨Nat.le_of_ble_eq_true rfl, Nat.le_of_ble_eq_true rfl⟩) pz_KX.call (hKX.go hS) (va_recv hK hP (ci := 1) (q0 := 1) rfl rfl) hP hS rfl hl.1 rfl (Nat.le_of_ble_eq_true rfl) dX1_tableOf_2 ⟨Nat.zero_le _, Nat.zero_le _⟩ (fun r_1 u_1 H locs hF_1 hP hS => ?_)
  have hF := hF.trans (pz_be hF_1)
  refine lv_if_eq (tgt := 17) hx hb dX1_tableOf_5 (by decide) (fun c_2 => ?_) (fun c_2 => ?_)
  · have hF := hF.trans (if_pos c_2)
    refine lv_lconst (v := 0) hx hb dX1_tableOf_17 (by decide) ?_
    exact W.lret (v := 0) hx hb hr (fun t ht hW => ⟨⟨0, (), rfl, hF.symm, pz_hp ht hP⟩, hS.F ht⟩) hS.2.2 dX1_tableOf_18 hlocks
  · have hF := hF.trans (if_neg c_2)
    refine lv_aload_n hx hb dX1_tableOf_8 rfl (lv_at hl 0 rfl) ?_
    refine va_get (D := D) (ci := 1) (v := .ref (q 8)) (C := RX1) (T := TX1) (N := 7) hx hb hts in_X1_tableOf_X1 hown hK hP 1 rfl rfl 4 (by decide) (hts _ fl_X1_tableOf_24) (fun _ h9 => h9) rfl dX1_tableOf_9 ?_
    refine lv_iload_n hx hb dX1_tableOf_12 rfl (lv_at hl 1 rfl) ?_
    have hi_3 : vp_in x1 80 := by first | exact pz_has hc ‹_› ‹_› | assumption
    refine va_lald hx hb hK hP 8 1 rfl rfl hi_3 dX1_tableOf_13 ?_
    refine lv_goto (tgt := 18) hx hb dX1_tableOf_14 (by decide) ?_
    exact W.lret (v := (tables (x1).toNatClampNeg)) hx hb hr (fun t ht hW => ⟨⟨(tables (x1).toNatClampNeg), (), rfl, hF.symm, pz_hp ht hP⟩, hS.F ht⟩) hS.2.2 dX1_tableOf_18 hlocks

-- == X1_find
def F_X1_find_3 : Nat → (Int32) → (Nat → Int32) → (Nat → Int32) → (Nat → Int32) → (Int32) → (Int32) → (Int32) → (Int32) → Int32
  | 0, cnt, kinds, firsts, seconds, x1, x2, x3, x4 => 0
  | n + 1, cnt, kinds, firsts, seconds, x1, x2, x3, x4 => if cnt ≤ x4 then ((-1)) else (if (kinds (x4).toNatClampNeg) = x1 then (if (firsts (x4).toNatClampNeg) = x2 then (if (seconds (x4).toNatClampNeg) = x3 then (x4) else (F_X1_find_3 n cnt kinds firsts seconds x1 x2 x3 (x4 + 1))) else (F_X1_find_3 n cnt kinds firsts seconds x1 x2 x3 (x4 + 1))) else (F_X1_find_3 n cnt kinds firsts seconds x1 x2 x3 (x4 + 1)))
def f_X1_find (cnt : Int32) (kinds : Nat → Int32) (firsts : Nat → Int32) (seconds : Nat → Int32) (x1 : Int32) (x2 : Int32) (x3 : Int32) : Int32 := F_X1_find_3 81 cnt kinds firsts seconds x1 x2 x3 0
theorem fl_X1_find_15 : Cond.fieldLink RX1 15 "BoxProofs$Formulas" "firsts" "[I" ∈ wsX1_find := by decide +kernel
theorem fl_X1_find_18 : Cond.fieldLink RX1 18 "BoxProofs$Formulas" "seconds" "[I" ∈ wsX1_find := by decide +kernel
theorem fl_X1_find_31 : Cond.fieldLink RX1 31 "BoxProofs$Formulas" "count" "I" ∈ wsX1_find := by decide +kernel
theorem fl_X1_find_9 : Cond.fieldLink RX1 9 "BoxProofs$Formulas" "kinds" "[I" ∈ wsX1_find := by decide +kernel
theorem in_X1_find_X1 : ∀ w ∈ wsX10, w ∈ wsX1_find := by decide +kernel
set_option maxHeartbeats 4000000 in
set_option maxRecDepth 100000 in
theorem k_X1_find_3 {p : Program} {l : Launch} {e : Env} {s : State} {m : MethodId} {args : Array Value} {below : List Frame} {meth : Method} {c : Code} {D : va_G} {q : Nat → Nat} {k : Nat → ClassId} {t : Nat → Nat} (hC : pz_C p s m args meth c cX1_find wsX1_find RX1 5 (some .int)) (hKX : pz_KX D q k t s) (cnt : Int32) (kinds : Nat → Int32) (firsts : Nat → Int32) (seconds : Nat → Int32) (heights : Nat → Int32) (tables : Nat → Int64) (replaced : Nat → Int32) (laid : Nat → Int32) (rules : Nat → Int32) (ps : Nat → Int32) (qs : Nat → Int32) (rs : Nat → Int32) (fs : Nat → Int32) (frules : Nat → Int32) (heads : Nat → Int32) (ends : Nat → Int32) (inforce : Nat → Int32) (usable : Nat → Int32) (summ : Nat → Int32) {G : Int32} :
    ∀ (n : Nat) (x1 : Int32) (x2 : Int32) (x3 : Int32) (x4 : Int32) (h0 : 0 ≤ x4.toInt) (h1 : x4.toInt ≤ 80) (hn : 81 ≤ x4.toInt + n) (hc : pz_c cnt) (H : Heap) (locs : List Loc) (ls : Array Slot), G = F_X1_find_3 n cnt kinds firsts seconds x1 x2 x3 x4 → va_P D vwCl (pz_X q k cnt kinds firsts seconds heights tables replaced laid rules ps qs rs fs frules heads ends inforce usable summ) H → va_S (pz_A 22 q) s.heap H locs → lv_has ls 5 [(0, .ref (q 1)), (1, .int (x1)), (2, .int (x2)), (3, .int (x3)), (4, .int (x4))] → W p l e (headSpec wsX1_find { frames := 0, cells := 0, slots := 0, locals := 0 }).room s m args below meth c H locs 0 0 (MQ below (va_Qi (fun r (_ : Unit) => r = G) (fun _ t => va_P D vwCl (pz_X q k cnt kinds firsts seconds heights tables replaced laid rules ps qs rs fs frules heads ends inforce usable summ) t.heap) (pz_A 22 q)) args s 0 0 (pz_A 22 q)) (F0 m 3 ls []) := by
  obtain ⟨hx, hb, hml, hown, hts, hr, hlocks⟩ := hC
  have hC : pz_C p s m args meth c cX1_find wsX1_find RX1 5 (some .int) := ⟨hx, hb, hml, hown, hts, hr, hlocks⟩
  have hK := hKX.1
  intro n
  induction n with
  | zero =>
    intro x1 x2 x3 x4 h0 h1 hn hc H locs ls hF hP hS hl
    exact absurd hn (by omega)
  | succ n ih =>
    intro x1 x2 x3 x4 h0 h1 hn hc H locs ls hF hP hS hl
    unfold F_X1_find_3 at hF
    refine lv_iload hx hb dX1_find_3 (lv_at hl 4 rfl) ?_
    refine lv_aload_n hx hb dX1_find_5 rfl (lv_at hl 0 rfl) ?_
    refine va_get (D := D) (ci := 1) (v := .int (cnt)) (C := RX1) (T := TX1) (N := 7) hx hb hts in_X1_find_X1 hown hK hP 1 rfl rfl 6 (by decide) (hts _ fl_X1_find_31) (fun _ h9 => h9) rfl dX1_find_6 ?_
    refine lv_icmp_ge (tgt := 54) hx hb dX1_find_9 (by decide) (fun c_1 => ?_) (fun c_1 => ?_)
    · have hF := hF.trans (if_pos c_1)
      refine lv_iconst (v := (-1)) hx hb dX1_find_54 (by decide) ?_
      exact W.iret (v := (-1)) hx hb hr (fun t ht hW => ⟨⟨(-1), (), rfl, hF.symm, pz_hp ht hP⟩, hS.F ht⟩) hS.2.2 dX1_find_55 hlocks
    · have hF := hF.trans (if_neg c_1)
      refine lv_aload_n hx hb dX1_find_12 rfl (lv_at hl 0 rfl) ?_
      refine va_get (D := D) (ci := 1) (v := .ref (q 4)) (C := RX1) (T := TX1) (N := 7) hx hb hts in_X1_find_X1 hown hK hP 1 rfl rfl 0 (by decide) (hts _ fl_X1_find_9) (fun _ h9 => h9) rfl dX1_find_13 ?_
      refine lv_iload hx hb dX1_find_16 (lv_at hl 4 rfl) ?_
      have hi_2 : vp_in x4 80 := pz_inI h0 (pz_incf hc ‹¬ cnt ≤ x4›).2
      refine va_iald hx hb hK hP 4 0 rfl rfl hi_2 dX1_find_18 ?_
      refine lv_iload_n hx hb dX1_find_19 rfl (lv_at hl 1 rfl) ?_
      refine lv_icmp_ne (tgt := 48) hx hb dX1_find_20 (by decide) (fun c_3 => ?_) (fun c_3 => ?_)
      · have hF := hF.trans (if_neg c_3)
        refine lv_iinc (v := (x4 + 1)) (lv' := [(4, .int ((x4 + 1))), (0, .ref (q 1)), (1, .int (x1)), (2, .int (x2)), (3, .int (x3))]) hx hb dX1_find_48 hl (k := 4) rfl rfl (by decide) rfl (fun ls hl => ?_)
        refine lv_goto (tgt := 3) hx hb dX1_find_51 (by decide) ?_
        exact ih x1 x2 x3 (x4 + 1) (by have e := pz_incf hc ‹¬ cnt ≤ x4›; omega) (by have e := pz_incf hc ‹¬ cnt ≤ x4›; omega) (by have e := pz_incf hc ‹¬ cnt ≤ x4›; omega) hc _ _ _ hF hP hS (lv_sub hl [1, 2, 3, 4, 0] rfl)
      · have hF := hF.trans (if_pos c_3)
        refine lv_aload_n hx hb dX1_find_23 rfl (lv_at hl 0 rfl) ?_
        refine va_get (D := D) (ci := 1) (v := .ref (q 5)) (C := RX1) (T := TX1) (N := 7) hx hb hts in_X1_find_X1 hown hK hP 1 rfl rfl 1 (by decide) (hts _ fl_X1_find_15) (fun _ h9 => h9) rfl dX1_find_24 ?_
        refine lv_iload hx hb dX1_find_27 (lv_at hl 4 rfl) ?_
        have hi_4 : vp_in x4 80 := pz_inI h0 (pz_incf hc ‹¬ cnt ≤ x4›).2
        refine va_iald hx hb hK hP 5 0 rfl rfl hi_4 dX1_find_29 ?_
        refine lv_iload_n hx hb dX1_find_30 rfl (lv_at hl 2 rfl) ?_
        refine lv_icmp_ne (tgt := 48) hx hb dX1_find_31 (by decide) (fun c_5 => ?_) (fun c_5 => ?_)
        · have hF := hF.trans (if_neg c_5)
          refine lv_iinc (v := (x4 + 1)) (lv' := [(4, .int ((x4 + 1))), (0, .ref (q 1)), (1, .int (x1)), (2, .int (x2)), (3, .int (x3))]) hx hb dX1_find_48 hl (k := 4) rfl rfl (by decide) rfl (fun ls hl => ?_)
          refine lv_goto (tgt := 3) hx hb dX1_find_51 (by decide) ?_
          exact ih x1 x2 x3 (x4 + 1) (by have e := pz_incf hc ‹¬ cnt ≤ x4›; omega) (by have e := pz_incf hc ‹¬ cnt ≤ x4›; omega) (by have e := pz_incf hc ‹¬ cnt ≤ x4›; omega) hc _ _ _ hF hP hS (lv_sub hl [1, 2, 3, 4, 0] rfl)
        · have hF := hF.trans (if_pos c_5)
          refine lv_aload_n hx hb dX1_find_34 rfl (lv_at hl 0 rfl) ?_
          refine va_get (D := D) (ci := 1) (v := .ref (q 6)) (C := RX1) (T := TX1) (N := 7) hx hb hts in_X1_find_X1 hown hK hP 1 rfl rfl 2 (by decide) (hts _ fl_X1_find_18) (fun _ h9 => h9) rfl dX1_find_35 ?_
          refine lv_iload hx hb dX1_find_38 (lv_at hl 4 rfl) ?_
          have hi_6 : vp_in x4 80 := pz_inI h0 (pz_incf hc ‹¬ cnt ≤ x4›).2
          refine va_iald hx hb hK hP 6 0 rfl rfl hi_6 dX1_find_40 ?_
          refine lv_iload_n hx hb dX1_find_41 rfl (lv_at hl 3 rfl) ?_
          refine lv_icmp_ne (tgt := 48) hx hb dX1_find_42 (by decide) (fun c_7 => ?_) (fun c_7 => ?_)
          · have hF := hF.trans (if_neg c_7)
            refine lv_iinc (v := (x4 + 1)) (lv' := [(4, .int ((x4 + 1))), (0, .ref (q 1)), (1, .int (x1)), (2, .int (x2)), (3, .int (x3))]) hx hb dX1_find_48 hl (k := 4) rfl rfl (by decide) rfl (fun ls hl => ?_)
            refine lv_goto (tgt := 3) hx hb dX1_find_51 (by decide) ?_
            exact ih x1 x2 x3 (x4 + 1) (by have e := pz_incf hc ‹¬ cnt ≤ x4›; omega) (by have e := pz_incf hc ‹¬ cnt ≤ x4›; omega) (by have e := pz_incf hc ‹¬ cnt ≤ x4›; omega) hc _ _ _ hF hP hS (lv_sub hl [1, 2, 3, 4, 0] rfl)
          · have hF := hF.trans (if_pos c_7)
            refine lv_iload hx hb dX1_find_45 (lv_at hl 4 rfl) ?_
            exact W.iret (v := x4) hx hb hr (fun t ht hW => ⟨⟨x4, (), rfl, hF.symm, pz_hp ht hP⟩, hS.F ht⟩) hS.2.2 dX1_find_47 hlocks
set_option maxHeartbeats 4000000 in
set_option maxRecDepth 100000 in
theorem c_X1_find (l : Launch) (D : va_G) (q : Nat → Nat) (k : Nat → ClassId) (t : Nat → Nat) (cnt : Int32) (kinds : Nat → Int32) (firsts : Nat → Int32) (seconds : Nat → Int32) (heights : Nat → Int32) (tables : Nat → Int64) (replaced : Nat → Int32) (laid : Nat → Int32) (rules : Nat → Int32) (ps : Nat → Int32) (qs : Nat → Int32) (rs : Nat → Int32) (fs : Nat → Int32) (frules : Nat → Int32) (heads : Nat → Int32) (ends : Nat → Int32) (inforce : Nat → Int32) (usable : Nat → Int32) (summ : Nat → Int32) (x1 : Int32) (x2 : Int32) (x3 : Int32) (hc : pz_c cnt) : Met l yX1_find wsX1_find ({ frames := 0, cells := 0, slots := 0, locals := 0 }) (va_Pc [.ref (q 1), .int (x1), .int (x2), .int (x3)] (fun U => va_P D vwCl (pz_X q k cnt kinds firsts seconds heights tables replaced laid rules ps qs rs fs frules heads ends inforce usable summ) U.heap ∧ pz_KX D q k t U)) (va_Qi (fun r (_ : Unit) => r = (f_X1_find cnt kinds firsts seconds x1 x2 x3)) (fun _ t => va_P D vwCl (pz_X q k cnt kinds firsts seconds heights tables replaced laid rules ps qs rs fs frules heads ends inforce usable summ) t.heap) (pz_A 22 q)) 0 0 (pz_A 22 q) := by
  refine Met.ofW (cc := cX1_find) (maxL := 5) (ret := (some .int)) (by decide) rfl ?_
  intro p e s m args below meth c s₁ B hml hv
  obtain ⟨rfl, hP, hKX⟩ := hv
  have hx := B.exec
  have hb := B.bytes
  have hr := B.returns
  have hts := atoms_spec (ws := wsX1_find) B.pre
  have hown : s.vm.findClass RX1 = some m.cls := findClass_of_methodNamed B.named
  have hlocks := B.notSynchronized
  have hC : pz_C p s m ([.ref (q 1), .int (x1), .int (x2), .int (x3)] : List Value).toArray meth c cX1_find wsX1_find RX1 5 (some .int) := ⟨hx, hb, hml, hown, hts, hr, hlocks⟩
  have hK := hKX.1
  have hS : va_S (pz_A 22 q) s.heap s.heap [] := va_S.rf
  have hl := lv_entry [.ref (q 1), .int (x1), .int (x2), .int (x3)] (n := 5) (Nat.le_of_ble_eq_true rfl)
  rw [lg_entry_eq]
  generalize (lg_sl [.ref (q 1), .int (x1), .int (x2), .int (x3)] ++ List.replicate (5 - (lg_sl [.ref (q 1), .int (x1), .int (x2), .int (x3)]).length) Slot.unset).toArray = ls at hl ⊢
  have hl : lv_has ls 5 [(0, .ref (q 1)), (1, .int (x1)), (2, .int (x2)), (3, .int (x3))] := hl
  generalize hF : f_X1_find cnt kinds firsts seconds x1 x2 x3 = G
  replace hF := hF.symm
  unfold f_X1_find at hF
  refine lv_iconst (v := 0) hx hb dX1_find_0 (by decide) ?_
  refine lv_istore (lv' := [(4, .int (0)), (0, .ref (q 1)), (1, .int (x1)), (2, .int (x2)), (3, .int (x3))]) hx hb dX1_find_1 hl (by decide) rfl (fun ls hl => ?_)
  exact k_X1_find_3 hC hKX cnt kinds firsts seconds heights tables replaced laid rules ps qs rs fs frules heads ends inforce usable summ 81 x1 x2 x3 0 (by decide) (by decide) (by decide) hc _ _ _ hF hP hS (lv_sub hl [1, 2, 3, 4, 0] rfl)

-- == X1_tableFor
def f_X1_tableFor (cnt : Int32) (tables : Nat → Int64) (x1 : Int32) (x2 : Int32) (x3 : Int32) : Int64 := if x1 = 1 then (pz_bnd (f_X3_isLetter x2) (fun z_2 => if z_2 = 0 then (0) else ((pz_LB (x2).toNatClampNeg)))) else (if x1 = 2 then (pz_bnd (f_X1_tableOf cnt tables x2) (fun z_6 => pz_bnd (f_X1_tableOf cnt tables x3) (fun z_7 => (z_6 &&& z_7)))) else (if x1 = 3 then (pz_bnd (f_X1_tableOf cnt tables x2) (fun z_9 => pz_bnd (f_X1_tableOf cnt tables x3) (fun z_10 => (z_9 ||| z_10)))) else (if x1 = 4 then (pz_bnd (f_X1_tableOf cnt tables x2) (fun z_12 => pz_bnd (f_X1_tableOf cnt tables x3) (fun z_13 => ((z_12 ^^^ (-1)) ||| z_13)))) else (0))))
theorem fl_X1_tableFor_60 : Cond.fieldLink RX1 60 "BoxProofs$Formulas" "LETTER_TABLES" "[J" ∈ wsX1_tableFor := by decide +kernel
theorem hdS_X3_isLetter : yX3_isLetter.cls ≠ "java/lang/invoke/MethodHandle" ∧ yX3_isLetter.cls ≠ "java/lang/invoke/VarHandle" ∧ (parseMethodDescriptor yX3_isLetter.desc).map (fun d => d.parameters.length) = some 1 := by decide +kernel
theorem hdV_X1_tableOf : yX1_tableOf.cls = RX1 ∧ yX1_tableOf.cls ≠ "java/lang/invoke/MethodHandle" ∧ yX1_tableOf.cls ≠ "java/lang/invoke/VarHandle" ∧ (parseMethodDescriptor yX1_tableOf.desc).map (fun d => d.parameters.length) = some 1 := by decide +kernel
theorem mm_X1_tableFor_Cond_constantLong_RX1_67___1_ : Cond.constantLong RX1 67 (-1) ∈ wsX1_tableFor := by decide +kernel
theorem mm_X1_tableFor_Cond_initialized_RX3 : Cond.initialized RX3 ∈ wsX1_tableFor := by decide +kernel
theorem mm_X1_tableFor_Cond_static_yX3_isLetter : Cond.static yX3_isLetter ∈ wsX1_tableFor := by decide +kernel
set_option maxHeartbeats 4000000 in
set_option maxRecDepth 100000 in
theorem c_X1_tableFor (l : Launch) (D : va_G) (q : Nat → Nat) (k : Nat → ClassId) (t : Nat → Nat) (cnt : Int32) (kinds : Nat → Int32) (firsts : Nat → Int32) (seconds : Nat → Int32) (heights : Nat → Int32) (tables : Nat → Int64) (replaced : Nat → Int32) (laid : Nat → Int32) (rules : Nat → Int32) (ps : Nat → Int32) (qs : Nat → Int32) (rs : Nat → Int32) (fs : Nat → Int32) (frules : Nat → Int32) (heads : Nat → Int32) (ends : Nat → Int32) (inforce : Nat → Int32) (usable : Nat → Int32) (summ : Nat → Int32) (x1 : Int32) (x2 : Int32) (x3 : Int32) (hc : pz_c cnt) : Met l yX1_tableFor wsX1_tableFor ({ frames := 2, cells := 0, slots := 0, locals := 42 }) (va_Pc [.ref (q 1), .int (x1), .int (x2), .int (x3)] (fun U => va_P D vwCl (pz_X q k cnt kinds firsts seconds heights tables replaced laid rules ps qs rs fs frules heads ends inforce usable summ) U.heap ∧ pz_KX D q k t U)) (va_Ql (fun r (_ : Unit) => r = (f_X1_tableFor cnt tables x1 x2 x3)) (fun _ t => va_P D vwCl (pz_X q k cnt kinds firsts seconds heights tables replaced laid rules ps qs rs fs frules heads ends inforce usable summ) t.heap) (pz_A 22 q)) 0 0 (pz_A 22 q) := by
  refine Met.ofW (cc := cX1_tableFor) (maxL := 4) (ret := (some .long)) (by decide) rfl ?_
  intro p e s m args below meth c s₁ B hml hv
  obtain ⟨rfl, hP, hKX⟩ := hv
  have hx := B.exec
  have hb := B.bytes
  have hr := B.returns
  have hts := atoms_spec (ws := wsX1_tableFor) B.pre
  have hown : s.vm.findClass RX1 = some m.cls := findClass_of_methodNamed B.named
  have hlocks := B.notSynchronized
  have hC : pz_C p s m ([.ref (q 1), .int (x1), .int (x2), .int (x3)] : List Value).toArray meth c cX1_tableFor wsX1_tableFor RX1 4 (some .long) := ⟨hx, hb, hml, hown, hts, hr, hlocks⟩
  have hK := hKX.1
  have hS : va_S (pz_A 22 q) s.heap s.heap [] := va_S.rf
  have hl := lv_entry [.ref (q 1), .int (x1), .int (x2), .int (x3)] (n := 4) (Nat.le_of_ble_eq_true rfl)
  rw [lg_entry_eq]
  generalize (lg_sl [.ref (q 1), .int (x1), .int (x2), .int (x3)] ++ List.replicate (4 - (lg_sl [.ref (q 1), .int (x1), .int (x2), .int (x3)]).length) Slot.unset).toArray = ls at hl ⊢
  have hl : lv_has ls 4 [(0, .ref (q 1)), (1, .int (x1)), (2, .int (x2)), (3, .int (x3))] := hl
  generalize hF : f_X1_tableFor cnt tables x1 x2 x3 = G
  replace hF := hF.symm
  unfold f_X1_tableFor at hF
  refine lv_iload_n hx hb dX1_tableFor_0 rfl (lv_at hl 1 rfl) ?_
  refine pz_cases (P := x1 = 1) (fun c_1 => ?_) (fun c_1 => ?_)
  · have hF := hF.trans (if_pos c_1)
    refine pz_table (tgt := 32) (off := 31) hx hb dX1_tableFor_1 rfl (by rw [c_1]; rfl) (by decide) ?_
    refine lv_iload_n hx hb dX1_tableFor_32 rfl (lv_at hl 2 rfl) ?_
    refine pz_SNi (As := [.int (x2)]) (rest := []) ⟨hx, hb, hml, hown, hts⟩ (c_X3_isLetter l x2) ⟨va_cnB 1 hts gX1_tableFor_X3_isLetter_n57 rfl rfl rfl hKX.2.2.1 (hts _ mm_X1_tableFor_Cond_initialized_RX3) hdS_X3_isLetter ⟨Nat.le_of_ble_eq_true rfl, Nat.le_of_ble_eq_true rfl⟩, hts _ mm_X1_tableFor_Cond_static_yX3_isLetter, trivial⟩ hP hS rfl hl.1 rfl (Nat.le_of_ble_eq_true rfl) dX1_tableFor_33 ⟨Nat.zero_le _, Nat.zero_le _⟩ (fun r_2 H locs hF_2 hP hS => ?_)
    have hF := hF.trans (pz_be hF_2)
    refine lv_if_eq (tgt := 47) hx hb dX1_tableFor_36 (by decide) (fun c_3 => ?_) (fun c_3 => ?_)
    · have hF := hF.trans (if_pos c_3)
      refine lv_lconst (v := 0) hx hb dX1_tableFor_47 (by decide) ?_
      exact W.lret (v := 0) hx hb hr (fun t ht hW => ⟨⟨0, (), rfl, hF.symm, pz_hp ht hP⟩, hS.F ht⟩) hS.2.2 dX1_tableFor_48 hlocks
    · have hF := hF.trans (if_neg c_3)
      refine va_gets hx hb hKX.2.2.2.2.2.2.1 hS hown (hts _ fl_X1_tableFor_60) (fun _ h9 => h9) dX1_tableFor_39 ?_
      refine lv_iload_n hx hb dX1_tableFor_42 rfl (lv_at hl 2 rfl) ?_
      have hi_4 : vp_in x2 6 := by first | exact pz_letter ‹_› ‹_› | assumption
      refine va_tl hx hb hKX.2.2.2.2.2.2.2.1 hS hi_4 (v := .long (pz_LB (x2).toNatClampNeg)) rfl dX1_tableFor_43 ?_
      refine lv_goto (tgt := 48) hx hb dX1_tableFor_44 (by decide) ?_
      exact W.lret (v := (pz_LB (x2).toNatClampNeg)) hx hb hr (fun t ht hW => ⟨⟨(pz_LB (x2).toNatClampNeg), (), rfl, hF.symm, pz_hp ht hP⟩, hS.F ht⟩) hS.2.2 dX1_tableFor_48 hlocks
  · have hF := hF.trans (if_neg c_1)
    refine pz_cases (P := x1 = 2) (fun c_5 => ?_) (fun c_5 => ?_)
    · have hF := hF.trans (if_pos c_5)
      refine pz_table (tgt := 49) (off := 48) hx hb dX1_tableFor_1 rfl (by rw [c_5]; rfl) (by decide) ?_
      refine lv_aload_n hx hb dX1_tableFor_49 rfl (lv_at hl 0 rfl) ?_
      refine lv_iload_n hx hb dX1_tableFor_50 rfl (lv_at hl 2 rfl) ?_
      refine pz_Vl (As := [.int (x2)]) (rest := []) ⟨hx, hb, hml, hown, hts⟩ (c_X1_tableOf l D q k t cnt kinds firsts seconds heights tables replaced laid rules ps qs rs fs frules heads ends inforce usable summ x2 hc) (cwV 1 hts gX1_tableFor_X1_tableOf rfl rfl rfl hdV_X1_tableOf ⟨Nat.le_of_ble_eq_true rfl, Nat.le_of_ble_eq_true rfl⟩) pz_KX.call (hKX.go hS) (va_recv hK hP (ci := 1) (q0 := 1) rfl rfl) hP hS rfl hl.1 rfl (Nat.le_of_ble_eq_true rfl) dX1_tableFor_51 ⟨Nat.zero_le _, Nat.zero_le _⟩ (fun r_6 u_6 H locs hF_6 hP hS => ?_)
      have hF := hF.trans (pz_be hF_6)
      refine lv_aload_n hx hb dX1_tableFor_54 rfl (lv_at hl 0 rfl) ?_
      refine lv_iload_n hx hb dX1_tableFor_55 rfl (lv_at hl 3 rfl) ?_
      refine pz_Vl (As := [.int (x3)]) (rest := [.long (r_6)]) ⟨hx, hb, hml, hown, hts⟩ (c_X1_tableOf l D q k t cnt kinds firsts seconds heights tables replaced laid rules ps qs rs fs frules heads ends inforce usable summ x3 hc) (cwV 1 hts gX1_tableFor_X1_tableOf rfl rfl rfl hdV_X1_tableOf ⟨Nat.le_of_ble_eq_true rfl, Nat.le_of_ble_eq_true rfl⟩) pz_KX.call (hKX.go hS) (va_recv hK hP (ci := 1) (q0 := 1) rfl rfl) hP hS rfl hl.1 rfl (Nat.le_of_ble_eq_true rfl) dX1_tableFor_56 ⟨Nat.zero_le _, Nat.zero_le _⟩ (fun r_7 u_7 H locs hF_7 hP hS => ?_)
      have hF := hF.trans (pz_be hF_7)
      refine lv_land hx hb dX1_tableFor_59 ?_
      exact W.lret (v := (r_6 &&& r_7)) hx hb hr (fun t ht hW => ⟨⟨(r_6 &&& r_7), (), rfl, hF.symm, pz_hp ht hP⟩, hS.F ht⟩) hS.2.2 dX1_tableFor_60 hlocks
    · have hF := hF.trans (if_neg c_5)
      refine pz_cases (P := x1 = 3) (fun c_8 => ?_) (fun c_8 => ?_)
      · have hF := hF.trans (if_pos c_8)
        refine pz_table (tgt := 61) (off := 60) hx hb dX1_tableFor_1 rfl (by rw [c_8]; rfl) (by decide) ?_
        refine lv_aload_n hx hb dX1_tableFor_61 rfl (lv_at hl 0 rfl) ?_
        refine lv_iload_n hx hb dX1_tableFor_62 rfl (lv_at hl 2 rfl) ?_
        refine pz_Vl (As := [.int (x2)]) (rest := []) ⟨hx, hb, hml, hown, hts⟩ (c_X1_tableOf l D q k t cnt kinds firsts seconds heights tables replaced laid rules ps qs rs fs frules heads ends inforce usable summ x2 hc) (cwV 1 hts gX1_tableFor_X1_tableOf rfl rfl rfl hdV_X1_tableOf ⟨Nat.le_of_ble_eq_true rfl, Nat.le_of_ble_eq_true rfl⟩) pz_KX.call (hKX.go hS) (va_recv hK hP (ci := 1) (q0 := 1) rfl rfl) hP hS rfl hl.1 rfl (Nat.le_of_ble_eq_true rfl) dX1_tableFor_63 ⟨Nat.zero_le _, Nat.zero_le _⟩ (fun r_9 u_9 H locs hF_9 hP hS => ?_)
        have hF := hF.trans (pz_be hF_9)
        refine lv_aload_n hx hb dX1_tableFor_66 rfl (lv_at hl 0 rfl) ?_
        refine lv_iload_n hx hb dX1_tableFor_67 rfl (lv_at hl 3 rfl) ?_
        refine pz_Vl (As := [.int (x3)]) (rest := [.long (r_9)]) ⟨hx, hb, hml, hown, hts⟩ (c_X1_tableOf l D q k t cnt kinds firsts seconds heights tables replaced laid rules ps qs rs fs frules heads ends inforce usable summ x3 hc) (cwV 1 hts gX1_tableFor_X1_tableOf rfl rfl rfl hdV_X1_tableOf ⟨Nat.le_of_ble_eq_true rfl, Nat.le_of_ble_eq_true rfl⟩) pz_KX.call (hKX.go hS) (va_recv hK hP (ci := 1) (q0 := 1) rfl rfl) hP hS rfl hl.1 rfl (Nat.le_of_ble_eq_true rfl) dX1_tableFor_68 ⟨Nat.zero_le _, Nat.zero_le _⟩ (fun r_10 u_10 H locs hF_10 hP hS => ?_)
        have hF := hF.trans (pz_be hF_10)
        refine lv_lor hx hb dX1_tableFor_71 ?_
        exact W.lret (v := (r_9 ||| r_10)) hx hb hr (fun t ht hW => ⟨⟨(r_9 ||| r_10), (), rfl, hF.symm, pz_hp ht hP⟩, hS.F ht⟩) hS.2.2 dX1_tableFor_72 hlocks
      · have hF := hF.trans (if_neg c_8)
        refine pz_cases (P := x1 = 4) (fun c_11 => ?_) (fun c_11 => ?_)
        · have hF := hF.trans (if_pos c_11)
          refine pz_table (tgt := 73) (off := 72) hx hb dX1_tableFor_1 rfl (by rw [c_11]; rfl) (by decide) ?_
          refine lv_aload_n hx hb dX1_tableFor_73 rfl (lv_at hl 0 rfl) ?_
          refine lv_iload_n hx hb dX1_tableFor_74 rfl (lv_at hl 2 rfl) ?_
          refine pz_Vl (As := [.int (x2)]) (rest := []) ⟨hx, hb, hml, hown, hts⟩ (c_X1_tableOf l D q k t cnt kinds firsts seconds heights tables replaced laid rules ps qs rs fs frules heads ends inforce usable summ x2 hc) (cwV 1 hts gX1_tableFor_X1_tableOf rfl rfl rfl hdV_X1_tableOf ⟨Nat.le_of_ble_eq_true rfl, Nat.le_of_ble_eq_true rfl⟩) pz_KX.call (hKX.go hS) (va_recv hK hP (ci := 1) (q0 := 1) rfl rfl) hP hS rfl hl.1 rfl (Nat.le_of_ble_eq_true rfl) dX1_tableFor_75 ⟨Nat.zero_le _, Nat.zero_le _⟩ (fun r_12 u_12 H locs hF_12 hP hS => ?_)
          have hF := hF.trans (pz_be hF_12)
          refine lv_ldc2 hx hb hown (hts _ mm_X1_tableFor_Cond_constantLong_RX1_67___1_) dX1_tableFor_78 ?_
          refine lv_lxor hx hb dX1_tableFor_81 ?_
          refine lv_aload_n hx hb dX1_tableFor_82 rfl (lv_at hl 0 rfl) ?_
          refine lv_iload_n hx hb dX1_tableFor_83 rfl (lv_at hl 3 rfl) ?_
          refine pz_Vl (As := [.int (x3)]) (rest := [.long ((r_12 ^^^ (-1)))]) ⟨hx, hb, hml, hown, hts⟩ (c_X1_tableOf l D q k t cnt kinds firsts seconds heights tables replaced laid rules ps qs rs fs frules heads ends inforce usable summ x3 hc) (cwV 1 hts gX1_tableFor_X1_tableOf rfl rfl rfl hdV_X1_tableOf ⟨Nat.le_of_ble_eq_true rfl, Nat.le_of_ble_eq_true rfl⟩) pz_KX.call (hKX.go hS) (va_recv hK hP (ci := 1) (q0 := 1) rfl rfl) hP hS rfl hl.1 rfl (Nat.le_of_ble_eq_true rfl) dX1_tableFor_84 ⟨Nat.zero_le _, Nat.zero_le _⟩ (fun r_13 u_13 H locs hF_13 hP hS => ?_)
          have hF := hF.trans (pz_be hF_13)
          refine lv_lor hx hb dX1_tableFor_87 ?_
          exact W.lret (v := ((r_12 ^^^ (-1)) ||| r_13)) hx hb hr (fun t ht hW => ⟨⟨((r_12 ^^^ (-1)) ||| r_13), (), rfl, hF.symm, pz_hp ht hP⟩, hS.F ht⟩) hS.2.2 dX1_tableFor_88 hlocks
        · have hF := hF.trans (if_neg c_11)
          have ho : pz_off (88) (1) (4) #[31, 48, 60, 72] x1 = 88 := by
            unfold pz_off
            split
            · rfl
            · have hz : (x1).toInt = 1 ∨ (x1).toInt = 2 ∨ (x1).toInt = 3 ∨ (x1).toInt = 4 := by omega
              rcases hz with hz | hz | hz | hz
              · exact absurd (Int32.toInt_inj.mp (hz.trans (show (1 : Int) = (1 : Int32).toInt from rfl))) c_1
              · exact absurd (Int32.toInt_inj.mp (hz.trans (show (2 : Int) = (2 : Int32).toInt from rfl))) c_5
              · exact absurd (Int32.toInt_inj.mp (hz.trans (show (3 : Int) = (3 : Int32).toInt from rfl))) c_8
              · exact absurd (Int32.toInt_inj.mp (hz.trans (show (4 : Int) = (4 : Int32).toInt from rfl))) c_11
          refine pz_table (tgt := 89) hx hb dX1_tableFor_1 rfl ho (by decide) ?_
          refine lv_lconst (v := 0) hx hb dX1_tableFor_89 (by decide) ?_
          exact W.lret (v := 0) hx hb hr (fun t ht hW => ⟨⟨0, (), rfl, hF.symm, pz_hp ht hP⟩, hS.F ht⟩) hS.2.2 dX1_tableFor_90 hlocks

-- == X1_make
def F_X1_make_44 (cnt : Int32) (kinds : Nat → Int32) (firsts : Nat → Int32) (seconds : Nat → Int32) (heights : Nat → Int32) (tables : Nat → Int64) (x1 : Int32) (x2 : Int32) (x3 : Int32) (x4 : Int32) (x5 : Int32) : Int32 × (Int32) × (Nat → Int32) × (Nat → Int32) × (Nat → Int32) × (Nat → Int32) × (Nat → Int64) := if 80 ≤ cnt then (((-4), cnt, kinds, firsts, seconds, heights, tables)) else (if x5 ≤ 12 then (pz_bnd (f_X1_tableFor cnt tables x1 x2 x3) (fun z_7 => (((cnt + 1) - 1), (cnt + 1), (upd kinds (cnt).toNatClampNeg x1), (upd firsts (cnt).toNatClampNeg x2), (upd seconds (cnt).toNatClampNeg x3), (upd heights (cnt).toNatClampNeg x5), (vp_updL tables (cnt).toNatClampNeg z_7)))) else (((-4), cnt, kinds, firsts, seconds, heights, tables)))
def f_X1_make (cnt : Int32) (kinds : Nat → Int32) (firsts : Nat → Int32) (seconds : Nat → Int32) (heights : Nat → Int32) (tables : Nat → Int64) (x1 : Int32) (x2 : Int32) (x3 : Int32) : Int32 × (Int32) × (Nat → Int32) × (Nat → Int32) × (Nat → Int32) × (Nat → Int32) × (Nat → Int64) := pz_bnd (f_X1_find cnt kinds firsts seconds x1 x2 x3) (fun z_9 => if z_9 = (-1) then (if 2 ≤ x1 then (pz_bnd (f_X1_heightOf cnt heights x2) (fun z_12 => pz_bnd (f_X1_heightOf cnt heights x3) (fun z_13 => F_X1_make_44 cnt kinds firsts seconds heights tables x1 x2 x3 z_9 (1 + (if z_12 < z_13 then z_13 else z_12))))) else (F_X1_make_44 cnt kinds firsts seconds heights tables x1 x2 x3 z_9 1)) else ((z_9, cnt, kinds, firsts, seconds, heights, tables)))
theorem fl_X1_make_15 : Cond.fieldLink RX1 15 "BoxProofs$Formulas" "firsts" "[I" ∈ wsX1_make := by decide +kernel
theorem fl_X1_make_18 : Cond.fieldLink RX1 18 "BoxProofs$Formulas" "seconds" "[I" ∈ wsX1_make := by decide +kernel
theorem fl_X1_make_21 : Cond.fieldLink RX1 21 "BoxProofs$Formulas" "heights" "[I" ∈ wsX1_make := by decide +kernel
theorem fl_X1_make_24 : Cond.fieldLink RX1 24 "BoxProofs$Formulas" "tables" "[J" ∈ wsX1_make := by decide +kernel
theorem fl_X1_make_31 : Cond.fieldLink RX1 31 "BoxProofs$Formulas" "count" "I" ∈ wsX1_make := by decide +kernel
theorem fl_X1_make_9 : Cond.fieldLink RX1 9 "BoxProofs$Formulas" "kinds" "[I" ∈ wsX1_make := by decide +kernel
theorem hdV_X1_find : yX1_find.cls = RX1 ∧ yX1_find.cls ≠ "java/lang/invoke/MethodHandle" ∧ yX1_find.cls ≠ "java/lang/invoke/VarHandle" ∧ (parseMethodDescriptor yX1_find.desc).map (fun d => d.parameters.length) = some 3 := by decide +kernel
theorem hdV_X1_heightOf : yX1_heightOf.cls = RX1 ∧ yX1_heightOf.cls ≠ "java/lang/invoke/MethodHandle" ∧ yX1_heightOf.cls ≠ "java/lang/invoke/VarHandle" ∧ (parseMethodDescriptor yX1_heightOf.desc).map (fun d => d.parameters.length) = some 1 := by decide +kernel
theorem hdV_X1_tableFor : yX1_tableFor.cls = RX1 ∧ yX1_tableFor.cls ≠ "java/lang/invoke/MethodHandle" ∧ yX1_tableFor.cls ≠ "java/lang/invoke/VarHandle" ∧ (parseMethodDescriptor yX1_tableFor.desc).map (fun d => d.parameters.length) = some 3 := by decide +kernel
theorem in_X1_make_X1 : ∀ w ∈ wsX10, w ∈ wsX1_make := by decide +kernel
theorem mm_X1_make_Cond_code_Lib_Math_max_name_Lib_Math_max_code_2__some__int_ : Cond.code Lib.Math.max.name Lib.Math.max.code 2 (some .int) ∈ wsX1_make := by decide +kernel
theorem mm_X1_make_Cond_initialized__java_lang_Math_ : Cond.initialized "java/lang/Math" ∈ wsX1_make := by decide +kernel
theorem mm_X1_make_Cond_methodLink_RX1_47_Lib_Math_max_name : Cond.methodLink RX1 47 Lib.Math.max.name ∈ wsX1_make := by decide +kernel
theorem mm_X1_make_Cond_static_Lib_Math_max_name : Cond.static Lib.Math.max.name ∈ wsX1_make := by decide +kernel
set_option maxHeartbeats 4000000 in
set_option maxRecDepth 100000 in
theorem k_X1_make_44 {p : Program} {l : Launch} {e : Env} {s : State} {m : MethodId} {args : Array Value} {below : List Frame} {meth : Method} {c : Code} {D : va_G} {q : Nat → Nat} {k : Nat → ClassId} {t : Nat → Nat} (hC : pz_C p s m args meth c cX1_make wsX1_make RX1 6 (some .int)) (hKX : pz_KX D q k t s) (replaced : Nat → Int32) (laid : Nat → Int32) (rules : Nat → Int32) (ps : Nat → Int32) (qs : Nat → Int32) (rs : Nat → Int32) (fs : Nat → Int32) (frules : Nat → Int32) (heads : Nat → Int32) (ends : Nat → Int32) (inforce : Nat → Int32) (usable : Nat → Int32) (summ : Nat → Int32) {G : Int32 × (Int32) × (Nat → Int32) × (Nat → Int32) × (Nat → Int32) × (Nat → Int32) × (Nat → Int64)} :
    ∀ (cnt : Int32) (kinds : Nat → Int32) (firsts : Nat → Int32) (seconds : Nat → Int32) (heights : Nat → Int32) (tables : Nat → Int64) (x1 : Int32) (x2 : Int32) (x3 : Int32) (x4 : Int32) (x5 : Int32)  (hc : pz_c cnt) (H : Heap) (locs : List Loc) (ls : Array Slot), G = F_X1_make_44 cnt kinds firsts seconds heights tables x1 x2 x3 x4 x5 → va_P D vwCl (pz_X q k cnt kinds firsts seconds heights tables replaced laid rules ps qs rs fs frules heads ends inforce usable summ) H → va_S (pz_A 22 q) s.heap H locs → lv_has ls 6 [(0, .ref (q 1)), (1, .int (x1)), (2, .int (x2)), (3, .int (x3)), (4, .int (x4)), (5, .int (x5))] → W p l e (headSpec wsX1_make { frames := 3, cells := 0, slots := 0, locals := 65 }).room s m args below meth c H locs 0 0 (MQ below (va_Qi (fun r (u : (Int32) × (Nat → Int32) × (Nat → Int32) × (Nat → Int32) × (Nat → Int32) × (Nat → Int64)) => (r, u) = G) (fun u t => va_P D vwCl (pz_X q k u.1 u.2.1 u.2.2.1 u.2.2.2.1 u.2.2.2.2.1 u.2.2.2.2.2 replaced laid rules ps qs rs fs frules heads ends inforce usable summ) t.heap) (pz_A 22 q)) args s 0 0 (pz_A 22 q)) (F0 m 44 ls []) := by
  obtain ⟨hx, hb, hml, hown, hts, hr, hlocks⟩ := hC
  have hC : pz_C p s m args meth c cX1_make wsX1_make RX1 6 (some .int) := ⟨hx, hb, hml, hown, hts, hr, hlocks⟩
  have hK := hKX.1
  intro cnt kinds firsts seconds heights tables x1 x2 x3 x4 x5 hc H locs ls hF hP hS hl
  unfold F_X1_make_44 at hF
  refine lv_aload_n hx hb dX1_make_44 rfl (lv_at hl 0 rfl) ?_
  refine va_get (D := D) (ci := 1) (v := .int (cnt)) (C := RX1) (T := TX1) (N := 7) hx hb hts in_X1_make_X1 hown hK hP 1 rfl rfl 6 (by decide) (hts _ fl_X1_make_31) (fun _ h9 => h9) rfl dX1_make_45 ?_
  refine lv_bipush (v := 80) hx hb dX1_make_48 (by decide) ?_
  refine lv_icmp_ge (tgt := 60) hx hb dX1_make_50 (by decide) (fun c_1 => ?_) (fun c_1 => ?_)
  · have hF := hF.trans (if_pos c_1)
    refine lv_bipush (v := (-4)) hx hb dX1_make_60 (by decide) ?_
    exact W.iret (v := (-4)) hx hb hr (fun t ht hW => ⟨⟨(-4), (cnt, kinds, firsts, seconds, heights, tables), rfl, hF.symm, pz_hp ht hP⟩, hS.F ht⟩) hS.2.2 dX1_make_62 hlocks
  · have hF := hF.trans (if_neg c_1)
    refine lv_iload hx hb dX1_make_53 (lv_at hl 5 rfl) ?_
    refine lv_bipush (v := 12) hx hb dX1_make_55 (by decide) ?_
    refine lv_icmp_le (tgt := 63) hx hb dX1_make_57 (by decide) (fun c_2 => ?_) (fun c_2 => ?_)
    · have hF := hF.trans (if_pos c_2)
      refine lv_aload_n hx hb dX1_make_63 rfl (lv_at hl 0 rfl) ?_
      refine va_get (D := D) (ci := 1) (v := .ref (q 4)) (C := RX1) (T := TX1) (N := 7) hx hb hts in_X1_make_X1 hown hK hP 1 rfl rfl 0 (by decide) (hts _ fl_X1_make_9) (fun _ h9 => h9) rfl dX1_make_64 ?_
      refine lv_aload_n hx hb dX1_make_67 rfl (lv_at hl 0 rfl) ?_
      refine va_get (D := D) (ci := 1) (v := .int (cnt)) (C := RX1) (T := TX1) (N := 7) hx hb hts in_X1_make_X1 hown hK hP 1 rfl rfl 6 (by decide) (hts _ fl_X1_make_31) (fun _ h9 => h9) rfl dX1_make_68 ?_
      refine lv_iload_n hx hb dX1_make_71 rfl (lv_at hl 1 rfl) ?_
      have hi_3 : vp_in cnt 80 := pz_cin hc ‹_›
      refine va_iast hx hb hK hP (pz_D hKX.2.2.2.2.2.2.2.2 rfl) hS 4 0 rfl rfl hi_3 dX1_make_72 (fun H locs hP _ hS => ?_)
      have hP : va_P D vwCl (pz_X q k cnt (upd kinds (cnt).toNatClampNeg x1) firsts seconds heights tables replaced laid rules ps qs rs fs frules heads ends inforce usable summ) H := hP
      refine lv_aload_n hx hb dX1_make_73 rfl (lv_at hl 0 rfl) ?_
      refine va_get (D := D) (ci := 1) (v := .ref (q 5)) (C := RX1) (T := TX1) (N := 7) hx hb hts in_X1_make_X1 hown hK hP 1 rfl rfl 1 (by decide) (hts _ fl_X1_make_15) (fun _ h9 => h9) rfl dX1_make_74 ?_
      refine lv_aload_n hx hb dX1_make_77 rfl (lv_at hl 0 rfl) ?_
      refine va_get (D := D) (ci := 1) (v := .int (cnt)) (C := RX1) (T := TX1) (N := 7) hx hb hts in_X1_make_X1 hown hK hP 1 rfl rfl 6 (by decide) (hts _ fl_X1_make_31) (fun _ h9 => h9) rfl dX1_make_78 ?_
      refine lv_iload_n hx hb dX1_make_81 rfl (lv_at hl 2 rfl) ?_
      have hi_4 : vp_in cnt 80 := pz_cin hc ‹_›
      refine va_iast hx hb hK hP (pz_D hKX.2.2.2.2.2.2.2.2 rfl) hS 5 0 rfl rfl hi_4 dX1_make_82 (fun H locs hP _ hS => ?_)
      have hP : va_P D vwCl (pz_X q k cnt (upd kinds (cnt).toNatClampNeg x1) (upd firsts (cnt).toNatClampNeg x2) seconds heights tables replaced laid rules ps qs rs fs frules heads ends inforce usable summ) H := hP
      refine lv_aload_n hx hb dX1_make_83 rfl (lv_at hl 0 rfl) ?_
      refine va_get (D := D) (ci := 1) (v := .ref (q 6)) (C := RX1) (T := TX1) (N := 7) hx hb hts in_X1_make_X1 hown hK hP 1 rfl rfl 2 (by decide) (hts _ fl_X1_make_18) (fun _ h9 => h9) rfl dX1_make_84 ?_
      refine lv_aload_n hx hb dX1_make_87 rfl (lv_at hl 0 rfl) ?_
      refine va_get (D := D) (ci := 1) (v := .int (cnt)) (C := RX1) (T := TX1) (N := 7) hx hb hts in_X1_make_X1 hown hK hP 1 rfl rfl 6 (by decide) (hts _ fl_X1_make_31) (fun _ h9 => h9) rfl dX1_make_88 ?_
      refine lv_iload_n hx hb dX1_make_91 rfl (lv_at hl 3 rfl) ?_
      have hi_5 : vp_in cnt 80 := pz_cin hc ‹_›
      refine va_iast hx hb hK hP (pz_D hKX.2.2.2.2.2.2.2.2 rfl) hS 6 0 rfl rfl hi_5 dX1_make_92 (fun H locs hP _ hS => ?_)
      have hP : va_P D vwCl (pz_X q k cnt (upd kinds (cnt).toNatClampNeg x1) (upd firsts (cnt).toNatClampNeg x2) (upd seconds (cnt).toNatClampNeg x3) heights tables replaced laid rules ps qs rs fs frules heads ends inforce usable summ) H := hP
      refine lv_aload_n hx hb dX1_make_93 rfl (lv_at hl 0 rfl) ?_
      refine va_get (D := D) (ci := 1) (v := .ref (q 7)) (C := RX1) (T := TX1) (N := 7) hx hb hts in_X1_make_X1 hown hK hP 1 rfl rfl 3 (by decide) (hts _ fl_X1_make_21) (fun _ h9 => h9) rfl dX1_make_94 ?_
      refine lv_aload_n hx hb dX1_make_97 rfl (lv_at hl 0 rfl) ?_
      refine va_get (D := D) (ci := 1) (v := .int (cnt)) (C := RX1) (T := TX1) (N := 7) hx hb hts in_X1_make_X1 hown hK hP 1 rfl rfl 6 (by decide) (hts _ fl_X1_make_31) (fun _ h9 => h9) rfl dX1_make_98 ?_
      refine lv_iload hx hb dX1_make_101 (lv_at hl 5 rfl) ?_
      have hi_6 : vp_in cnt 80 := pz_cin hc ‹_›
      refine va_iast hx hb hK hP (pz_D hKX.2.2.2.2.2.2.2.2 rfl) hS 7 0 rfl rfl hi_6 dX1_make_103 (fun H locs hP _ hS => ?_)
      have hP : va_P D vwCl (pz_X q k cnt (upd kinds (cnt).toNatClampNeg x1) (upd firsts (cnt).toNatClampNeg x2) (upd seconds (cnt).toNatClampNeg x3) (upd heights (cnt).toNatClampNeg x5) tables replaced laid rules ps qs rs fs frules heads ends inforce usable summ) H := hP
      refine lv_aload_n hx hb dX1_make_104 rfl (lv_at hl 0 rfl) ?_
      refine va_get (D := D) (ci := 1) (v := .ref (q 8)) (C := RX1) (T := TX1) (N := 7) hx hb hts in_X1_make_X1 hown hK hP 1 rfl rfl 4 (by decide) (hts _ fl_X1_make_24) (fun _ h9 => h9) rfl dX1_make_105 ?_
      refine lv_aload_n hx hb dX1_make_108 rfl (lv_at hl 0 rfl) ?_
      refine va_get (D := D) (ci := 1) (v := .int (cnt)) (C := RX1) (T := TX1) (N := 7) hx hb hts in_X1_make_X1 hown hK hP 1 rfl rfl 6 (by decide) (hts _ fl_X1_make_31) (fun _ h9 => h9) rfl dX1_make_109 ?_
      refine lv_aload_n hx hb dX1_make_112 rfl (lv_at hl 0 rfl) ?_
      refine lv_iload_n hx hb dX1_make_113 rfl (lv_at hl 1 rfl) ?_
      refine lv_iload_n hx hb dX1_make_114 rfl (lv_at hl 2 rfl) ?_
      refine lv_iload_n hx hb dX1_make_115 rfl (lv_at hl 3 rfl) ?_
      refine pz_Vl (As := [.int (x1), .int (x2), .int (x3)]) (rest := [.int (cnt), .ref (q 8)]) ⟨hx, hb, hml, hown, hts⟩ (c_X1_tableFor l D q k t cnt (upd kinds (cnt).toNatClampNeg x1) (upd firsts (cnt).toNatClampNeg x2) (upd seconds (cnt).toNatClampNeg x3) (upd heights (cnt).toNatClampNeg x5) tables replaced laid rules ps qs rs fs frules heads ends inforce usable summ x1 x2 x3 hc) (cwV 3 hts gX1_make_X1_tableFor rfl rfl rfl hdV_X1_tableFor ⟨Nat.le_of_ble_eq_true rfl, Nat.le_of_ble_eq_true rfl⟩) pz_KX.call (hKX.go hS) (va_recv hK hP (ci := 1) (q0 := 1) rfl rfl) hP hS rfl hl.1 rfl (Nat.le_of_ble_eq_true rfl) dX1_make_116 ⟨Nat.zero_le _, Nat.zero_le _⟩ (fun r_7 u_7 H locs hF_7 hP hS => ?_)
      have hF := hF.trans (pz_be hF_7)
      have hi_8 : vp_in cnt 80 := pz_cin hc ‹_›
      refine va_last hx hb hK hP (pz_D hKX.2.2.2.2.2.2.2.2 rfl) hS 8 1 rfl rfl hi_8 dX1_make_119 (fun H locs hP _ hS => ?_)
      have hP : va_P D vwCl (pz_X q k cnt (upd kinds (cnt).toNatClampNeg x1) (upd firsts (cnt).toNatClampNeg x2) (upd seconds (cnt).toNatClampNeg x3) (upd heights (cnt).toNatClampNeg x5) (vp_updL tables (cnt).toNatClampNeg r_7) replaced laid rules ps qs rs fs frules heads ends inforce usable summ) H := hP
      refine lv_aload_n hx hb dX1_make_120 rfl (lv_at hl 0 rfl) ?_
      refine lv_dup hx hb dX1_make_121 rfl ?_
      refine va_get (D := D) (ci := 1) (v := .int (cnt)) (C := RX1) (T := TX1) (N := 7) hx hb hts in_X1_make_X1 hown hK hP 1 rfl rfl 6 (by decide) (hts _ fl_X1_make_31) (fun _ h9 => h9) rfl dX1_make_122 ?_
      refine lv_iconst (v := 1) hx hb dX1_make_125 (by decide) ?_
      refine lv_iadd hx hb dX1_make_126 ?_
      refine va_put (D := D) (ci := 1) (v := .int ((cnt + 1))) (ty := .int) (C := RX1) (T := TX1) (N := 7) hx hb hts in_X1_make_X1 tyX1 tyX1_ok nmX1 hown hK hP (pz_D hKX.2.2.2.2.2.2.2.2 rfl) hS 1 rfl rfl 6 (by decide) (hts _ fl_X1_make_31) (fun _ h9 => h9) rfl (by decide +kernel) rfl rfl (Nat.le_of_ble_eq_true rfl) dX1_make_127 (fun H locs hP _ hS => ?_)
      have hP : va_P D vwCl (pz_X q k (cnt + 1) (upd kinds (cnt).toNatClampNeg x1) (upd firsts (cnt).toNatClampNeg x2) (upd seconds (cnt).toNatClampNeg x3) (upd heights (cnt).toNatClampNeg x5) (vp_updL tables (cnt).toNatClampNeg r_7) replaced laid rules ps qs rs fs frules heads ends inforce usable summ) H := hP
      refine lv_aload_n hx hb dX1_make_130 rfl (lv_at hl 0 rfl) ?_
      refine va_get (D := D) (ci := 1) (v := .int ((cnt + 1))) (C := RX1) (T := TX1) (N := 7) hx hb hts in_X1_make_X1 hown hK hP 1 rfl rfl 6 (by decide) (hts _ fl_X1_make_31) (fun _ h9 => h9) rfl dX1_make_131 ?_
      refine lv_iconst (v := 1) hx hb dX1_make_134 (by decide) ?_
      refine lv_isub hx hb dX1_make_135 ?_
      exact W.iret (v := ((cnt + 1) - 1)) hx hb hr (fun t ht hW => ⟨⟨((cnt + 1) - 1), ((cnt + 1), (upd kinds (cnt).toNatClampNeg x1), (upd firsts (cnt).toNatClampNeg x2), (upd seconds (cnt).toNatClampNeg x3), (upd heights (cnt).toNatClampNeg x5), (vp_updL tables (cnt).toNatClampNeg r_7)), rfl, hF.symm, pz_hp ht hP⟩, hS.F ht⟩) hS.2.2 dX1_make_136 hlocks
    · have hF := hF.trans (if_neg c_2)
      refine lv_bipush (v := (-4)) hx hb dX1_make_60 (by decide) ?_
      exact W.iret (v := (-4)) hx hb hr (fun t ht hW => ⟨⟨(-4), (cnt, kinds, firsts, seconds, heights, tables), rfl, hF.symm, pz_hp ht hP⟩, hS.F ht⟩) hS.2.2 dX1_make_62 hlocks
set_option maxHeartbeats 4000000 in
set_option maxRecDepth 100000 in
theorem c_X1_make (l : Launch) (D : va_G) (q : Nat → Nat) (k : Nat → ClassId) (t : Nat → Nat) (cnt : Int32) (kinds : Nat → Int32) (firsts : Nat → Int32) (seconds : Nat → Int32) (heights : Nat → Int32) (tables : Nat → Int64) (replaced : Nat → Int32) (laid : Nat → Int32) (rules : Nat → Int32) (ps : Nat → Int32) (qs : Nat → Int32) (rs : Nat → Int32) (fs : Nat → Int32) (frules : Nat → Int32) (heads : Nat → Int32) (ends : Nat → Int32) (inforce : Nat → Int32) (usable : Nat → Int32) (summ : Nat → Int32) (x1 : Int32) (x2 : Int32) (x3 : Int32) (hc : pz_c cnt) : Met l yX1_make wsX1_make ({ frames := 3, cells := 0, slots := 0, locals := 65 }) (va_Pc [.ref (q 1), .int (x1), .int (x2), .int (x3)] (fun U => va_P D vwCl (pz_X q k cnt kinds firsts seconds heights tables replaced laid rules ps qs rs fs frules heads ends inforce usable summ) U.heap ∧ pz_KX D q k t U)) (va_Qi (fun r (u : (Int32) × (Nat → Int32) × (Nat → Int32) × (Nat → Int32) × (Nat → Int32) × (Nat → Int64)) => (r, u) = (f_X1_make cnt kinds firsts seconds heights tables x1 x2 x3)) (fun u t => va_P D vwCl (pz_X q k u.1 u.2.1 u.2.2.1 u.2.2.2.1 u.2.2.2.2.1 u.2.2.2.2.2 replaced laid rules ps qs rs fs frules heads ends inforce usable summ) t.heap) (pz_A 22 q)) 0 0 (pz_A 22 q) := by
  refine Met.ofW (cc := cX1_make) (maxL := 6) (ret := (some .int)) (by decide) rfl ?_
  intro p e s m args below meth c s₁ B hml hv
  obtain ⟨rfl, hP, hKX⟩ := hv
  have hx := B.exec
  have hb := B.bytes
  have hr := B.returns
  have hts := atoms_spec (ws := wsX1_make) B.pre
  have hown : s.vm.findClass RX1 = some m.cls := findClass_of_methodNamed B.named
  have hlocks := B.notSynchronized
  have hC : pz_C p s m ([.ref (q 1), .int (x1), .int (x2), .int (x3)] : List Value).toArray meth c cX1_make wsX1_make RX1 6 (some .int) := ⟨hx, hb, hml, hown, hts, hr, hlocks⟩
  have hK := hKX.1
  have hS : va_S (pz_A 22 q) s.heap s.heap [] := va_S.rf
  have hl := lv_entry [.ref (q 1), .int (x1), .int (x2), .int (x3)] (n := 6) (Nat.le_of_ble_eq_true rfl)
  rw [lg_entry_eq]
  generalize (lg_sl [.ref (q 1), .int (x1), .int (x2), .int (x3)] ++ List.replicate (6 - (lg_sl [.ref (q 1), .int (x1), .int (x2), .int (x3)]).length) Slot.unset).toArray = ls at hl ⊢
  have hl : lv_has ls 6 [(0, .ref (q 1)), (1, .int (x1)), (2, .int (x2)), (3, .int (x3))] := hl
  generalize hF : f_X1_make cnt kinds firsts seconds heights tables x1 x2 x3 = G
  replace hF := hF.symm
  unfold f_X1_make at hF
  refine lv_aload_n hx hb dX1_make_0 rfl (lv_at hl 0 rfl) ?_
  refine lv_iload_n hx hb dX1_make_1 rfl (lv_at hl 1 rfl) ?_
  refine lv_iload_n hx hb dX1_make_2 rfl (lv_at hl 2 rfl) ?_
  refine lv_iload_n hx hb dX1_make_3 rfl (lv_at hl 3 rfl) ?_
  refine pz_Vi (As := [.int (x1), .int (x2), .int (x3)]) (rest := []) ⟨hx, hb, hml, hown, hts⟩ (c_X1_find l D q k t cnt kinds firsts seconds heights tables replaced laid rules ps qs rs fs frules heads ends inforce usable summ x1 x2 x3 hc) (cwV 3 hts gX1_make_X1_find rfl rfl rfl hdV_X1_find ⟨Nat.le_of_ble_eq_true rfl, Nat.le_of_ble_eq_true rfl⟩) pz_KX.call (hKX.go hS) (va_recv hK hP (ci := 1) (q0 := 1) rfl rfl) hP hS rfl hl.1 rfl (Nat.le_of_ble_eq_true rfl) dX1_make_4 ⟨Nat.zero_le _, Nat.zero_le _⟩ (fun r_9 u_9 H locs hF_9 hP hS => ?_)
  have hF := hF.trans (pz_be hF_9)
  refine lv_istore (lv' := [(4, .int (r_9)), (0, .ref (q 1)), (1, .int (x1)), (2, .int (x2)), (3, .int (x3))]) hx hb dX1_make_7 hl (by decide) rfl (fun ls hl => ?_)
  refine lv_iload hx hb dX1_make_9 (lv_at hl 0 rfl) ?_
  refine lv_iconst (v := (-1)) hx hb dX1_make_11 (by decide) ?_
  refine lv_icmp_eq (tgt := 18) hx hb dX1_make_12 (by decide) (fun c_10 => ?_) (fun c_10 => ?_)
  · have hF := hF.trans (if_pos c_10)
    refine lv_iload_n hx hb dX1_make_18 rfl (lv_at hl 2 rfl) ?_
    refine lv_iconst (v := 2) hx hb dX1_make_19 (by decide) ?_
    refine lv_icmp_ge (tgt := 27) hx hb dX1_make_20 (by decide) (fun c_11 => ?_) (fun c_11 => ?_)
    · have hF := hF.trans (if_pos c_11)
      refine lv_iconst (v := 1) hx hb dX1_make_27 (by decide) ?_
      refine lv_aload_n hx hb dX1_make_28 rfl (lv_at hl 1 rfl) ?_
      refine lv_iload_n hx hb dX1_make_29 rfl (lv_at hl 3 rfl) ?_
      refine pz_Vi (As := [.int (x2)]) (rest := [.int (1)]) ⟨hx, hb, hml, hown, hts⟩ (c_X1_heightOf l D q k t cnt kinds firsts seconds heights tables replaced laid rules ps qs rs fs frules heads ends inforce usable summ x2 hc) (cwV 1 hts gX1_make_X1_heightOf rfl rfl rfl hdV_X1_heightOf ⟨Nat.le_of_ble_eq_true rfl, Nat.le_of_ble_eq_true rfl⟩) pz_KX.call (hKX.go hS) (va_recv hK hP (ci := 1) (q0 := 1) rfl rfl) hP hS rfl hl.1 rfl (Nat.le_of_ble_eq_true rfl) dX1_make_30 ⟨Nat.zero_le _, Nat.zero_le _⟩ (fun r_12 u_12 H locs hF_12 hP hS => ?_)
      have hF := hF.trans (pz_be hF_12)
      refine lv_aload_n hx hb dX1_make_33 rfl (lv_at hl 1 rfl) ?_
      refine lv_iload_n hx hb dX1_make_34 rfl (lv_at hl 4 rfl) ?_
      refine pz_Vi (As := [.int (x3)]) (rest := [.int (r_12), .int (1)]) ⟨hx, hb, hml, hown, hts⟩ (c_X1_heightOf l D q k t cnt kinds firsts seconds heights tables replaced laid rules ps qs rs fs frules heads ends inforce usable summ x3 hc) (cwV 1 hts gX1_make_X1_heightOf rfl rfl rfl hdV_X1_heightOf ⟨Nat.le_of_ble_eq_true rfl, Nat.le_of_ble_eq_true rfl⟩) pz_KX.call (hKX.go hS) (va_recv hK hP (ci := 1) (q0 := 1) rfl rfl) hP hS rfl hl.1 rfl (Nat.le_of_ble_eq_true rfl) dX1_make_35 ⟨Nat.zero_le _, Nat.zero_le _⟩ (fun r_13 u_13 H locs hF_13 hP hS => ?_)
      have hF := hF.trans (pz_be hF_13)
      refine va_mmax hx hb (hml.trans hl.1.symm) hown (hts _ mm_X1_make_Cond_methodLink_RX1_47_Lib_Math_max_name) (hts _ mm_X1_make_Cond_static_Lib_Math_max_name) (hts _ mm_X1_make_Cond_initialized__java_lang_Math_) (hts _ mm_X1_make_Cond_code_Lib_Math_max_name_Lib_Math_max_code_2__some__int_) (Nat.le_of_ble_eq_true rfl) (Nat.le_of_ble_eq_true rfl) (Nat.zero_le _) (Nat.zero_le _) dX1_make_38 ?_
      refine lv_iadd hx hb dX1_make_41 ?_
      refine lv_istore (lv' := [(5, .int ((1 + (if r_12 < r_13 then r_13 else r_12)))), (4, .int (r_9)), (0, .ref (q 1)), (1, .int (x1)), (2, .int (x2)), (3, .int (x3))]) hx hb dX1_make_42 hl (by decide) rfl (fun ls hl => ?_)
      exact k_X1_make_44 hC hKX replaced laid rules ps qs rs fs frules heads ends inforce usable summ cnt kinds firsts seconds heights tables x1 x2 x3 r_9 (1 + (if r_12 < r_13 then r_13 else r_12)) hc _ _ _ hF hP hS (lv_sub hl [2, 3, 4, 5, 1, 0] rfl)
    · have hF := hF.trans (if_neg c_11)
      refine lv_iconst (v := 1) hx hb dX1_make_23 (by decide) ?_
      refine lv_goto (tgt := 42) hx hb dX1_make_24 (by decide) ?_
      refine lv_istore (lv' := [(5, .int (1)), (4, .int (r_9)), (0, .ref (q 1)), (1, .int (x1)), (2, .int (x2)), (3, .int (x3))]) hx hb dX1_make_42 hl (by decide) rfl (fun ls hl => ?_)
      exact k_X1_make_44 hC hKX replaced laid rules ps qs rs fs frules heads ends inforce usable summ cnt kinds firsts seconds heights tables x1 x2 x3 r_9 1 hc _ _ _ hF hP hS (lv_sub hl [2, 3, 4, 5, 1, 0] rfl)
  · have hF := hF.trans (if_neg c_10)
    refine lv_iload hx hb dX1_make_15 (lv_at hl 0 rfl) ?_
    exact W.iret (v := r_9) hx hb hr (fun t ht hW => ⟨⟨r_9, (cnt, kinds, firsts, seconds, heights, tables), rfl, hF.symm, pz_hp ht hP⟩, hS.F ht⟩) hS.2.2 dX1_make_17 hlocks

