-- == X0_ruleOf
def f_X0_ruleOf (frules : Nat → Int32) (x1 : Int32) : Int32 := pz_bnd (f_X3_isLine x1) (fun z_1 => if z_1 = 0 then ((-1)) else ((frules (x1).toNatClampNeg)))
theorem fl_X0_ruleOf_9 : Cond.fieldLink RX0 9 "BoxProofs$Findings" "rules" "[I" ∈ wsX0_ruleOf := by decide +kernel
theorem in_X0_ruleOf_X0 : ∀ w ∈ wsX00, w ∈ wsX0_ruleOf := by decide +kernel
theorem mm_X0_ruleOf_Cond_initialized_RX3 : Cond.initialized RX3 ∈ wsX0_ruleOf := by decide +kernel
theorem mm_X0_ruleOf_Cond_static_yX3_isLine : Cond.static yX3_isLine ∈ wsX0_ruleOf := by decide +kernel
set_option maxHeartbeats 4000000 in
set_option maxRecDepth 100000 in
theorem c_X0_ruleOf (l : Launch) (D : va_G) (q : Nat → Nat) (k : Nat → ClassId) (t : Nat → Nat) (cnt : Int32) (kinds : Nat → Int32) (firsts : Nat → Int32) (seconds : Nat → Int32) (heights : Nat → Int32) (tables : Nat → Int64) (replaced : Nat → Int32) (laid : Nat → Int32) (rules : Nat → Int32) (ps : Nat → Int32) (qs : Nat → Int32) (rs : Nat → Int32) (fs : Nat → Int32) (frules : Nat → Int32) (heads : Nat → Int32) (ends : Nat → Int32) (inforce : Nat → Int32) (usable : Nat → Int32) (summ : Nat → Int32) (x1 : Int32)  : Met l yX0_ruleOf wsX0_ruleOf ({ frames := 1, cells := 0, slots := 0, locals := 20 }) (va_Pc [.ref (q 3), .int (x1)] (fun U => va_P D vwCl (pz_X q k cnt kinds firsts seconds heights tables replaced laid rules ps qs rs fs frules heads ends inforce usable summ) U.heap ∧ pz_KX D q k t U)) (va_Qi (fun r (_ : Unit) => r = (f_X0_ruleOf frules x1)) (fun _ t => va_P D vwCl (pz_X q k cnt kinds firsts seconds heights tables replaced laid rules ps qs rs fs frules heads ends inforce usable summ) t.heap) (pz_A 22 q)) 0 0 (pz_A 22 q) := by
  refine Met.ofW (cc := cX0_ruleOf) (maxL := 2) (ret := (some .int)) (by decide) rfl ?_
  intro p e s m args below meth c s₁ B hml hv
  obtain ⟨rfl, hP, hKX⟩ := hv
  have hx := B.exec
  have hb := B.bytes
  have hr := B.returns
  have hts := atoms_spec (ws := wsX0_ruleOf) B.pre
  have hown : s.vm.findClass RX0 = some m.cls := findClass_of_methodNamed B.named
  have hlocks := B.notSynchronized
  have hC : pz_C p s m ([.ref (q 3), .int (x1)] : List Value).toArray meth c cX0_ruleOf wsX0_ruleOf RX0 2 (some .int) := ⟨hx, hb, hml, hown, hts, hr, hlocks⟩
  have hK := hKX.1
  have hS : va_S (pz_A 22 q) s.heap s.heap [] := va_S.rf
  have hl := lv_entry [.ref (q 3), .int (x1)] (n := 2) (Nat.le_of_ble_eq_true rfl)
  rw [lg_entry_eq]
  generalize (lg_sl [.ref (q 3), .int (x1)] ++ List.replicate (2 - (lg_sl [.ref (q 3), .int (x1)]).length) Slot.unset).toArray = ls at hl ⊢
  have hl : lv_has ls 2 [(0, .ref (q 3)), (1, .int (x1))] := hl
  generalize hF : f_X0_ruleOf frules x1 = G
  replace hF := hF.symm
  unfold f_X0_ruleOf at hF
  refine lv_iload_n hx hb dX0_ruleOf_0 rfl (lv_at hl 1 rfl) ?_
  refine pz_SNi (As := [.int (x1)]) (rest := []) ⟨hx, hb, hml, hown, hts⟩ (c_X3_isLine l x1) ⟨va_cnB 1 hts gX0_ruleOf_X3_isLine_n38 rfl rfl rfl hKX.2.1 (hts _ mm_X0_ruleOf_Cond_initialized_RX3) hdS_X3_isLine ⟨Nat.le_of_ble_eq_true rfl, Nat.le_of_ble_eq_true rfl⟩, hts _ mm_X0_ruleOf_Cond_static_yX3_isLine, trivial⟩ hP hS rfl hl.1 rfl (Nat.le_of_ble_eq_true rfl) dX0_ruleOf_1 ⟨Nat.zero_le _, Nat.zero_le _⟩ (fun r_1 H locs hF_1 hP hS => ?_)
  have hF := hF.trans (pz_be hF_1)
  refine lv_if_eq (tgt := 16) hx hb dX0_ruleOf_4 (by decide) (fun c_2 => ?_) (fun c_2 => ?_)
  · have hF := hF.trans (if_pos c_2)
    refine lv_iconst (v := (-1)) hx hb dX0_ruleOf_16 (by decide) ?_
    exact W.iret (v := (-1)) hx hb hr (fun t ht hW => ⟨⟨(-1), (), rfl, hF.symm, pz_hp ht hP⟩, hS.F ht⟩) hS.2.2 dX0_ruleOf_17 hlocks
  · have hF := hF.trans (if_neg c_2)
    refine lv_aload_n hx hb dX0_ruleOf_7 rfl (lv_at hl 0 rfl) ?_
    refine va_get (D := D) (ci := 0) (v := .ref (q 16)) (C := RX0) (T := TX0) (N := 6) hx hb hts in_X0_ruleOf_X0 hown hK hP 3 rfl rfl 0 (by decide) (hts _ fl_X0_ruleOf_9) (fun _ h9 => h9) rfl dX0_ruleOf_8 ?_
    refine lv_iload_n hx hb dX0_ruleOf_11 rfl (lv_at hl 1 rfl) ?_
    have hi_3 : vp_in x1 60 := by first | exact pz_line ‹_› ‹_› | assumption
    refine va_iald hx hb hK hP 16 0 rfl rfl hi_3 dX0_ruleOf_12 ?_
    refine lv_goto (tgt := 17) hx hb dX0_ruleOf_13 (by decide) ?_
    exact W.iret (v := (frules (x1).toNatClampNeg)) hx hb hr (fun t ht hW => ⟨⟨(frules (x1).toNatClampNeg), (), rfl, hF.symm, pz_hp ht hP⟩, hS.F ht⟩) hS.2.2 dX0_ruleOf_17 hlocks

-- == X0_headOf
def f_X0_headOf (heads : Nat → Int32) (x1 : Int32) : Int32 := pz_bnd (f_X3_isLine x1) (fun z_1 => if z_1 = 0 then ((-1)) else ((heads (x1).toNatClampNeg)))
theorem fl_X0_headOf_15 : Cond.fieldLink RX0 15 "BoxProofs$Findings" "heads" "[I" ∈ wsX0_headOf := by decide +kernel
theorem in_X0_headOf_X0 : ∀ w ∈ wsX00, w ∈ wsX0_headOf := by decide +kernel
theorem mm_X0_headOf_Cond_initialized_RX3 : Cond.initialized RX3 ∈ wsX0_headOf := by decide +kernel
theorem mm_X0_headOf_Cond_static_yX3_isLine : Cond.static yX3_isLine ∈ wsX0_headOf := by decide +kernel
set_option maxHeartbeats 4000000 in
set_option maxRecDepth 100000 in
theorem c_X0_headOf (l : Launch) (D : va_G) (q : Nat → Nat) (k : Nat → ClassId) (t : Nat → Nat) (cnt : Int32) (kinds : Nat → Int32) (firsts : Nat → Int32) (seconds : Nat → Int32) (heights : Nat → Int32) (tables : Nat → Int64) (replaced : Nat → Int32) (laid : Nat → Int32) (rules : Nat → Int32) (ps : Nat → Int32) (qs : Nat → Int32) (rs : Nat → Int32) (fs : Nat → Int32) (frules : Nat → Int32) (heads : Nat → Int32) (ends : Nat → Int32) (inforce : Nat → Int32) (usable : Nat → Int32) (summ : Nat → Int32) (x1 : Int32)  : Met l yX0_headOf wsX0_headOf ({ frames := 1, cells := 0, slots := 0, locals := 20 }) (va_Pc [.ref (q 3), .int (x1)] (fun U => va_P D vwCl (pz_X q k cnt kinds firsts seconds heights tables replaced laid rules ps qs rs fs frules heads ends inforce usable summ) U.heap ∧ pz_KX D q k t U)) (va_Qi (fun r (_ : Unit) => r = (f_X0_headOf heads x1)) (fun _ t => va_P D vwCl (pz_X q k cnt kinds firsts seconds heights tables replaced laid rules ps qs rs fs frules heads ends inforce usable summ) t.heap) (pz_A 22 q)) 0 0 (pz_A 22 q) := by
  refine Met.ofW (cc := cX0_headOf) (maxL := 2) (ret := (some .int)) (by decide) rfl ?_
  intro p e s m args below meth c s₁ B hml hv
  obtain ⟨rfl, hP, hKX⟩ := hv
  have hx := B.exec
  have hb := B.bytes
  have hr := B.returns
  have hts := atoms_spec (ws := wsX0_headOf) B.pre
  have hown : s.vm.findClass RX0 = some m.cls := findClass_of_methodNamed B.named
  have hlocks := B.notSynchronized
  have hC : pz_C p s m ([.ref (q 3), .int (x1)] : List Value).toArray meth c cX0_headOf wsX0_headOf RX0 2 (some .int) := ⟨hx, hb, hml, hown, hts, hr, hlocks⟩
  have hK := hKX.1
  have hS : va_S (pz_A 22 q) s.heap s.heap [] := va_S.rf
  have hl := lv_entry [.ref (q 3), .int (x1)] (n := 2) (Nat.le_of_ble_eq_true rfl)
  rw [lg_entry_eq]
  generalize (lg_sl [.ref (q 3), .int (x1)] ++ List.replicate (2 - (lg_sl [.ref (q 3), .int (x1)]).length) Slot.unset).toArray = ls at hl ⊢
  have hl : lv_has ls 2 [(0, .ref (q 3)), (1, .int (x1))] := hl
  generalize hF : f_X0_headOf heads x1 = G
  replace hF := hF.symm
  unfold f_X0_headOf at hF
  refine lv_iload_n hx hb dX0_headOf_0 rfl (lv_at hl 1 rfl) ?_
  refine pz_SNi (As := [.int (x1)]) (rest := []) ⟨hx, hb, hml, hown, hts⟩ (c_X3_isLine l x1) ⟨va_cnB 1 hts gX0_headOf_X3_isLine_n38 rfl rfl rfl hKX.2.1 (hts _ mm_X0_headOf_Cond_initialized_RX3) hdS_X3_isLine ⟨Nat.le_of_ble_eq_true rfl, Nat.le_of_ble_eq_true rfl⟩, hts _ mm_X0_headOf_Cond_static_yX3_isLine, trivial⟩ hP hS rfl hl.1 rfl (Nat.le_of_ble_eq_true rfl) dX0_headOf_1 ⟨Nat.zero_le _, Nat.zero_le _⟩ (fun r_1 H locs hF_1 hP hS => ?_)
  have hF := hF.trans (pz_be hF_1)
  refine lv_if_eq (tgt := 16) hx hb dX0_headOf_4 (by decide) (fun c_2 => ?_) (fun c_2 => ?_)
  · have hF := hF.trans (if_pos c_2)
    refine lv_iconst (v := (-1)) hx hb dX0_headOf_16 (by decide) ?_
    exact W.iret (v := (-1)) hx hb hr (fun t ht hW => ⟨⟨(-1), (), rfl, hF.symm, pz_hp ht hP⟩, hS.F ht⟩) hS.2.2 dX0_headOf_17 hlocks
  · have hF := hF.trans (if_neg c_2)
    refine lv_aload_n hx hb dX0_headOf_7 rfl (lv_at hl 0 rfl) ?_
    refine va_get (D := D) (ci := 0) (v := .ref (q 17)) (C := RX0) (T := TX0) (N := 6) hx hb hts in_X0_headOf_X0 hown hK hP 3 rfl rfl 1 (by decide) (hts _ fl_X0_headOf_15) (fun _ h9 => h9) rfl dX0_headOf_8 ?_
    refine lv_iload_n hx hb dX0_headOf_11 rfl (lv_at hl 1 rfl) ?_
    have hi_3 : vp_in x1 60 := by first | exact pz_line ‹_› ‹_› | assumption
    refine va_iald hx hb hK hP 17 0 rfl rfl hi_3 dX0_headOf_12 ?_
    refine lv_goto (tgt := 17) hx hb dX0_headOf_13 (by decide) ?_
    exact W.iret (v := (heads (x1).toNatClampNeg)) hx hb hr (fun t ht hW => ⟨⟨(heads (x1).toNatClampNeg), (), rfl, hF.symm, pz_hp ht hP⟩, hS.F ht⟩) hS.2.2 dX0_headOf_17 hlocks

-- == X0_endOf
def f_X0_endOf (ends : Nat → Int32) (x1 : Int32) : Int32 := pz_bnd (f_X3_isLine x1) (fun z_1 => if z_1 = 0 then ((-1)) else ((ends (x1).toNatClampNeg)))
theorem fl_X0_endOf_18 : Cond.fieldLink RX0 18 "BoxProofs$Findings" "ends" "[I" ∈ wsX0_endOf := by decide +kernel
theorem in_X0_endOf_X0 : ∀ w ∈ wsX00, w ∈ wsX0_endOf := by decide +kernel
theorem mm_X0_endOf_Cond_initialized_RX3 : Cond.initialized RX3 ∈ wsX0_endOf := by decide +kernel
theorem mm_X0_endOf_Cond_static_yX3_isLine : Cond.static yX3_isLine ∈ wsX0_endOf := by decide +kernel
set_option maxHeartbeats 4000000 in
set_option maxRecDepth 100000 in
theorem c_X0_endOf (l : Launch) (D : va_G) (q : Nat → Nat) (k : Nat → ClassId) (t : Nat → Nat) (cnt : Int32) (kinds : Nat → Int32) (firsts : Nat → Int32) (seconds : Nat → Int32) (heights : Nat → Int32) (tables : Nat → Int64) (replaced : Nat → Int32) (laid : Nat → Int32) (rules : Nat → Int32) (ps : Nat → Int32) (qs : Nat → Int32) (rs : Nat → Int32) (fs : Nat → Int32) (frules : Nat → Int32) (heads : Nat → Int32) (ends : Nat → Int32) (inforce : Nat → Int32) (usable : Nat → Int32) (summ : Nat → Int32) (x1 : Int32)  : Met l yX0_endOf wsX0_endOf ({ frames := 1, cells := 0, slots := 0, locals := 20 }) (va_Pc [.ref (q 3), .int (x1)] (fun U => va_P D vwCl (pz_X q k cnt kinds firsts seconds heights tables replaced laid rules ps qs rs fs frules heads ends inforce usable summ) U.heap ∧ pz_KX D q k t U)) (va_Qi (fun r (_ : Unit) => r = (f_X0_endOf ends x1)) (fun _ t => va_P D vwCl (pz_X q k cnt kinds firsts seconds heights tables replaced laid rules ps qs rs fs frules heads ends inforce usable summ) t.heap) (pz_A 22 q)) 0 0 (pz_A 22 q) := by
  refine Met.ofW (cc := cX0_endOf) (maxL := 2) (ret := (some .int)) (by decide) rfl ?_
  intro p e s m args below meth c s₁ B hml hv
  obtain ⟨rfl, hP, hKX⟩ := hv
  have hx := B.exec
  have hb := B.bytes
  have hr := B.returns
  have hts := atoms_spec (ws := wsX0_endOf) B.pre
  have hown : s.vm.findClass RX0 = some m.cls := findClass_of_methodNamed B.named
  have hlocks := B.notSynchronized
  have hC : pz_C p s m ([.ref (q 3), .int (x1)] : List Value).toArray meth c cX0_endOf wsX0_endOf RX0 2 (some .int) := ⟨hx, hb, hml, hown, hts, hr, hlocks⟩
  have hK := hKX.1
  have hS : va_S (pz_A 22 q) s.heap s.heap [] := va_S.rf
  have hl := lv_entry [.ref (q 3), .int (x1)] (n := 2) (Nat.le_of_ble_eq_true rfl)
  rw [lg_entry_eq]
  generalize (lg_sl [.ref (q 3), .int (x1)] ++ List.replicate (2 - (lg_sl [.ref (q 3), .int (x1)]).length) Slot.unset).toArray = ls at hl ⊢
  have hl : lv_has ls 2 [(0, .ref (q 3)), (1, .int (x1))] := hl
  generalize hF : f_X0_endOf ends x1 = G
  replace hF := hF.symm
  unfold f_X0_endOf at hF
  refine lv_iload_n hx hb dX0_endOf_0 rfl (lv_at hl 1 rfl) ?_
  refine pz_SNi (As := [.int (x1)]) (rest := []) ⟨hx, hb, hml, hown, hts⟩ (c_X3_isLine l x1) ⟨va_cnB 1 hts gX0_endOf_X3_isLine_n38 rfl rfl rfl hKX.2.1 (hts _ mm_X0_endOf_Cond_initialized_RX3) hdS_X3_isLine ⟨Nat.le_of_ble_eq_true rfl, Nat.le_of_ble_eq_true rfl⟩, hts _ mm_X0_endOf_Cond_static_yX3_isLine, trivial⟩ hP hS rfl hl.1 rfl (Nat.le_of_ble_eq_true rfl) dX0_endOf_1 ⟨Nat.zero_le _, Nat.zero_le _⟩ (fun r_1 H locs hF_1 hP hS => ?_)
  have hF := hF.trans (pz_be hF_1)
  refine lv_if_eq (tgt := 16) hx hb dX0_endOf_4 (by decide) (fun c_2 => ?_) (fun c_2 => ?_)
  · have hF := hF.trans (if_pos c_2)
    refine lv_iconst (v := (-1)) hx hb dX0_endOf_16 (by decide) ?_
    exact W.iret (v := (-1)) hx hb hr (fun t ht hW => ⟨⟨(-1), (), rfl, hF.symm, pz_hp ht hP⟩, hS.F ht⟩) hS.2.2 dX0_endOf_17 hlocks
  · have hF := hF.trans (if_neg c_2)
    refine lv_aload_n hx hb dX0_endOf_7 rfl (lv_at hl 0 rfl) ?_
    refine va_get (D := D) (ci := 0) (v := .ref (q 18)) (C := RX0) (T := TX0) (N := 6) hx hb hts in_X0_endOf_X0 hown hK hP 3 rfl rfl 2 (by decide) (hts _ fl_X0_endOf_18) (fun _ h9 => h9) rfl dX0_endOf_8 ?_
    refine lv_iload_n hx hb dX0_endOf_11 rfl (lv_at hl 1 rfl) ?_
    have hi_3 : vp_in x1 60 := by first | exact pz_line ‹_› ‹_› | assumption
    refine va_iald hx hb hK hP 18 0 rfl rfl hi_3 dX0_endOf_12 ?_
    refine lv_goto (tgt := 17) hx hb dX0_endOf_13 (by decide) ?_
    exact W.iret (v := (ends (x1).toNatClampNeg)) hx hb hr (fun t ht hW => ⟨⟨(ends (x1).toNatClampNeg), (), rfl, hF.symm, pz_hp ht hP⟩, hS.F ht⟩) hS.2.2 dX0_endOf_17 hlocks

-- == X0_isInForce
def f_X0_isInForce (inforce : Nat → Int32) (x1 : Int32) : Int32 := pz_bnd (f_X3_isLine x1) (fun z_1 => if z_1 = 0 then (0) else (if (inforce (x1).toNatClampNeg) = 0 then (0) else (1)))
theorem fl_X0_isInForce_21 : Cond.fieldLink RX0 21 "BoxProofs$Findings" "inForce" "[Z" ∈ wsX0_isInForce := by decide +kernel
theorem in_X0_isInForce_X0 : ∀ w ∈ wsX00, w ∈ wsX0_isInForce := by decide +kernel
theorem mm_X0_isInForce_Cond_initialized_RX3 : Cond.initialized RX3 ∈ wsX0_isInForce := by decide +kernel
theorem mm_X0_isInForce_Cond_static_yX3_isLine : Cond.static yX3_isLine ∈ wsX0_isInForce := by decide +kernel
set_option maxHeartbeats 4000000 in
set_option maxRecDepth 100000 in
theorem c_X0_isInForce (l : Launch) (D : va_G) (q : Nat → Nat) (k : Nat → ClassId) (t : Nat → Nat) (cnt : Int32) (kinds : Nat → Int32) (firsts : Nat → Int32) (seconds : Nat → Int32) (heights : Nat → Int32) (tables : Nat → Int64) (replaced : Nat → Int32) (laid : Nat → Int32) (rules : Nat → Int32) (ps : Nat → Int32) (qs : Nat → Int32) (rs : Nat → Int32) (fs : Nat → Int32) (frules : Nat → Int32) (heads : Nat → Int32) (ends : Nat → Int32) (inforce : Nat → Int32) (usable : Nat → Int32) (summ : Nat → Int32) (x1 : Int32)  : Met l yX0_isInForce wsX0_isInForce ({ frames := 1, cells := 0, slots := 0, locals := 20 }) (va_Pc [.ref (q 3), .int (x1)] (fun U => va_P D vwCl (pz_X q k cnt kinds firsts seconds heights tables replaced laid rules ps qs rs fs frules heads ends inforce usable summ) U.heap ∧ pz_KX D q k t U)) (va_Qi (fun r (_ : Unit) => r = (f_X0_isInForce inforce x1)) (fun _ t => va_P D vwCl (pz_X q k cnt kinds firsts seconds heights tables replaced laid rules ps qs rs fs frules heads ends inforce usable summ) t.heap) (pz_A 22 q)) 0 0 (pz_A 22 q) := by
  refine Met.ofW (cc := cX0_isInForce) (maxL := 2) (ret := (some .boolean)) (by decide) rfl ?_
  intro p e s m args below meth c s₁ B hml hv
  obtain ⟨rfl, hP, hKX⟩ := hv
  have hx := B.exec
  have hb := B.bytes
  have hr := B.returns
  have hts := atoms_spec (ws := wsX0_isInForce) B.pre
  have hown : s.vm.findClass RX0 = some m.cls := findClass_of_methodNamed B.named
  have hlocks := B.notSynchronized
  have hC : pz_C p s m ([.ref (q 3), .int (x1)] : List Value).toArray meth c cX0_isInForce wsX0_isInForce RX0 2 (some .boolean) := ⟨hx, hb, hml, hown, hts, hr, hlocks⟩
  have hK := hKX.1
  have hS : va_S (pz_A 22 q) s.heap s.heap [] := va_S.rf
  have hl := lv_entry [.ref (q 3), .int (x1)] (n := 2) (Nat.le_of_ble_eq_true rfl)
  rw [lg_entry_eq]
  generalize (lg_sl [.ref (q 3), .int (x1)] ++ List.replicate (2 - (lg_sl [.ref (q 3), .int (x1)]).length) Slot.unset).toArray = ls at hl ⊢
  have hl : lv_has ls 2 [(0, .ref (q 3)), (1, .int (x1))] := hl
  generalize hF : f_X0_isInForce inforce x1 = G
  replace hF := hF.symm
  unfold f_X0_isInForce at hF
  refine lv_iload_n hx hb dX0_isInForce_0 rfl (lv_at hl 1 rfl) ?_
  refine pz_SNi (As := [.int (x1)]) (rest := []) ⟨hx, hb, hml, hown, hts⟩ (c_X3_isLine l x1) ⟨va_cnB 1 hts gX0_isInForce_X3_isLine_n38 rfl rfl rfl hKX.2.1 (hts _ mm_X0_isInForce_Cond_initialized_RX3) hdS_X3_isLine ⟨Nat.le_of_ble_eq_true rfl, Nat.le_of_ble_eq_true rfl⟩, hts _ mm_X0_isInForce_Cond_static_yX3_isLine, trivial⟩ hP hS rfl hl.1 rfl (Nat.le_of_ble_eq_true rfl) dX0_isInForce_1 ⟨Nat.zero_le _, Nat.zero_le _⟩ (fun r_1 H locs hF_1 hP hS => ?_)
  have hF := hF.trans (pz_be hF_1)
  refine lv_if_eq (tgt := 20) hx hb dX0_isInForce_4 (by decide) (fun c_2 => ?_) (fun c_2 => ?_)
  · have hF := hF.trans (if_pos c_2)
    refine lv_iconst (v := 0) hx hb dX0_isInForce_20 (by decide) ?_
    exact W.zret (v := 0) hx hb hr rfl (fun t ht hW => ⟨⟨0, (), rfl, hF.symm, pz_hp ht hP⟩, hS.F ht⟩) hS.2.2 dX0_isInForce_21 hlocks
  · have hF := hF.trans (if_neg c_2)
    refine lv_aload_n hx hb dX0_isInForce_7 rfl (lv_at hl 0 rfl) ?_
    refine va_get (D := D) (ci := 0) (v := .ref (q 19)) (C := RX0) (T := TX0) (N := 6) hx hb hts in_X0_isInForce_X0 hown hK hP 3 rfl rfl 3 (by decide) (hts _ fl_X0_isInForce_21) (fun _ h9 => h9) rfl dX0_isInForce_8 ?_
    refine lv_iload_n hx hb dX0_isInForce_11 rfl (lv_at hl 1 rfl) ?_
    have hi_3 : vp_in x1 60 := by first | exact pz_line ‹_› ‹_› | assumption
    refine va_zald hx hb hK hP 19 2 rfl rfl hi_3 dX0_isInForce_12 ?_
    refine lv_if_eq (tgt := 20) hx hb dX0_isInForce_13 (by decide) (fun c_4 => ?_) (fun c_4 => ?_)
    · have hF := hF.trans (if_pos c_4)
      refine lv_iconst (v := 0) hx hb dX0_isInForce_20 (by decide) ?_
      exact W.zret (v := 0) hx hb hr rfl (fun t ht hW => ⟨⟨0, (), rfl, hF.symm, pz_hp ht hP⟩, hS.F ht⟩) hS.2.2 dX0_isInForce_21 hlocks
    · have hF := hF.trans (if_neg c_4)
      refine lv_iconst (v := 1) hx hb dX0_isInForce_16 (by decide) ?_
      refine lv_goto (tgt := 21) hx hb dX0_isInForce_17 (by decide) ?_
      exact W.zret (v := 1) hx hb hr rfl (fun t ht hW => ⟨⟨1, (), rfl, hF.symm, pz_hp ht hP⟩, hS.F ht⟩) hS.2.2 dX0_isInForce_21 hlocks

-- == X0_isUsableBox
def f_X0_isUsableBox (usable : Nat → Int32) (x1 : Int32) : Int32 := pz_bnd (f_X3_isLine x1) (fun z_1 => if z_1 = 0 then (0) else (if (usable (x1).toNatClampNeg) = 0 then (0) else (1)))
theorem fl_X0_isUsableBox_25 : Cond.fieldLink RX0 25 "BoxProofs$Findings" "usable" "[Z" ∈ wsX0_isUsableBox := by decide +kernel
theorem in_X0_isUsableBox_X0 : ∀ w ∈ wsX00, w ∈ wsX0_isUsableBox := by decide +kernel
theorem mm_X0_isUsableBox_Cond_initialized_RX3 : Cond.initialized RX3 ∈ wsX0_isUsableBox := by decide +kernel
theorem mm_X0_isUsableBox_Cond_static_yX3_isLine : Cond.static yX3_isLine ∈ wsX0_isUsableBox := by decide +kernel
set_option maxHeartbeats 4000000 in
set_option maxRecDepth 100000 in
theorem c_X0_isUsableBox (l : Launch) (D : va_G) (q : Nat → Nat) (k : Nat → ClassId) (t : Nat → Nat) (cnt : Int32) (kinds : Nat → Int32) (firsts : Nat → Int32) (seconds : Nat → Int32) (heights : Nat → Int32) (tables : Nat → Int64) (replaced : Nat → Int32) (laid : Nat → Int32) (rules : Nat → Int32) (ps : Nat → Int32) (qs : Nat → Int32) (rs : Nat → Int32) (fs : Nat → Int32) (frules : Nat → Int32) (heads : Nat → Int32) (ends : Nat → Int32) (inforce : Nat → Int32) (usable : Nat → Int32) (summ : Nat → Int32) (x1 : Int32)  : Met l yX0_isUsableBox wsX0_isUsableBox ({ frames := 1, cells := 0, slots := 0, locals := 20 }) (va_Pc [.ref (q 3), .int (x1)] (fun U => va_P D vwCl (pz_X q k cnt kinds firsts seconds heights tables replaced laid rules ps qs rs fs frules heads ends inforce usable summ) U.heap ∧ pz_KX D q k t U)) (va_Qi (fun r (_ : Unit) => r = (f_X0_isUsableBox usable x1)) (fun _ t => va_P D vwCl (pz_X q k cnt kinds firsts seconds heights tables replaced laid rules ps qs rs fs frules heads ends inforce usable summ) t.heap) (pz_A 22 q)) 0 0 (pz_A 22 q) := by
  refine Met.ofW (cc := cX0_isUsableBox) (maxL := 2) (ret := (some .boolean)) (by decide) rfl ?_
  intro p e s m args below meth c s₁ B hml hv
  obtain ⟨rfl, hP, hKX⟩ := hv
  have hx := B.exec
  have hb := B.bytes
  have hr := B.returns
  have hts := atoms_spec (ws := wsX0_isUsableBox) B.pre
  have hown : s.vm.findClass RX0 = some m.cls := findClass_of_methodNamed B.named
  have hlocks := B.notSynchronized
  have hC : pz_C p s m ([.ref (q 3), .int (x1)] : List Value).toArray meth c cX0_isUsableBox wsX0_isUsableBox RX0 2 (some .boolean) := ⟨hx, hb, hml, hown, hts, hr, hlocks⟩
  have hK := hKX.1
  have hS : va_S (pz_A 22 q) s.heap s.heap [] := va_S.rf
  have hl := lv_entry [.ref (q 3), .int (x1)] (n := 2) (Nat.le_of_ble_eq_true rfl)
  rw [lg_entry_eq]
  generalize (lg_sl [.ref (q 3), .int (x1)] ++ List.replicate (2 - (lg_sl [.ref (q 3), .int (x1)]).length) Slot.unset).toArray = ls at hl ⊢
  have hl : lv_has ls 2 [(0, .ref (q 3)), (1, .int (x1))] := hl
  generalize hF : f_X0_isUsableBox usable x1 = G
  replace hF := hF.symm
  unfold f_X0_isUsableBox at hF
  refine lv_iload_n hx hb dX0_isUsableBox_0 rfl (lv_at hl 1 rfl) ?_
  refine pz_SNi (As := [.int (x1)]) (rest := []) ⟨hx, hb, hml, hown, hts⟩ (c_X3_isLine l x1) ⟨va_cnB 1 hts gX0_isUsableBox_X3_isLine_n38 rfl rfl rfl hKX.2.1 (hts _ mm_X0_isUsableBox_Cond_initialized_RX3) hdS_X3_isLine ⟨Nat.le_of_ble_eq_true rfl, Nat.le_of_ble_eq_true rfl⟩, hts _ mm_X0_isUsableBox_Cond_static_yX3_isLine, trivial⟩ hP hS rfl hl.1 rfl (Nat.le_of_ble_eq_true rfl) dX0_isUsableBox_1 ⟨Nat.zero_le _, Nat.zero_le _⟩ (fun r_1 H locs hF_1 hP hS => ?_)
  have hF := hF.trans (pz_be hF_1)
  refine lv_if_eq (tgt := 20) hx hb dX0_isUsableBox_4 (by decide) (fun c_2 => ?_) (fun c_2 => ?_)
  · have hF := hF.trans (if_pos c_2)
    refine lv_iconst (v := 0) hx hb dX0_isUsableBox_20 (by decide) ?_
    exact W.zret (v := 0) hx hb hr rfl (fun t ht hW => ⟨⟨0, (), rfl, hF.symm, pz_hp ht hP⟩, hS.F ht⟩) hS.2.2 dX0_isUsableBox_21 hlocks
  · have hF := hF.trans (if_neg c_2)
    refine lv_aload_n hx hb dX0_isUsableBox_7 rfl (lv_at hl 0 rfl) ?_
    refine va_get (D := D) (ci := 0) (v := .ref (q 20)) (C := RX0) (T := TX0) (N := 6) hx hb hts in_X0_isUsableBox_X0 hown hK hP 3 rfl rfl 4 (by decide) (hts _ fl_X0_isUsableBox_25) (fun _ h9 => h9) rfl dX0_isUsableBox_8 ?_
    refine lv_iload_n hx hb dX0_isUsableBox_11 rfl (lv_at hl 1 rfl) ?_
    have hi_3 : vp_in x1 60 := by first | exact pz_line ‹_› ‹_› | assumption
    refine va_zald hx hb hK hP 20 2 rfl rfl hi_3 dX0_isUsableBox_12 ?_
    refine lv_if_eq (tgt := 20) hx hb dX0_isUsableBox_13 (by decide) (fun c_4 => ?_) (fun c_4 => ?_)
    · have hF := hF.trans (if_pos c_4)
      refine lv_iconst (v := 0) hx hb dX0_isUsableBox_20 (by decide) ?_
      exact W.zret (v := 0) hx hb hr rfl (fun t ht hW => ⟨⟨0, (), rfl, hF.symm, pz_hp ht hP⟩, hS.F ht⟩) hS.2.2 dX0_isUsableBox_21 hlocks
    · have hF := hF.trans (if_neg c_4)
      refine lv_iconst (v := 1) hx hb dX0_isUsableBox_16 (by decide) ?_
      refine lv_goto (tgt := 21) hx hb dX0_isUsableBox_17 (by decide) ?_
      exact W.zret (v := 1) hx hb hr rfl (fun t ht hW => ⟨⟨1, (), rfl, hF.symm, pz_hp ht hP⟩, hS.F ht⟩) hS.2.2 dX0_isUsableBox_21 hlocks

-- == X0_isOpenBox
def f_X0_isOpenBox (frules : Nat → Int32) (ends : Nat → Int32) (x1 : Int32) : Int32 := pz_bnd (f_X3_isLine x1) (fun z_1 => if z_1 = 0 then (0) else (if (frules (x1).toNatClampNeg) = 1 then (if (ends (x1).toNatClampNeg) = (-1) then (1) else (0)) else (0)))
theorem fl_X0_isOpenBox_18 : Cond.fieldLink RX0 18 "BoxProofs$Findings" "ends" "[I" ∈ wsX0_isOpenBox := by decide +kernel
theorem fl_X0_isOpenBox_9 : Cond.fieldLink RX0 9 "BoxProofs$Findings" "rules" "[I" ∈ wsX0_isOpenBox := by decide +kernel
theorem in_X0_isOpenBox_X0 : ∀ w ∈ wsX00, w ∈ wsX0_isOpenBox := by decide +kernel
theorem mm_X0_isOpenBox_Cond_initialized_RX3 : Cond.initialized RX3 ∈ wsX0_isOpenBox := by decide +kernel
theorem mm_X0_isOpenBox_Cond_static_yX3_isLine : Cond.static yX3_isLine ∈ wsX0_isOpenBox := by decide +kernel
set_option maxHeartbeats 4000000 in
set_option maxRecDepth 100000 in
theorem c_X0_isOpenBox (l : Launch) (D : va_G) (q : Nat → Nat) (k : Nat → ClassId) (t : Nat → Nat) (cnt : Int32) (kinds : Nat → Int32) (firsts : Nat → Int32) (seconds : Nat → Int32) (heights : Nat → Int32) (tables : Nat → Int64) (replaced : Nat → Int32) (laid : Nat → Int32) (rules : Nat → Int32) (ps : Nat → Int32) (qs : Nat → Int32) (rs : Nat → Int32) (fs : Nat → Int32) (frules : Nat → Int32) (heads : Nat → Int32) (ends : Nat → Int32) (inforce : Nat → Int32) (usable : Nat → Int32) (summ : Nat → Int32) (x1 : Int32)  : Met l yX0_isOpenBox wsX0_isOpenBox ({ frames := 1, cells := 0, slots := 0, locals := 20 }) (va_Pc [.ref (q 3), .int (x1)] (fun U => va_P D vwCl (pz_X q k cnt kinds firsts seconds heights tables replaced laid rules ps qs rs fs frules heads ends inforce usable summ) U.heap ∧ pz_KX D q k t U)) (va_Qi (fun r (_ : Unit) => r = (f_X0_isOpenBox frules ends x1)) (fun _ t => va_P D vwCl (pz_X q k cnt kinds firsts seconds heights tables replaced laid rules ps qs rs fs frules heads ends inforce usable summ) t.heap) (pz_A 22 q)) 0 0 (pz_A 22 q) := by
  refine Met.ofW (cc := cX0_isOpenBox) (maxL := 2) (ret := (some .boolean)) (by decide) rfl ?_
  intro p e s m args below meth c s₁ B hml hv
  obtain ⟨rfl, hP, hKX⟩ := hv
  have hx := B.exec
  have hb := B.bytes
  have hr := B.returns
  have hts := atoms_spec (ws := wsX0_isOpenBox) B.pre
  have hown : s.vm.findClass RX0 = some m.cls := findClass_of_methodNamed B.named
  have hlocks := B.notSynchronized
  have hC : pz_C p s m ([.ref (q 3), .int (x1)] : List Value).toArray meth c cX0_isOpenBox wsX0_isOpenBox RX0 2 (some .boolean) := ⟨hx, hb, hml, hown, hts, hr, hlocks⟩
  have hK := hKX.1
  have hS : va_S (pz_A 22 q) s.heap s.heap [] := va_S.rf
  have hl := lv_entry [.ref (q 3), .int (x1)] (n := 2) (Nat.le_of_ble_eq_true rfl)
  rw [lg_entry_eq]
  generalize (lg_sl [.ref (q 3), .int (x1)] ++ List.replicate (2 - (lg_sl [.ref (q 3), .int (x1)]).length) Slot.unset).toArray = ls at hl ⊢
  have hl : lv_has ls 2 [(0, .ref (q 3)), (1, .int (x1))] := hl
  generalize hF : f_X0_isOpenBox frules ends x1 = G
  replace hF := hF.symm
  unfold f_X0_isOpenBox at hF
  refine lv_iload_n hx hb dX0_isOpenBox_0 rfl (lv_at hl 1 rfl) ?_
  refine pz_SNi (As := [.int (x1)]) (rest := []) ⟨hx, hb, hml, hown, hts⟩ (c_X3_isLine l x1) ⟨va_cnB 1 hts gX0_isOpenBox_X3_isLine_n38 rfl rfl rfl hKX.2.1 (hts _ mm_X0_isOpenBox_Cond_initialized_RX3) hdS_X3_isLine ⟨Nat.le_of_ble_eq_true rfl, Nat.le_of_ble_eq_true rfl⟩, hts _ mm_X0_isOpenBox_Cond_static_yX3_isLine, trivial⟩ hP hS rfl hl.1 rfl (Nat.le_of_ble_eq_true rfl) dX0_isOpenBox_1 ⟨Nat.zero_le _, Nat.zero_le _⟩ (fun r_1 H locs hF_1 hP hS => ?_)
  have hF := hF.trans (pz_be hF_1)
  refine lv_if_eq (tgt := 31) hx hb dX0_isOpenBox_4 (by decide) (fun c_2 => ?_) (fun c_2 => ?_)
  · have hF := hF.trans (if_pos c_2)
    refine lv_iconst (v := 0) hx hb dX0_isOpenBox_31 (by decide) ?_
    exact W.zret (v := 0) hx hb hr rfl (fun t ht hW => ⟨⟨0, (), rfl, hF.symm, pz_hp ht hP⟩, hS.F ht⟩) hS.2.2 dX0_isOpenBox_32 hlocks
  · have hF := hF.trans (if_neg c_2)
    refine lv_aload_n hx hb dX0_isOpenBox_7 rfl (lv_at hl 0 rfl) ?_
    refine va_get (D := D) (ci := 0) (v := .ref (q 16)) (C := RX0) (T := TX0) (N := 6) hx hb hts in_X0_isOpenBox_X0 hown hK hP 3 rfl rfl 0 (by decide) (hts _ fl_X0_isOpenBox_9) (fun _ h9 => h9) rfl dX0_isOpenBox_8 ?_
    refine lv_iload_n hx hb dX0_isOpenBox_11 rfl (lv_at hl 1 rfl) ?_
    have hi_3 : vp_in x1 60 := by first | exact pz_line ‹_› ‹_› | assumption
    refine va_iald hx hb hK hP 16 0 rfl rfl hi_3 dX0_isOpenBox_12 ?_
    refine lv_iconst (v := 1) hx hb dX0_isOpenBox_13 (by decide) ?_
    refine lv_icmp_ne (tgt := 31) hx hb dX0_isOpenBox_14 (by decide) (fun c_4 => ?_) (fun c_4 => ?_)
    · have hF := hF.trans (if_neg c_4)
      refine lv_iconst (v := 0) hx hb dX0_isOpenBox_31 (by decide) ?_
      exact W.zret (v := 0) hx hb hr rfl (fun t ht hW => ⟨⟨0, (), rfl, hF.symm, pz_hp ht hP⟩, hS.F ht⟩) hS.2.2 dX0_isOpenBox_32 hlocks
    · have hF := hF.trans (if_pos c_4)
      refine lv_aload_n hx hb dX0_isOpenBox_17 rfl (lv_at hl 0 rfl) ?_
      refine va_get (D := D) (ci := 0) (v := .ref (q 18)) (C := RX0) (T := TX0) (N := 6) hx hb hts in_X0_isOpenBox_X0 hown hK hP 3 rfl rfl 2 (by decide) (hts _ fl_X0_isOpenBox_18) (fun _ h9 => h9) rfl dX0_isOpenBox_18 ?_
      refine lv_iload_n hx hb dX0_isOpenBox_21 rfl (lv_at hl 1 rfl) ?_
      have hi_5 : vp_in x1 60 := by first | exact pz_line ‹_› ‹_› | assumption
      refine va_iald hx hb hK hP 18 0 rfl rfl hi_5 dX0_isOpenBox_22 ?_
      refine lv_iconst (v := (-1)) hx hb dX0_isOpenBox_23 (by decide) ?_
      refine lv_icmp_ne (tgt := 31) hx hb dX0_isOpenBox_24 (by decide) (fun c_6 => ?_) (fun c_6 => ?_)
      · have hF := hF.trans (if_neg c_6)
        refine lv_iconst (v := 0) hx hb dX0_isOpenBox_31 (by decide) ?_
        exact W.zret (v := 0) hx hb hr rfl (fun t ht hW => ⟨⟨0, (), rfl, hF.symm, pz_hp ht hP⟩, hS.F ht⟩) hS.2.2 dX0_isOpenBox_32 hlocks
      · have hF := hF.trans (if_pos c_6)
        refine lv_iconst (v := 1) hx hb dX0_isOpenBox_27 (by decide) ?_
        refine lv_goto (tgt := 32) hx hb dX0_isOpenBox_28 (by decide) ?_
        exact W.zret (v := 1) hx hb hr rfl (fun t ht hW => ⟨⟨1, (), rfl, hF.symm, pz_hp ht hP⟩, hS.F ht⟩) hS.2.2 dX0_isOpenBox_32 hlocks

-- == X0_forget
def F_X0_forget_2 : Nat → (Nat → Int32) → (Nat → Int32) → (Nat → Int32) → (Nat → Int32) → (Nat → Int32) → (Int32) → (Nat → Int32) × (Nat → Int32) × (Nat → Int32) × (Nat → Int32) × (Nat → Int32)
  | 0, frules, heads, ends, inforce, usable, x1 => (frules, heads, ends, inforce, usable)
  | n + 1, frules, heads, ends, inforce, usable, x1 => if 60 ≤ x1 then ((frules, heads, ends, inforce, usable)) else (F_X0_forget_2 n (upd frules (x1).toNatClampNeg (-1)) (upd heads (x1).toNatClampNeg (-1)) (upd ends (x1).toNatClampNeg (-1)) (upd inforce (x1).toNatClampNeg 0) (upd usable (x1).toNatClampNeg 0) (x1 + 1))
def f_X0_forget (frules : Nat → Int32) (heads : Nat → Int32) (ends : Nat → Int32) (inforce : Nat → Int32) (usable : Nat → Int32) : (Nat → Int32) × (Nat → Int32) × (Nat → Int32) × (Nat → Int32) × (Nat → Int32) := F_X0_forget_2 61 frules heads ends inforce usable 0
theorem fl_X0_forget_15 : Cond.fieldLink RX0 15 "BoxProofs$Findings" "heads" "[I" ∈ wsX0_forget := by decide +kernel
theorem fl_X0_forget_18 : Cond.fieldLink RX0 18 "BoxProofs$Findings" "ends" "[I" ∈ wsX0_forget := by decide +kernel
theorem fl_X0_forget_21 : Cond.fieldLink RX0 21 "BoxProofs$Findings" "inForce" "[Z" ∈ wsX0_forget := by decide +kernel
theorem fl_X0_forget_25 : Cond.fieldLink RX0 25 "BoxProofs$Findings" "usable" "[Z" ∈ wsX0_forget := by decide +kernel
theorem fl_X0_forget_9 : Cond.fieldLink RX0 9 "BoxProofs$Findings" "rules" "[I" ∈ wsX0_forget := by decide +kernel
theorem in_X0_forget_X0 : ∀ w ∈ wsX00, w ∈ wsX0_forget := by decide +kernel
set_option maxHeartbeats 4000000 in
set_option maxRecDepth 100000 in
theorem k_X0_forget_2 {p : Program} {l : Launch} {e : Env} {s : State} {m : MethodId} {args : Array Value} {below : List Frame} {meth : Method} {c : Code} {D : va_G} {q : Nat → Nat} {k : Nat → ClassId} {t : Nat → Nat} (hC : pz_C p s m args meth c cX0_forget wsX0_forget RX0 2 none) (hKX : pz_KX D q k t s) (cnt : Int32) (kinds : Nat → Int32) (firsts : Nat → Int32) (seconds : Nat → Int32) (heights : Nat → Int32) (tables : Nat → Int64) (replaced : Nat → Int32) (laid : Nat → Int32) (rules : Nat → Int32) (ps : Nat → Int32) (qs : Nat → Int32) (rs : Nat → Int32) (fs : Nat → Int32) (summ : Nat → Int32) {G : (Nat → Int32) × (Nat → Int32) × (Nat → Int32) × (Nat → Int32) × (Nat → Int32)} :
    ∀ (n : Nat) (frules : Nat → Int32) (heads : Nat → Int32) (ends : Nat → Int32) (inforce : Nat → Int32) (usable : Nat → Int32) (x1 : Int32) (h0 : 0 ≤ x1.toInt) (h1 : x1.toInt ≤ 60) (hn : 61 ≤ x1.toInt + n)  (H : Heap) (locs : List Loc) (ls : Array Slot), G = F_X0_forget_2 n frules heads ends inforce usable x1 → va_P D vwCl (pz_X q k cnt kinds firsts seconds heights tables replaced laid rules ps qs rs fs frules heads ends inforce usable summ) H → va_S (pz_A 22 q) s.heap H locs → lv_has ls 2 [(0, .ref (q 3)), (1, .int (x1))] → W p l e (headSpec wsX0_forget { frames := 0, cells := 0, slots := 0, locals := 0 }).room s m args below meth c H locs 0 0 (MQ below (va_Qv (fun (u : (Nat → Int32) × (Nat → Int32) × (Nat → Int32) × (Nat → Int32) × (Nat → Int32)) => u = G) (fun u t => va_P D vwCl (pz_X q k cnt kinds firsts seconds heights tables replaced laid rules ps qs rs fs u.1 u.2.1 u.2.2.1 u.2.2.2.1 u.2.2.2.2 summ) t.heap) (pz_A 22 q)) args s 0 0 (pz_A 22 q)) (F0 m 2 ls []) := by
  obtain ⟨hx, hb, hml, hown, hts, hr, hlocks⟩ := hC
  have hC : pz_C p s m args meth c cX0_forget wsX0_forget RX0 2 none := ⟨hx, hb, hml, hown, hts, hr, hlocks⟩
  have hK := hKX.1
  intro n
  induction n with
  | zero =>
    intro frules heads ends inforce usable x1 h0 h1 hn H locs ls hF hP hS hl
    exact absurd hn (by omega)
  | succ n ih =>
    intro frules heads ends inforce usable x1 h0 h1 hn H locs ls hF hP hS hl
    unfold F_X0_forget_2 at hF
    refine lv_iload_n hx hb dX0_forget_2 rfl (lv_at hl 1 rfl) ?_
    refine lv_bipush (v := 60) hx hb dX0_forget_3 (by decide) ?_
    refine lv_icmp_ge (tgt := 49) hx hb dX0_forget_5 (by decide) (fun c_1 => ?_) (fun c_1 => ?_)
    · have hF := hF.trans (if_pos c_1)
      exact W.vret hx hb hr (fun t ht hW => ⟨⟨(frules, heads, ends, inforce, usable), rfl, hF.symm, pz_hp ht hP⟩, hS.F ht⟩) hS.2.2 dX0_forget_49 hlocks
    · have hF := hF.trans (if_neg c_1)
      refine lv_aload_n hx hb dX0_forget_8 rfl (lv_at hl 0 rfl) ?_
      refine va_get (D := D) (ci := 0) (v := .ref (q 16)) (C := RX0) (T := TX0) (N := 6) hx hb hts in_X0_forget_X0 hown hK hP 3 rfl rfl 0 (by decide) (hts _ fl_X0_forget_9) (fun _ h9 => h9) rfl dX0_forget_9 ?_
      refine lv_iload_n hx hb dX0_forget_12 rfl (lv_at hl 1 rfl) ?_
      refine lv_iconst (v := (-1)) hx hb dX0_forget_13 (by decide) ?_
      have hi_2 : vp_in x1 60 := pz_inI h0 (pz_n60 ‹_›)
      refine va_iast hx hb hK hP (pz_D hKX.2.2.2.2.2.2.2.2 rfl) hS 16 0 rfl rfl hi_2 dX0_forget_14 (fun H locs hP _ hS => ?_)
      have hP : va_P D vwCl (pz_X q k cnt kinds firsts seconds heights tables replaced laid rules ps qs rs fs (upd frules (x1).toNatClampNeg (-1)) heads ends inforce usable summ) H := hP
      refine lv_aload_n hx hb dX0_forget_15 rfl (lv_at hl 0 rfl) ?_
      refine va_get (D := D) (ci := 0) (v := .ref (q 17)) (C := RX0) (T := TX0) (N := 6) hx hb hts in_X0_forget_X0 hown hK hP 3 rfl rfl 1 (by decide) (hts _ fl_X0_forget_15) (fun _ h9 => h9) rfl dX0_forget_16 ?_
      refine lv_iload_n hx hb dX0_forget_19 rfl (lv_at hl 1 rfl) ?_
      refine lv_iconst (v := (-1)) hx hb dX0_forget_20 (by decide) ?_
      have hi_3 : vp_in x1 60 := pz_inI h0 (pz_n60 ‹_›)
      refine va_iast hx hb hK hP (pz_D hKX.2.2.2.2.2.2.2.2 rfl) hS 17 0 rfl rfl hi_3 dX0_forget_21 (fun H locs hP _ hS => ?_)
      have hP : va_P D vwCl (pz_X q k cnt kinds firsts seconds heights tables replaced laid rules ps qs rs fs (upd frules (x1).toNatClampNeg (-1)) (upd heads (x1).toNatClampNeg (-1)) ends inforce usable summ) H := hP
      refine lv_aload_n hx hb dX0_forget_22 rfl (lv_at hl 0 rfl) ?_
      refine va_get (D := D) (ci := 0) (v := .ref (q 18)) (C := RX0) (T := TX0) (N := 6) hx hb hts in_X0_forget_X0 hown hK hP 3 rfl rfl 2 (by decide) (hts _ fl_X0_forget_18) (fun _ h9 => h9) rfl dX0_forget_23 ?_
      refine lv_iload_n hx hb dX0_forget_26 rfl (lv_at hl 1 rfl) ?_
      refine lv_iconst (v := (-1)) hx hb dX0_forget_27 (by decide) ?_
      have hi_4 : vp_in x1 60 := pz_inI h0 (pz_n60 ‹_›)
      refine va_iast hx hb hK hP (pz_D hKX.2.2.2.2.2.2.2.2 rfl) hS 18 0 rfl rfl hi_4 dX0_forget_28 (fun H locs hP _ hS => ?_)
      have hP : va_P D vwCl (pz_X q k cnt kinds firsts seconds heights tables replaced laid rules ps qs rs fs (upd frules (x1).toNatClampNeg (-1)) (upd heads (x1).toNatClampNeg (-1)) (upd ends (x1).toNatClampNeg (-1)) inforce usable summ) H := hP
      refine lv_aload_n hx hb dX0_forget_29 rfl (lv_at hl 0 rfl) ?_
      refine va_get (D := D) (ci := 0) (v := .ref (q 19)) (C := RX0) (T := TX0) (N := 6) hx hb hts in_X0_forget_X0 hown hK hP 3 rfl rfl 3 (by decide) (hts _ fl_X0_forget_21) (fun _ h9 => h9) rfl dX0_forget_30 ?_
      refine lv_iload_n hx hb dX0_forget_33 rfl (lv_at hl 1 rfl) ?_
      refine lv_iconst (v := 0) hx hb dX0_forget_34 (by decide) ?_
      have hi_5 : vp_in x1 60 := pz_inI h0 (pz_n60 ‹_›)
      refine va_zast hx hb hK hP (pz_D hKX.2.2.2.2.2.2.2.2 rfl) hS 19 2 rfl rfl hi_5 dX0_forget_35 (fun H locs hP _ hS => ?_)
      have hP : va_P D vwCl (pz_X q k cnt kinds firsts seconds heights tables replaced laid rules ps qs rs fs (upd frules (x1).toNatClampNeg (-1)) (upd heads (x1).toNatClampNeg (-1)) (upd ends (x1).toNatClampNeg (-1)) (upd inforce (x1).toNatClampNeg 0) usable summ) H := hP
      refine lv_aload_n hx hb dX0_forget_36 rfl (lv_at hl 0 rfl) ?_
      refine va_get (D := D) (ci := 0) (v := .ref (q 20)) (C := RX0) (T := TX0) (N := 6) hx hb hts in_X0_forget_X0 hown hK hP 3 rfl rfl 4 (by decide) (hts _ fl_X0_forget_25) (fun _ h9 => h9) rfl dX0_forget_37 ?_
      refine lv_iload_n hx hb dX0_forget_40 rfl (lv_at hl 1 rfl) ?_
      refine lv_iconst (v := 0) hx hb dX0_forget_41 (by decide) ?_
      have hi_6 : vp_in x1 60 := pz_inI h0 (pz_n60 ‹_›)
      refine va_zast hx hb hK hP (pz_D hKX.2.2.2.2.2.2.2.2 rfl) hS 20 2 rfl rfl hi_6 dX0_forget_42 (fun H locs hP _ hS => ?_)
      have hP : va_P D vwCl (pz_X q k cnt kinds firsts seconds heights tables replaced laid rules ps qs rs fs (upd frules (x1).toNatClampNeg (-1)) (upd heads (x1).toNatClampNeg (-1)) (upd ends (x1).toNatClampNeg (-1)) (upd inforce (x1).toNatClampNeg 0) (upd usable (x1).toNatClampNeg 0) summ) H := hP
      refine lv_iinc (v := (x1 + 1)) (lv' := [(1, .int ((x1 + 1))), (0, .ref (q 3))]) hx hb dX0_forget_43 hl (k := 1) rfl rfl (by decide) rfl (fun ls hl => ?_)
      refine lv_goto (tgt := 2) hx hb dX0_forget_46 (by decide) ?_
      exact ih (upd frules (x1).toNatClampNeg (-1)) (upd heads (x1).toNatClampNeg (-1)) (upd ends (x1).toNatClampNeg (-1)) (upd inforce (x1).toNatClampNeg 0) (upd usable (x1).toNatClampNeg 0) (x1 + 1) (by have e := pz_up60 ‹¬ (60 : Int32) ≤ x1›; omega) (by have e := pz_up60 ‹¬ (60 : Int32) ≤ x1›; omega) (by have e := pz_up60 ‹¬ (60 : Int32) ≤ x1›; omega) _ _ _ hF hP hS (lv_sub hl [1, 0] rfl)
set_option maxHeartbeats 4000000 in
set_option maxRecDepth 100000 in
theorem c_X0_forget (l : Launch) (D : va_G) (q : Nat → Nat) (k : Nat → ClassId) (t : Nat → Nat) (cnt : Int32) (kinds : Nat → Int32) (firsts : Nat → Int32) (seconds : Nat → Int32) (heights : Nat → Int32) (tables : Nat → Int64) (replaced : Nat → Int32) (laid : Nat → Int32) (rules : Nat → Int32) (ps : Nat → Int32) (qs : Nat → Int32) (rs : Nat → Int32) (fs : Nat → Int32) (frules : Nat → Int32) (heads : Nat → Int32) (ends : Nat → Int32) (inforce : Nat → Int32) (usable : Nat → Int32) (summ : Nat → Int32)   : Met l yX0_forget wsX0_forget ({ frames := 0, cells := 0, slots := 0, locals := 0 }) (va_Pc [.ref (q 3)] (fun U => va_P D vwCl (pz_X q k cnt kinds firsts seconds heights tables replaced laid rules ps qs rs fs frules heads ends inforce usable summ) U.heap ∧ pz_KX D q k t U)) (va_Qv (fun (u : (Nat → Int32) × (Nat → Int32) × (Nat → Int32) × (Nat → Int32) × (Nat → Int32)) => u = (f_X0_forget frules heads ends inforce usable)) (fun u t => va_P D vwCl (pz_X q k cnt kinds firsts seconds heights tables replaced laid rules ps qs rs fs u.1 u.2.1 u.2.2.1 u.2.2.2.1 u.2.2.2.2 summ) t.heap) (pz_A 22 q)) 0 0 (pz_A 22 q) := by
  refine Met.ofW (cc := cX0_forget) (maxL := 2) (ret := none) (by decide) rfl ?_
  intro p e s m args below meth c s₁ B hml hv
  obtain ⟨rfl, hP, hKX⟩ := hv
  have hx := B.exec
  have hb := B.bytes
  have hr := B.returns
  have hts := atoms_spec (ws := wsX0_forget) B.pre
  have hown : s.vm.findClass RX0 = some m.cls := findClass_of_methodNamed B.named
  have hlocks := B.notSynchronized
  have hC : pz_C p s m ([.ref (q 3)] : List Value).toArray meth c cX0_forget wsX0_forget RX0 2 none := ⟨hx, hb, hml, hown, hts, hr, hlocks⟩
  have hK := hKX.1
  have hS : va_S (pz_A 22 q) s.heap s.heap [] := va_S.rf
  have hl := lv_entry [.ref (q 3)] (n := 2) (Nat.le_of_ble_eq_true rfl)
  rw [lg_entry_eq]
  generalize (lg_sl [.ref (q 3)] ++ List.replicate (2 - (lg_sl [.ref (q 3)]).length) Slot.unset).toArray = ls at hl ⊢
  have hl : lv_has ls 2 [(0, .ref (q 3))] := hl
  generalize hF : f_X0_forget frules heads ends inforce usable = G
  replace hF := hF.symm
  unfold f_X0_forget at hF
  refine lv_iconst (v := 0) hx hb dX0_forget_0 (by decide) ?_
  refine lv_istore_n (lv' := [(1, .int (0)), (0, .ref (q 3))]) hx hb dX0_forget_1 rfl hl (by decide) rfl (fun ls hl => ?_)
  exact k_X0_forget_2 hC hKX cnt kinds firsts seconds heights tables replaced laid rules ps qs rs fs summ 61 frules heads ends inforce usable 0 (by decide) (by decide) (by decide) _ _ _ hF hP hS (lv_sub hl [1, 0] rfl)

-- == X0_innermostOpen
def F_X0_innermostOpen_3 : Nat → (Nat → Int32) → (Nat → Int32) → (Int32) → Int32
  | 0, frules, ends, x1 => 0
  | n + 1, frules, ends, x1 => if x1 < 0 then ((-1)) else (pz_bnd (f_X0_isOpenBox frules ends x1) (fun z_2 => if z_2 = 0 then (F_X0_innermostOpen_3 n frules ends (x1 + (-1))) else (x1)))
def f_X0_innermostOpen (frules : Nat → Int32) (ends : Nat → Int32) : Int32 := F_X0_innermostOpen_3 61 frules ends 59
theorem hdV_X0_isOpenBox : yX0_isOpenBox.cls = RX0 ∧ yX0_isOpenBox.cls ≠ "java/lang/invoke/MethodHandle" ∧ yX0_isOpenBox.cls ≠ "java/lang/invoke/VarHandle" ∧ (parseMethodDescriptor yX0_isOpenBox.desc).map (fun d => d.parameters.length) = some 1 := by decide +kernel
set_option maxHeartbeats 4000000 in
set_option maxRecDepth 100000 in
theorem k_X0_innermostOpen_3 {p : Program} {l : Launch} {e : Env} {s : State} {m : MethodId} {args : Array Value} {below : List Frame} {meth : Method} {c : Code} {D : va_G} {q : Nat → Nat} {k : Nat → ClassId} {t : Nat → Nat} (hC : pz_C p s m args meth c cX0_innermostOpen wsX0_innermostOpen RX0 2 (some .int)) (hKX : pz_KX D q k t s) (cnt : Int32) (kinds : Nat → Int32) (firsts : Nat → Int32) (seconds : Nat → Int32) (heights : Nat → Int32) (tables : Nat → Int64) (replaced : Nat → Int32) (laid : Nat → Int32) (rules : Nat → Int32) (ps : Nat → Int32) (qs : Nat → Int32) (rs : Nat → Int32) (fs : Nat → Int32) (frules : Nat → Int32) (heads : Nat → Int32) (ends : Nat → Int32) (inforce : Nat → Int32) (usable : Nat → Int32) (summ : Nat → Int32) {G : Int32} :
    ∀ (n : Nat) (x1 : Int32) (h1 : x1.toInt ≤ 59) (h0 : -1 ≤ x1.toInt) (hn : x1.toInt + 2 ≤ n)  (H : Heap) (locs : List Loc) (ls : Array Slot), G = F_X0_innermostOpen_3 n frules ends x1 → va_P D vwCl (pz_X q k cnt kinds firsts seconds heights tables replaced laid rules ps qs rs fs frules heads ends inforce usable summ) H → va_S (pz_A 22 q) s.heap H locs → lv_has ls 2 [(0, .ref (q 3)), (1, .int (x1))] → W p l e (headSpec wsX0_innermostOpen { frames := 2, cells := 0, slots := 0, locals := 41 }).room s m args below meth c H locs 0 0 (MQ below (va_Qi (fun r (_ : Unit) => r = G) (fun _ t => va_P D vwCl (pz_X q k cnt kinds firsts seconds heights tables replaced laid rules ps qs rs fs frules heads ends inforce usable summ) t.heap) (pz_A 22 q)) args s 0 0 (pz_A 22 q)) (F0 m 3 ls []) := by
  obtain ⟨hx, hb, hml, hown, hts, hr, hlocks⟩ := hC
  have hC : pz_C p s m args meth c cX0_innermostOpen wsX0_innermostOpen RX0 2 (some .int) := ⟨hx, hb, hml, hown, hts, hr, hlocks⟩
  have hK := hKX.1
  intro n
  induction n with
  | zero =>
    intro x1 h1 h0 hn H locs ls hF hP hS hl
    exact absurd hn (by omega)
  | succ n ih =>
    intro x1 h1 h0 hn H locs ls hF hP hS hl
    unfold F_X0_innermostOpen_3 at hF
    refine lv_iload_n hx hb dX0_innermostOpen_3 rfl (lv_at hl 1 rfl) ?_
    refine lv_if_lt (tgt := 23) hx hb dX0_innermostOpen_4 (by decide) (fun c_1 => ?_) (fun c_1 => ?_)
    · have hF := hF.trans (if_pos c_1)
      refine lv_iconst (v := (-1)) hx hb dX0_innermostOpen_23 (by decide) ?_
      exact W.iret (v := (-1)) hx hb hr (fun t ht hW => ⟨⟨(-1), (), rfl, hF.symm, pz_hp ht hP⟩, hS.F ht⟩) hS.2.2 dX0_innermostOpen_24 hlocks
    · have hF := hF.trans (if_neg c_1)
      refine lv_aload_n hx hb dX0_innermostOpen_7 rfl (lv_at hl 0 rfl) ?_
      refine lv_iload_n hx hb dX0_innermostOpen_8 rfl (lv_at hl 1 rfl) ?_
      refine pz_Vi (As := [.int (x1)]) (rest := []) ⟨hx, hb, hml, hown, hts⟩ (c_X0_isOpenBox l D q k t cnt kinds firsts seconds heights tables replaced laid rules ps qs rs fs frules heads ends inforce usable summ x1) (cwV 1 hts gX0_innermostOpen_X0_isOpenBox rfl rfl rfl hdV_X0_isOpenBox ⟨Nat.le_of_ble_eq_true rfl, Nat.le_of_ble_eq_true rfl⟩) pz_KX.call (hKX.go hS) (va_recv hK hP (ci := 0) (q0 := 3) rfl rfl) hP hS rfl hl.1 rfl (Nat.le_of_ble_eq_true rfl) dX0_innermostOpen_9 ⟨Nat.zero_le _, Nat.zero_le _⟩ (fun r_2 u_2 H locs hF_2 hP hS => ?_)
      have hF := hF.trans (pz_be hF_2)
      refine lv_if_eq (tgt := 17) hx hb dX0_innermostOpen_12 (by decide) (fun c_3 => ?_) (fun c_3 => ?_)
      · have hF := hF.trans (if_pos c_3)
        refine lv_iinc (v := (x1 + (-1))) (lv' := [(1, .int ((x1 + (-1)))), (0, .ref (q 3))]) hx hb dX0_innermostOpen_17 hl (k := 1) rfl rfl (by decide) rfl (fun ls hl => ?_)
        refine lv_goto (tgt := 3) hx hb dX0_innermostOpen_20 (by decide) ?_
        exact ih (x1 + (-1)) (by have a := pz_n0 ‹¬ x1 < 0›; have i := pz_dec (x := x1) (by omega); omega) (by have a := pz_n0 ‹¬ x1 < 0›; have i := pz_dec (x := x1) (by omega); omega) (by have a := pz_n0 ‹¬ x1 < 0›; have i := pz_dec (x := x1) (by omega); omega) _ _ _ hF hP hS (lv_sub hl [1, 0] rfl)
      · have hF := hF.trans (if_neg c_3)
        refine lv_iload_n hx hb dX0_innermostOpen_15 rfl (lv_at hl 1 rfl) ?_
        exact W.iret (v := x1) hx hb hr (fun t ht hW => ⟨⟨x1, (), rfl, hF.symm, pz_hp ht hP⟩, hS.F ht⟩) hS.2.2 dX0_innermostOpen_16 hlocks
set_option maxHeartbeats 4000000 in
set_option maxRecDepth 100000 in
theorem c_X0_innermostOpen (l : Launch) (D : va_G) (q : Nat → Nat) (k : Nat → ClassId) (t : Nat → Nat) (cnt : Int32) (kinds : Nat → Int32) (firsts : Nat → Int32) (seconds : Nat → Int32) (heights : Nat → Int32) (tables : Nat → Int64) (replaced : Nat → Int32) (laid : Nat → Int32) (rules : Nat → Int32) (ps : Nat → Int32) (qs : Nat → Int32) (rs : Nat → Int32) (fs : Nat → Int32) (frules : Nat → Int32) (heads : Nat → Int32) (ends : Nat → Int32) (inforce : Nat → Int32) (usable : Nat → Int32) (summ : Nat → Int32)   : Met l yX0_innermostOpen wsX0_innermostOpen ({ frames := 2, cells := 0, slots := 0, locals := 41 }) (va_Pc [.ref (q 3)] (fun U => va_P D vwCl (pz_X q k cnt kinds firsts seconds heights tables replaced laid rules ps qs rs fs frules heads ends inforce usable summ) U.heap ∧ pz_KX D q k t U)) (va_Qi (fun r (_ : Unit) => r = (f_X0_innermostOpen frules ends)) (fun _ t => va_P D vwCl (pz_X q k cnt kinds firsts seconds heights tables replaced laid rules ps qs rs fs frules heads ends inforce usable summ) t.heap) (pz_A 22 q)) 0 0 (pz_A 22 q) := by
  refine Met.ofW (cc := cX0_innermostOpen) (maxL := 2) (ret := (some .int)) (by decide) rfl ?_
  intro p e s m args below meth c s₁ B hml hv
  obtain ⟨rfl, hP, hKX⟩ := hv
  have hx := B.exec
  have hb := B.bytes
  have hr := B.returns
  have hts := atoms_spec (ws := wsX0_innermostOpen) B.pre
  have hown : s.vm.findClass RX0 = some m.cls := findClass_of_methodNamed B.named
  have hlocks := B.notSynchronized
  have hC : pz_C p s m ([.ref (q 3)] : List Value).toArray meth c cX0_innermostOpen wsX0_innermostOpen RX0 2 (some .int) := ⟨hx, hb, hml, hown, hts, hr, hlocks⟩
  have hK := hKX.1
  have hS : va_S (pz_A 22 q) s.heap s.heap [] := va_S.rf
  have hl := lv_entry [.ref (q 3)] (n := 2) (Nat.le_of_ble_eq_true rfl)
  rw [lg_entry_eq]
  generalize (lg_sl [.ref (q 3)] ++ List.replicate (2 - (lg_sl [.ref (q 3)]).length) Slot.unset).toArray = ls at hl ⊢
  have hl : lv_has ls 2 [(0, .ref (q 3))] := hl
  generalize hF : f_X0_innermostOpen frules ends = G
  replace hF := hF.symm
  unfold f_X0_innermostOpen at hF
  refine lv_bipush (v := 59) hx hb dX0_innermostOpen_0 (by decide) ?_
  refine lv_istore_n (lv' := [(1, .int (59)), (0, .ref (q 3))]) hx hb dX0_innermostOpen_2 rfl hl (by decide) rfl (fun ls hl => ?_)
  exact k_X0_innermostOpen_3 hC hKX cnt kinds firsts seconds heights tables replaced laid rules ps qs rs fs frules heads ends inforce usable summ 61 59 (by decide) (by decide) (by decide) _ _ _ hF hP hS (lv_sub hl [1, 0] rfl)

-- == X0_countOpen
def F_X0_countOpen_4 : Nat → (Nat → Int32) → (Nat → Int32) → (Int32) → (Int32) → Int32
  | 0, frules, ends, x1, x2 => 0
  | n + 1, frules, ends, x1, x2 => if 60 ≤ x2 then (x1) else (pz_bnd (f_X0_isOpenBox frules ends x2) (fun z_2 => if z_2 = 0 then (F_X0_countOpen_4 n frules ends x1 (x2 + 1)) else (F_X0_countOpen_4 n frules ends (x1 + 1) (x2 + 1))))
def f_X0_countOpen (frules : Nat → Int32) (ends : Nat → Int32) : Int32 := F_X0_countOpen_4 61 frules ends 0 0
set_option maxHeartbeats 4000000 in
set_option maxRecDepth 100000 in
theorem k_X0_countOpen_4 {p : Program} {l : Launch} {e : Env} {s : State} {m : MethodId} {args : Array Value} {below : List Frame} {meth : Method} {c : Code} {D : va_G} {q : Nat → Nat} {k : Nat → ClassId} {t : Nat → Nat} (hC : pz_C p s m args meth c cX0_countOpen wsX0_countOpen RX0 3 (some .int)) (hKX : pz_KX D q k t s) (cnt : Int32) (kinds : Nat → Int32) (firsts : Nat → Int32) (seconds : Nat → Int32) (heights : Nat → Int32) (tables : Nat → Int64) (replaced : Nat → Int32) (laid : Nat → Int32) (rules : Nat → Int32) (ps : Nat → Int32) (qs : Nat → Int32) (rs : Nat → Int32) (fs : Nat → Int32) (frules : Nat → Int32) (heads : Nat → Int32) (ends : Nat → Int32) (inforce : Nat → Int32) (usable : Nat → Int32) (summ : Nat → Int32) {G : Int32} :
    ∀ (n : Nat) (x1 : Int32) (x2 : Int32) (h0 : 0 ≤ x2.toInt) (h1 : x2.toInt ≤ 60) (hn : 61 ≤ x2.toInt + n)  (H : Heap) (locs : List Loc) (ls : Array Slot), G = F_X0_countOpen_4 n frules ends x1 x2 → va_P D vwCl (pz_X q k cnt kinds firsts seconds heights tables replaced laid rules ps qs rs fs frules heads ends inforce usable summ) H → va_S (pz_A 22 q) s.heap H locs → lv_has ls 3 [(0, .ref (q 3)), (1, .int (x1)), (2, .int (x2))] → W p l e (headSpec wsX0_countOpen { frames := 2, cells := 0, slots := 0, locals := 41 }).room s m args below meth c H locs 0 0 (MQ below (va_Qi (fun r (_ : Unit) => r = G) (fun _ t => va_P D vwCl (pz_X q k cnt kinds firsts seconds heights tables replaced laid rules ps qs rs fs frules heads ends inforce usable summ) t.heap) (pz_A 22 q)) args s 0 0 (pz_A 22 q)) (F0 m 4 ls []) := by
  obtain ⟨hx, hb, hml, hown, hts, hr, hlocks⟩ := hC
  have hC : pz_C p s m args meth c cX0_countOpen wsX0_countOpen RX0 3 (some .int) := ⟨hx, hb, hml, hown, hts, hr, hlocks⟩
  have hK := hKX.1
  intro n
  induction n with
  | zero =>
    intro x1 x2 h0 h1 hn H locs ls hF hP hS hl
    exact absurd hn (by omega)
  | succ n ih =>
    intro x1 x2 h0 h1 hn H locs ls hF hP hS hl
    unfold F_X0_countOpen_4 at hF
    refine lv_iload_n hx hb dX0_countOpen_4 rfl (lv_at hl 2 rfl) ?_
    refine lv_bipush (v := 60) hx hb dX0_countOpen_5 (by decide) ?_
    refine lv_icmp_ge (tgt := 27) hx hb dX0_countOpen_7 (by decide) (fun c_1 => ?_) (fun c_1 => ?_)
    · have hF := hF.trans (if_pos c_1)
      refine lv_iload_n hx hb dX0_countOpen_27 rfl (lv_at hl 1 rfl) ?_
      exact W.iret (v := x1) hx hb hr (fun t ht hW => ⟨⟨x1, (), rfl, hF.symm, pz_hp ht hP⟩, hS.F ht⟩) hS.2.2 dX0_countOpen_28 hlocks
    · have hF := hF.trans (if_neg c_1)
      refine lv_aload_n hx hb dX0_countOpen_10 rfl (lv_at hl 0 rfl) ?_
      refine lv_iload_n hx hb dX0_countOpen_11 rfl (lv_at hl 2 rfl) ?_
      refine pz_Vi (As := [.int (x2)]) (rest := []) ⟨hx, hb, hml, hown, hts⟩ (c_X0_isOpenBox l D q k t cnt kinds firsts seconds heights tables replaced laid rules ps qs rs fs frules heads ends inforce usable summ x2) (cwV 1 hts gX0_countOpen_X0_isOpenBox rfl rfl rfl hdV_X0_isOpenBox ⟨Nat.le_of_ble_eq_true rfl, Nat.le_of_ble_eq_true rfl⟩) pz_KX.call (hKX.go hS) (va_recv hK hP (ci := 0) (q0 := 3) rfl rfl) hP hS rfl hl.1 rfl (Nat.le_of_ble_eq_true rfl) dX0_countOpen_12 ⟨Nat.zero_le _, Nat.zero_le _⟩ (fun r_2 u_2 H locs hF_2 hP hS => ?_)
      have hF := hF.trans (pz_be hF_2)
      refine lv_if_eq (tgt := 21) hx hb dX0_countOpen_15 (by decide) (fun c_3 => ?_) (fun c_3 => ?_)
      · have hF := hF.trans (if_pos c_3)
        refine lv_iinc (v := (x2 + 1)) (lv' := [(2, .int ((x2 + 1))), (0, .ref (q 3)), (1, .int (x1))]) hx hb dX0_countOpen_21 hl (k := 2) rfl rfl (by decide) rfl (fun ls hl => ?_)
        refine lv_goto (tgt := 4) hx hb dX0_countOpen_24 (by decide) ?_
        exact ih x1 (x2 + 1) (by have e := pz_up60 ‹¬ (60 : Int32) ≤ x2›; omega) (by have e := pz_up60 ‹¬ (60 : Int32) ≤ x2›; omega) (by have e := pz_up60 ‹¬ (60 : Int32) ≤ x2›; omega) _ _ _ hF hP hS (lv_sub hl [1, 2, 0] rfl)
      · have hF := hF.trans (if_neg c_3)
        refine lv_iinc (v := (x1 + 1)) (lv' := [(1, .int ((x1 + 1))), (0, .ref (q 3)), (2, .int (x2))]) hx hb dX0_countOpen_18 hl (k := 1) rfl rfl (by decide) rfl (fun ls hl => ?_)
        refine lv_iinc (v := (x2 + 1)) (lv' := [(2, .int ((x2 + 1))), (1, .int ((x1 + 1))), (0, .ref (q 3))]) hx hb dX0_countOpen_21 hl (k := 2) rfl rfl (by decide) rfl (fun ls hl => ?_)
        refine lv_goto (tgt := 4) hx hb dX0_countOpen_24 (by decide) ?_
        exact ih (x1 + 1) (x2 + 1) (by have e := pz_up60 ‹¬ (60 : Int32) ≤ x2›; omega) (by have e := pz_up60 ‹¬ (60 : Int32) ≤ x2›; omega) (by have e := pz_up60 ‹¬ (60 : Int32) ≤ x2›; omega) _ _ _ hF hP hS (lv_sub hl [2, 1, 0] rfl)
set_option maxHeartbeats 4000000 in
set_option maxRecDepth 100000 in
theorem c_X0_countOpen (l : Launch) (D : va_G) (q : Nat → Nat) (k : Nat → ClassId) (t : Nat → Nat) (cnt : Int32) (kinds : Nat → Int32) (firsts : Nat → Int32) (seconds : Nat → Int32) (heights : Nat → Int32) (tables : Nat → Int64) (replaced : Nat → Int32) (laid : Nat → Int32) (rules : Nat → Int32) (ps : Nat → Int32) (qs : Nat → Int32) (rs : Nat → Int32) (fs : Nat → Int32) (frules : Nat → Int32) (heads : Nat → Int32) (ends : Nat → Int32) (inforce : Nat → Int32) (usable : Nat → Int32) (summ : Nat → Int32)   : Met l yX0_countOpen wsX0_countOpen ({ frames := 2, cells := 0, slots := 0, locals := 41 }) (va_Pc [.ref (q 3)] (fun U => va_P D vwCl (pz_X q k cnt kinds firsts seconds heights tables replaced laid rules ps qs rs fs frules heads ends inforce usable summ) U.heap ∧ pz_KX D q k t U)) (va_Qi (fun r (_ : Unit) => r = (f_X0_countOpen frules ends)) (fun _ t => va_P D vwCl (pz_X q k cnt kinds firsts seconds heights tables replaced laid rules ps qs rs fs frules heads ends inforce usable summ) t.heap) (pz_A 22 q)) 0 0 (pz_A 22 q) := by
  refine Met.ofW (cc := cX0_countOpen) (maxL := 3) (ret := (some .int)) (by decide) rfl ?_
  intro p e s m args below meth c s₁ B hml hv
  obtain ⟨rfl, hP, hKX⟩ := hv
  have hx := B.exec
  have hb := B.bytes
  have hr := B.returns
  have hts := atoms_spec (ws := wsX0_countOpen) B.pre
  have hown : s.vm.findClass RX0 = some m.cls := findClass_of_methodNamed B.named
  have hlocks := B.notSynchronized
  have hC : pz_C p s m ([.ref (q 3)] : List Value).toArray meth c cX0_countOpen wsX0_countOpen RX0 3 (some .int) := ⟨hx, hb, hml, hown, hts, hr, hlocks⟩
  have hK := hKX.1
  have hS : va_S (pz_A 22 q) s.heap s.heap [] := va_S.rf
  have hl := lv_entry [.ref (q 3)] (n := 3) (Nat.le_of_ble_eq_true rfl)
  rw [lg_entry_eq]
  generalize (lg_sl [.ref (q 3)] ++ List.replicate (3 - (lg_sl [.ref (q 3)]).length) Slot.unset).toArray = ls at hl ⊢
  have hl : lv_has ls 3 [(0, .ref (q 3))] := hl
  generalize hF : f_X0_countOpen frules ends = G
  replace hF := hF.symm
  unfold f_X0_countOpen at hF
  refine lv_iconst (v := 0) hx hb dX0_countOpen_0 (by decide) ?_
  refine lv_istore_n (lv' := [(1, .int (0)), (0, .ref (q 3))]) hx hb dX0_countOpen_1 rfl hl (by decide) rfl (fun ls hl => ?_)
  refine lv_iconst (v := 0) hx hb dX0_countOpen_2 (by decide) ?_
  refine lv_istore_n (lv' := [(2, .int (0)), (1, .int (0)), (0, .ref (q 3))]) hx hb dX0_countOpen_3 rfl hl (by decide) rfl (fun ls hl => ?_)
  exact k_X0_countOpen_4 hC hKX cnt kinds firsts seconds heights tables replaced laid rules ps qs rs fs frules heads ends inforce usable summ 61 0 0 (by decide) (by decide) (by decide) _ _ _ hF hP hS (lv_sub hl [2, 1, 0] rfl)

-- == X0_sumUp
def f_X0_sumUp (frules : Nat → Int32) (ends : Nat → Int32) (summ : Nat → Int32) (x1 : Int32) (x2 : Int32) (x3 : Int32) : (Nat → Int32) := pz_bnd (f_X0_countOpen frules ends) (fun z_3 => (upd (upd (upd (upd summ (0 : Int32).toNatClampNeg x1) (1 : Int32).toNatClampNeg x2) (2 : Int32).toNatClampNeg z_3) (3 : Int32).toNatClampNeg x3))
theorem fl_X0_sumUp_28 : Cond.fieldLink RX0 28 "BoxProofs$Findings" "summary" "[I" ∈ wsX0_sumUp := by decide +kernel
theorem hdV_X0_countOpen : yX0_countOpen.cls = RX0 ∧ yX0_countOpen.cls ≠ "java/lang/invoke/MethodHandle" ∧ yX0_countOpen.cls ≠ "java/lang/invoke/VarHandle" ∧ (parseMethodDescriptor yX0_countOpen.desc).map (fun d => d.parameters.length) = some 0 := by decide +kernel
theorem in_X0_sumUp_X0 : ∀ w ∈ wsX00, w ∈ wsX0_sumUp := by decide +kernel
set_option maxHeartbeats 4000000 in
set_option maxRecDepth 100000 in
theorem c_X0_sumUp (l : Launch) (D : va_G) (q : Nat → Nat) (k : Nat → ClassId) (t : Nat → Nat) (cnt : Int32) (kinds : Nat → Int32) (firsts : Nat → Int32) (seconds : Nat → Int32) (heights : Nat → Int32) (tables : Nat → Int64) (replaced : Nat → Int32) (laid : Nat → Int32) (rules : Nat → Int32) (ps : Nat → Int32) (qs : Nat → Int32) (rs : Nat → Int32) (fs : Nat → Int32) (frules : Nat → Int32) (heads : Nat → Int32) (ends : Nat → Int32) (inforce : Nat → Int32) (usable : Nat → Int32) (summ : Nat → Int32) (x1 : Int32) (x2 : Int32) (x3 : Int32)  : Met l yX0_sumUp wsX0_sumUp ({ frames := 3, cells := 0, slots := 0, locals := 63 }) (va_Pc [.ref (q 3), .int (x1), .int (x2), .int (x3)] (fun U => va_P D vwCl (pz_X q k cnt kinds firsts seconds heights tables replaced laid rules ps qs rs fs frules heads ends inforce usable summ) U.heap ∧ pz_KX D q k t U)) (va_Qv (fun (u : (Nat → Int32)) => u = (f_X0_sumUp frules ends summ x1 x2 x3)) (fun u t => va_P D vwCl (pz_X q k cnt kinds firsts seconds heights tables replaced laid rules ps qs rs fs frules heads ends inforce usable u) t.heap) (pz_A 22 q)) 0 0 (pz_A 22 q) := by
  refine Met.ofW (cc := cX0_sumUp) (maxL := 4) (ret := none) (by decide) rfl ?_
  intro p e s m args below meth c s₁ B hml hv
  obtain ⟨rfl, hP, hKX⟩ := hv
  have hx := B.exec
  have hb := B.bytes
  have hr := B.returns
  have hts := atoms_spec (ws := wsX0_sumUp) B.pre
  have hown : s.vm.findClass RX0 = some m.cls := findClass_of_methodNamed B.named
  have hlocks := B.notSynchronized
  have hC : pz_C p s m ([.ref (q 3), .int (x1), .int (x2), .int (x3)] : List Value).toArray meth c cX0_sumUp wsX0_sumUp RX0 4 none := ⟨hx, hb, hml, hown, hts, hr, hlocks⟩
  have hK := hKX.1
  have hS : va_S (pz_A 22 q) s.heap s.heap [] := va_S.rf
  have hl := lv_entry [.ref (q 3), .int (x1), .int (x2), .int (x3)] (n := 4) (Nat.le_of_ble_eq_true rfl)
  rw [lg_entry_eq]
  generalize (lg_sl [.ref (q 3), .int (x1), .int (x2), .int (x3)] ++ List.replicate (4 - (lg_sl [.ref (q 3), .int (x1), .int (x2), .int (x3)]).length) Slot.unset).toArray = ls at hl ⊢
  have hl : lv_has ls 4 [(0, .ref (q 3)), (1, .int (x1)), (2, .int (x2)), (3, .int (x3))] := hl
  generalize hF : f_X0_sumUp frules ends summ x1 x2 x3 = G
  replace hF := hF.symm
  unfold f_X0_sumUp at hF
  refine lv_aload_n hx hb dX0_sumUp_0 rfl (lv_at hl 0 rfl) ?_
  refine va_get (D := D) (ci := 0) (v := .ref (q 21)) (C := RX0) (T := TX0) (N := 6) hx hb hts in_X0_sumUp_X0 hown hK hP 3 rfl rfl 5 (by decide) (hts _ fl_X0_sumUp_28) (fun _ h9 => h9) rfl dX0_sumUp_1 ?_
  refine lv_iconst (v := 0) hx hb dX0_sumUp_4 (by decide) ?_
  refine lv_iload_n hx hb dX0_sumUp_5 rfl (lv_at hl 1 rfl) ?_
  have hi_1 : vp_in 0 4 := pz_inI (by decide) (by decide)
  refine va_iast hx hb hK hP (pz_D hKX.2.2.2.2.2.2.2.2 rfl) hS 21 0 rfl rfl hi_1 dX0_sumUp_6 (fun H locs hP _ hS => ?_)
  have hP : va_P D vwCl (pz_X q k cnt kinds firsts seconds heights tables replaced laid rules ps qs rs fs frules heads ends inforce usable (upd summ (0 : Int32).toNatClampNeg x1)) H := hP
  refine lv_aload_n hx hb dX0_sumUp_7 rfl (lv_at hl 0 rfl) ?_
  refine va_get (D := D) (ci := 0) (v := .ref (q 21)) (C := RX0) (T := TX0) (N := 6) hx hb hts in_X0_sumUp_X0 hown hK hP 3 rfl rfl 5 (by decide) (hts _ fl_X0_sumUp_28) (fun _ h9 => h9) rfl dX0_sumUp_8 ?_
  refine lv_iconst (v := 1) hx hb dX0_sumUp_11 (by decide) ?_
  refine lv_iload_n hx hb dX0_sumUp_12 rfl (lv_at hl 2 rfl) ?_
  have hi_2 : vp_in 1 4 := pz_inI (by decide) (by decide)
  refine va_iast hx hb hK hP (pz_D hKX.2.2.2.2.2.2.2.2 rfl) hS 21 0 rfl rfl hi_2 dX0_sumUp_13 (fun H locs hP _ hS => ?_)
  have hP : va_P D vwCl (pz_X q k cnt kinds firsts seconds heights tables replaced laid rules ps qs rs fs frules heads ends inforce usable (upd (upd summ (0 : Int32).toNatClampNeg x1) (1 : Int32).toNatClampNeg x2)) H := hP
  refine lv_aload_n hx hb dX0_sumUp_14 rfl (lv_at hl 0 rfl) ?_
  refine va_get (D := D) (ci := 0) (v := .ref (q 21)) (C := RX0) (T := TX0) (N := 6) hx hb hts in_X0_sumUp_X0 hown hK hP 3 rfl rfl 5 (by decide) (hts _ fl_X0_sumUp_28) (fun _ h9 => h9) rfl dX0_sumUp_15 ?_
  refine lv_iconst (v := 2) hx hb dX0_sumUp_18 (by decide) ?_
  refine lv_aload_n hx hb dX0_sumUp_19 rfl (lv_at hl 0 rfl) ?_
  refine pz_Vi (As := []) (rest := [.int (2), .ref (q 21)]) ⟨hx, hb, hml, hown, hts⟩ (c_X0_countOpen l D q k t cnt kinds firsts seconds heights tables replaced laid rules ps qs rs fs frules heads ends inforce usable (upd (upd summ (0 : Int32).toNatClampNeg x1) (1 : Int32).toNatClampNeg x2)) (cwV 0 hts gX0_sumUp_X0_countOpen rfl rfl rfl hdV_X0_countOpen ⟨Nat.le_of_ble_eq_true rfl, Nat.le_of_ble_eq_true rfl⟩) pz_KX.call (hKX.go hS) (va_recv hK hP (ci := 0) (q0 := 3) rfl rfl) hP hS rfl hl.1 rfl (Nat.le_of_ble_eq_true rfl) dX0_sumUp_20 ⟨Nat.zero_le _, Nat.zero_le _⟩ (fun r_3 u_3 H locs hF_3 hP hS => ?_)
  have hF := hF.trans (pz_be hF_3)
  have hi_4 : vp_in 2 4 := pz_inI (by decide) (by decide)
  refine va_iast hx hb hK hP (pz_D hKX.2.2.2.2.2.2.2.2 rfl) hS 21 0 rfl rfl hi_4 dX0_sumUp_23 (fun H locs hP _ hS => ?_)
  have hP : va_P D vwCl (pz_X q k cnt kinds firsts seconds heights tables replaced laid rules ps qs rs fs frules heads ends inforce usable (upd (upd (upd summ (0 : Int32).toNatClampNeg x1) (1 : Int32).toNatClampNeg x2) (2 : Int32).toNatClampNeg r_3)) H := hP
  refine lv_aload_n hx hb dX0_sumUp_24 rfl (lv_at hl 0 rfl) ?_
  refine va_get (D := D) (ci := 0) (v := .ref (q 21)) (C := RX0) (T := TX0) (N := 6) hx hb hts in_X0_sumUp_X0 hown hK hP 3 rfl rfl 5 (by decide) (hts _ fl_X0_sumUp_28) (fun _ h9 => h9) rfl dX0_sumUp_25 ?_
  refine lv_iconst (v := 3) hx hb dX0_sumUp_28 (by decide) ?_
  refine lv_iload_n hx hb dX0_sumUp_29 rfl (lv_at hl 3 rfl) ?_
  have hi_5 : vp_in 3 4 := pz_inI (by decide) (by decide)
  refine va_iast hx hb hK hP (pz_D hKX.2.2.2.2.2.2.2.2 rfl) hS 21 0 rfl rfl hi_5 dX0_sumUp_30 (fun H locs hP _ hS => ?_)
  have hP : va_P D vwCl (pz_X q k cnt kinds firsts seconds heights tables replaced laid rules ps qs rs fs frules heads ends inforce usable (upd (upd (upd (upd summ (0 : Int32).toNatClampNeg x1) (1 : Int32).toNatClampNeg x2) (2 : Int32).toNatClampNeg r_3) (3 : Int32).toNatClampNeg x3)) H := hP
  exact W.vret hx hb hr (fun t ht hW => ⟨⟨(upd (upd (upd (upd summ (0 : Int32).toNatClampNeg x1) (1 : Int32).toNatClampNeg x2) (2 : Int32).toNatClampNeg r_3) (3 : Int32).toNatClampNeg x3), rfl, hF.symm, pz_hp ht hP⟩, hS.F ht⟩) hS.2.2 dX0_sumUp_31 hlocks

-- == X0_summaryOf
def f_X0_summaryOf (summ : Nat → Int32) (x1 : Int32) : Int32 := if x1 < 0 then ((-1)) else (if 4 ≤ x1 then ((-1)) else ((summ (x1).toNatClampNeg)))
theorem fl_X0_summaryOf_28 : Cond.fieldLink RX0 28 "BoxProofs$Findings" "summary" "[I" ∈ wsX0_summaryOf := by decide +kernel
theorem in_X0_summaryOf_X0 : ∀ w ∈ wsX00, w ∈ wsX0_summaryOf := by decide +kernel
set_option maxHeartbeats 4000000 in
set_option maxRecDepth 100000 in
theorem c_X0_summaryOf (l : Launch) (D : va_G) (q : Nat → Nat) (k : Nat → ClassId) (t : Nat → Nat) (cnt : Int32) (kinds : Nat → Int32) (firsts : Nat → Int32) (seconds : Nat → Int32) (heights : Nat → Int32) (tables : Nat → Int64) (replaced : Nat → Int32) (laid : Nat → Int32) (rules : Nat → Int32) (ps : Nat → Int32) (qs : Nat → Int32) (rs : Nat → Int32) (fs : Nat → Int32) (frules : Nat → Int32) (heads : Nat → Int32) (ends : Nat → Int32) (inforce : Nat → Int32) (usable : Nat → Int32) (summ : Nat → Int32) (x1 : Int32)  : Met l yX0_summaryOf wsX0_summaryOf ({ frames := 0, cells := 0, slots := 0, locals := 0 }) (va_Pc [.ref (q 3), .int (x1)] (fun U => va_P D vwCl (pz_X q k cnt kinds firsts seconds heights tables replaced laid rules ps qs rs fs frules heads ends inforce usable summ) U.heap ∧ pz_KX D q k t U)) (va_Qi (fun r (_ : Unit) => r = (f_X0_summaryOf summ x1)) (fun _ t => va_P D vwCl (pz_X q k cnt kinds firsts seconds heights tables replaced laid rules ps qs rs fs frules heads ends inforce usable summ) t.heap) (pz_A 22 q)) 0 0 (pz_A 22 q) := by
  refine Met.ofW (cc := cX0_summaryOf) (maxL := 2) (ret := (some .int)) (by decide) rfl ?_
  intro p e s m args below meth c s₁ B hml hv
  obtain ⟨rfl, hP, hKX⟩ := hv
  have hx := B.exec
  have hb := B.bytes
  have hr := B.returns
  have hts := atoms_spec (ws := wsX0_summaryOf) B.pre
  have hown : s.vm.findClass RX0 = some m.cls := findClass_of_methodNamed B.named
  have hlocks := B.notSynchronized
  have hC : pz_C p s m ([.ref (q 3), .int (x1)] : List Value).toArray meth c cX0_summaryOf wsX0_summaryOf RX0 2 (some .int) := ⟨hx, hb, hml, hown, hts, hr, hlocks⟩
  have hK := hKX.1
  have hS : va_S (pz_A 22 q) s.heap s.heap [] := va_S.rf
  have hl := lv_entry [.ref (q 3), .int (x1)] (n := 2) (Nat.le_of_ble_eq_true rfl)
  rw [lg_entry_eq]
  generalize (lg_sl [.ref (q 3), .int (x1)] ++ List.replicate (2 - (lg_sl [.ref (q 3), .int (x1)]).length) Slot.unset).toArray = ls at hl ⊢
  have hl : lv_has ls 2 [(0, .ref (q 3)), (1, .int (x1))] := hl
  generalize hF : f_X0_summaryOf summ x1 = G
  replace hF := hF.symm
  unfold f_X0_summaryOf at hF
  refine lv_iload_n hx hb dX0_summaryOf_0 rfl (lv_at hl 1 rfl) ?_
  refine lv_if_lt (tgt := 22) hx hb dX0_summaryOf_1 (by decide) (fun c_1 => ?_) (fun c_1 => ?_)
  · have hF := hF.trans (if_pos c_1)
    refine lv_iconst (v := (-1)) hx hb dX0_summaryOf_22 (by decide) ?_
    exact W.iret (v := (-1)) hx hb hr (fun t ht hW => ⟨⟨(-1), (), rfl, hF.symm, pz_hp ht hP⟩, hS.F ht⟩) hS.2.2 dX0_summaryOf_23 hlocks
  · have hF := hF.trans (if_neg c_1)
    refine lv_iload_n hx hb dX0_summaryOf_4 rfl (lv_at hl 1 rfl) ?_
    refine lv_aload_n hx hb dX0_summaryOf_5 rfl (lv_at hl 0 rfl) ?_
    refine va_get (D := D) (ci := 0) (v := .ref (q 21)) (C := RX0) (T := TX0) (N := 6) hx hb hts in_X0_summaryOf_X0 hown hK hP 3 rfl rfl 5 (by decide) (hts _ fl_X0_summaryOf_28) (fun _ h9 => h9) rfl dX0_summaryOf_6 ?_
    refine va_alen hx hb hK hP 21 0 rfl rfl (v := 4) rfl dX0_summaryOf_9 ?_
    refine lv_icmp_ge (tgt := 22) hx hb dX0_summaryOf_10 (by decide) (fun c_2 => ?_) (fun c_2 => ?_)
    · have hF := hF.trans (if_pos c_2)
      refine lv_iconst (v := (-1)) hx hb dX0_summaryOf_22 (by decide) ?_
      exact W.iret (v := (-1)) hx hb hr (fun t ht hW => ⟨⟨(-1), (), rfl, hF.symm, pz_hp ht hP⟩, hS.F ht⟩) hS.2.2 dX0_summaryOf_23 hlocks
    · have hF := hF.trans (if_neg c_2)
      refine lv_aload_n hx hb dX0_summaryOf_13 rfl (lv_at hl 0 rfl) ?_
      refine va_get (D := D) (ci := 0) (v := .ref (q 21)) (C := RX0) (T := TX0) (N := 6) hx hb hts in_X0_summaryOf_X0 hown hK hP 3 rfl rfl 5 (by decide) (hts _ fl_X0_summaryOf_28) (fun _ h9 => h9) rfl dX0_summaryOf_14 ?_
      refine lv_iload_n hx hb dX0_summaryOf_17 rfl (lv_at hl 1 rfl) ?_
      have hi_3 : vp_in x1 4 := pz_inI (pz_n0 ‹_›) (pz_nle ‹¬ (4 : Int32) ≤ x1›)
      refine va_iald hx hb hK hP 21 0 rfl rfl hi_3 dX0_summaryOf_18 ?_
      refine lv_goto (tgt := 23) hx hb dX0_summaryOf_19 (by decide) ?_
      exact W.iret (v := (summ (x1).toNatClampNeg)) hx hb hr (fun t ht hW => ⟨⟨(summ (x1).toNatClampNeg), (), rfl, hF.symm, pz_hp ht hP⟩, hS.F ht⟩) hS.2.2 dX0_summaryOf_23 hlocks

-- == X0_shutBox
def F_X0_shutBox_17 : Nat → (Nat → Int32) → (Nat → Int32) → (Nat → Int32) → (Nat → Int32) → (Int32) → (Int32) → (Int32) → (Nat → Int32) × (Nat → Int32) × (Nat → Int32)
  | 0, frules, ends, inforce, usable, x1, x2, x3 => (ends, inforce, usable)
  | n + 1, frules, ends, inforce, usable, x1, x2, x3 => if x2 < x3 then (if (frules (x2).toNatClampNeg) = 2 then (((upd ends (x1).toNatClampNeg x2), inforce, (upd usable (x1).toNatClampNeg 0))) else (((upd ends (x1).toNatClampNeg x2), inforce, (upd usable (x1).toNatClampNeg 1)))) else (F_X0_shutBox_17 n frules ends (upd inforce (x3).toNatClampNeg 0) (upd usable (x3).toNatClampNeg 0) x1 x2 (x3 + 1))
def f_X0_shutBox (frules : Nat → Int32) (ends : Nat → Int32) (inforce : Nat → Int32) (usable : Nat → Int32) (x1 : Int32) (x2 : Int32) : (Nat → Int32) × (Nat → Int32) × (Nat → Int32) := pz_bnd (f_X3_isLine x1) (fun z_9 => if z_9 = 0 then ((ends, inforce, usable)) else (pz_bnd (f_X3_isLine x2) (fun z_11 => if z_11 = 0 then ((ends, inforce, usable)) else (F_X0_shutBox_17 61 frules ends inforce usable x1 x2 x1))))
theorem fl_X0_shutBox_18 : Cond.fieldLink RX0 18 "BoxProofs$Findings" "ends" "[I" ∈ wsX0_shutBox := by decide +kernel
theorem fl_X0_shutBox_21 : Cond.fieldLink RX0 21 "BoxProofs$Findings" "inForce" "[Z" ∈ wsX0_shutBox := by decide +kernel
theorem fl_X0_shutBox_25 : Cond.fieldLink RX0 25 "BoxProofs$Findings" "usable" "[Z" ∈ wsX0_shutBox := by decide +kernel
theorem fl_X0_shutBox_9 : Cond.fieldLink RX0 9 "BoxProofs$Findings" "rules" "[I" ∈ wsX0_shutBox := by decide +kernel
theorem in_X0_shutBox_X0 : ∀ w ∈ wsX00, w ∈ wsX0_shutBox := by decide +kernel
theorem mm_X0_shutBox_Cond_initialized_RX3 : Cond.initialized RX3 ∈ wsX0_shutBox := by decide +kernel
theorem mm_X0_shutBox_Cond_static_yX3_isLine : Cond.static yX3_isLine ∈ wsX0_shutBox := by decide +kernel
set_option maxHeartbeats 4000000 in
set_option maxRecDepth 100000 in
theorem k_X0_shutBox_17 {p : Program} {l : Launch} {e : Env} {s : State} {m : MethodId} {args : Array Value} {below : List Frame} {meth : Method} {c : Code} {D : va_G} {q : Nat → Nat} {k : Nat → ClassId} {t : Nat → Nat} (hC : pz_C p s m args meth c cX0_shutBox wsX0_shutBox RX0 4 none) (hKX : pz_KX D q k t s) (cnt : Int32) (kinds : Nat → Int32) (firsts : Nat → Int32) (seconds : Nat → Int32) (heights : Nat → Int32) (tables : Nat → Int64) (replaced : Nat → Int32) (laid : Nat → Int32) (rules : Nat → Int32) (ps : Nat → Int32) (qs : Nat → Int32) (rs : Nat → Int32) (fs : Nat → Int32) (frules : Nat → Int32) (heads : Nat → Int32) (summ : Nat → Int32) {G : (Nat → Int32) × (Nat → Int32) × (Nat → Int32)} :
    ∀ (n : Nat) (ends : Nat → Int32) (inforce : Nat → Int32) (usable : Nat → Int32) (x1 : Int32) (x2 : Int32) (x3 : Int32) (h2 : vp_in x2 60) (h4 : vp_in x1 60) (h0 : 0 ≤ x3.toInt) (h1 : x3.toInt ≤ 60) (hn : 61 ≤ x3.toInt + n)  (H : Heap) (locs : List Loc) (ls : Array Slot), G = F_X0_shutBox_17 n frules ends inforce usable x1 x2 x3 → va_P D vwCl (pz_X q k cnt kinds firsts seconds heights tables replaced laid rules ps qs rs fs frules heads ends inforce usable summ) H → va_S (pz_A 22 q) s.heap H locs → lv_has ls 4 [(0, .ref (q 3)), (1, .int (x1)), (2, .int (x2)), (3, .int (x3))] → W p l e (headSpec wsX0_shutBox { frames := 1, cells := 0, slots := 0, locals := 20 }).room s m args below meth c H locs 0 0 (MQ below (va_Qv (fun (u : (Nat → Int32) × (Nat → Int32) × (Nat → Int32)) => u = G) (fun u t => va_P D vwCl (pz_X q k cnt kinds firsts seconds heights tables replaced laid rules ps qs rs fs frules heads u.1 u.2.1 u.2.2 summ) t.heap) (pz_A 22 q)) args s 0 0 (pz_A 22 q)) (F0 m 17 ls []) := by
  obtain ⟨hx, hb, hml, hown, hts, hr, hlocks⟩ := hC
  have hC : pz_C p s m args meth c cX0_shutBox wsX0_shutBox RX0 4 none := ⟨hx, hb, hml, hown, hts, hr, hlocks⟩
  have hK := hKX.1
  intro n
  induction n with
  | zero =>
    intro ends inforce usable x1 x2 x3 h2 h4 h0 h1 hn H locs ls hF hP hS hl
    exact absurd hn (by omega)
  | succ n ih =>
    intro ends inforce usable x1 x2 x3 h2 h4 h0 h1 hn H locs ls hF hP hS hl
    unfold F_X0_shutBox_17 at hF
    refine lv_iload_n hx hb dX0_shutBox_17 rfl (lv_at hl 3 rfl) ?_
    refine lv_iload_n hx hb dX0_shutBox_18 rfl (lv_at hl 2 rfl) ?_
    refine lv_icmp_gt (tgt := 42) hx hb dX0_shutBox_19 (by decide) (fun c_1 => ?_) (fun c_1 => ?_)
    · have hF := hF.trans (if_pos c_1)
      refine lv_aload_n hx hb dX0_shutBox_42 rfl (lv_at hl 0 rfl) ?_
      refine va_get (D := D) (ci := 0) (v := .ref (q 18)) (C := RX0) (T := TX0) (N := 6) hx hb hts in_X0_shutBox_X0 hown hK hP 3 rfl rfl 2 (by decide) (hts _ fl_X0_shutBox_18) (fun _ h9 => h9) rfl dX0_shutBox_43 ?_
      refine lv_iload_n hx hb dX0_shutBox_46 rfl (lv_at hl 1 rfl) ?_
      refine lv_iload_n hx hb dX0_shutBox_47 rfl (lv_at hl 2 rfl) ?_
      have hi_2 : vp_in x1 60 := by assumption
      refine va_iast hx hb hK hP (pz_D hKX.2.2.2.2.2.2.2.2 rfl) hS 18 0 rfl rfl hi_2 dX0_shutBox_48 (fun H locs hP _ hS => ?_)
      have hP : va_P D vwCl (pz_X q k cnt kinds firsts seconds heights tables replaced laid rules ps qs rs fs frules heads (upd ends (x1).toNatClampNeg x2) inforce usable summ) H := hP
      refine lv_aload_n hx hb dX0_shutBox_49 rfl (lv_at hl 0 rfl) ?_
      refine va_get (D := D) (ci := 0) (v := .ref (q 20)) (C := RX0) (T := TX0) (N := 6) hx hb hts in_X0_shutBox_X0 hown hK hP 3 rfl rfl 4 (by decide) (hts _ fl_X0_shutBox_25) (fun _ h9 => h9) rfl dX0_shutBox_50 ?_
      refine lv_iload_n hx hb dX0_shutBox_53 rfl (lv_at hl 1 rfl) ?_
      refine lv_aload_n hx hb dX0_shutBox_54 rfl (lv_at hl 0 rfl) ?_
      refine va_get (D := D) (ci := 0) (v := .ref (q 16)) (C := RX0) (T := TX0) (N := 6) hx hb hts in_X0_shutBox_X0 hown hK hP 3 rfl rfl 0 (by decide) (hts _ fl_X0_shutBox_9) (fun _ h9 => h9) rfl dX0_shutBox_55 ?_
      refine lv_iload_n hx hb dX0_shutBox_58 rfl (lv_at hl 2 rfl) ?_
      have hi_3 : vp_in x2 60 := by assumption
      refine va_iald hx hb hK hP 16 0 rfl rfl hi_3 dX0_shutBox_59 ?_
      refine lv_iconst (v := 2) hx hb dX0_shutBox_60 (by decide) ?_
      refine lv_icmp_eq (tgt := 68) hx hb dX0_shutBox_61 (by decide) (fun c_4 => ?_) (fun c_4 => ?_)
      · have hF := hF.trans (if_pos c_4)
        refine lv_iconst (v := 0) hx hb dX0_shutBox_68 (by decide) ?_
        have hi_5 : vp_in x1 60 := by assumption
        refine va_zast hx hb hK hP (pz_D hKX.2.2.2.2.2.2.2.2 rfl) hS 20 2 rfl rfl hi_5 dX0_shutBox_69 (fun H locs hP _ hS => ?_)
        have hP : va_P D vwCl (pz_X q k cnt kinds firsts seconds heights tables replaced laid rules ps qs rs fs frules heads (upd ends (x1).toNatClampNeg x2) inforce (upd usable (x1).toNatClampNeg 0) summ) H := hP
        exact W.vret hx hb hr (fun t ht hW => ⟨⟨((upd ends (x1).toNatClampNeg x2), inforce, (upd usable (x1).toNatClampNeg 0)), rfl, hF.symm, pz_hp ht hP⟩, hS.F ht⟩) hS.2.2 dX0_shutBox_70 hlocks
      · have hF := hF.trans (if_neg c_4)
        refine lv_iconst (v := 1) hx hb dX0_shutBox_64 (by decide) ?_
        refine lv_goto (tgt := 69) hx hb dX0_shutBox_65 (by decide) ?_
        have hi_6 : vp_in x1 60 := by assumption
        refine va_zast hx hb hK hP (pz_D hKX.2.2.2.2.2.2.2.2 rfl) hS 20 2 rfl rfl hi_6 dX0_shutBox_69 (fun H locs hP _ hS => ?_)
        have hP : va_P D vwCl (pz_X q k cnt kinds firsts seconds heights tables replaced laid rules ps qs rs fs frules heads (upd ends (x1).toNatClampNeg x2) inforce (upd usable (x1).toNatClampNeg 1) summ) H := hP
        exact W.vret hx hb hr (fun t ht hW => ⟨⟨((upd ends (x1).toNatClampNeg x2), inforce, (upd usable (x1).toNatClampNeg 1)), rfl, hF.symm, pz_hp ht hP⟩, hS.F ht⟩) hS.2.2 dX0_shutBox_70 hlocks
    · have hF := hF.trans (if_neg c_1)
      refine lv_aload_n hx hb dX0_shutBox_22 rfl (lv_at hl 0 rfl) ?_
      refine va_get (D := D) (ci := 0) (v := .ref (q 19)) (C := RX0) (T := TX0) (N := 6) hx hb hts in_X0_shutBox_X0 hown hK hP 3 rfl rfl 3 (by decide) (hts _ fl_X0_shutBox_21) (fun _ h9 => h9) rfl dX0_shutBox_23 ?_
      refine lv_iload_n hx hb dX0_shutBox_26 rfl (lv_at hl 3 rfl) ?_
      refine lv_iconst (v := 0) hx hb dX0_shutBox_27 (by decide) ?_
      have hi_7 : vp_in x3 60 := pz_inI h0 (by have a := pz_nlt ‹¬ x2 < x3›; have b := (vp_in_iff.mp h2).2; omega)
      refine va_zast hx hb hK hP (pz_D hKX.2.2.2.2.2.2.2.2 rfl) hS 19 2 rfl rfl hi_7 dX0_shutBox_28 (fun H locs hP _ hS => ?_)
      have hP : va_P D vwCl (pz_X q k cnt kinds firsts seconds heights tables replaced laid rules ps qs rs fs frules heads ends (upd inforce (x3).toNatClampNeg 0) usable summ) H := hP
      refine lv_aload_n hx hb dX0_shutBox_29 rfl (lv_at hl 0 rfl) ?_
      refine va_get (D := D) (ci := 0) (v := .ref (q 20)) (C := RX0) (T := TX0) (N := 6) hx hb hts in_X0_shutBox_X0 hown hK hP 3 rfl rfl 4 (by decide) (hts _ fl_X0_shutBox_25) (fun _ h9 => h9) rfl dX0_shutBox_30 ?_
      refine lv_iload_n hx hb dX0_shutBox_33 rfl (lv_at hl 3 rfl) ?_
      refine lv_iconst (v := 0) hx hb dX0_shutBox_34 (by decide) ?_
      have hi_8 : vp_in x3 60 := pz_inI h0 (by have a := pz_nlt ‹¬ x2 < x3›; have b := (vp_in_iff.mp h2).2; omega)
      refine va_zast hx hb hK hP (pz_D hKX.2.2.2.2.2.2.2.2 rfl) hS 20 2 rfl rfl hi_8 dX0_shutBox_35 (fun H locs hP _ hS => ?_)
      have hP : va_P D vwCl (pz_X q k cnt kinds firsts seconds heights tables replaced laid rules ps qs rs fs frules heads ends (upd inforce (x3).toNatClampNeg 0) (upd usable (x3).toNatClampNeg 0) summ) H := hP
      refine lv_iinc (v := (x3 + 1)) (lv' := [(3, .int ((x3 + 1))), (0, .ref (q 3)), (1, .int (x1)), (2, .int (x2))]) hx hb dX0_shutBox_36 hl (k := 3) rfl rfl (by decide) rfl (fun ls hl => ?_)
      refine lv_goto (tgt := 17) hx hb dX0_shutBox_39 (by decide) ?_
      exact ih ends (upd inforce (x3).toNatClampNeg 0) (upd usable (x3).toNatClampNeg 0) x1 x2 (x3 + 1) h2 h4 (by have a := pz_nlt ‹¬ x2 < x3›; have b := (vp_in_iff.mp h2).2; have i := pz_inc (x := x3) (by omega); omega) (by have a := pz_nlt ‹¬ x2 < x3›; have b := (vp_in_iff.mp h2).2; have i := pz_inc (x := x3) (by omega); omega) (by have a := pz_nlt ‹¬ x2 < x3›; have b := (vp_in_iff.mp h2).2; have i := pz_inc (x := x3) (by omega); omega) _ _ _ hF hP hS (lv_sub hl [1, 2, 3, 0] rfl)
set_option maxHeartbeats 4000000 in
set_option maxRecDepth 100000 in
theorem c_X0_shutBox (l : Launch) (D : va_G) (q : Nat → Nat) (k : Nat → ClassId) (t : Nat → Nat) (cnt : Int32) (kinds : Nat → Int32) (firsts : Nat → Int32) (seconds : Nat → Int32) (heights : Nat → Int32) (tables : Nat → Int64) (replaced : Nat → Int32) (laid : Nat → Int32) (rules : Nat → Int32) (ps : Nat → Int32) (qs : Nat → Int32) (rs : Nat → Int32) (fs : Nat → Int32) (frules : Nat → Int32) (heads : Nat → Int32) (ends : Nat → Int32) (inforce : Nat → Int32) (usable : Nat → Int32) (summ : Nat → Int32) (x1 : Int32) (x2 : Int32)  : Met l yX0_shutBox wsX0_shutBox ({ frames := 1, cells := 0, slots := 0, locals := 20 }) (va_Pc [.ref (q 3), .int (x1), .int (x2)] (fun U => va_P D vwCl (pz_X q k cnt kinds firsts seconds heights tables replaced laid rules ps qs rs fs frules heads ends inforce usable summ) U.heap ∧ pz_KX D q k t U)) (va_Qv (fun (u : (Nat → Int32) × (Nat → Int32) × (Nat → Int32)) => u = (f_X0_shutBox frules ends inforce usable x1 x2)) (fun u t => va_P D vwCl (pz_X q k cnt kinds firsts seconds heights tables replaced laid rules ps qs rs fs frules heads u.1 u.2.1 u.2.2 summ) t.heap) (pz_A 22 q)) 0 0 (pz_A 22 q) := by
  refine Met.ofW (cc := cX0_shutBox) (maxL := 4) (ret := none) (by decide) rfl ?_
  intro p e s m args below meth c s₁ B hml hv
  obtain ⟨rfl, hP, hKX⟩ := hv
  have hx := B.exec
  have hb := B.bytes
  have hr := B.returns
  have hts := atoms_spec (ws := wsX0_shutBox) B.pre
  have hown : s.vm.findClass RX0 = some m.cls := findClass_of_methodNamed B.named
  have hlocks := B.notSynchronized
  have hC : pz_C p s m ([.ref (q 3), .int (x1), .int (x2)] : List Value).toArray meth c cX0_shutBox wsX0_shutBox RX0 4 none := ⟨hx, hb, hml, hown, hts, hr, hlocks⟩
  have hK := hKX.1
  have hS : va_S (pz_A 22 q) s.heap s.heap [] := va_S.rf
  have hl := lv_entry [.ref (q 3), .int (x1), .int (x2)] (n := 4) (Nat.le_of_ble_eq_true rfl)
  rw [lg_entry_eq]
  generalize (lg_sl [.ref (q 3), .int (x1), .int (x2)] ++ List.replicate (4 - (lg_sl [.ref (q 3), .int (x1), .int (x2)]).length) Slot.unset).toArray = ls at hl ⊢
  have hl : lv_has ls 4 [(0, .ref (q 3)), (1, .int (x1)), (2, .int (x2))] := hl
  generalize hF : f_X0_shutBox frules ends inforce usable x1 x2 = G
  replace hF := hF.symm
  unfold f_X0_shutBox at hF
  refine lv_iload_n hx hb dX0_shutBox_0 rfl (lv_at hl 1 rfl) ?_
  refine pz_SNi (As := [.int (x1)]) (rest := []) ⟨hx, hb, hml, hown, hts⟩ (c_X3_isLine l x1) ⟨va_cnB 1 hts gX0_shutBox_X3_isLine_n38 rfl rfl rfl hKX.2.1 (hts _ mm_X0_shutBox_Cond_initialized_RX3) hdS_X3_isLine ⟨Nat.le_of_ble_eq_true rfl, Nat.le_of_ble_eq_true rfl⟩, hts _ mm_X0_shutBox_Cond_static_yX3_isLine, trivial⟩ hP hS rfl hl.1 rfl (Nat.le_of_ble_eq_true rfl) dX0_shutBox_1 ⟨Nat.zero_le _, Nat.zero_le _⟩ (fun r_9 H locs hF_9 hP hS => ?_)
  have hF := hF.trans (pz_be hF_9)
  refine lv_if_eq (tgt := 14) hx hb dX0_shutBox_4 (by decide) (fun c_10 => ?_) (fun c_10 => ?_)
  · have hF := hF.trans (if_pos c_10)
    exact W.vret hx hb hr (fun t ht hW => ⟨⟨(ends, inforce, usable), rfl, hF.symm, pz_hp ht hP⟩, hS.F ht⟩) hS.2.2 dX0_shutBox_14 hlocks
  · have hF := hF.trans (if_neg c_10)
    refine lv_iload_n hx hb dX0_shutBox_7 rfl (lv_at hl 2 rfl) ?_
    refine pz_SNi (As := [.int (x2)]) (rest := []) ⟨hx, hb, hml, hown, hts⟩ (c_X3_isLine l x2) ⟨va_cnB 1 hts gX0_shutBox_X3_isLine_n38 rfl rfl rfl hKX.2.1 (hts _ mm_X0_shutBox_Cond_initialized_RX3) hdS_X3_isLine ⟨Nat.le_of_ble_eq_true rfl, Nat.le_of_ble_eq_true rfl⟩, hts _ mm_X0_shutBox_Cond_static_yX3_isLine, trivial⟩ hP hS rfl hl.1 rfl (Nat.le_of_ble_eq_true rfl) dX0_shutBox_8 ⟨Nat.zero_le _, Nat.zero_le _⟩ (fun r_11 H locs hF_11 hP hS => ?_)
    have hF := hF.trans (pz_be hF_11)
    refine lv_if_ne (tgt := 15) hx hb dX0_shutBox_11 (by decide) (fun c_12 => ?_) (fun c_12 => ?_)
    · have hF := hF.trans (if_neg c_12)
      refine lv_iload_n hx hb dX0_shutBox_15 rfl (lv_at hl 1 rfl) ?_
      refine lv_istore_n (lv' := [(3, .int (x1)), (0, .ref (q 3)), (1, .int (x1)), (2, .int (x2))]) hx hb dX0_shutBox_16 rfl hl (by decide) rfl (fun ls hl => ?_)
      exact k_X0_shutBox_17 hC hKX cnt kinds firsts seconds heights tables replaced laid rules ps qs rs fs frules heads summ 61 ends inforce usable x1 x2 x1 (pz_line (k := x2) ‹_› ‹_›) (pz_line (k := x1) ‹_› ‹_›) (vp_in_iff.mp (pz_line (k := x1) ‹_› ‹_›)).1 (Int.le_of_lt (vp_in_iff.mp (pz_line (k := x1) ‹_› ‹_›)).2) (by have a := (vp_in_iff.mp (pz_line (k := x1) ‹_› ‹_›)).1; omega) _ _ _ hF hP hS (lv_sub hl [1, 2, 3, 0] rfl)
    · have hF := hF.trans (if_pos c_12)
      exact W.vret hx hb hr (fun t ht hW => ⟨⟨(ends, inforce, usable), rfl, hF.symm, pz_hp ht hP⟩, hS.F ht⟩) hS.2.2 dX0_shutBox_14 hlocks

-- == X0_keep
def f_X0_keep (frules : Nat → Int32) (heads : Nat → Int32) (ends : Nat → Int32) (inforce : Nat → Int32) (usable : Nat → Int32) (x1 : Int32) (x2 : Int32) (x3 : Int32) : (Nat → Int32) × (Nat → Int32) × (Nat → Int32) × (Nat → Int32) × (Nat → Int32) := pz_bnd (f_X3_isLine x1) (fun z_1 => if z_1 = 0 then ((frules, heads, ends, inforce, usable)) else (if x3 = (-1) then (if x2 = 2 then (pz_bnd (f_X0_innermostOpen (upd frules (x1).toNatClampNeg x2) ends) (fun z_8 => pz_bnd (f_X0_shutBox (upd frules (x1).toNatClampNeg x2) ends (upd inforce (x1).toNatClampNeg 0) usable z_8 (x1 - 1)) (fun z_9 => ((upd frules (x1).toNatClampNeg x2), (upd heads (x1).toNatClampNeg x3), z_9.1, z_9.2.1, z_9.2.2)))) else (((upd frules (x1).toNatClampNeg x2), (upd heads (x1).toNatClampNeg x3), ends, (upd inforce (x1).toNatClampNeg 0), usable))) else (if x2 = 2 then (pz_bnd (f_X0_innermostOpen (upd frules (x1).toNatClampNeg x2) ends) (fun z_12 => pz_bnd (f_X0_shutBox (upd frules (x1).toNatClampNeg x2) ends (upd inforce (x1).toNatClampNeg 1) usable z_12 (x1 - 1)) (fun z_13 => ((upd frules (x1).toNatClampNeg x2), (upd heads (x1).toNatClampNeg x3), z_13.1, z_13.2.1, z_13.2.2)))) else (((upd frules (x1).toNatClampNeg x2), (upd heads (x1).toNatClampNeg x3), ends, (upd inforce (x1).toNatClampNeg 1), usable)))))
theorem fl_X0_keep_15 : Cond.fieldLink RX0 15 "BoxProofs$Findings" "heads" "[I" ∈ wsX0_keep := by decide +kernel
theorem fl_X0_keep_21 : Cond.fieldLink RX0 21 "BoxProofs$Findings" "inForce" "[Z" ∈ wsX0_keep := by decide +kernel
theorem fl_X0_keep_9 : Cond.fieldLink RX0 9 "BoxProofs$Findings" "rules" "[I" ∈ wsX0_keep := by decide +kernel
theorem hdV_X0_innermostOpen : yX0_innermostOpen.cls = RX0 ∧ yX0_innermostOpen.cls ≠ "java/lang/invoke/MethodHandle" ∧ yX0_innermostOpen.cls ≠ "java/lang/invoke/VarHandle" ∧ (parseMethodDescriptor yX0_innermostOpen.desc).map (fun d => d.parameters.length) = some 0 := by decide +kernel
theorem hdV_X0_shutBox : yX0_shutBox.cls = RX0 ∧ yX0_shutBox.cls ≠ "java/lang/invoke/MethodHandle" ∧ yX0_shutBox.cls ≠ "java/lang/invoke/VarHandle" ∧ (parseMethodDescriptor yX0_shutBox.desc).map (fun d => d.parameters.length) = some 2 := by decide +kernel
theorem in_X0_keep_X0 : ∀ w ∈ wsX00, w ∈ wsX0_keep := by decide +kernel
theorem mm_X0_keep_Cond_initialized_RX3 : Cond.initialized RX3 ∈ wsX0_keep := by decide +kernel
theorem mm_X0_keep_Cond_static_yX3_isLine : Cond.static yX3_isLine ∈ wsX0_keep := by decide +kernel
set_option maxHeartbeats 4000000 in
set_option maxRecDepth 100000 in
theorem c_X0_keep (l : Launch) (D : va_G) (q : Nat → Nat) (k : Nat → ClassId) (t : Nat → Nat) (cnt : Int32) (kinds : Nat → Int32) (firsts : Nat → Int32) (seconds : Nat → Int32) (heights : Nat → Int32) (tables : Nat → Int64) (replaced : Nat → Int32) (laid : Nat → Int32) (rules : Nat → Int32) (ps : Nat → Int32) (qs : Nat → Int32) (rs : Nat → Int32) (fs : Nat → Int32) (frules : Nat → Int32) (heads : Nat → Int32) (ends : Nat → Int32) (inforce : Nat → Int32) (usable : Nat → Int32) (summ : Nat → Int32) (x1 : Int32) (x2 : Int32) (x3 : Int32)  : Met l yX0_keep wsX0_keep ({ frames := 3, cells := 0, slots := 0, locals := 62 }) (va_Pc [.ref (q 3), .int (x1), .int (x2), .int (x3)] (fun U => va_P D vwCl (pz_X q k cnt kinds firsts seconds heights tables replaced laid rules ps qs rs fs frules heads ends inforce usable summ) U.heap ∧ pz_KX D q k t U)) (va_Qv (fun (u : (Nat → Int32) × (Nat → Int32) × (Nat → Int32) × (Nat → Int32) × (Nat → Int32)) => u = (f_X0_keep frules heads ends inforce usable x1 x2 x3)) (fun u t => va_P D vwCl (pz_X q k cnt kinds firsts seconds heights tables replaced laid rules ps qs rs fs u.1 u.2.1 u.2.2.1 u.2.2.2.1 u.2.2.2.2 summ) t.heap) (pz_A 22 q)) 0 0 (pz_A 22 q) := by
  refine Met.ofW (cc := cX0_keep) (maxL := 4) (ret := none) (by decide) rfl ?_
  intro p e s m args below meth c s₁ B hml hv
  obtain ⟨rfl, hP, hKX⟩ := hv
  have hx := B.exec
  have hb := B.bytes
  have hr := B.returns
  have hts := atoms_spec (ws := wsX0_keep) B.pre
  have hown : s.vm.findClass RX0 = some m.cls := findClass_of_methodNamed B.named
  have hlocks := B.notSynchronized
  have hC : pz_C p s m ([.ref (q 3), .int (x1), .int (x2), .int (x3)] : List Value).toArray meth c cX0_keep wsX0_keep RX0 4 none := ⟨hx, hb, hml, hown, hts, hr, hlocks⟩
  have hK := hKX.1
  have hS : va_S (pz_A 22 q) s.heap s.heap [] := va_S.rf
  have hl := lv_entry [.ref (q 3), .int (x1), .int (x2), .int (x3)] (n := 4) (Nat.le_of_ble_eq_true rfl)
  rw [lg_entry_eq]
  generalize (lg_sl [.ref (q 3), .int (x1), .int (x2), .int (x3)] ++ List.replicate (4 - (lg_sl [.ref (q 3), .int (x1), .int (x2), .int (x3)]).length) Slot.unset).toArray = ls at hl ⊢
  have hl : lv_has ls 4 [(0, .ref (q 3)), (1, .int (x1)), (2, .int (x2)), (3, .int (x3))] := hl
  generalize hF : f_X0_keep frules heads ends inforce usable x1 x2 x3 = G
  replace hF := hF.symm
  unfold f_X0_keep at hF
  refine lv_iload_n hx hb dX0_keep_0 rfl (lv_at hl 1 rfl) ?_
  refine pz_SNi (As := [.int (x1)]) (rest := []) ⟨hx, hb, hml, hown, hts⟩ (c_X3_isLine l x1) ⟨va_cnB 1 hts gX0_keep_X3_isLine_n38 rfl rfl rfl hKX.2.1 (hts _ mm_X0_keep_Cond_initialized_RX3) hdS_X3_isLine ⟨Nat.le_of_ble_eq_true rfl, Nat.le_of_ble_eq_true rfl⟩, hts _ mm_X0_keep_Cond_static_yX3_isLine, trivial⟩ hP hS rfl hl.1 rfl (Nat.le_of_ble_eq_true rfl) dX0_keep_1 ⟨Nat.zero_le _, Nat.zero_le _⟩ (fun r_1 H locs hF_1 hP hS => ?_)
  have hF := hF.trans (pz_be hF_1)
  refine lv_if_ne (tgt := 8) hx hb dX0_keep_4 (by decide) (fun c_2 => ?_) (fun c_2 => ?_)
  · have hF := hF.trans (if_neg c_2)
    refine lv_aload_n hx hb dX0_keep_8 rfl (lv_at hl 0 rfl) ?_
    refine va_get (D := D) (ci := 0) (v := .ref (q 16)) (C := RX0) (T := TX0) (N := 6) hx hb hts in_X0_keep_X0 hown hK hP 3 rfl rfl 0 (by decide) (hts _ fl_X0_keep_9) (fun _ h9 => h9) rfl dX0_keep_9 ?_
    refine lv_iload_n hx hb dX0_keep_12 rfl (lv_at hl 1 rfl) ?_
    refine lv_iload_n hx hb dX0_keep_13 rfl (lv_at hl 2 rfl) ?_
    have hi_3 : vp_in x1 60 := by first | exact pz_line ‹_› ‹_› | assumption
    refine va_iast hx hb hK hP (pz_D hKX.2.2.2.2.2.2.2.2 rfl) hS 16 0 rfl rfl hi_3 dX0_keep_14 (fun H locs hP _ hS => ?_)
    have hP : va_P D vwCl (pz_X q k cnt kinds firsts seconds heights tables replaced laid rules ps qs rs fs (upd frules (x1).toNatClampNeg x2) heads ends inforce usable summ) H := hP
    refine lv_aload_n hx hb dX0_keep_15 rfl (lv_at hl 0 rfl) ?_
    refine va_get (D := D) (ci := 0) (v := .ref (q 17)) (C := RX0) (T := TX0) (N := 6) hx hb hts in_X0_keep_X0 hown hK hP 3 rfl rfl 1 (by decide) (hts _ fl_X0_keep_15) (fun _ h9 => h9) rfl dX0_keep_16 ?_
    refine lv_iload_n hx hb dX0_keep_19 rfl (lv_at hl 1 rfl) ?_
    refine lv_iload_n hx hb dX0_keep_20 rfl (lv_at hl 3 rfl) ?_
    have hi_4 : vp_in x1 60 := by first | exact pz_line ‹_› ‹_› | assumption
    refine va_iast hx hb hK hP (pz_D hKX.2.2.2.2.2.2.2.2 rfl) hS 17 0 rfl rfl hi_4 dX0_keep_21 (fun H locs hP _ hS => ?_)
    have hP : va_P D vwCl (pz_X q k cnt kinds firsts seconds heights tables replaced laid rules ps qs rs fs (upd frules (x1).toNatClampNeg x2) (upd heads (x1).toNatClampNeg x3) ends inforce usable summ) H := hP
    refine lv_aload_n hx hb dX0_keep_22 rfl (lv_at hl 0 rfl) ?_
    refine va_get (D := D) (ci := 0) (v := .ref (q 19)) (C := RX0) (T := TX0) (N := 6) hx hb hts in_X0_keep_X0 hown hK hP 3 rfl rfl 3 (by decide) (hts _ fl_X0_keep_21) (fun _ h9 => h9) rfl dX0_keep_23 ?_
    refine lv_iload_n hx hb dX0_keep_26 rfl (lv_at hl 1 rfl) ?_
    refine lv_iload_n hx hb dX0_keep_27 rfl (lv_at hl 3 rfl) ?_
    refine lv_iconst (v := (-1)) hx hb dX0_keep_28 (by decide) ?_
    refine lv_icmp_eq (tgt := 36) hx hb dX0_keep_29 (by decide) (fun c_5 => ?_) (fun c_5 => ?_)
    · have hF := hF.trans (if_pos c_5)
      refine lv_iconst (v := 0) hx hb dX0_keep_36 (by decide) ?_
      have hi_6 : vp_in x1 60 := by first | exact pz_line ‹_› ‹_› | assumption
      refine va_zast hx hb hK hP (pz_D hKX.2.2.2.2.2.2.2.2 rfl) hS 19 2 rfl rfl hi_6 dX0_keep_37 (fun H locs hP _ hS => ?_)
      have hP : va_P D vwCl (pz_X q k cnt kinds firsts seconds heights tables replaced laid rules ps qs rs fs (upd frules (x1).toNatClampNeg x2) (upd heads (x1).toNatClampNeg x3) ends (upd inforce (x1).toNatClampNeg 0) usable summ) H := hP
      refine lv_iload_n hx hb dX0_keep_38 rfl (lv_at hl 2 rfl) ?_
      refine lv_iconst (v := 2) hx hb dX0_keep_39 (by decide) ?_
      refine lv_icmp_ne (tgt := 54) hx hb dX0_keep_40 (by decide) (fun c_7 => ?_) (fun c_7 => ?_)
      · have hF := hF.trans (if_neg c_7)
        exact W.vret hx hb hr (fun t ht hW => ⟨⟨((upd frules (x1).toNatClampNeg x2), (upd heads (x1).toNatClampNeg x3), ends, (upd inforce (x1).toNatClampNeg 0), usable), rfl, hF.symm, pz_hp ht hP⟩, hS.F ht⟩) hS.2.2 dX0_keep_54 hlocks
      · have hF := hF.trans (if_pos c_7)
        refine lv_aload_n hx hb dX0_keep_43 rfl (lv_at hl 0 rfl) ?_
        refine lv_aload_n hx hb dX0_keep_44 rfl (lv_at hl 0 rfl) ?_
        refine pz_Vi (As := []) (rest := [.ref (q 3)]) ⟨hx, hb, hml, hown, hts⟩ (c_X0_innermostOpen l D q k t cnt kinds firsts seconds heights tables replaced laid rules ps qs rs fs (upd frules (x1).toNatClampNeg x2) (upd heads (x1).toNatClampNeg x3) ends (upd inforce (x1).toNatClampNeg 0) usable summ) (cwV 0 hts gX0_keep_X0_innermostOpen rfl rfl rfl hdV_X0_innermostOpen ⟨Nat.le_of_ble_eq_true rfl, Nat.le_of_ble_eq_true rfl⟩) pz_KX.call (hKX.go hS) (va_recv hK hP (ci := 0) (q0 := 3) rfl rfl) hP hS rfl hl.1 rfl (Nat.le_of_ble_eq_true rfl) dX0_keep_45 ⟨Nat.zero_le _, Nat.zero_le _⟩ (fun r_8 u_8 H locs hF_8 hP hS => ?_)
        have hF := hF.trans (pz_be hF_8)
        refine lv_iload_n hx hb dX0_keep_48 rfl (lv_at hl 1 rfl) ?_
        refine lv_iconst (v := 1) hx hb dX0_keep_49 (by decide) ?_
        refine lv_isub hx hb dX0_keep_50 ?_
        refine pz_Vv (As := [.int (r_8), .int ((x1 - 1))]) (rest := []) ⟨hx, hb, hml, hown, hts⟩ (c_X0_shutBox l D q k t cnt kinds firsts seconds heights tables replaced laid rules ps qs rs fs (upd frules (x1).toNatClampNeg x2) (upd heads (x1).toNatClampNeg x3) ends (upd inforce (x1).toNatClampNeg 0) usable summ r_8 (x1 - 1)) (cwV 2 hts gX0_keep_X0_shutBox rfl rfl rfl hdV_X0_shutBox ⟨Nat.le_of_ble_eq_true rfl, Nat.le_of_ble_eq_true rfl⟩) pz_KX.call (hKX.go hS) (va_recv hK hP (ci := 0) (q0 := 3) rfl rfl) hP hS rfl hl.1 rfl (Nat.le_of_ble_eq_true rfl) dX0_keep_51 ⟨Nat.zero_le _, Nat.zero_le _⟩ (fun u_9 H locs hF_9 hP hS => ?_)
        obtain ⟨w_9_ends, w_9_inforce, w_9_usable⟩ := u_9
        have hP : va_P D vwCl (pz_X q k cnt kinds firsts seconds heights tables replaced laid rules ps qs rs fs (upd frules (x1).toNatClampNeg x2) (upd heads (x1).toNatClampNeg x3) w_9_ends w_9_inforce w_9_usable summ) H := hP
        have hF := hF.trans (pz_be hF_9)
        try dsimp only at hF
        exact W.vret hx hb hr (fun t ht hW => ⟨⟨((upd frules (x1).toNatClampNeg x2), (upd heads (x1).toNatClampNeg x3), w_9_ends, w_9_inforce, w_9_usable), rfl, hF.symm, pz_hp ht hP⟩, hS.F ht⟩) hS.2.2 dX0_keep_54 hlocks
    · have hF := hF.trans (if_neg c_5)
      refine lv_iconst (v := 1) hx hb dX0_keep_32 (by decide) ?_
      refine lv_goto (tgt := 37) hx hb dX0_keep_33 (by decide) ?_
      have hi_10 : vp_in x1 60 := by first | exact pz_line ‹_› ‹_› | assumption
      refine va_zast hx hb hK hP (pz_D hKX.2.2.2.2.2.2.2.2 rfl) hS 19 2 rfl rfl hi_10 dX0_keep_37 (fun H locs hP _ hS => ?_)
      have hP : va_P D vwCl (pz_X q k cnt kinds firsts seconds heights tables replaced laid rules ps qs rs fs (upd frules (x1).toNatClampNeg x2) (upd heads (x1).toNatClampNeg x3) ends (upd inforce (x1).toNatClampNeg 1) usable summ) H := hP
      refine lv_iload_n hx hb dX0_keep_38 rfl (lv_at hl 2 rfl) ?_
      refine lv_iconst (v := 2) hx hb dX0_keep_39 (by decide) ?_
      refine lv_icmp_ne (tgt := 54) hx hb dX0_keep_40 (by decide) (fun c_11 => ?_) (fun c_11 => ?_)
      · have hF := hF.trans (if_neg c_11)
        exact W.vret hx hb hr (fun t ht hW => ⟨⟨((upd frules (x1).toNatClampNeg x2), (upd heads (x1).toNatClampNeg x3), ends, (upd inforce (x1).toNatClampNeg 1), usable), rfl, hF.symm, pz_hp ht hP⟩, hS.F ht⟩) hS.2.2 dX0_keep_54 hlocks
      · have hF := hF.trans (if_pos c_11)
        refine lv_aload_n hx hb dX0_keep_43 rfl (lv_at hl 0 rfl) ?_
        refine lv_aload_n hx hb dX0_keep_44 rfl (lv_at hl 0 rfl) ?_
        refine pz_Vi (As := []) (rest := [.ref (q 3)]) ⟨hx, hb, hml, hown, hts⟩ (c_X0_innermostOpen l D q k t cnt kinds firsts seconds heights tables replaced laid rules ps qs rs fs (upd frules (x1).toNatClampNeg x2) (upd heads (x1).toNatClampNeg x3) ends (upd inforce (x1).toNatClampNeg 1) usable summ) (cwV 0 hts gX0_keep_X0_innermostOpen rfl rfl rfl hdV_X0_innermostOpen ⟨Nat.le_of_ble_eq_true rfl, Nat.le_of_ble_eq_true rfl⟩) pz_KX.call (hKX.go hS) (va_recv hK hP (ci := 0) (q0 := 3) rfl rfl) hP hS rfl hl.1 rfl (Nat.le_of_ble_eq_true rfl) dX0_keep_45 ⟨Nat.zero_le _, Nat.zero_le _⟩ (fun r_12 u_12 H locs hF_12 hP hS => ?_)
        have hF := hF.trans (pz_be hF_12)
        refine lv_iload_n hx hb dX0_keep_48 rfl (lv_at hl 1 rfl) ?_
        refine lv_iconst (v := 1) hx hb dX0_keep_49 (by decide) ?_
        refine lv_isub hx hb dX0_keep_50 ?_
        refine pz_Vv (As := [.int (r_12), .int ((x1 - 1))]) (rest := []) ⟨hx, hb, hml, hown, hts⟩ (c_X0_shutBox l D q k t cnt kinds firsts seconds heights tables replaced laid rules ps qs rs fs (upd frules (x1).toNatClampNeg x2) (upd heads (x1).toNatClampNeg x3) ends (upd inforce (x1).toNatClampNeg 1) usable summ r_12 (x1 - 1)) (cwV 2 hts gX0_keep_X0_shutBox rfl rfl rfl hdV_X0_shutBox ⟨Nat.le_of_ble_eq_true rfl, Nat.le_of_ble_eq_true rfl⟩) pz_KX.call (hKX.go hS) (va_recv hK hP (ci := 0) (q0 := 3) rfl rfl) hP hS rfl hl.1 rfl (Nat.le_of_ble_eq_true rfl) dX0_keep_51 ⟨Nat.zero_le _, Nat.zero_le _⟩ (fun u_13 H locs hF_13 hP hS => ?_)
        obtain ⟨w_13_ends, w_13_inforce, w_13_usable⟩ := u_13
        have hP : va_P D vwCl (pz_X q k cnt kinds firsts seconds heights tables replaced laid rules ps qs rs fs (upd frules (x1).toNatClampNeg x2) (upd heads (x1).toNatClampNeg x3) w_13_ends w_13_inforce w_13_usable summ) H := hP
        have hF := hF.trans (pz_be hF_13)
        try dsimp only at hF
        exact W.vret hx hb hr (fun t ht hW => ⟨⟨((upd frules (x1).toNatClampNeg x2), (upd heads (x1).toNatClampNeg x3), w_13_ends, w_13_inforce, w_13_usable), rfl, hF.symm, pz_hp ht hP⟩, hS.F ht⟩) hS.2.2 dX0_keep_54 hlocks
  · have hF := hF.trans (if_pos c_2)
    exact W.vret hx hb hr (fun t ht hW => ⟨⟨(frules, heads, ends, inforce, usable), rfl, hF.symm, pz_hp ht hP⟩, hS.F ht⟩) hS.2.2 dX0_keep_7 hlocks

-- == X0_liesInBox
def f_X0_liesInBox (frules : Nat → Int32) (ends : Nat → Int32) (x1 : Int32) (x2 : Int32) : Int32 := pz_bnd (f_X0_ruleOf frules x2) (fun z_1 => if z_1 = 1 then (if x1 < x2 then (0) else (pz_bnd (f_X0_endOf ends x2) (fun z_4 => if z_4 = (-1) then (1) else (pz_bnd (f_X0_endOf ends x2) (fun z_6 => if z_6 < x1 then (0) else (1)))))) else (0))
theorem hdV_X0_endOf : yX0_endOf.cls = RX0 ∧ yX0_endOf.cls ≠ "java/lang/invoke/MethodHandle" ∧ yX0_endOf.cls ≠ "java/lang/invoke/VarHandle" ∧ (parseMethodDescriptor yX0_endOf.desc).map (fun d => d.parameters.length) = some 1 := by decide +kernel
theorem hdV_X0_ruleOf : yX0_ruleOf.cls = RX0 ∧ yX0_ruleOf.cls ≠ "java/lang/invoke/MethodHandle" ∧ yX0_ruleOf.cls ≠ "java/lang/invoke/VarHandle" ∧ (parseMethodDescriptor yX0_ruleOf.desc).map (fun d => d.parameters.length) = some 1 := by decide +kernel
set_option maxHeartbeats 4000000 in
set_option maxRecDepth 100000 in
theorem c_X0_liesInBox (l : Launch) (D : va_G) (q : Nat → Nat) (k : Nat → ClassId) (t : Nat → Nat) (cnt : Int32) (kinds : Nat → Int32) (firsts : Nat → Int32) (seconds : Nat → Int32) (heights : Nat → Int32) (tables : Nat → Int64) (replaced : Nat → Int32) (laid : Nat → Int32) (rules : Nat → Int32) (ps : Nat → Int32) (qs : Nat → Int32) (rs : Nat → Int32) (fs : Nat → Int32) (frules : Nat → Int32) (heads : Nat → Int32) (ends : Nat → Int32) (inforce : Nat → Int32) (usable : Nat → Int32) (summ : Nat → Int32) (x1 : Int32) (x2 : Int32)  : Met l yX0_liesInBox wsX0_liesInBox ({ frames := 2, cells := 0, slots := 0, locals := 41 }) (va_Pc [.ref (q 3), .int (x1), .int (x2)] (fun U => va_P D vwCl (pz_X q k cnt kinds firsts seconds heights tables replaced laid rules ps qs rs fs frules heads ends inforce usable summ) U.heap ∧ pz_KX D q k t U)) (va_Qi (fun r (_ : Unit) => r = (f_X0_liesInBox frules ends x1 x2)) (fun _ t => va_P D vwCl (pz_X q k cnt kinds firsts seconds heights tables replaced laid rules ps qs rs fs frules heads ends inforce usable summ) t.heap) (pz_A 22 q)) 0 0 (pz_A 22 q) := by
  refine Met.ofW (cc := cX0_liesInBox) (maxL := 3) (ret := (some .boolean)) (by decide) rfl ?_
  intro p e s m args below meth c s₁ B hml hv
  obtain ⟨rfl, hP, hKX⟩ := hv
  have hx := B.exec
  have hb := B.bytes
  have hr := B.returns
  have hts := atoms_spec (ws := wsX0_liesInBox) B.pre
  have hown : s.vm.findClass RX0 = some m.cls := findClass_of_methodNamed B.named
  have hlocks := B.notSynchronized
  have hC : pz_C p s m ([.ref (q 3), .int (x1), .int (x2)] : List Value).toArray meth c cX0_liesInBox wsX0_liesInBox RX0 3 (some .boolean) := ⟨hx, hb, hml, hown, hts, hr, hlocks⟩
  have hK := hKX.1
  have hS : va_S (pz_A 22 q) s.heap s.heap [] := va_S.rf
  have hl := lv_entry [.ref (q 3), .int (x1), .int (x2)] (n := 3) (Nat.le_of_ble_eq_true rfl)
  rw [lg_entry_eq]
  generalize (lg_sl [.ref (q 3), .int (x1), .int (x2)] ++ List.replicate (3 - (lg_sl [.ref (q 3), .int (x1), .int (x2)]).length) Slot.unset).toArray = ls at hl ⊢
  have hl : lv_has ls 3 [(0, .ref (q 3)), (1, .int (x1)), (2, .int (x2))] := hl
  generalize hF : f_X0_liesInBox frules ends x1 x2 = G
  replace hF := hF.symm
  unfold f_X0_liesInBox at hF
  refine lv_aload_n hx hb dX0_liesInBox_0 rfl (lv_at hl 0 rfl) ?_
  refine lv_iload_n hx hb dX0_liesInBox_1 rfl (lv_at hl 2 rfl) ?_
  refine pz_Vi (As := [.int (x2)]) (rest := []) ⟨hx, hb, hml, hown, hts⟩ (c_X0_ruleOf l D q k t cnt kinds firsts seconds heights tables replaced laid rules ps qs rs fs frules heads ends inforce usable summ x2) (cwV 1 hts gX0_liesInBox_X0_ruleOf rfl rfl rfl hdV_X0_ruleOf ⟨Nat.le_of_ble_eq_true rfl, Nat.le_of_ble_eq_true rfl⟩) pz_KX.call (hKX.go hS) (va_recv hK hP (ci := 0) (q0 := 3) rfl rfl) hP hS rfl hl.1 rfl (Nat.le_of_ble_eq_true rfl) dX0_liesInBox_2 ⟨Nat.zero_le _, Nat.zero_le _⟩ (fun r_1 u_1 H locs hF_1 hP hS => ?_)
  have hF := hF.trans (pz_be hF_1)
  refine lv_iconst (v := 1) hx hb dX0_liesInBox_5 (by decide) ?_
  refine lv_icmp_ne (tgt := 36) hx hb dX0_liesInBox_6 (by decide) (fun c_2 => ?_) (fun c_2 => ?_)
  · have hF := hF.trans (if_neg c_2)
    refine lv_iconst (v := 0) hx hb dX0_liesInBox_36 (by decide) ?_
    exact W.zret (v := 0) hx hb hr rfl (fun t ht hW => ⟨⟨0, (), rfl, hF.symm, pz_hp ht hP⟩, hS.F ht⟩) hS.2.2 dX0_liesInBox_37 hlocks
  · have hF := hF.trans (if_pos c_2)
    refine lv_iload_n hx hb dX0_liesInBox_9 rfl (lv_at hl 2 rfl) ?_
    refine lv_iload_n hx hb dX0_liesInBox_10 rfl (lv_at hl 1 rfl) ?_
    refine lv_icmp_gt (tgt := 36) hx hb dX0_liesInBox_11 (by decide) (fun c_3 => ?_) (fun c_3 => ?_)
    · have hF := hF.trans (if_pos c_3)
      refine lv_iconst (v := 0) hx hb dX0_liesInBox_36 (by decide) ?_
      exact W.zret (v := 0) hx hb hr rfl (fun t ht hW => ⟨⟨0, (), rfl, hF.symm, pz_hp ht hP⟩, hS.F ht⟩) hS.2.2 dX0_liesInBox_37 hlocks
    · have hF := hF.trans (if_neg c_3)
      refine lv_aload_n hx hb dX0_liesInBox_14 rfl (lv_at hl 0 rfl) ?_
      refine lv_iload_n hx hb dX0_liesInBox_15 rfl (lv_at hl 2 rfl) ?_
      refine pz_Vi (As := [.int (x2)]) (rest := []) ⟨hx, hb, hml, hown, hts⟩ (c_X0_endOf l D q k t cnt kinds firsts seconds heights tables replaced laid rules ps qs rs fs frules heads ends inforce usable summ x2) (cwV 1 hts gX0_liesInBox_X0_endOf rfl rfl rfl hdV_X0_endOf ⟨Nat.le_of_ble_eq_true rfl, Nat.le_of_ble_eq_true rfl⟩) pz_KX.call (hKX.go hS) (va_recv hK hP (ci := 0) (q0 := 3) rfl rfl) hP hS rfl hl.1 rfl (Nat.le_of_ble_eq_true rfl) dX0_liesInBox_16 ⟨Nat.zero_le _, Nat.zero_le _⟩ (fun r_4 u_4 H locs hF_4 hP hS => ?_)
      have hF := hF.trans (pz_be hF_4)
      refine lv_iconst (v := (-1)) hx hb dX0_liesInBox_19 (by decide) ?_
      refine lv_icmp_eq (tgt := 32) hx hb dX0_liesInBox_20 (by decide) (fun c_5 => ?_) (fun c_5 => ?_)
      · have hF := hF.trans (if_pos c_5)
        refine lv_iconst (v := 1) hx hb dX0_liesInBox_32 (by decide) ?_
        refine lv_goto (tgt := 37) hx hb dX0_liesInBox_33 (by decide) ?_
        exact W.zret (v := 1) hx hb hr rfl (fun t ht hW => ⟨⟨1, (), rfl, hF.symm, pz_hp ht hP⟩, hS.F ht⟩) hS.2.2 dX0_liesInBox_37 hlocks
      · have hF := hF.trans (if_neg c_5)
        refine lv_iload_n hx hb dX0_liesInBox_23 rfl (lv_at hl 1 rfl) ?_
        refine lv_aload_n hx hb dX0_liesInBox_24 rfl (lv_at hl 0 rfl) ?_
        refine lv_iload_n hx hb dX0_liesInBox_25 rfl (lv_at hl 2 rfl) ?_
        refine pz_Vi (As := [.int (x2)]) (rest := [.int (x1)]) ⟨hx, hb, hml, hown, hts⟩ (c_X0_endOf l D q k t cnt kinds firsts seconds heights tables replaced laid rules ps qs rs fs frules heads ends inforce usable summ x2) (cwV 1 hts gX0_liesInBox_X0_endOf rfl rfl rfl hdV_X0_endOf ⟨Nat.le_of_ble_eq_true rfl, Nat.le_of_ble_eq_true rfl⟩) pz_KX.call (hKX.go hS) (va_recv hK hP (ci := 0) (q0 := 3) rfl rfl) hP hS rfl hl.1 rfl (Nat.le_of_ble_eq_true rfl) dX0_liesInBox_26 ⟨Nat.zero_le _, Nat.zero_le _⟩ (fun r_6 u_6 H locs hF_6 hP hS => ?_)
        have hF := hF.trans (pz_be hF_6)
        refine lv_icmp_gt (tgt := 36) hx hb dX0_liesInBox_29 (by decide) (fun c_7 => ?_) (fun c_7 => ?_)
        · have hF := hF.trans (if_pos c_7)
          refine lv_iconst (v := 0) hx hb dX0_liesInBox_36 (by decide) ?_
          exact W.zret (v := 0) hx hb hr rfl (fun t ht hW => ⟨⟨0, (), rfl, hF.symm, pz_hp ht hP⟩, hS.F ht⟩) hS.2.2 dX0_liesInBox_37 hlocks
        · have hF := hF.trans (if_neg c_7)
          refine lv_iconst (v := 1) hx hb dX0_liesInBox_32 (by decide) ?_
          refine lv_goto (tgt := 37) hx hb dX0_liesInBox_33 (by decide) ?_
          exact W.zret (v := 1) hx hb hr rfl (fun t ht hW => ⟨⟨1, (), rfl, hF.symm, pz_hp ht hP⟩, hS.F ht⟩) hS.2.2 dX0_liesInBox_37 hlocks

-- == X0_isGround
def f_X0_isGround (frules : Nat → Int32) (ends : Nat → Int32) (x1 : Int32) (x2 : Int32) : Int32 := pz_bnd (f_X0_ruleOf frules x1) (fun z_1 => if z_1 = 0 then (1) else (pz_bnd (f_X0_liesInBox frules ends x2 x1) (fun z_3 => if z_3 = 0 then (0) else (1))))
theorem hdV_X0_liesInBox : yX0_liesInBox.cls = RX0 ∧ yX0_liesInBox.cls ≠ "java/lang/invoke/MethodHandle" ∧ yX0_liesInBox.cls ≠ "java/lang/invoke/VarHandle" ∧ (parseMethodDescriptor yX0_liesInBox.desc).map (fun d => d.parameters.length) = some 2 := by decide +kernel
set_option maxHeartbeats 4000000 in
set_option maxRecDepth 100000 in
theorem c_X0_isGround (l : Launch) (D : va_G) (q : Nat → Nat) (k : Nat → ClassId) (t : Nat → Nat) (cnt : Int32) (kinds : Nat → Int32) (firsts : Nat → Int32) (seconds : Nat → Int32) (heights : Nat → Int32) (tables : Nat → Int64) (replaced : Nat → Int32) (laid : Nat → Int32) (rules : Nat → Int32) (ps : Nat → Int32) (qs : Nat → Int32) (rs : Nat → Int32) (fs : Nat → Int32) (frules : Nat → Int32) (heads : Nat → Int32) (ends : Nat → Int32) (inforce : Nat → Int32) (usable : Nat → Int32) (summ : Nat → Int32) (x1 : Int32) (x2 : Int32)  : Met l yX0_isGround wsX0_isGround ({ frames := 3, cells := 0, slots := 0, locals := 63 }) (va_Pc [.ref (q 3), .int (x1), .int (x2)] (fun U => va_P D vwCl (pz_X q k cnt kinds firsts seconds heights tables replaced laid rules ps qs rs fs frules heads ends inforce usable summ) U.heap ∧ pz_KX D q k t U)) (va_Qi (fun r (_ : Unit) => r = (f_X0_isGround frules ends x1 x2)) (fun _ t => va_P D vwCl (pz_X q k cnt kinds firsts seconds heights tables replaced laid rules ps qs rs fs frules heads ends inforce usable summ) t.heap) (pz_A 22 q)) 0 0 (pz_A 22 q) := by
  refine Met.ofW (cc := cX0_isGround) (maxL := 3) (ret := (some .boolean)) (by decide) rfl ?_
  intro p e s m args below meth c s₁ B hml hv
  obtain ⟨rfl, hP, hKX⟩ := hv
  have hx := B.exec
  have hb := B.bytes
  have hr := B.returns
  have hts := atoms_spec (ws := wsX0_isGround) B.pre
  have hown : s.vm.findClass RX0 = some m.cls := findClass_of_methodNamed B.named
  have hlocks := B.notSynchronized
  have hC : pz_C p s m ([.ref (q 3), .int (x1), .int (x2)] : List Value).toArray meth c cX0_isGround wsX0_isGround RX0 3 (some .boolean) := ⟨hx, hb, hml, hown, hts, hr, hlocks⟩
  have hK := hKX.1
  have hS : va_S (pz_A 22 q) s.heap s.heap [] := va_S.rf
  have hl := lv_entry [.ref (q 3), .int (x1), .int (x2)] (n := 3) (Nat.le_of_ble_eq_true rfl)
  rw [lg_entry_eq]
  generalize (lg_sl [.ref (q 3), .int (x1), .int (x2)] ++ List.replicate (3 - (lg_sl [.ref (q 3), .int (x1), .int (x2)]).length) Slot.unset).toArray = ls at hl ⊢
  have hl : lv_has ls 3 [(0, .ref (q 3)), (1, .int (x1)), (2, .int (x2))] := hl
  generalize hF : f_X0_isGround frules ends x1 x2 = G
  replace hF := hF.symm
  unfold f_X0_isGround at hF
  refine lv_aload_n hx hb dX0_isGround_0 rfl (lv_at hl 0 rfl) ?_
  refine lv_iload_n hx hb dX0_isGround_1 rfl (lv_at hl 1 rfl) ?_
  refine pz_Vi (As := [.int (x1)]) (rest := []) ⟨hx, hb, hml, hown, hts⟩ (c_X0_ruleOf l D q k t cnt kinds firsts seconds heights tables replaced laid rules ps qs rs fs frules heads ends inforce usable summ x1) (cwV 1 hts gX0_isGround_X0_ruleOf rfl rfl rfl hdV_X0_ruleOf ⟨Nat.le_of_ble_eq_true rfl, Nat.le_of_ble_eq_true rfl⟩) pz_KX.call (hKX.go hS) (va_recv hK hP (ci := 0) (q0 := 3) rfl rfl) hP hS rfl hl.1 rfl (Nat.le_of_ble_eq_true rfl) dX0_isGround_2 ⟨Nat.zero_le _, Nat.zero_le _⟩ (fun r_1 u_1 H locs hF_1 hP hS => ?_)
  have hF := hF.trans (pz_be hF_1)
  refine lv_if_eq (tgt := 17) hx hb dX0_isGround_5 (by decide) (fun c_2 => ?_) (fun c_2 => ?_)
  · have hF := hF.trans (if_pos c_2)
    refine lv_iconst (v := 1) hx hb dX0_isGround_17 (by decide) ?_
    refine lv_goto (tgt := 22) hx hb dX0_isGround_18 (by decide) ?_
    exact W.zret (v := 1) hx hb hr rfl (fun t ht hW => ⟨⟨1, (), rfl, hF.symm, pz_hp ht hP⟩, hS.F ht⟩) hS.2.2 dX0_isGround_22 hlocks
  · have hF := hF.trans (if_neg c_2)
    refine lv_aload_n hx hb dX0_isGround_8 rfl (lv_at hl 0 rfl) ?_
    refine lv_iload_n hx hb dX0_isGround_9 rfl (lv_at hl 2 rfl) ?_
    refine lv_iload_n hx hb dX0_isGround_10 rfl (lv_at hl 1 rfl) ?_
    refine pz_Vi (As := [.int (x2), .int (x1)]) (rest := []) ⟨hx, hb, hml, hown, hts⟩ (c_X0_liesInBox l D q k t cnt kinds firsts seconds heights tables replaced laid rules ps qs rs fs frules heads ends inforce usable summ x2 x1) (cwV 2 hts gX0_isGround_X0_liesInBox rfl rfl rfl hdV_X0_liesInBox ⟨Nat.le_of_ble_eq_true rfl, Nat.le_of_ble_eq_true rfl⟩) pz_KX.call (hKX.go hS) (va_recv hK hP (ci := 0) (q0 := 3) rfl rfl) hP hS rfl hl.1 rfl (Nat.le_of_ble_eq_true rfl) dX0_isGround_11 ⟨Nat.zero_le _, Nat.zero_le _⟩ (fun r_3 u_3 H locs hF_3 hP hS => ?_)
    have hF := hF.trans (pz_be hF_3)
    refine lv_if_eq (tgt := 21) hx hb dX0_isGround_14 (by decide) (fun c_4 => ?_) (fun c_4 => ?_)
    · have hF := hF.trans (if_pos c_4)
      refine lv_iconst (v := 0) hx hb dX0_isGround_21 (by decide) ?_
      exact W.zret (v := 0) hx hb hr rfl (fun t ht hW => ⟨⟨0, (), rfl, hF.symm, pz_hp ht hP⟩, hS.F ht⟩) hS.2.2 dX0_isGround_22 hlocks
    · have hF := hF.trans (if_neg c_4)
      refine lv_iconst (v := 1) hx hb dX0_isGround_17 (by decide) ?_
      refine lv_goto (tgt := 22) hx hb dX0_isGround_18 (by decide) ?_
      exact W.zret (v := 1) hx hb hr rfl (fun t ht hW => ⟨⟨1, (), rfl, hF.symm, pz_hp ht hP⟩, hS.F ht⟩) hS.2.2 dX0_isGround_22 hlocks

-- == X0_groundOf
def F_X0_groundOf_16 : Nat → (Nat → Int32) → (Nat → Int32) → (Nat → Int32) → (Int32) → (Int32) → (Int32) → (Int32) → Int32
  | 0, frules, heads, ends, x1, x2, x3, x4 => 0
  | n + 1, frules, heads, ends, x1, x2, x3, x4 => if x1 < x4 then ((-1)) else (if 60 ≤ x4 then ((-1)) else (pz_bnd (f_X0_isGround frules ends x4 x1) (fun z_3 => if z_3 = 0 then (F_X0_groundOf_16 n frules heads ends x1 x2 x3 (x4 + 1)) else (if x3 = x2 then (x4) else (F_X0_groundOf_16 n frules heads ends x1 x2 (x3 + 1) (x4 + 1))))))
def f_X0_groundOf (frules : Nat → Int32) (heads : Nat → Int32) (ends : Nat → Int32) (x1 : Int32) (x2 : Int32) : Int32 := pz_bnd (f_X0_headOf heads x1) (fun z_6 => if z_6 = (-1) then ((-1)) else (F_X0_groundOf_16 61 frules heads ends x1 x2 0 0))
theorem hdV_X0_headOf : yX0_headOf.cls = RX0 ∧ yX0_headOf.cls ≠ "java/lang/invoke/MethodHandle" ∧ yX0_headOf.cls ≠ "java/lang/invoke/VarHandle" ∧ (parseMethodDescriptor yX0_headOf.desc).map (fun d => d.parameters.length) = some 1 := by decide +kernel
theorem hdV_X0_isGround : yX0_isGround.cls = RX0 ∧ yX0_isGround.cls ≠ "java/lang/invoke/MethodHandle" ∧ yX0_isGround.cls ≠ "java/lang/invoke/VarHandle" ∧ (parseMethodDescriptor yX0_isGround.desc).map (fun d => d.parameters.length) = some 2 := by decide +kernel
set_option maxHeartbeats 4000000 in
set_option maxRecDepth 100000 in
theorem k_X0_groundOf_16 {p : Program} {l : Launch} {e : Env} {s : State} {m : MethodId} {args : Array Value} {below : List Frame} {meth : Method} {c : Code} {D : va_G} {q : Nat → Nat} {k : Nat → ClassId} {t : Nat → Nat} (hC : pz_C p s m args meth c cX0_groundOf wsX0_groundOf RX0 5 (some .int)) (hKX : pz_KX D q k t s) (cnt : Int32) (kinds : Nat → Int32) (firsts : Nat → Int32) (seconds : Nat → Int32) (heights : Nat → Int32) (tables : Nat → Int64) (replaced : Nat → Int32) (laid : Nat → Int32) (rules : Nat → Int32) (ps : Nat → Int32) (qs : Nat → Int32) (rs : Nat → Int32) (fs : Nat → Int32) (frules : Nat → Int32) (heads : Nat → Int32) (ends : Nat → Int32) (inforce : Nat → Int32) (usable : Nat → Int32) (summ : Nat → Int32) {G : Int32} :
    ∀ (n : Nat) (x1 : Int32) (x2 : Int32) (x3 : Int32) (x4 : Int32) (h0 : 0 ≤ x4.toInt) (h1 : x4.toInt ≤ 60) (hn : 61 ≤ x4.toInt + n)  (H : Heap) (locs : List Loc) (ls : Array Slot), G = F_X0_groundOf_16 n frules heads ends x1 x2 x3 x4 → va_P D vwCl (pz_X q k cnt kinds firsts seconds heights tables replaced laid rules ps qs rs fs frules heads ends inforce usable summ) H → va_S (pz_A 22 q) s.heap H locs → lv_has ls 5 [(0, .ref (q 3)), (1, .int (x1)), (2, .int (x2)), (3, .int (x3)), (4, .int (x4))] → W p l e (headSpec wsX0_groundOf { frames := 4, cells := 0, slots := 0, locals := 85 }).room s m args below meth c H locs 0 0 (MQ below (va_Qi (fun r (_ : Unit) => r = G) (fun _ t => va_P D vwCl (pz_X q k cnt kinds firsts seconds heights tables replaced laid rules ps qs rs fs frules heads ends inforce usable summ) t.heap) (pz_A 22 q)) args s 0 0 (pz_A 22 q)) (F0 m 16 ls []) := by
  obtain ⟨hx, hb, hml, hown, hts, hr, hlocks⟩ := hC
  have hC : pz_C p s m args meth c cX0_groundOf wsX0_groundOf RX0 5 (some .int) := ⟨hx, hb, hml, hown, hts, hr, hlocks⟩
  have hK := hKX.1
  intro n
  induction n with
  | zero =>
    intro x1 x2 x3 x4 h0 h1 hn H locs ls hF hP hS hl
    exact absurd hn (by omega)
  | succ n ih =>
    intro x1 x2 x3 x4 h0 h1 hn H locs ls hF hP hS hl
    unfold F_X0_groundOf_16 at hF
    refine lv_iload hx hb dX0_groundOf_16 (lv_at hl 4 rfl) ?_
    refine lv_iload_n hx hb dX0_groundOf_18 rfl (lv_at hl 1 rfl) ?_
    refine lv_icmp_gt (tgt := 56) hx hb dX0_groundOf_19 (by decide) (fun c_1 => ?_) (fun c_1 => ?_)
    · have hF := hF.trans (if_pos c_1)
      refine lv_iconst (v := (-1)) hx hb dX0_groundOf_56 (by decide) ?_
      exact W.iret (v := (-1)) hx hb hr (fun t ht hW => ⟨⟨(-1), (), rfl, hF.symm, pz_hp ht hP⟩, hS.F ht⟩) hS.2.2 dX0_groundOf_57 hlocks
    · have hF := hF.trans (if_neg c_1)
      refine lv_iload hx hb dX0_groundOf_22 (lv_at hl 4 rfl) ?_
      refine lv_bipush (v := 60) hx hb dX0_groundOf_24 (by decide) ?_
      refine lv_icmp_ge (tgt := 56) hx hb dX0_groundOf_26 (by decide) (fun c_2 => ?_) (fun c_2 => ?_)
      · have hF := hF.trans (if_pos c_2)
        refine lv_iconst (v := (-1)) hx hb dX0_groundOf_56 (by decide) ?_
        exact W.iret (v := (-1)) hx hb hr (fun t ht hW => ⟨⟨(-1), (), rfl, hF.symm, pz_hp ht hP⟩, hS.F ht⟩) hS.2.2 dX0_groundOf_57 hlocks
      · have hF := hF.trans (if_neg c_2)
        refine lv_aload_n hx hb dX0_groundOf_29 rfl (lv_at hl 0 rfl) ?_
        refine lv_iload hx hb dX0_groundOf_30 (lv_at hl 4 rfl) ?_
        refine lv_iload_n hx hb dX0_groundOf_32 rfl (lv_at hl 1 rfl) ?_
        refine pz_Vi (As := [.int (x4), .int (x1)]) (rest := []) ⟨hx, hb, hml, hown, hts⟩ (c_X0_isGround l D q k t cnt kinds firsts seconds heights tables replaced laid rules ps qs rs fs frules heads ends inforce usable summ x4 x1) (cwV 2 hts gX0_groundOf_X0_isGround rfl rfl rfl hdV_X0_isGround ⟨Nat.le_of_ble_eq_true rfl, Nat.le_of_ble_eq_true rfl⟩) pz_KX.call (hKX.go hS) (va_recv hK hP (ci := 0) (q0 := 3) rfl rfl) hP hS rfl hl.1 rfl (Nat.le_of_ble_eq_true rfl) dX0_groundOf_33 ⟨Nat.zero_le _, Nat.zero_le _⟩ (fun r_3 u_3 H locs hF_3 hP hS => ?_)
        have hF := hF.trans (pz_be hF_3)
        refine lv_if_eq (tgt := 50) hx hb dX0_groundOf_36 (by decide) (fun c_4 => ?_) (fun c_4 => ?_)
        · have hF := hF.trans (if_pos c_4)
          refine lv_iinc (v := (x4 + 1)) (lv' := [(4, .int ((x4 + 1))), (0, .ref (q 3)), (1, .int (x1)), (2, .int (x2)), (3, .int (x3))]) hx hb dX0_groundOf_50 hl (k := 4) rfl rfl (by decide) rfl (fun ls hl => ?_)
          refine lv_goto (tgt := 16) hx hb dX0_groundOf_53 (by decide) ?_
          exact ih x1 x2 x3 (x4 + 1) (by have e := pz_up60 ‹¬ (60 : Int32) ≤ x4›; omega) (by have e := pz_up60 ‹¬ (60 : Int32) ≤ x4›; omega) (by have e := pz_up60 ‹¬ (60 : Int32) ≤ x4›; omega) _ _ _ hF hP hS (lv_sub hl [1, 2, 3, 4, 0] rfl)
        · have hF := hF.trans (if_neg c_4)
          refine lv_iload_n hx hb dX0_groundOf_39 rfl (lv_at hl 3 rfl) ?_
          refine lv_iload_n hx hb dX0_groundOf_40 rfl (lv_at hl 2 rfl) ?_
          refine lv_icmp_ne (tgt := 47) hx hb dX0_groundOf_41 (by decide) (fun c_5 => ?_) (fun c_5 => ?_)
          · have hF := hF.trans (if_neg c_5)
            refine lv_iinc (v := (x3 + 1)) (lv' := [(3, .int ((x3 + 1))), (0, .ref (q 3)), (1, .int (x1)), (2, .int (x2)), (4, .int (x4))]) hx hb dX0_groundOf_47 hl (k := 3) rfl rfl (by decide) rfl (fun ls hl => ?_)
            refine lv_iinc (v := (x4 + 1)) (lv' := [(4, .int ((x4 + 1))), (3, .int ((x3 + 1))), (0, .ref (q 3)), (1, .int (x1)), (2, .int (x2))]) hx hb dX0_groundOf_50 hl (k := 4) rfl rfl (by decide) rfl (fun ls hl => ?_)
            refine lv_goto (tgt := 16) hx hb dX0_groundOf_53 (by decide) ?_
            exact ih x1 x2 (x3 + 1) (x4 + 1) (by have e := pz_up60 ‹¬ (60 : Int32) ≤ x4›; omega) (by have e := pz_up60 ‹¬ (60 : Int32) ≤ x4›; omega) (by have e := pz_up60 ‹¬ (60 : Int32) ≤ x4›; omega) _ _ _ hF hP hS (lv_sub hl [2, 3, 4, 1, 0] rfl)
          · have hF := hF.trans (if_pos c_5)
            refine lv_iload hx hb dX0_groundOf_44 (lv_at hl 4 rfl) ?_
            exact W.iret (v := x4) hx hb hr (fun t ht hW => ⟨⟨x4, (), rfl, hF.symm, pz_hp ht hP⟩, hS.F ht⟩) hS.2.2 dX0_groundOf_46 hlocks
set_option maxHeartbeats 4000000 in
set_option maxRecDepth 100000 in
theorem c_X0_groundOf (l : Launch) (D : va_G) (q : Nat → Nat) (k : Nat → ClassId) (t : Nat → Nat) (cnt : Int32) (kinds : Nat → Int32) (firsts : Nat → Int32) (seconds : Nat → Int32) (heights : Nat → Int32) (tables : Nat → Int64) (replaced : Nat → Int32) (laid : Nat → Int32) (rules : Nat → Int32) (ps : Nat → Int32) (qs : Nat → Int32) (rs : Nat → Int32) (fs : Nat → Int32) (frules : Nat → Int32) (heads : Nat → Int32) (ends : Nat → Int32) (inforce : Nat → Int32) (usable : Nat → Int32) (summ : Nat → Int32) (x1 : Int32) (x2 : Int32)  : Met l yX0_groundOf wsX0_groundOf ({ frames := 4, cells := 0, slots := 0, locals := 85 }) (va_Pc [.ref (q 3), .int (x1), .int (x2)] (fun U => va_P D vwCl (pz_X q k cnt kinds firsts seconds heights tables replaced laid rules ps qs rs fs frules heads ends inforce usable summ) U.heap ∧ pz_KX D q k t U)) (va_Qi (fun r (_ : Unit) => r = (f_X0_groundOf frules heads ends x1 x2)) (fun _ t => va_P D vwCl (pz_X q k cnt kinds firsts seconds heights tables replaced laid rules ps qs rs fs frules heads ends inforce usable summ) t.heap) (pz_A 22 q)) 0 0 (pz_A 22 q) := by
  refine Met.ofW (cc := cX0_groundOf) (maxL := 5) (ret := (some .int)) (by decide) rfl ?_
  intro p e s m args below meth c s₁ B hml hv
  obtain ⟨rfl, hP, hKX⟩ := hv
  have hx := B.exec
  have hb := B.bytes
  have hr := B.returns
  have hts := atoms_spec (ws := wsX0_groundOf) B.pre
  have hown : s.vm.findClass RX0 = some m.cls := findClass_of_methodNamed B.named
  have hlocks := B.notSynchronized
  have hC : pz_C p s m ([.ref (q 3), .int (x1), .int (x2)] : List Value).toArray meth c cX0_groundOf wsX0_groundOf RX0 5 (some .int) := ⟨hx, hb, hml, hown, hts, hr, hlocks⟩
  have hK := hKX.1
  have hS : va_S (pz_A 22 q) s.heap s.heap [] := va_S.rf
  have hl := lv_entry [.ref (q 3), .int (x1), .int (x2)] (n := 5) (Nat.le_of_ble_eq_true rfl)
  rw [lg_entry_eq]
  generalize (lg_sl [.ref (q 3), .int (x1), .int (x2)] ++ List.replicate (5 - (lg_sl [.ref (q 3), .int (x1), .int (x2)]).length) Slot.unset).toArray = ls at hl ⊢
  have hl : lv_has ls 5 [(0, .ref (q 3)), (1, .int (x1)), (2, .int (x2))] := hl
  generalize hF : f_X0_groundOf frules heads ends x1 x2 = G
  replace hF := hF.symm
  unfold f_X0_groundOf at hF
  refine lv_aload_n hx hb dX0_groundOf_0 rfl (lv_at hl 0 rfl) ?_
  refine lv_iload_n hx hb dX0_groundOf_1 rfl (lv_at hl 1 rfl) ?_
  refine pz_Vi (As := [.int (x1)]) (rest := []) ⟨hx, hb, hml, hown, hts⟩ (c_X0_headOf l D q k t cnt kinds firsts seconds heights tables replaced laid rules ps qs rs fs frules heads ends inforce usable summ x1) (cwV 1 hts gX0_groundOf_X0_headOf rfl rfl rfl hdV_X0_headOf ⟨Nat.le_of_ble_eq_true rfl, Nat.le_of_ble_eq_true rfl⟩) pz_KX.call (hKX.go hS) (va_recv hK hP (ci := 0) (q0 := 3) rfl rfl) hP hS rfl hl.1 rfl (Nat.le_of_ble_eq_true rfl) dX0_groundOf_2 ⟨Nat.zero_le _, Nat.zero_le _⟩ (fun r_6 u_6 H locs hF_6 hP hS => ?_)
  have hF := hF.trans (pz_be hF_6)
  refine lv_iconst (v := (-1)) hx hb dX0_groundOf_5 (by decide) ?_
  refine lv_icmp_ne (tgt := 11) hx hb dX0_groundOf_6 (by decide) (fun c_7 => ?_) (fun c_7 => ?_)
  · have hF := hF.trans (if_neg c_7)
    refine lv_iconst (v := 0) hx hb dX0_groundOf_11 (by decide) ?_
    refine lv_istore_n (lv' := [(3, .int (0)), (0, .ref (q 3)), (1, .int (x1)), (2, .int (x2))]) hx hb dX0_groundOf_12 rfl hl (by decide) rfl (fun ls hl => ?_)
    refine lv_iconst (v := 0) hx hb dX0_groundOf_13 (by decide) ?_
    refine lv_istore (lv' := [(4, .int (0)), (3, .int (0)), (0, .ref (q 3)), (1, .int (x1)), (2, .int (x2))]) hx hb dX0_groundOf_14 hl (by decide) rfl (fun ls hl => ?_)
    exact k_X0_groundOf_16 hC hKX cnt kinds firsts seconds heights tables replaced laid rules ps qs rs fs frules heads ends inforce usable summ 61 x1 x2 0 0 (by decide) (by decide) (by decide) _ _ _ hF hP hS (lv_sub hl [2, 3, 4, 1, 0] rfl)
  · have hF := hF.trans (if_pos c_7)
    refine lv_iconst (v := (-1)) hx hb dX0_groundOf_9 (by decide) ?_
    exact W.iret (v := (-1)) hx hb hr (fun t ht hW => ⟨⟨(-1), (), rfl, hF.symm, pz_hp ht hP⟩, hS.F ht⟩) hS.2.2 dX0_groundOf_10 hlocks

