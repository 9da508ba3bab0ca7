theorem pz_usable_01 {r k : Int32} {usable : Nat → Int32} (h : r = f_X0_isUsableBox usable k) : r = 0 ∨ r = 1 := by
  rw [h]; unfold f_X0_isUsableBox
  show (fun z : Int32 => z = 0 ∨ z = 1) _
  refine pz_bi (P := fun z : Int32 => z = 0 ∨ z = 1) (fun z h => ?_)
  refine pz_it (P := fun z : Int32 => z = 0 ∨ z = 1) (fun _ => Or.inl rfl) (fun _ => ?_)
  exact pz_it (P := fun z : Int32 => z = 0 ∨ z = 1) (fun _ => Or.inl rfl) (fun _ => Or.inr rfl)

-- == X3_reasonAgainstLine
def f_X3_reasonAgainstLine (inforce : Nat → Int32) (x1 : Int32) (x2 : Int32) (x3 : Int32) : Int32 := pz_bnd (f_X3_isLine x2) (fun z_1 => if z_1 = 0 then (1) else (if x2 < x1 then (if x3 = 0 then (0) else (pz_bnd (f_X0_isInForce inforce x2) (fun z_5 => if z_5 = 0 then (3) else (0)))) else (2)))
theorem fl_X3_reasonAgainstLine_26 : Cond.fieldLink RX3 26 "BoxProofs" "findings" "LBoxProofs$Findings;" ∈ wsX3_reasonAgainstLine := by decide +kernel
theorem hdV_X0_isInForce : yX0_isInForce.cls = RX0 ∧ yX0_isInForce.cls ≠ "java/lang/invoke/MethodHandle" ∧ yX0_isInForce.cls ≠ "java/lang/invoke/VarHandle" ∧ (parseMethodDescriptor yX0_isInForce.desc).map (fun d => d.parameters.length) = some 1 := by decide +kernel
theorem in_X3_reasonAgainstLine_X3 : ∀ w ∈ wsX30, w ∈ wsX3_reasonAgainstLine := by decide +kernel
set_option maxHeartbeats 4000000 in
set_option maxRecDepth 100000 in
theorem c_X3_reasonAgainstLine (l : Launch) (D : va_G) (q : Nat → Nat) (k : Nat → ClassId) (t : Nat → Nat) (cnt : Int32) (kinds : Nat → Int32) (firsts : Nat → Int32) (seconds : Nat → Int32) (heights : Nat → Int32) (tables : Nat → Int64) (replaced : Nat → Int32) (laid : Nat → Int32) (rules : Nat → Int32) (ps : Nat → Int32) (qs : Nat → Int32) (rs : Nat → Int32) (fs : Nat → Int32) (frules : Nat → Int32) (heads : Nat → Int32) (ends : Nat → Int32) (inforce : Nat → Int32) (usable : Nat → Int32) (summ : Nat → Int32) (x1 : Int32) (x2 : Int32) (x3 : Int32)  : Met l yX3_reasonAgainstLine wsX3_reasonAgainstLine ({ frames := 2, cells := 0, slots := 0, locals := 41 }) (va_Pc [.ref (q 0), .int (x1), .int (x2), .int (x3)] (fun U => va_P D vwCl (pz_X q k cnt kinds firsts seconds heights tables replaced laid rules ps qs rs fs frules heads ends inforce usable summ) U.heap ∧ pz_KX D q k t U)) (va_Qi (fun r (_ : Unit) => r = (f_X3_reasonAgainstLine inforce x1 x2 x3)) (fun _ t => va_P D vwCl (pz_X q k cnt kinds firsts seconds heights tables replaced laid rules ps qs rs fs frules heads ends inforce usable summ) t.heap) (pz_A 22 q)) 0 0 (pz_A 22 q) := by
  refine Met.ofW (cc := cX3_reasonAgainstLine) (maxL := 4) (ret := (some .int)) (by decide) rfl ?_
  intro p e s m args below meth c s₁ B hml hv
  obtain ⟨rfl, hP, hKX⟩ := hv
  have hx := B.exec
  have hb := B.bytes
  have hr := B.returns
  have hts := atoms_spec (ws := wsX3_reasonAgainstLine) B.pre
  have hown : s.vm.findClass RX3 = some m.cls := findClass_of_methodNamed B.named
  have hlocks := B.notSynchronized
  have hC : pz_C p s m ([.ref (q 0), .int (x1), .int (x2), .int (x3)] : List Value).toArray meth c cX3_reasonAgainstLine wsX3_reasonAgainstLine RX3 4 (some .int) := ⟨hx, hb, hml, hown, hts, hr, hlocks⟩
  have hK := hKX.1
  have hS : va_S (pz_A 22 q) s.heap s.heap [] := va_S.rf
  have hl := lv_entry [.ref (q 0), .int (x1), .int (x2), .int (x3)] (n := 4) (Nat.le_of_ble_eq_true rfl)
  rw [lg_entry_eq]
  generalize (lg_sl [.ref (q 0), .int (x1), .int (x2), .int (x3)] ++ List.replicate (4 - (lg_sl [.ref (q 0), .int (x1), .int (x2), .int (x3)]).length) Slot.unset).toArray = ls at hl ⊢
  have hl : lv_has ls 4 [(0, .ref (q 0)), (1, .int (x1)), (2, .int (x2)), (3, .int (x3))] := hl
  generalize hF : f_X3_reasonAgainstLine inforce x1 x2 x3 = G
  replace hF := hF.symm
  unfold f_X3_reasonAgainstLine at hF
  refine lv_iload_n hx hb dX3_reasonAgainstLine_0 rfl (lv_at hl 2 rfl) ?_
  refine pz_Si (As := [.int (x2)]) (rest := []) ⟨hx, hb, hml, hown, hts⟩ (c_X3_isLine l x2) (va_cwS 1 hts gX3_reasonAgainstLine_X3_isLine rfl rfl rfl hdS_X3_isLine ⟨Nat.le_of_ble_eq_true rfl, Nat.le_of_ble_eq_true rfl⟩) hP hS rfl hl.1 rfl (Nat.le_of_ble_eq_true rfl) dX3_reasonAgainstLine_1 ⟨Nat.zero_le _, Nat.zero_le _⟩ (fun r_1 H locs hF_1 hP hS => ?_)
  have hF := hF.trans (pz_be hF_1)
  refine lv_if_ne (tgt := 9) hx hb dX3_reasonAgainstLine_4 (by decide) (fun c_2 => ?_) (fun c_2 => ?_)
  · have hF := hF.trans (if_neg c_2)
    refine lv_iload_n hx hb dX3_reasonAgainstLine_9 rfl (lv_at hl 2 rfl) ?_
    refine lv_iload_n hx hb dX3_reasonAgainstLine_10 rfl (lv_at hl 1 rfl) ?_
    refine lv_icmp_lt (tgt := 16) hx hb dX3_reasonAgainstLine_11 (by decide) (fun c_3 => ?_) (fun c_3 => ?_)
    · have hF := hF.trans (if_pos c_3)
      refine lv_iload_n hx hb dX3_reasonAgainstLine_16 rfl (lv_at hl 3 rfl) ?_
      refine lv_if_eq (tgt := 35) hx hb dX3_reasonAgainstLine_17 (by decide) (fun c_4 => ?_) (fun c_4 => ?_)
      · have hF := hF.trans (if_pos c_4)
        refine lv_iconst (v := 0) hx hb dX3_reasonAgainstLine_35 (by decide) ?_
        exact W.iret (v := 0) hx hb hr (fun t ht hW => ⟨⟨0, (), rfl, hF.symm, pz_hp ht hP⟩, hS.F ht⟩) hS.2.2 dX3_reasonAgainstLine_36 hlocks
      · have hF := hF.trans (if_neg c_4)
        refine lv_aload_n hx hb dX3_reasonAgainstLine_20 rfl (lv_at hl 0 rfl) ?_
        refine va_get (D := D) (ci := 3) (v := .ref (q 3)) (C := RX3) (T := TX3) (N := 3) hx hb hts in_X3_reasonAgainstLine_X3 hown hK hP 0 rfl rfl 2 (by decide) (hts _ fl_X3_reasonAgainstLine_26) (fun _ h9 => h9) rfl dX3_reasonAgainstLine_21 ?_
        refine lv_iload_n hx hb dX3_reasonAgainstLine_24 rfl (lv_at hl 2 rfl) ?_
        refine pz_Vi (As := [.int (x2)]) (rest := []) ⟨hx, hb, hml, hown, hts⟩ (c_X0_isInForce l D q k t cnt kinds firsts seconds heights tables replaced laid rules ps qs rs fs frules heads ends inforce usable summ x2) (cwV 1 hts gX3_reasonAgainstLine_X0_isInForce rfl rfl rfl hdV_X0_isInForce ⟨Nat.le_of_ble_eq_true rfl, Nat.le_of_ble_eq_true rfl⟩) pz_KX.call (hKX.go hS) (va_recv hK hP (ci := 0) (q0 := 3) rfl rfl) hP hS rfl hl.1 rfl (Nat.le_of_ble_eq_true rfl) dX3_reasonAgainstLine_25 ⟨Nat.zero_le _, Nat.zero_le _⟩ (fun r_5 u_5 H locs hF_5 hP hS => ?_)
        have hF := hF.trans (pz_be hF_5)
        refine lv_if_ne (tgt := 35) hx hb dX3_reasonAgainstLine_28 (by decide) (fun c_6 => ?_) (fun c_6 => ?_)
        · have hF := hF.trans (if_neg c_6)
          refine lv_iconst (v := 0) hx hb dX3_reasonAgainstLine_35 (by decide) ?_
          exact W.iret (v := 0) hx hb hr (fun t ht hW => ⟨⟨0, (), rfl, hF.symm, pz_hp ht hP⟩, hS.F ht⟩) hS.2.2 dX3_reasonAgainstLine_36 hlocks
        · have hF := hF.trans (if_pos c_6)
          refine lv_iconst (v := 3) hx hb dX3_reasonAgainstLine_31 (by decide) ?_
          refine lv_goto (tgt := 36) hx hb dX3_reasonAgainstLine_32 (by decide) ?_
          exact W.iret (v := 3) hx hb hr (fun t ht hW => ⟨⟨3, (), rfl, hF.symm, pz_hp ht hP⟩, hS.F ht⟩) hS.2.2 dX3_reasonAgainstLine_36 hlocks
    · have hF := hF.trans (if_neg c_3)
      refine lv_iconst (v := 2) hx hb dX3_reasonAgainstLine_14 (by decide) ?_
      exact W.iret (v := 2) hx hb hr (fun t ht hW => ⟨⟨2, (), rfl, hF.symm, pz_hp ht hP⟩, hS.F ht⟩) hS.2.2 dX3_reasonAgainstLine_15 hlocks
  · have hF := hF.trans (if_pos c_2)
    refine lv_iconst (v := 1) hx hb dX3_reasonAgainstLine_7 (by decide) ?_
    exact W.iret (v := 1) hx hb hr (fun t ht hW => ⟨⟨1, (), rfl, hF.symm, pz_hp ht hP⟩, hS.F ht⟩) hS.2.2 dX3_reasonAgainstLine_8 hlocks

-- == X3_reasonAgainstNumbers
def F_X3_reasonAgainstNumbers_106 (cnt : Int32) (ps : Nat → Int32) (qs : Nat → Int32) (rs : Nat → Int32) (fs : Nat → Int32) (inforce : Nat → Int32) (x1 : Int32) (x2 : Int32) (x3 : Int32) (x4 : Int32) : Int32 := if x4 = 0 then (pz_bnd (f_X3_takesFormula x2) (fun z_2 => if z_2 = 0 then (x4) else (pz_bnd (f_X2_formulaOf fs x1) (fun z_4 => pz_bnd (f_X1_has cnt z_4) (fun z_5 => if z_5 = 0 then (1) else (x4)))))) else (x4)
def F_X3_reasonAgainstNumbers_70 (cnt : Int32) (ps : Nat → Int32) (qs : Nat → Int32) (rs : Nat → Int32) (fs : Nat → Int32) (inforce : Nat → Int32) (x1 : Int32) (x2 : Int32) (x3 : Int32) (x4 : Int32) : Int32 := if x4 = 0 then (if x3 < 3 then (F_X3_reasonAgainstNumbers_106 cnt ps qs rs fs inforce x1 x2 x3 x4) else (pz_bnd (f_X2_rOf rs x1) (fun z_9 => if x2 = 9 then (pz_bnd (f_X3_reasonAgainstLine inforce x1 z_9 0) (fun z_11 => F_X3_reasonAgainstNumbers_106 cnt ps qs rs fs inforce x1 x2 x3 z_11)) else (pz_bnd (f_X3_reasonAgainstLine inforce x1 z_9 1) (fun z_12 => F_X3_reasonAgainstNumbers_106 cnt ps qs rs fs inforce x1 x2 x3 z_12))))) else (F_X3_reasonAgainstNumbers_106 cnt ps qs rs fs inforce x1 x2 x3 x4)
def F_X3_reasonAgainstNumbers_34 (cnt : Int32) (ps : Nat → Int32) (qs : Nat → Int32) (rs : Nat → Int32) (fs : Nat → Int32) (inforce : Nat → Int32) (x1 : Int32) (x2 : Int32) (x3 : Int32) (x4 : Int32) : Int32 := if x4 = 0 then (if x3 < 2 then (F_X3_reasonAgainstNumbers_70 cnt ps qs rs fs inforce x1 x2 x3 x4) else (pz_bnd (f_X2_qOf qs x1) (fun z_15 => if x2 = 9 then (pz_bnd (f_X3_reasonAgainstLine inforce x1 z_15 0) (fun z_17 => F_X3_reasonAgainstNumbers_70 cnt ps qs rs fs inforce x1 x2 x3 z_17)) else (pz_bnd (f_X3_reasonAgainstLine inforce x1 z_15 1) (fun z_18 => F_X3_reasonAgainstNumbers_70 cnt ps qs rs fs inforce x1 x2 x3 z_18))))) else (F_X3_reasonAgainstNumbers_70 cnt ps qs rs fs inforce x1 x2 x3 x4)
def f_X3_reasonAgainstNumbers (cnt : Int32) (ps : Nat → Int32) (qs : Nat → Int32) (rs : Nat → Int32) (fs : Nat → Int32) (inforce : Nat → Int32) (x1 : Int32) (x2 : Int32) (x3 : Int32) : Int32 := if x3 < 1 then (F_X3_reasonAgainstNumbers_34 cnt ps qs rs fs inforce x1 x2 x3 0) else (pz_bnd (f_X2_pOf ps x1) (fun z_20 => if x2 = 10 then (pz_bnd (f_X3_reasonAgainstLine inforce x1 z_20 0) (fun z_22 => F_X3_reasonAgainstNumbers_34 cnt ps qs rs fs inforce x1 x2 x3 z_22)) else (pz_bnd (f_X3_reasonAgainstLine inforce x1 z_20 1) (fun z_23 => F_X3_reasonAgainstNumbers_34 cnt ps qs rs fs inforce x1 x2 x3 z_23))))
theorem fl_X3_reasonAgainstNumbers_10 : Cond.fieldLink RX3 10 "BoxProofs" "known" "LBoxProofs$Formulas;" ∈ wsX3_reasonAgainstNumbers := by decide +kernel
theorem fl_X3_reasonAgainstNumbers_19 : Cond.fieldLink RX3 19 "BoxProofs" "proof" "LBoxProofs$Lines;" ∈ wsX3_reasonAgainstNumbers := by decide +kernel
theorem hdS_X3_takesFormula : yX3_takesFormula.cls ≠ "java/lang/invoke/MethodHandle" ∧ yX3_takesFormula.cls ≠ "java/lang/invoke/VarHandle" ∧ (parseMethodDescriptor yX3_takesFormula.desc).map (fun d => d.parameters.length) = some 1 := by decide +kernel
theorem hdV_X2_formulaOf : yX2_formulaOf.cls = RX2 ∧ yX2_formulaOf.cls ≠ "java/lang/invoke/MethodHandle" ∧ yX2_formulaOf.cls ≠ "java/lang/invoke/VarHandle" ∧ (parseMethodDescriptor yX2_formulaOf.desc).map (fun d => d.parameters.length) = some 1 := by decide +kernel
theorem hdV_X2_pOf : yX2_pOf.cls = RX2 ∧ yX2_pOf.cls ≠ "java/lang/invoke/MethodHandle" ∧ yX2_pOf.cls ≠ "java/lang/invoke/VarHandle" ∧ (parseMethodDescriptor yX2_pOf.desc).map (fun d => d.parameters.length) = some 1 := by decide +kernel
theorem hdV_X2_qOf : yX2_qOf.cls = RX2 ∧ yX2_qOf.cls ≠ "java/lang/invoke/MethodHandle" ∧ yX2_qOf.cls ≠ "java/lang/invoke/VarHandle" ∧ (parseMethodDescriptor yX2_qOf.desc).map (fun d => d.parameters.length) = some 1 := by decide +kernel
theorem hdV_X2_rOf : yX2_rOf.cls = RX2 ∧ yX2_rOf.cls ≠ "java/lang/invoke/MethodHandle" ∧ yX2_rOf.cls ≠ "java/lang/invoke/VarHandle" ∧ (parseMethodDescriptor yX2_rOf.desc).map (fun d => d.parameters.length) = some 1 := by decide +kernel
theorem hdV_X3_reasonAgainstLine : yX3_reasonAgainstLine.cls = RX3 ∧ yX3_reasonAgainstLine.cls ≠ "java/lang/invoke/MethodHandle" ∧ yX3_reasonAgainstLine.cls ≠ "java/lang/invoke/VarHandle" ∧ (parseMethodDescriptor yX3_reasonAgainstLine.desc).map (fun d => d.parameters.length) = some 3 := by decide +kernel
theorem in_X3_reasonAgainstNumbers_X3 : ∀ w ∈ wsX30, w ∈ wsX3_reasonAgainstNumbers := by decide +kernel
set_option maxHeartbeats 4000000 in
set_option maxRecDepth 100000 in
theorem k_X3_reasonAgainstNumbers_106 {p : Program} {l : Launch} {e : Env} {s : State} {m : MethodId} {args : Array Value} {below : List Frame} {meth : Method} {c : Code} {D : va_G} {q : Nat → Nat} {k : Nat → ClassId} {t : Nat → Nat} (hC : pz_C p s m args meth c cX3_reasonAgainstNumbers wsX3_reasonAgainstNumbers RX3 5 (some .int)) (hKX : pz_KX D q k t s) (cnt : Int32) (kinds : Nat → Int32) (firsts : Nat → Int32) (seconds : Nat → Int32) (heights : Nat → Int32) (tables : Nat → Int64) (replaced : Nat → Int32) (laid : Nat → Int32) (rules : Nat → Int32) (ps : Nat → Int32) (qs : Nat → Int32) (rs : Nat → Int32) (fs : Nat → Int32) (frules : Nat → Int32) (heads : Nat → Int32) (ends : Nat → Int32) (inforce : Nat → Int32) (usable : Nat → Int32) (summ : Nat → Int32) {G : Int32} :
    ∀ (x1 : Int32) (x2 : Int32) (x3 : Int32) (x4 : Int32)   (H : Heap) (locs : List Loc) (ls : Array Slot), G = F_X3_reasonAgainstNumbers_106 cnt ps qs rs fs inforce x1 x2 x3 x4 → va_P D vwCl (pz_X q k cnt kinds firsts seconds heights tables replaced laid rules ps qs rs fs frules heads ends inforce usable summ) H → va_S (pz_A 22 q) s.heap H locs → lv_has ls 5 [(0, .ref (q 0)), (1, .int (x1)), (2, .int (x2)), (3, .int (x3)), (4, .int (x4))] → W p l e (headSpec wsX3_reasonAgainstNumbers { frames := 3, cells := 0, slots := 0, locals := 64 }).room s m args below meth c H locs 0 0 (MQ below (va_Qi (fun r (_ : Unit) => r = G) (fun _ t => va_P D vwCl (pz_X q k cnt kinds firsts seconds heights tables replaced laid rules ps qs rs fs frules heads ends inforce usable summ) t.heap) (pz_A 22 q)) args s 0 0 (pz_A 22 q)) (F0 m 106 ls []) := by
  obtain ⟨hx, hb, hml, hown, hts, hr, hlocks⟩ := hC
  have hC : pz_C p s m args meth c cX3_reasonAgainstNumbers wsX3_reasonAgainstNumbers RX3 5 (some .int) := ⟨hx, hb, hml, hown, hts, hr, hlocks⟩
  have hK := hKX.1
  intro x1 x2 x3 x4 H locs ls hF hP hS hl
  unfold F_X3_reasonAgainstNumbers_106 at hF
  refine lv_iload hx hb dX3_reasonAgainstNumbers_106 (lv_at hl 4 rfl) ?_
  refine lv_if_ne (tgt := 139) hx hb dX3_reasonAgainstNumbers_108 (by decide) (fun c_1 => ?_) (fun c_1 => ?_)
  · have hF := hF.trans (if_neg c_1)
    refine lv_iload hx hb dX3_reasonAgainstNumbers_139 (lv_at hl 4 rfl) ?_
    exact W.iret (v := x4) hx hb hr (fun t ht hW => ⟨⟨x4, (), rfl, hF.symm, pz_hp ht hP⟩, hS.F ht⟩) hS.2.2 dX3_reasonAgainstNumbers_141 hlocks
  · have hF := hF.trans (if_pos c_1)
    refine lv_iload_n hx hb dX3_reasonAgainstNumbers_111 rfl (lv_at hl 2 rfl) ?_
    refine pz_Si (As := [.int (x2)]) (rest := []) ⟨hx, hb, hml, hown, hts⟩ (c_X3_takesFormula l x2) (va_cwS 1 hts gX3_reasonAgainstNumbers_X3_takesFormula rfl rfl rfl hdS_X3_takesFormula ⟨Nat.le_of_ble_eq_true rfl, Nat.le_of_ble_eq_true rfl⟩) hP hS rfl hl.1 rfl (Nat.le_of_ble_eq_true rfl) dX3_reasonAgainstNumbers_112 ⟨Nat.zero_le _, Nat.zero_le _⟩ (fun r_2 H locs hF_2 hP hS => ?_)
    have hF := hF.trans (pz_be hF_2)
    refine lv_if_eq (tgt := 139) hx hb dX3_reasonAgainstNumbers_115 (by decide) (fun c_3 => ?_) (fun c_3 => ?_)
    · have hF := hF.trans (if_pos c_3)
      refine lv_iload hx hb dX3_reasonAgainstNumbers_139 (lv_at hl 4 rfl) ?_
      exact W.iret (v := x4) hx hb hr (fun t ht hW => ⟨⟨x4, (), rfl, hF.symm, pz_hp ht hP⟩, hS.F ht⟩) hS.2.2 dX3_reasonAgainstNumbers_141 hlocks
    · have hF := hF.trans (if_neg c_3)
      refine lv_aload_n hx hb dX3_reasonAgainstNumbers_118 rfl (lv_at hl 0 rfl) ?_
      refine va_get (D := D) (ci := 3) (v := .ref (q 1)) (C := RX3) (T := TX3) (N := 3) hx hb hts in_X3_reasonAgainstNumbers_X3 hown hK hP 0 rfl rfl 0 (by decide) (hts _ fl_X3_reasonAgainstNumbers_10) (fun _ h9 => h9) rfl dX3_reasonAgainstNumbers_119 ?_
      refine lv_aload_n hx hb dX3_reasonAgainstNumbers_122 rfl (lv_at hl 0 rfl) ?_
      refine va_get (D := D) (ci := 3) (v := .ref (q 2)) (C := RX3) (T := TX3) (N := 3) hx hb hts in_X3_reasonAgainstNumbers_X3 hown hK hP 0 rfl rfl 1 (by decide) (hts _ fl_X3_reasonAgainstNumbers_19) (fun _ h9 => h9) rfl dX3_reasonAgainstNumbers_123 ?_
      refine lv_iload_n hx hb dX3_reasonAgainstNumbers_126 rfl (lv_at hl 1 rfl) ?_
      refine pz_Vi (As := [.int (x1)]) (rest := [.ref (q 1)]) ⟨hx, hb, hml, hown, hts⟩ (c_X2_formulaOf l D q k t cnt kinds firsts seconds heights tables replaced laid rules ps qs rs fs frules heads ends inforce usable summ x1) (cwV 1 hts gX3_reasonAgainstNumbers_X2_formulaOf rfl rfl rfl hdV_X2_formulaOf ⟨Nat.le_of_ble_eq_true rfl, Nat.le_of_ble_eq_true rfl⟩) pz_KX.call (hKX.go hS) (va_recv hK hP (ci := 2) (q0 := 2) rfl rfl) hP hS rfl hl.1 rfl (Nat.le_of_ble_eq_true rfl) dX3_reasonAgainstNumbers_127 ⟨Nat.zero_le _, Nat.zero_le _⟩ (fun r_4 u_4 H locs hF_4 hP hS => ?_)
      have hF := hF.trans (pz_be hF_4)
      refine pz_Vi (As := [.int (r_4)]) (rest := []) ⟨hx, hb, hml, hown, hts⟩ (c_X1_has l D q k t cnt kinds firsts seconds heights tables replaced laid rules ps qs rs fs frules heads ends inforce usable summ r_4) (cwV 1 hts gX3_reasonAgainstNumbers_X1_has rfl rfl rfl hdV_X1_has ⟨Nat.le_of_ble_eq_true rfl, Nat.le_of_ble_eq_true rfl⟩) pz_KX.call (hKX.go hS) (va_recv hK hP (ci := 1) (q0 := 1) rfl rfl) hP hS rfl hl.1 rfl (Nat.le_of_ble_eq_true rfl) dX3_reasonAgainstNumbers_130 ⟨Nat.zero_le _, Nat.zero_le _⟩ (fun r_5 u_5 H locs hF_5 hP hS => ?_)
      have hF := hF.trans (pz_be hF_5)
      refine lv_if_ne (tgt := 139) hx hb dX3_reasonAgainstNumbers_133 (by decide) (fun c_6 => ?_) (fun c_6 => ?_)
      · have hF := hF.trans (if_neg c_6)
        refine lv_iload hx hb dX3_reasonAgainstNumbers_139 (lv_at hl 4 rfl) ?_
        exact W.iret (v := x4) hx hb hr (fun t ht hW => ⟨⟨x4, (), rfl, hF.symm, pz_hp ht hP⟩, hS.F ht⟩) hS.2.2 dX3_reasonAgainstNumbers_141 hlocks
      · have hF := hF.trans (if_pos c_6)
        refine lv_iconst (v := 1) hx hb dX3_reasonAgainstNumbers_136 (by decide) ?_
        refine lv_istore (lv' := [(4, .int (1)), (0, .ref (q 0)), (1, .int (x1)), (2, .int (x2)), (3, .int (x3))]) hx hb dX3_reasonAgainstNumbers_137 hl (by decide) rfl (fun ls hl => ?_)
        refine lv_iload hx hb dX3_reasonAgainstNumbers_139 (lv_at hl 0 rfl) ?_
        exact W.iret (v := 1) hx hb hr (fun t ht hW => ⟨⟨1, (), rfl, hF.symm, pz_hp ht hP⟩, hS.F ht⟩) hS.2.2 dX3_reasonAgainstNumbers_141 hlocks
set_option maxHeartbeats 4000000 in
set_option maxRecDepth 100000 in
theorem k_X3_reasonAgainstNumbers_70 {p : Program} {l : Launch} {e : Env} {s : State} {m : MethodId} {args : Array Value} {below : List Frame} {meth : Method} {c : Code} {D : va_G} {q : Nat → Nat} {k : Nat → ClassId} {t : Nat → Nat} (hC : pz_C p s m args meth c cX3_reasonAgainstNumbers wsX3_reasonAgainstNumbers RX3 5 (some .int)) (hKX : pz_KX D q k t s) (cnt : Int32) (kinds : Nat → Int32) (firsts : Nat → Int32) (seconds : Nat → Int32) (heights : Nat → Int32) (tables : Nat → Int64) (replaced : Nat → Int32) (laid : Nat → Int32) (rules : Nat → Int32) (ps : Nat → Int32) (qs : Nat → Int32) (rs : Nat → Int32) (fs : Nat → Int32) (frules : Nat → Int32) (heads : Nat → Int32) (ends : Nat → Int32) (inforce : Nat → Int32) (usable : Nat → Int32) (summ : Nat → Int32) {G : Int32} :
    ∀ (x1 : Int32) (x2 : Int32) (x3 : Int32) (x4 : Int32)   (H : Heap) (locs : List Loc) (ls : Array Slot), G = F_X3_reasonAgainstNumbers_70 cnt ps qs rs fs inforce x1 x2 x3 x4 → va_P D vwCl (pz_X q k cnt kinds firsts seconds heights tables replaced laid rules ps qs rs fs frules heads ends inforce usable summ) H → va_S (pz_A 22 q) s.heap H locs → lv_has ls 5 [(0, .ref (q 0)), (1, .int (x1)), (2, .int (x2)), (3, .int (x3)), (4, .int (x4))] → W p l e (headSpec wsX3_reasonAgainstNumbers { frames := 3, cells := 0, slots := 0, locals := 64 }).room s m args below meth c H locs 0 0 (MQ below (va_Qi (fun r (_ : Unit) => r = G) (fun _ t => va_P D vwCl (pz_X q k cnt kinds firsts seconds heights tables replaced laid rules ps qs rs fs frules heads ends inforce usable summ) t.heap) (pz_A 22 q)) args s 0 0 (pz_A 22 q)) (F0 m 70 ls []) := by
  obtain ⟨hx, hb, hml, hown, hts, hr, hlocks⟩ := hC
  have hC : pz_C p s m args meth c cX3_reasonAgainstNumbers wsX3_reasonAgainstNumbers RX3 5 (some .int) := ⟨hx, hb, hml, hown, hts, hr, hlocks⟩
  have hK := hKX.1
  intro x1 x2 x3 x4 H locs ls hF hP hS hl
  unfold F_X3_reasonAgainstNumbers_70 at hF
  refine lv_iload hx hb dX3_reasonAgainstNumbers_70 (lv_at hl 4 rfl) ?_
  refine lv_if_ne (tgt := 106) hx hb dX3_reasonAgainstNumbers_72 (by decide) (fun c_7 => ?_) (fun c_7 => ?_)
  · have hF := hF.trans (if_neg c_7)
    exact k_X3_reasonAgainstNumbers_106 hC hKX cnt kinds firsts seconds heights tables replaced laid rules ps qs rs fs frules heads ends inforce usable summ x1 x2 x3 x4 _ _ _ hF hP hS (lv_sub hl [0, 1, 2, 3, 4] rfl)
  · have hF := hF.trans (if_pos c_7)
    refine lv_iload_n hx hb dX3_reasonAgainstNumbers_75 rfl (lv_at hl 3 rfl) ?_
    refine lv_iconst (v := 3) hx hb dX3_reasonAgainstNumbers_76 (by decide) ?_
    refine lv_icmp_lt (tgt := 106) hx hb dX3_reasonAgainstNumbers_77 (by decide) (fun c_8 => ?_) (fun c_8 => ?_)
    · have hF := hF.trans (if_pos c_8)
      exact k_X3_reasonAgainstNumbers_106 hC hKX cnt kinds firsts seconds heights tables replaced laid rules ps qs rs fs frules heads ends inforce usable summ x1 x2 x3 x4 _ _ _ hF hP hS (lv_sub hl [0, 1, 2, 3, 4] rfl)
    · have hF := hF.trans (if_neg c_8)
      refine lv_aload_n hx hb dX3_reasonAgainstNumbers_80 rfl (lv_at hl 0 rfl) ?_
      refine lv_iload_n hx hb dX3_reasonAgainstNumbers_81 rfl (lv_at hl 1 rfl) ?_
      refine lv_aload_n hx hb dX3_reasonAgainstNumbers_82 rfl (lv_at hl 0 rfl) ?_
      refine va_get (D := D) (ci := 3) (v := .ref (q 2)) (C := RX3) (T := TX3) (N := 3) hx hb hts in_X3_reasonAgainstNumbers_X3 hown hK hP 0 rfl rfl 1 (by decide) (hts _ fl_X3_reasonAgainstNumbers_19) (fun _ h9 => h9) rfl dX3_reasonAgainstNumbers_83 ?_
      refine lv_iload_n hx hb dX3_reasonAgainstNumbers_86 rfl (lv_at hl 1 rfl) ?_
      refine pz_Vi (As := [.int (x1)]) (rest := [.int (x1), .ref (q 0)]) ⟨hx, hb, hml, hown, hts⟩ (c_X2_rOf l D q k t cnt kinds firsts seconds heights tables replaced laid rules ps qs rs fs frules heads ends inforce usable summ x1) (cwV 1 hts gX3_reasonAgainstNumbers_X2_rOf rfl rfl rfl hdV_X2_rOf ⟨Nat.le_of_ble_eq_true rfl, Nat.le_of_ble_eq_true rfl⟩) pz_KX.call (hKX.go hS) (va_recv hK hP (ci := 2) (q0 := 2) rfl rfl) hP hS rfl hl.1 rfl (Nat.le_of_ble_eq_true rfl) dX3_reasonAgainstNumbers_87 ⟨Nat.zero_le _, Nat.zero_le _⟩ (fun r_9 u_9 H locs hF_9 hP hS => ?_)
      have hF := hF.trans (pz_be hF_9)
      refine lv_iload_n hx hb dX3_reasonAgainstNumbers_90 rfl (lv_at hl 2 rfl) ?_
      refine lv_bipush (v := 9) hx hb dX3_reasonAgainstNumbers_91 (by decide) ?_
      refine lv_icmp_eq (tgt := 100) hx hb dX3_reasonAgainstNumbers_93 (by decide) (fun c_10 => ?_) (fun c_10 => ?_)
      · have hF := hF.trans (if_pos c_10)
        refine lv_iconst (v := 0) hx hb dX3_reasonAgainstNumbers_100 (by decide) ?_
        refine pz_Vi (As := [.int (x1), .int (r_9), .int (0)]) (rest := []) ⟨hx, hb, hml, hown, hts⟩ (c_X3_reasonAgainstLine l D q k t cnt kinds firsts seconds heights tables replaced laid rules ps qs rs fs frules heads ends inforce usable summ x1 r_9 0) (cwV 3 hts gX3_reasonAgainstNumbers_X3_reasonAgainstLine rfl rfl rfl hdV_X3_reasonAgainstLine ⟨Nat.le_of_ble_eq_true rfl, Nat.le_of_ble_eq_true rfl⟩) pz_KX.call (hKX.go hS) (va_recv hK hP (ci := 3) (q0 := 0) rfl rfl) hP hS rfl hl.1 rfl (Nat.le_of_ble_eq_true rfl) dX3_reasonAgainstNumbers_101 ⟨Nat.zero_le _, Nat.zero_le _⟩ (fun r_11 u_11 H locs hF_11 hP hS => ?_)
        have hF := hF.trans (pz_be hF_11)
        refine lv_istore (lv' := [(4, .int (r_11)), (0, .ref (q 0)), (1, .int (x1)), (2, .int (x2)), (3, .int (x3))]) hx hb dX3_reasonAgainstNumbers_104 hl (by decide) rfl (fun ls hl => ?_)
        exact k_X3_reasonAgainstNumbers_106 hC hKX cnt kinds firsts seconds heights tables replaced laid rules ps qs rs fs frules heads ends inforce usable summ x1 x2 x3 r_11 _ _ _ hF hP hS (lv_sub hl [1, 2, 3, 4, 0] rfl)
      · have hF := hF.trans (if_neg c_10)
        refine lv_iconst (v := 1) hx hb dX3_reasonAgainstNumbers_96 (by decide) ?_
        refine lv_goto (tgt := 101) hx hb dX3_reasonAgainstNumbers_97 (by decide) ?_
        refine pz_Vi (As := [.int (x1), .int (r_9), .int (1)]) (rest := []) ⟨hx, hb, hml, hown, hts⟩ (c_X3_reasonAgainstLine l D q k t cnt kinds firsts seconds heights tables replaced laid rules ps qs rs fs frules heads ends inforce usable summ x1 r_9 1) (cwV 3 hts gX3_reasonAgainstNumbers_X3_reasonAgainstLine rfl rfl rfl hdV_X3_reasonAgainstLine ⟨Nat.le_of_ble_eq_true rfl, Nat.le_of_ble_eq_true rfl⟩) pz_KX.call (hKX.go hS) (va_recv hK hP (ci := 3) (q0 := 0) rfl rfl) hP hS rfl hl.1 rfl (Nat.le_of_ble_eq_true rfl) dX3_reasonAgainstNumbers_101 ⟨Nat.zero_le _, Nat.zero_le _⟩ (fun r_12 u_12 H locs hF_12 hP hS => ?_)
        have hF := hF.trans (pz_be hF_12)
        refine lv_istore (lv' := [(4, .int (r_12)), (0, .ref (q 0)), (1, .int (x1)), (2, .int (x2)), (3, .int (x3))]) hx hb dX3_reasonAgainstNumbers_104 hl (by decide) rfl (fun ls hl => ?_)
        exact k_X3_reasonAgainstNumbers_106 hC hKX cnt kinds firsts seconds heights tables replaced laid rules ps qs rs fs frules heads ends inforce usable summ x1 x2 x3 r_12 _ _ _ hF hP hS (lv_sub hl [1, 2, 3, 4, 0] rfl)
set_option maxHeartbeats 4000000 in
set_option maxRecDepth 100000 in
theorem k_X3_reasonAgainstNumbers_34 {p : Program} {l : Launch} {e : Env} {s : State} {m : MethodId} {args : Array Value} {below : List Frame} {meth : Method} {c : Code} {D : va_G} {q : Nat → Nat} {k : Nat → ClassId} {t : Nat → Nat} (hC : pz_C p s m args meth c cX3_reasonAgainstNumbers wsX3_reasonAgainstNumbers RX3 5 (some .int)) (hKX : pz_KX D q k t s) (cnt : Int32) (kinds : Nat → Int32) (firsts : Nat → Int32) (seconds : Nat → Int32) (heights : Nat → Int32) (tables : Nat → Int64) (replaced : Nat → Int32) (laid : Nat → Int32) (rules : Nat → Int32) (ps : Nat → Int32) (qs : Nat → Int32) (rs : Nat → Int32) (fs : Nat → Int32) (frules : Nat → Int32) (heads : Nat → Int32) (ends : Nat → Int32) (inforce : Nat → Int32) (usable : Nat → Int32) (summ : Nat → Int32) {G : Int32} :
    ∀ (x1 : Int32) (x2 : Int32) (x3 : Int32) (x4 : Int32)   (H : Heap) (locs : List Loc) (ls : Array Slot), G = F_X3_reasonAgainstNumbers_34 cnt ps qs rs fs inforce x1 x2 x3 x4 → va_P D vwCl (pz_X q k cnt kinds firsts seconds heights tables replaced laid rules ps qs rs fs frules heads ends inforce usable summ) H → va_S (pz_A 22 q) s.heap H locs → lv_has ls 5 [(0, .ref (q 0)), (1, .int (x1)), (2, .int (x2)), (3, .int (x3)), (4, .int (x4))] → W p l e (headSpec wsX3_reasonAgainstNumbers { frames := 3, cells := 0, slots := 0, locals := 64 }).room s m args below meth c H locs 0 0 (MQ below (va_Qi (fun r (_ : Unit) => r = G) (fun _ t => va_P D vwCl (pz_X q k cnt kinds firsts seconds heights tables replaced laid rules ps qs rs fs frules heads ends inforce usable summ) t.heap) (pz_A 22 q)) args s 0 0 (pz_A 22 q)) (F0 m 34 ls []) := by
  obtain ⟨hx, hb, hml, hown, hts, hr, hlocks⟩ := hC
  have hC : pz_C p s m args meth c cX3_reasonAgainstNumbers wsX3_reasonAgainstNumbers RX3 5 (some .int) := ⟨hx, hb, hml, hown, hts, hr, hlocks⟩
  have hK := hKX.1
  intro x1 x2 x3 x4 H locs ls hF hP hS hl
  unfold F_X3_reasonAgainstNumbers_34 at hF
  refine lv_iload hx hb dX3_reasonAgainstNumbers_34 (lv_at hl 4 rfl) ?_
  refine lv_if_ne (tgt := 70) hx hb dX3_reasonAgainstNumbers_36 (by decide) (fun c_13 => ?_) (fun c_13 => ?_)
  · have hF := hF.trans (if_neg c_13)
    exact k_X3_reasonAgainstNumbers_70 hC hKX cnt kinds firsts seconds heights tables replaced laid rules ps qs rs fs frules heads ends inforce usable summ x1 x2 x3 x4 _ _ _ hF hP hS (lv_sub hl [0, 1, 2, 3, 4] rfl)
  · have hF := hF.trans (if_pos c_13)
    refine lv_iload_n hx hb dX3_reasonAgainstNumbers_39 rfl (lv_at hl 3 rfl) ?_
    refine lv_iconst (v := 2) hx hb dX3_reasonAgainstNumbers_40 (by decide) ?_
    refine lv_icmp_lt (tgt := 70) hx hb dX3_reasonAgainstNumbers_41 (by decide) (fun c_14 => ?_) (fun c_14 => ?_)
    · have hF := hF.trans (if_pos c_14)
      exact k_X3_reasonAgainstNumbers_70 hC hKX cnt kinds firsts seconds heights tables replaced laid rules ps qs rs fs frules heads ends inforce usable summ x1 x2 x3 x4 _ _ _ hF hP hS (lv_sub hl [0, 1, 2, 3, 4] rfl)
    · have hF := hF.trans (if_neg c_14)
      refine lv_aload_n hx hb dX3_reasonAgainstNumbers_44 rfl (lv_at hl 0 rfl) ?_
      refine lv_iload_n hx hb dX3_reasonAgainstNumbers_45 rfl (lv_at hl 1 rfl) ?_
      refine lv_aload_n hx hb dX3_reasonAgainstNumbers_46 rfl (lv_at hl 0 rfl) ?_
      refine va_get (D := D) (ci := 3) (v := .ref (q 2)) (C := RX3) (T := TX3) (N := 3) hx hb hts in_X3_reasonAgainstNumbers_X3 hown hK hP 0 rfl rfl 1 (by decide) (hts _ fl_X3_reasonAgainstNumbers_19) (fun _ h9 => h9) rfl dX3_reasonAgainstNumbers_47 ?_
      refine lv_iload_n hx hb dX3_reasonAgainstNumbers_50 rfl (lv_at hl 1 rfl) ?_
      refine pz_Vi (As := [.int (x1)]) (rest := [.int (x1), .ref (q 0)]) ⟨hx, hb, hml, hown, hts⟩ (c_X2_qOf l D q k t cnt kinds firsts seconds heights tables replaced laid rules ps qs rs fs frules heads ends inforce usable summ x1) (cwV 1 hts gX3_reasonAgainstNumbers_X2_qOf rfl rfl rfl hdV_X2_qOf ⟨Nat.le_of_ble_eq_true rfl, Nat.le_of_ble_eq_true rfl⟩) pz_KX.call (hKX.go hS) (va_recv hK hP (ci := 2) (q0 := 2) rfl rfl) hP hS rfl hl.1 rfl (Nat.le_of_ble_eq_true rfl) dX3_reasonAgainstNumbers_51 ⟨Nat.zero_le _, Nat.zero_le _⟩ (fun r_15 u_15 H locs hF_15 hP hS => ?_)
      have hF := hF.trans (pz_be hF_15)
      refine lv_iload_n hx hb dX3_reasonAgainstNumbers_54 rfl (lv_at hl 2 rfl) ?_
      refine lv_bipush (v := 9) hx hb dX3_reasonAgainstNumbers_55 (by decide) ?_
      refine lv_icmp_eq (tgt := 64) hx hb dX3_reasonAgainstNumbers_57 (by decide) (fun c_16 => ?_) (fun c_16 => ?_)
      · have hF := hF.trans (if_pos c_16)
        refine lv_iconst (v := 0) hx hb dX3_reasonAgainstNumbers_64 (by decide) ?_
        refine pz_Vi (As := [.int (x1), .int (r_15), .int (0)]) (rest := []) ⟨hx, hb, hml, hown, hts⟩ (c_X3_reasonAgainstLine l D q k t cnt kinds firsts seconds heights tables replaced laid rules ps qs rs fs frules heads ends inforce usable summ x1 r_15 0) (cwV 3 hts gX3_reasonAgainstNumbers_X3_reasonAgainstLine rfl rfl rfl hdV_X3_reasonAgainstLine ⟨Nat.le_of_ble_eq_true rfl, Nat.le_of_ble_eq_true rfl⟩) pz_KX.call (hKX.go hS) (va_recv hK hP (ci := 3) (q0 := 0) rfl rfl) hP hS rfl hl.1 rfl (Nat.le_of_ble_eq_true rfl) dX3_reasonAgainstNumbers_65 ⟨Nat.zero_le _, Nat.zero_le _⟩ (fun r_17 u_17 H locs hF_17 hP hS => ?_)
        have hF := hF.trans (pz_be hF_17)
        refine lv_istore (lv' := [(4, .int (r_17)), (0, .ref (q 0)), (1, .int (x1)), (2, .int (x2)), (3, .int (x3))]) hx hb dX3_reasonAgainstNumbers_68 hl (by decide) rfl (fun ls hl => ?_)
        exact k_X3_reasonAgainstNumbers_70 hC hKX cnt kinds firsts seconds heights tables replaced laid rules ps qs rs fs frules heads ends inforce usable summ x1 x2 x3 r_17 _ _ _ hF hP hS (lv_sub hl [1, 2, 3, 4, 0] rfl)
      · have hF := hF.trans (if_neg c_16)
        refine lv_iconst (v := 1) hx hb dX3_reasonAgainstNumbers_60 (by decide) ?_
        refine lv_goto (tgt := 65) hx hb dX3_reasonAgainstNumbers_61 (by decide) ?_
        refine pz_Vi (As := [.int (x1), .int (r_15), .int (1)]) (rest := []) ⟨hx, hb, hml, hown, hts⟩ (c_X3_reasonAgainstLine l D q k t cnt kinds firsts seconds heights tables replaced laid rules ps qs rs fs frules heads ends inforce usable summ x1 r_15 1) (cwV 3 hts gX3_reasonAgainstNumbers_X3_reasonAgainstLine rfl rfl rfl hdV_X3_reasonAgainstLine ⟨Nat.le_of_ble_eq_true rfl, Nat.le_of_ble_eq_true rfl⟩) pz_KX.call (hKX.go hS) (va_recv hK hP (ci := 3) (q0 := 0) rfl rfl) hP hS rfl hl.1 rfl (Nat.le_of_ble_eq_true rfl) dX3_reasonAgainstNumbers_65 ⟨Nat.zero_le _, Nat.zero_le _⟩ (fun r_18 u_18 H locs hF_18 hP hS => ?_)
        have hF := hF.trans (pz_be hF_18)
        refine lv_istore (lv' := [(4, .int (r_18)), (0, .ref (q 0)), (1, .int (x1)), (2, .int (x2)), (3, .int (x3))]) hx hb dX3_reasonAgainstNumbers_68 hl (by decide) rfl (fun ls hl => ?_)
        exact k_X3_reasonAgainstNumbers_70 hC hKX cnt kinds firsts seconds heights tables replaced laid rules ps qs rs fs frules heads ends inforce usable summ x1 x2 x3 r_18 _ _ _ hF hP hS (lv_sub hl [1, 2, 3, 4, 0] rfl)
set_option maxHeartbeats 4000000 in
set_option maxRecDepth 100000 in
theorem c_X3_reasonAgainstNumbers (l : Launch) (D : va_G) (q : Nat → Nat) (k : Nat → ClassId) (t : Nat → Nat) (cnt : Int32) (kinds : Nat → Int32) (firsts : Nat → Int32) (seconds : Nat → Int32) (heights : Nat → Int32) (tables : Nat → Int64) (replaced : Nat → Int32) (laid : Nat → Int32) (rules : Nat → Int32) (ps : Nat → Int32) (qs : Nat → Int32) (rs : Nat → Int32) (fs : Nat → Int32) (frules : Nat → Int32) (heads : Nat → Int32) (ends : Nat → Int32) (inforce : Nat → Int32) (usable : Nat → Int32) (summ : Nat → Int32) (x1 : Int32) (x2 : Int32) (x3 : Int32)  : Met l yX3_reasonAgainstNumbers wsX3_reasonAgainstNumbers ({ frames := 3, cells := 0, slots := 0, locals := 64 }) (va_Pc [.ref (q 0), .int (x1), .int (x2), .int (x3)] (fun U => va_P D vwCl (pz_X q k cnt kinds firsts seconds heights tables replaced laid rules ps qs rs fs frules heads ends inforce usable summ) U.heap ∧ pz_KX D q k t U)) (va_Qi (fun r (_ : Unit) => r = (f_X3_reasonAgainstNumbers cnt ps qs rs fs inforce x1 x2 x3)) (fun _ t => va_P D vwCl (pz_X q k cnt kinds firsts seconds heights tables replaced laid rules ps qs rs fs frules heads ends inforce usable summ) t.heap) (pz_A 22 q)) 0 0 (pz_A 22 q) := by
  refine Met.ofW (cc := cX3_reasonAgainstNumbers) (maxL := 5) (ret := (some .int)) (by decide) rfl ?_
  intro p e s m args below meth c s₁ B hml hv
  obtain ⟨rfl, hP, hKX⟩ := hv
  have hx := B.exec
  have hb := B.bytes
  have hr := B.returns
  have hts := atoms_spec (ws := wsX3_reasonAgainstNumbers) B.pre
  have hown : s.vm.findClass RX3 = some m.cls := findClass_of_methodNamed B.named
  have hlocks := B.notSynchronized
  have hC : pz_C p s m ([.ref (q 0), .int (x1), .int (x2), .int (x3)] : List Value).toArray meth c cX3_reasonAgainstNumbers wsX3_reasonAgainstNumbers RX3 5 (some .int) := ⟨hx, hb, hml, hown, hts, hr, hlocks⟩
  have hK := hKX.1
  have hS : va_S (pz_A 22 q) s.heap s.heap [] := va_S.rf
  have hl := lv_entry [.ref (q 0), .int (x1), .int (x2), .int (x3)] (n := 5) (Nat.le_of_ble_eq_true rfl)
  rw [lg_entry_eq]
  generalize (lg_sl [.ref (q 0), .int (x1), .int (x2), .int (x3)] ++ List.replicate (5 - (lg_sl [.ref (q 0), .int (x1), .int (x2), .int (x3)]).length) Slot.unset).toArray = ls at hl ⊢
  have hl : lv_has ls 5 [(0, .ref (q 0)), (1, .int (x1)), (2, .int (x2)), (3, .int (x3))] := hl
  generalize hF : f_X3_reasonAgainstNumbers cnt ps qs rs fs inforce x1 x2 x3 = G
  replace hF := hF.symm
  unfold f_X3_reasonAgainstNumbers at hF
  refine lv_iconst (v := 0) hx hb dX3_reasonAgainstNumbers_0 (by decide) ?_
  refine lv_istore (lv' := [(4, .int (0)), (0, .ref (q 0)), (1, .int (x1)), (2, .int (x2)), (3, .int (x3))]) hx hb dX3_reasonAgainstNumbers_1 hl (by decide) rfl (fun ls hl => ?_)
  refine lv_iload_n hx hb dX3_reasonAgainstNumbers_3 rfl (lv_at hl 4 rfl) ?_
  refine lv_iconst (v := 1) hx hb dX3_reasonAgainstNumbers_4 (by decide) ?_
  refine lv_icmp_lt (tgt := 34) hx hb dX3_reasonAgainstNumbers_5 (by decide) (fun c_19 => ?_) (fun c_19 => ?_)
  · have hF := hF.trans (if_pos c_19)
    exact k_X3_reasonAgainstNumbers_34 hC hKX cnt kinds firsts seconds heights tables replaced laid rules ps qs rs fs frules heads ends inforce usable summ x1 x2 x3 0 _ _ _ hF hP hS (lv_sub hl [1, 2, 3, 4, 0] rfl)
  · have hF := hF.trans (if_neg c_19)
    refine lv_aload_n hx hb dX3_reasonAgainstNumbers_8 rfl (lv_at hl 1 rfl) ?_
    refine lv_iload_n hx hb dX3_reasonAgainstNumbers_9 rfl (lv_at hl 2 rfl) ?_
    refine lv_aload_n hx hb dX3_reasonAgainstNumbers_10 rfl (lv_at hl 1 rfl) ?_
    refine va_get (D := D) (ci := 3) (v := .ref (q 2)) (C := RX3) (T := TX3) (N := 3) hx hb hts in_X3_reasonAgainstNumbers_X3 hown hK hP 0 rfl rfl 1 (by decide) (hts _ fl_X3_reasonAgainstNumbers_19) (fun _ h9 => h9) rfl dX3_reasonAgainstNumbers_11 ?_
    refine lv_iload_n hx hb dX3_reasonAgainstNumbers_14 rfl (lv_at hl 2 rfl) ?_
    refine pz_Vi (As := [.int (x1)]) (rest := [.int (x1), .ref (q 0)]) ⟨hx, hb, hml, hown, hts⟩ (c_X2_pOf l D q k t cnt kinds firsts seconds heights tables replaced laid rules ps qs rs fs frules heads ends inforce usable summ x1) (cwV 1 hts gX3_reasonAgainstNumbers_X2_pOf rfl rfl rfl hdV_X2_pOf ⟨Nat.le_of_ble_eq_true rfl, Nat.le_of_ble_eq_true rfl⟩) pz_KX.call (hKX.go hS) (va_recv hK hP (ci := 2) (q0 := 2) rfl rfl) hP hS rfl hl.1 rfl (Nat.le_of_ble_eq_true rfl) dX3_reasonAgainstNumbers_15 ⟨Nat.zero_le _, Nat.zero_le _⟩ (fun r_20 u_20 H locs hF_20 hP hS => ?_)
    have hF := hF.trans (pz_be hF_20)
    refine lv_iload_n hx hb dX3_reasonAgainstNumbers_18 rfl (lv_at hl 3 rfl) ?_
    refine lv_bipush (v := 10) hx hb dX3_reasonAgainstNumbers_19 (by decide) ?_
    refine lv_icmp_eq (tgt := 28) hx hb dX3_reasonAgainstNumbers_21 (by decide) (fun c_21 => ?_) (fun c_21 => ?_)
    · have hF := hF.trans (if_pos c_21)
      refine lv_iconst (v := 0) hx hb dX3_reasonAgainstNumbers_28 (by decide) ?_
      refine pz_Vi (As := [.int (x1), .int (r_20), .int (0)]) (rest := []) ⟨hx, hb, hml, hown, hts⟩ (c_X3_reasonAgainstLine l D q k t cnt kinds firsts seconds heights tables replaced laid rules ps qs rs fs frules heads ends inforce usable summ x1 r_20 0) (cwV 3 hts gX3_reasonAgainstNumbers_X3_reasonAgainstLine rfl rfl rfl hdV_X3_reasonAgainstLine ⟨Nat.le_of_ble_eq_true rfl, Nat.le_of_ble_eq_true rfl⟩) pz_KX.call (hKX.go hS) (va_recv hK hP (ci := 3) (q0 := 0) rfl rfl) hP hS rfl hl.1 rfl (Nat.le_of_ble_eq_true rfl) dX3_reasonAgainstNumbers_29 ⟨Nat.zero_le _, Nat.zero_le _⟩ (fun r_22 u_22 H locs hF_22 hP hS => ?_)
      have hF := hF.trans (pz_be hF_22)
      refine lv_istore (lv' := [(4, .int (r_22)), (0, .ref (q 0)), (1, .int (x1)), (2, .int (x2)), (3, .int (x3))]) hx hb dX3_reasonAgainstNumbers_32 hl (by decide) rfl (fun ls hl => ?_)
      exact k_X3_reasonAgainstNumbers_34 hC hKX cnt kinds firsts seconds heights tables replaced laid rules ps qs rs fs frules heads ends inforce usable summ x1 x2 x3 r_22 _ _ _ hF hP hS (lv_sub hl [1, 2, 3, 4, 0] rfl)
    · have hF := hF.trans (if_neg c_21)
      refine lv_iconst (v := 1) hx hb dX3_reasonAgainstNumbers_24 (by decide) ?_
      refine lv_goto (tgt := 29) hx hb dX3_reasonAgainstNumbers_25 (by decide) ?_
      refine pz_Vi (As := [.int (x1), .int (r_20), .int (1)]) (rest := []) ⟨hx, hb, hml, hown, hts⟩ (c_X3_reasonAgainstLine l D q k t cnt kinds firsts seconds heights tables replaced laid rules ps qs rs fs frules heads ends inforce usable summ x1 r_20 1) (cwV 3 hts gX3_reasonAgainstNumbers_X3_reasonAgainstLine rfl rfl rfl hdV_X3_reasonAgainstLine ⟨Nat.le_of_ble_eq_true rfl, Nat.le_of_ble_eq_true rfl⟩) pz_KX.call (hKX.go hS) (va_recv hK hP (ci := 3) (q0 := 0) rfl rfl) hP hS rfl hl.1 rfl (Nat.le_of_ble_eq_true rfl) dX3_reasonAgainstNumbers_29 ⟨Nat.zero_le _, Nat.zero_le _⟩ (fun r_23 u_23 H locs hF_23 hP hS => ?_)
      have hF := hF.trans (pz_be hF_23)
      refine lv_istore (lv' := [(4, .int (r_23)), (0, .ref (q 0)), (1, .int (x1)), (2, .int (x2)), (3, .int (x3))]) hx hb dX3_reasonAgainstNumbers_32 hl (by decide) rfl (fun ls hl => ?_)
      exact k_X3_reasonAgainstNumbers_34 hC hKX cnt kinds firsts seconds heights tables replaced laid rules ps qs rs fs frules heads ends inforce usable summ x1 x2 x3 r_23 _ _ _ hF hP hS (lv_sub hl [1, 2, 3, 4, 0] rfl)

-- == X3_isNegation
def f_X3_isNegation (cnt : Int32) (kinds : Nat → Int32) (seconds : Nat → Int32) (x1 : Int32) : Int32 := pz_bnd (f_X1_kindOf cnt kinds x1) (fun z_1 => if z_1 = 4 then (pz_bnd (f_X1_secondOf cnt seconds x1) (fun z_3 => pz_bnd (f_X1_kindOf cnt kinds z_3) (fun z_4 => if z_4 = 0 then (1) else (0)))) else (0))
theorem fl_X3_isNegation_10 : Cond.fieldLink RX3 10 "BoxProofs" "known" "LBoxProofs$Formulas;" ∈ wsX3_isNegation := by decide +kernel
theorem hdV_X1_kindOf : yX1_kindOf.cls = RX1 ∧ yX1_kindOf.cls ≠ "java/lang/invoke/MethodHandle" ∧ yX1_kindOf.cls ≠ "java/lang/invoke/VarHandle" ∧ (parseMethodDescriptor yX1_kindOf.desc).map (fun d => d.parameters.length) = some 1 := by decide +kernel
theorem hdV_X1_secondOf : yX1_secondOf.cls = RX1 ∧ yX1_secondOf.cls ≠ "java/lang/invoke/MethodHandle" ∧ yX1_secondOf.cls ≠ "java/lang/invoke/VarHandle" ∧ (parseMethodDescriptor yX1_secondOf.desc).map (fun d => d.parameters.length) = some 1 := by decide +kernel
theorem in_X3_isNegation_X3 : ∀ w ∈ wsX30, w ∈ wsX3_isNegation := by decide +kernel
set_option maxHeartbeats 4000000 in
set_option maxRecDepth 100000 in
theorem c_X3_isNegation (l : Launch) (D : va_G) (q : Nat → Nat) (k : Nat → ClassId) (t : Nat → Nat) (cnt : Int32) (kinds : Nat → Int32) (firsts : Nat → Int32) (seconds : Nat → Int32) (heights : Nat → Int32) (tables : Nat → Int64) (replaced : Nat → Int32) (laid : Nat → Int32) (rules : Nat → Int32) (ps : Nat → Int32) (qs : Nat → Int32) (rs : Nat → Int32) (fs : Nat → Int32) (frules : Nat → Int32) (heads : Nat → Int32) (ends : Nat → Int32) (inforce : Nat → Int32) (usable : Nat → Int32) (summ : Nat → Int32) (x1 : Int32) (hc : pz_c cnt) : Met l yX3_isNegation wsX3_isNegation ({ frames := 2, cells := 0, slots := 0, locals := 42 }) (va_Pc [.ref (q 0), .int (x1)] (fun U => va_P D vwCl (pz_X q k cnt kinds firsts seconds heights tables replaced laid rules ps qs rs fs frules heads ends inforce usable summ) U.heap ∧ pz_KX D q k t U)) (va_Qi (fun r (_ : Unit) => r = (f_X3_isNegation cnt kinds seconds x1)) (fun _ t => va_P D vwCl (pz_X q k cnt kinds firsts seconds heights tables replaced laid rules ps qs rs fs frules heads ends inforce usable summ) t.heap) (pz_A 22 q)) 0 0 (pz_A 22 q) := by
  refine Met.ofW (cc := cX3_isNegation) (maxL := 2) (ret := (some .boolean)) (by decide) rfl ?_
  intro p e s m args below meth c s₁ B hml hv
  obtain ⟨rfl, hP, hKX⟩ := hv
  have hx := B.exec
  have hb := B.bytes
  have hr := B.returns
  have hts := atoms_spec (ws := wsX3_isNegation) B.pre
  have hown : s.vm.findClass RX3 = some m.cls := findClass_of_methodNamed B.named
  have hlocks := B.notSynchronized
  have hC : pz_C p s m ([.ref (q 0), .int (x1)] : List Value).toArray meth c cX3_isNegation wsX3_isNegation RX3 2 (some .boolean) := ⟨hx, hb, hml, hown, hts, hr, hlocks⟩
  have hK := hKX.1
  have hS : va_S (pz_A 22 q) s.heap s.heap [] := va_S.rf
  have hl := lv_entry [.ref (q 0), .int (x1)] (n := 2) (Nat.le_of_ble_eq_true rfl)
  rw [lg_entry_eq]
  generalize (lg_sl [.ref (q 0), .int (x1)] ++ List.replicate (2 - (lg_sl [.ref (q 0), .int (x1)]).length) Slot.unset).toArray = ls at hl ⊢
  have hl : lv_has ls 2 [(0, .ref (q 0)), (1, .int (x1))] := hl
  generalize hF : f_X3_isNegation cnt kinds seconds x1 = G
  replace hF := hF.symm
  unfold f_X3_isNegation at hF
  refine lv_aload_n hx hb dX3_isNegation_0 rfl (lv_at hl 0 rfl) ?_
  refine va_get (D := D) (ci := 3) (v := .ref (q 1)) (C := RX3) (T := TX3) (N := 3) hx hb hts in_X3_isNegation_X3 hown hK hP 0 rfl rfl 0 (by decide) (hts _ fl_X3_isNegation_10) (fun _ h9 => h9) rfl dX3_isNegation_1 ?_
  refine lv_iload_n hx hb dX3_isNegation_4 rfl (lv_at hl 1 rfl) ?_
  refine pz_Vi (As := [.int (x1)]) (rest := []) ⟨hx, hb, hml, hown, hts⟩ (c_X1_kindOf l D q k t cnt kinds firsts seconds heights tables replaced laid rules ps qs rs fs frules heads ends inforce usable summ x1 hc) (cwV 1 hts gX3_isNegation_X1_kindOf rfl rfl rfl hdV_X1_kindOf ⟨Nat.le_of_ble_eq_true rfl, Nat.le_of_ble_eq_true rfl⟩) pz_KX.call (hKX.go hS) (va_recv hK hP (ci := 1) (q0 := 1) rfl rfl) hP hS rfl hl.1 rfl (Nat.le_of_ble_eq_true rfl) dX3_isNegation_5 ⟨Nat.zero_le _, Nat.zero_le _⟩ (fun r_1 u_1 H locs hF_1 hP hS => ?_)
  have hF := hF.trans (pz_be hF_1)
  refine lv_iconst (v := 4) hx hb dX3_isNegation_8 (by decide) ?_
  refine lv_icmp_ne (tgt := 34) hx hb dX3_isNegation_9 (by decide) (fun c_2 => ?_) (fun c_2 => ?_)
  · have hF := hF.trans (if_neg c_2)
    refine lv_iconst (v := 0) hx hb dX3_isNegation_34 (by decide) ?_
    exact W.zret (v := 0) hx hb hr rfl (fun t ht hW => ⟨⟨0, (), rfl, hF.symm, pz_hp ht hP⟩, hS.F ht⟩) hS.2.2 dX3_isNegation_35 hlocks
  · have hF := hF.trans (if_pos c_2)
    refine lv_aload_n hx hb dX3_isNegation_12 rfl (lv_at hl 0 rfl) ?_
    refine va_get (D := D) (ci := 3) (v := .ref (q 1)) (C := RX3) (T := TX3) (N := 3) hx hb hts in_X3_isNegation_X3 hown hK hP 0 rfl rfl 0 (by decide) (hts _ fl_X3_isNegation_10) (fun _ h9 => h9) rfl dX3_isNegation_13 ?_
    refine lv_aload_n hx hb dX3_isNegation_16 rfl (lv_at hl 0 rfl) ?_
    refine va_get (D := D) (ci := 3) (v := .ref (q 1)) (C := RX3) (T := TX3) (N := 3) hx hb hts in_X3_isNegation_X3 hown hK hP 0 rfl rfl 0 (by decide) (hts _ fl_X3_isNegation_10) (fun _ h9 => h9) rfl dX3_isNegation_17 ?_
    refine lv_iload_n hx hb dX3_isNegation_20 rfl (lv_at hl 1 rfl) ?_
    refine pz_Vi (As := [.int (x1)]) (rest := [.ref (q 1)]) ⟨hx, hb, hml, hown, hts⟩ (c_X1_secondOf l D q k t cnt kinds firsts seconds heights tables replaced laid rules ps qs rs fs frules heads ends inforce usable summ x1 hc) (cwV 1 hts gX3_isNegation_X1_secondOf rfl rfl rfl hdV_X1_secondOf ⟨Nat.le_of_ble_eq_true rfl, Nat.le_of_ble_eq_true rfl⟩) pz_KX.call (hKX.go hS) (va_recv hK hP (ci := 1) (q0 := 1) rfl rfl) hP hS rfl hl.1 rfl (Nat.le_of_ble_eq_true rfl) dX3_isNegation_21 ⟨Nat.zero_le _, Nat.zero_le _⟩ (fun r_3 u_3 H locs hF_3 hP hS => ?_)
    have hF := hF.trans (pz_be hF_3)
    refine pz_Vi (As := [.int (r_3)]) (rest := []) ⟨hx, hb, hml, hown, hts⟩ (c_X1_kindOf l D q k t cnt kinds firsts seconds heights tables replaced laid rules ps qs rs fs frules heads ends inforce usable summ r_3 hc) (cwV 1 hts gX3_isNegation_X1_kindOf rfl rfl rfl hdV_X1_kindOf ⟨Nat.le_of_ble_eq_true rfl, Nat.le_of_ble_eq_true rfl⟩) pz_KX.call (hKX.go hS) (va_recv hK hP (ci := 1) (q0 := 1) rfl rfl) hP hS rfl hl.1 rfl (Nat.le_of_ble_eq_true rfl) dX3_isNegation_24 ⟨Nat.zero_le _, Nat.zero_le _⟩ (fun r_4 u_4 H locs hF_4 hP hS => ?_)
    have hF := hF.trans (pz_be hF_4)
    refine lv_if_ne (tgt := 34) hx hb dX3_isNegation_27 (by decide) (fun c_5 => ?_) (fun c_5 => ?_)
    · have hF := hF.trans (if_neg c_5)
      refine lv_iconst (v := 0) hx hb dX3_isNegation_34 (by decide) ?_
      exact W.zret (v := 0) hx hb hr rfl (fun t ht hW => ⟨⟨0, (), rfl, hF.symm, pz_hp ht hP⟩, hS.F ht⟩) hS.2.2 dX3_isNegation_35 hlocks
    · have hF := hF.trans (if_pos c_5)
      refine lv_iconst (v := 1) hx hb dX3_isNegation_30 (by decide) ?_
      refine lv_goto (tgt := 35) hx hb dX3_isNegation_31 (by decide) ?_
      exact W.zret (v := 1) hx hb hr rfl (fun t ht hW => ⟨⟨1, (), rfl, hF.symm, pz_hp ht hP⟩, hS.F ht⟩) hS.2.2 dX3_isNegation_35 hlocks

-- == X3_isFormRight
def f_X3_isFormRight (cnt : Int32) (kinds : Nat → Int32) (firsts : Nat → Int32) (seconds : Nat → Int32) (x1 : Int32) (x2 : Int32) : Int32 := if x1 = 5 then (pz_bnd (f_X1_kindOf cnt kinds x2) (fun z_2 => if z_2 = 2 then (1) else (0))) else (if x1 = 6 then (pz_bnd (f_X1_kindOf cnt kinds x2) (fun z_5 => if z_5 = 2 then (1) else (0))) else (if x1 = 9 then (pz_bnd (f_X1_kindOf cnt kinds x2) (fun z_8 => if z_8 = 3 then (1) else (0))) else (if x1 = 11 then (pz_bnd (f_X1_kindOf cnt kinds x2) (fun z_11 => if z_11 = 4 then (1) else (0))) else (if x1 = 12 then (pz_bnd (f_X1_kindOf cnt kinds x2) (fun z_14 => if z_14 = 0 then (1) else (0))) else (if x1 = 13 then (pz_bnd (f_X3_isNegation cnt kinds seconds x2) (fun z_17 => if z_17 = 0 then (0) else (pz_bnd (f_X1_firstOf cnt firsts x2) (fun z_19 => pz_bnd (f_X3_isNegation cnt kinds seconds z_19) (fun z_20 => if z_20 = 0 then (0) else (1)))))) else (1))))))
theorem fl_X3_isFormRight_10 : Cond.fieldLink RX3 10 "BoxProofs" "known" "LBoxProofs$Formulas;" ∈ wsX3_isFormRight := by decide +kernel
theorem hdV_X1_firstOf : yX1_firstOf.cls = RX1 ∧ yX1_firstOf.cls ≠ "java/lang/invoke/MethodHandle" ∧ yX1_firstOf.cls ≠ "java/lang/invoke/VarHandle" ∧ (parseMethodDescriptor yX1_firstOf.desc).map (fun d => d.parameters.length) = some 1 := by decide +kernel
theorem hdV_X3_isNegation : yX3_isNegation.cls = RX3 ∧ yX3_isNegation.cls ≠ "java/lang/invoke/MethodHandle" ∧ yX3_isNegation.cls ≠ "java/lang/invoke/VarHandle" ∧ (parseMethodDescriptor yX3_isNegation.desc).map (fun d => d.parameters.length) = some 1 := by decide +kernel
theorem in_X3_isFormRight_X3 : ∀ w ∈ wsX30, w ∈ wsX3_isFormRight := by decide +kernel
set_option maxHeartbeats 4000000 in
set_option maxRecDepth 100000 in
theorem c_X3_isFormRight (l : Launch) (D : va_G) (q : Nat → Nat) (k : Nat → ClassId) (t : Nat → Nat) (cnt : Int32) (kinds : Nat → Int32) (firsts : Nat → Int32) (seconds : Nat → Int32) (heights : Nat → Int32) (tables : Nat → Int64) (replaced : Nat → Int32) (laid : Nat → Int32) (rules : Nat → Int32) (ps : Nat → Int32) (qs : Nat → Int32) (rs : Nat → Int32) (fs : Nat → Int32) (frules : Nat → Int32) (heads : Nat → Int32) (ends : Nat → Int32) (inforce : Nat → Int32) (usable : Nat → Int32) (summ : Nat → Int32) (x1 : Int32) (x2 : Int32) (hc : pz_c cnt) : Met l yX3_isFormRight wsX3_isFormRight ({ frames := 3, cells := 0, slots := 0, locals := 63 }) (va_Pc [.ref (q 0), .int (x1), .int (x2)] (fun U => va_P D vwCl (pz_X q k cnt kinds firsts seconds heights tables replaced laid rules ps qs rs fs frules heads ends inforce usable summ) U.heap ∧ pz_KX D q k t U)) (va_Qi (fun r (_ : Unit) => r = (f_X3_isFormRight cnt kinds firsts seconds x1 x2)) (fun _ t => va_P D vwCl (pz_X q k cnt kinds firsts seconds heights tables replaced laid rules ps qs rs fs frules heads ends inforce usable summ) t.heap) (pz_A 22 q)) 0 0 (pz_A 22 q) := by
  refine Met.ofW (cc := cX3_isFormRight) (maxL := 3) (ret := (some .boolean)) (by decide) rfl ?_
  intro p e s m args below meth c s₁ B hml hv
  obtain ⟨rfl, hP, hKX⟩ := hv
  have hx := B.exec
  have hb := B.bytes
  have hr := B.returns
  have hts := atoms_spec (ws := wsX3_isFormRight) B.pre
  have hown : s.vm.findClass RX3 = some m.cls := findClass_of_methodNamed B.named
  have hlocks := B.notSynchronized
  have hC : pz_C p s m ([.ref (q 0), .int (x1), .int (x2)] : List Value).toArray meth c cX3_isFormRight wsX3_isFormRight RX3 3 (some .boolean) := ⟨hx, hb, hml, hown, hts, hr, hlocks⟩
  have hK := hKX.1
  have hS : va_S (pz_A 22 q) s.heap s.heap [] := va_S.rf
  have hl := lv_entry [.ref (q 0), .int (x1), .int (x2)] (n := 3) (Nat.le_of_ble_eq_true rfl)
  rw [lg_entry_eq]
  generalize (lg_sl [.ref (q 0), .int (x1), .int (x2)] ++ List.replicate (3 - (lg_sl [.ref (q 0), .int (x1), .int (x2)]).length) Slot.unset).toArray = ls at hl ⊢
  have hl : lv_has ls 3 [(0, .ref (q 0)), (1, .int (x1)), (2, .int (x2))] := hl
  generalize hF : f_X3_isFormRight cnt kinds firsts seconds x1 x2 = G
  replace hF := hF.symm
  unfold f_X3_isFormRight at hF
  refine lv_iload_n hx hb dX3_isFormRight_0 rfl (lv_at hl 1 rfl) ?_
  refine pz_cases (P := x1 = 5) (fun c_1 => ?_) (fun c_1 => ?_)
  · have hF := hF.trans (if_pos c_1)
    refine pz_table (tgt := 52) (off := 51) hx hb dX3_isFormRight_1 rfl (by rw [c_1]; rfl) (by decide) ?_
    refine lv_aload_n hx hb dX3_isFormRight_52 rfl (lv_at hl 0 rfl) ?_
    refine va_get (D := D) (ci := 3) (v := .ref (q 1)) (C := RX3) (T := TX3) (N := 3) hx hb hts in_X3_isFormRight_X3 hown hK hP 0 rfl rfl 0 (by decide) (hts _ fl_X3_isFormRight_10) (fun _ h9 => h9) rfl dX3_isFormRight_53 ?_
    refine lv_iload_n hx hb dX3_isFormRight_56 rfl (lv_at hl 2 rfl) ?_
    refine pz_Vi (As := [.int (x2)]) (rest := []) ⟨hx, hb, hml, hown, hts⟩ (c_X1_kindOf l D q k t cnt kinds firsts seconds heights tables replaced laid rules ps qs rs fs frules heads ends inforce usable summ x2 hc) (cwV 1 hts gX3_isFormRight_X1_kindOf rfl rfl rfl hdV_X1_kindOf ⟨Nat.le_of_ble_eq_true rfl, Nat.le_of_ble_eq_true rfl⟩) pz_KX.call (hKX.go hS) (va_recv hK hP (ci := 1) (q0 := 1) rfl rfl) hP hS rfl hl.1 rfl (Nat.le_of_ble_eq_true rfl) dX3_isFormRight_57 ⟨Nat.zero_le _, Nat.zero_le _⟩ (fun r_2 u_2 H locs hF_2 hP hS => ?_)
    have hF := hF.trans (pz_be hF_2)
    refine lv_iconst (v := 2) hx hb dX3_isFormRight_60 (by decide) ?_
    refine lv_icmp_ne (tgt := 68) hx hb dX3_isFormRight_61 (by decide) (fun c_3 => ?_) (fun c_3 => ?_)
    · have hF := hF.trans (if_neg c_3)
      refine lv_iconst (v := 0) hx hb dX3_isFormRight_68 (by decide) ?_
      exact W.zret (v := 0) hx hb hr rfl (fun t ht hW => ⟨⟨0, (), rfl, hF.symm, pz_hp ht hP⟩, hS.F ht⟩) hS.2.2 dX3_isFormRight_69 hlocks
    · have hF := hF.trans (if_pos c_3)
      refine lv_iconst (v := 1) hx hb dX3_isFormRight_64 (by decide) ?_
      refine lv_goto (tgt := 69) hx hb dX3_isFormRight_65 (by decide) ?_
      exact W.zret (v := 1) hx hb hr rfl (fun t ht hW => ⟨⟨1, (), rfl, hF.symm, pz_hp ht hP⟩, hS.F ht⟩) hS.2.2 dX3_isFormRight_69 hlocks
  · have hF := hF.trans (if_neg c_1)
    refine pz_cases (P := x1 = 6) (fun c_4 => ?_) (fun c_4 => ?_)
    · have hF := hF.trans (if_pos c_4)
      refine pz_table (tgt := 52) (off := 51) hx hb dX3_isFormRight_1 rfl (by rw [c_4]; rfl) (by decide) ?_
      refine lv_aload_n hx hb dX3_isFormRight_52 rfl (lv_at hl 0 rfl) ?_
      refine va_get (D := D) (ci := 3) (v := .ref (q 1)) (C := RX3) (T := TX3) (N := 3) hx hb hts in_X3_isFormRight_X3 hown hK hP 0 rfl rfl 0 (by decide) (hts _ fl_X3_isFormRight_10) (fun _ h9 => h9) rfl dX3_isFormRight_53 ?_
      refine lv_iload_n hx hb dX3_isFormRight_56 rfl (lv_at hl 2 rfl) ?_
      refine pz_Vi (As := [.int (x2)]) (rest := []) ⟨hx, hb, hml, hown, hts⟩ (c_X1_kindOf l D q k t cnt kinds firsts seconds heights tables replaced laid rules ps qs rs fs frules heads ends inforce usable summ x2 hc) (cwV 1 hts gX3_isFormRight_X1_kindOf rfl rfl rfl hdV_X1_kindOf ⟨Nat.le_of_ble_eq_true rfl, Nat.le_of_ble_eq_true rfl⟩) pz_KX.call (hKX.go hS) (va_recv hK hP (ci := 1) (q0 := 1) rfl rfl) hP hS rfl hl.1 rfl (Nat.le_of_ble_eq_true rfl) dX3_isFormRight_57 ⟨Nat.zero_le _, Nat.zero_le _⟩ (fun r_5 u_5 H locs hF_5 hP hS => ?_)
      have hF := hF.trans (pz_be hF_5)
      refine lv_iconst (v := 2) hx hb dX3_isFormRight_60 (by decide) ?_
      refine lv_icmp_ne (tgt := 68) hx hb dX3_isFormRight_61 (by decide) (fun c_6 => ?_) (fun c_6 => ?_)
      · have hF := hF.trans (if_neg c_6)
        refine lv_iconst (v := 0) hx hb dX3_isFormRight_68 (by decide) ?_
        exact W.zret (v := 0) hx hb hr rfl (fun t ht hW => ⟨⟨0, (), rfl, hF.symm, pz_hp ht hP⟩, hS.F ht⟩) hS.2.2 dX3_isFormRight_69 hlocks
      · have hF := hF.trans (if_pos c_6)
        refine lv_iconst (v := 1) hx hb dX3_isFormRight_64 (by decide) ?_
        refine lv_goto (tgt := 69) hx hb dX3_isFormRight_65 (by decide) ?_
        exact W.zret (v := 1) hx hb hr rfl (fun t ht hW => ⟨⟨1, (), rfl, hF.symm, pz_hp ht hP⟩, hS.F ht⟩) hS.2.2 dX3_isFormRight_69 hlocks
    · have hF := hF.trans (if_neg c_4)
      refine pz_cases (P := x1 = 9) (fun c_7 => ?_) (fun c_7 => ?_)
      · have hF := hF.trans (if_pos c_7)
        refine pz_table (tgt := 70) (off := 69) hx hb dX3_isFormRight_1 rfl (by rw [c_7]; rfl) (by decide) ?_
        refine lv_aload_n hx hb dX3_isFormRight_70 rfl (lv_at hl 0 rfl) ?_
        refine va_get (D := D) (ci := 3) (v := .ref (q 1)) (C := RX3) (T := TX3) (N := 3) hx hb hts in_X3_isFormRight_X3 hown hK hP 0 rfl rfl 0 (by decide) (hts _ fl_X3_isFormRight_10) (fun _ h9 => h9) rfl dX3_isFormRight_71 ?_
        refine lv_iload_n hx hb dX3_isFormRight_74 rfl (lv_at hl 2 rfl) ?_
        refine pz_Vi (As := [.int (x2)]) (rest := []) ⟨hx, hb, hml, hown, hts⟩ (c_X1_kindOf l D q k t cnt kinds firsts seconds heights tables replaced laid rules ps qs rs fs frules heads ends inforce usable summ x2 hc) (cwV 1 hts gX3_isFormRight_X1_kindOf rfl rfl rfl hdV_X1_kindOf ⟨Nat.le_of_ble_eq_true rfl, Nat.le_of_ble_eq_true rfl⟩) pz_KX.call (hKX.go hS) (va_recv hK hP (ci := 1) (q0 := 1) rfl rfl) hP hS rfl hl.1 rfl (Nat.le_of_ble_eq_true rfl) dX3_isFormRight_75 ⟨Nat.zero_le _, Nat.zero_le _⟩ (fun r_8 u_8 H locs hF_8 hP hS => ?_)
        have hF := hF.trans (pz_be hF_8)
        refine lv_iconst (v := 3) hx hb dX3_isFormRight_78 (by decide) ?_
        refine lv_icmp_ne (tgt := 86) hx hb dX3_isFormRight_79 (by decide) (fun c_9 => ?_) (fun c_9 => ?_)
        · have hF := hF.trans (if_neg c_9)
          refine lv_iconst (v := 0) hx hb dX3_isFormRight_86 (by decide) ?_
          exact W.zret (v := 0) hx hb hr rfl (fun t ht hW => ⟨⟨0, (), rfl, hF.symm, pz_hp ht hP⟩, hS.F ht⟩) hS.2.2 dX3_isFormRight_87 hlocks
        · have hF := hF.trans (if_pos c_9)
          refine lv_iconst (v := 1) hx hb dX3_isFormRight_82 (by decide) ?_
          refine lv_goto (tgt := 87) hx hb dX3_isFormRight_83 (by decide) ?_
          exact W.zret (v := 1) hx hb hr rfl (fun t ht hW => ⟨⟨1, (), rfl, hF.symm, pz_hp ht hP⟩, hS.F ht⟩) hS.2.2 dX3_isFormRight_87 hlocks
      · have hF := hF.trans (if_neg c_7)
        refine pz_cases (P := x1 = 11) (fun c_10 => ?_) (fun c_10 => ?_)
        · have hF := hF.trans (if_pos c_10)
          refine pz_table (tgt := 88) (off := 87) hx hb dX3_isFormRight_1 rfl (by rw [c_10]; rfl) (by decide) ?_
          refine lv_aload_n hx hb dX3_isFormRight_88 rfl (lv_at hl 0 rfl) ?_
          refine va_get (D := D) (ci := 3) (v := .ref (q 1)) (C := RX3) (T := TX3) (N := 3) hx hb hts in_X3_isFormRight_X3 hown hK hP 0 rfl rfl 0 (by decide) (hts _ fl_X3_isFormRight_10) (fun _ h9 => h9) rfl dX3_isFormRight_89 ?_
          refine lv_iload_n hx hb dX3_isFormRight_92 rfl (lv_at hl 2 rfl) ?_
          refine pz_Vi (As := [.int (x2)]) (rest := []) ⟨hx, hb, hml, hown, hts⟩ (c_X1_kindOf l D q k t cnt kinds firsts seconds heights tables replaced laid rules ps qs rs fs frules heads ends inforce usable summ x2 hc) (cwV 1 hts gX3_isFormRight_X1_kindOf rfl rfl rfl hdV_X1_kindOf ⟨Nat.le_of_ble_eq_true rfl, Nat.le_of_ble_eq_true rfl⟩) pz_KX.call (hKX.go hS) (va_recv hK hP (ci := 1) (q0 := 1) rfl rfl) hP hS rfl hl.1 rfl (Nat.le_of_ble_eq_true rfl) dX3_isFormRight_93 ⟨Nat.zero_le _, Nat.zero_le _⟩ (fun r_11 u_11 H locs hF_11 hP hS => ?_)
          have hF := hF.trans (pz_be hF_11)
          refine lv_iconst (v := 4) hx hb dX3_isFormRight_96 (by decide) ?_
          refine lv_icmp_ne (tgt := 104) hx hb dX3_isFormRight_97 (by decide) (fun c_12 => ?_) (fun c_12 => ?_)
          · have hF := hF.trans (if_neg c_12)
            refine lv_iconst (v := 0) hx hb dX3_isFormRight_104 (by decide) ?_
            exact W.zret (v := 0) hx hb hr rfl (fun t ht hW => ⟨⟨0, (), rfl, hF.symm, pz_hp ht hP⟩, hS.F ht⟩) hS.2.2 dX3_isFormRight_105 hlocks
          · have hF := hF.trans (if_pos c_12)
            refine lv_iconst (v := 1) hx hb dX3_isFormRight_100 (by decide) ?_
            refine lv_goto (tgt := 105) hx hb dX3_isFormRight_101 (by decide) ?_
            exact W.zret (v := 1) hx hb hr rfl (fun t ht hW => ⟨⟨1, (), rfl, hF.symm, pz_hp ht hP⟩, hS.F ht⟩) hS.2.2 dX3_isFormRight_105 hlocks
        · have hF := hF.trans (if_neg c_10)
          refine pz_cases (P := x1 = 12) (fun c_13 => ?_) (fun c_13 => ?_)
          · have hF := hF.trans (if_pos c_13)
            refine pz_table (tgt := 106) (off := 105) hx hb dX3_isFormRight_1 rfl (by rw [c_13]; rfl) (by decide) ?_
            refine lv_aload_n hx hb dX3_isFormRight_106 rfl (lv_at hl 0 rfl) ?_
            refine va_get (D := D) (ci := 3) (v := .ref (q 1)) (C := RX3) (T := TX3) (N := 3) hx hb hts in_X3_isFormRight_X3 hown hK hP 0 rfl rfl 0 (by decide) (hts _ fl_X3_isFormRight_10) (fun _ h9 => h9) rfl dX3_isFormRight_107 ?_
            refine lv_iload_n hx hb dX3_isFormRight_110 rfl (lv_at hl 2 rfl) ?_
            refine pz_Vi (As := [.int (x2)]) (rest := []) ⟨hx, hb, hml, hown, hts⟩ (c_X1_kindOf l D q k t cnt kinds firsts seconds heights tables replaced laid rules ps qs rs fs frules heads ends inforce usable summ x2 hc) (cwV 1 hts gX3_isFormRight_X1_kindOf rfl rfl rfl hdV_X1_kindOf ⟨Nat.le_of_ble_eq_true rfl, Nat.le_of_ble_eq_true rfl⟩) pz_KX.call (hKX.go hS) (va_recv hK hP (ci := 1) (q0 := 1) rfl rfl) hP hS rfl hl.1 rfl (Nat.le_of_ble_eq_true rfl) dX3_isFormRight_111 ⟨Nat.zero_le _, Nat.zero_le _⟩ (fun r_14 u_14 H locs hF_14 hP hS => ?_)
            have hF := hF.trans (pz_be hF_14)
            refine lv_if_ne (tgt := 121) hx hb dX3_isFormRight_114 (by decide) (fun c_15 => ?_) (fun c_15 => ?_)
            · have hF := hF.trans (if_neg c_15)
              refine lv_iconst (v := 0) hx hb dX3_isFormRight_121 (by decide) ?_
              exact W.zret (v := 0) hx hb hr rfl (fun t ht hW => ⟨⟨0, (), rfl, hF.symm, pz_hp ht hP⟩, hS.F ht⟩) hS.2.2 dX3_isFormRight_122 hlocks
            · have hF := hF.trans (if_pos c_15)
              refine lv_iconst (v := 1) hx hb dX3_isFormRight_117 (by decide) ?_
              refine lv_goto (tgt := 122) hx hb dX3_isFormRight_118 (by decide) ?_
              exact W.zret (v := 1) hx hb hr rfl (fun t ht hW => ⟨⟨1, (), rfl, hF.symm, pz_hp ht hP⟩, hS.F ht⟩) hS.2.2 dX3_isFormRight_122 hlocks
          · have hF := hF.trans (if_neg c_13)
            refine pz_cases (P := x1 = 13) (fun c_16 => ?_) (fun c_16 => ?_)
            · have hF := hF.trans (if_pos c_16)
              refine pz_table (tgt := 123) (off := 122) hx hb dX3_isFormRight_1 rfl (by rw [c_16]; rfl) (by decide) ?_
              refine lv_aload_n hx hb dX3_isFormRight_123 rfl (lv_at hl 0 rfl) ?_
              refine lv_iload_n hx hb dX3_isFormRight_124 rfl (lv_at hl 2 rfl) ?_
              refine pz_Vi (As := [.int (x2)]) (rest := []) ⟨hx, hb, hml, hown, hts⟩ (c_X3_isNegation l D q k t cnt kinds firsts seconds heights tables replaced laid rules ps qs rs fs frules heads ends inforce usable summ x2 hc) (cwV 1 hts gX3_isFormRight_X3_isNegation rfl rfl rfl hdV_X3_isNegation ⟨Nat.le_of_ble_eq_true rfl, Nat.le_of_ble_eq_true rfl⟩) pz_KX.call (hKX.go hS) (va_recv hK hP (ci := 3) (q0 := 0) rfl rfl) hP hS rfl hl.1 rfl (Nat.le_of_ble_eq_true rfl) dX3_isFormRight_125 ⟨Nat.zero_le _, Nat.zero_le _⟩ (fun r_17 u_17 H locs hF_17 hP hS => ?_)
              have hF := hF.trans (pz_be hF_17)
              refine lv_if_eq (tgt := 150) hx hb dX3_isFormRight_128 (by decide) (fun c_18 => ?_) (fun c_18 => ?_)
              · have hF := hF.trans (if_pos c_18)
                refine lv_iconst (v := 0) hx hb dX3_isFormRight_150 (by decide) ?_
                exact W.zret (v := 0) hx hb hr rfl (fun t ht hW => ⟨⟨0, (), rfl, hF.symm, pz_hp ht hP⟩, hS.F ht⟩) hS.2.2 dX3_isFormRight_151 hlocks
              · have hF := hF.trans (if_neg c_18)
                refine lv_aload_n hx hb dX3_isFormRight_131 rfl (lv_at hl 0 rfl) ?_
                refine lv_aload_n hx hb dX3_isFormRight_132 rfl (lv_at hl 0 rfl) ?_
                refine va_get (D := D) (ci := 3) (v := .ref (q 1)) (C := RX3) (T := TX3) (N := 3) hx hb hts in_X3_isFormRight_X3 hown hK hP 0 rfl rfl 0 (by decide) (hts _ fl_X3_isFormRight_10) (fun _ h9 => h9) rfl dX3_isFormRight_133 ?_
                refine lv_iload_n hx hb dX3_isFormRight_136 rfl (lv_at hl 2 rfl) ?_
                refine pz_Vi (As := [.int (x2)]) (rest := [.ref (q 0)]) ⟨hx, hb, hml, hown, hts⟩ (c_X1_firstOf l D q k t cnt kinds firsts seconds heights tables replaced laid rules ps qs rs fs frules heads ends inforce usable summ x2 hc) (cwV 1 hts gX3_isFormRight_X1_firstOf rfl rfl rfl hdV_X1_firstOf ⟨Nat.le_of_ble_eq_true rfl, Nat.le_of_ble_eq_true rfl⟩) pz_KX.call (hKX.go hS) (va_recv hK hP (ci := 1) (q0 := 1) rfl rfl) hP hS rfl hl.1 rfl (Nat.le_of_ble_eq_true rfl) dX3_isFormRight_137 ⟨Nat.zero_le _, Nat.zero_le _⟩ (fun r_19 u_19 H locs hF_19 hP hS => ?_)
                have hF := hF.trans (pz_be hF_19)
                refine pz_Vi (As := [.int (r_19)]) (rest := []) ⟨hx, hb, hml, hown, hts⟩ (c_X3_isNegation l D q k t cnt kinds firsts seconds heights tables replaced laid rules ps qs rs fs frules heads ends inforce usable summ r_19 hc) (cwV 1 hts gX3_isFormRight_X3_isNegation rfl rfl rfl hdV_X3_isNegation ⟨Nat.le_of_ble_eq_true rfl, Nat.le_of_ble_eq_true rfl⟩) pz_KX.call (hKX.go hS) (va_recv hK hP (ci := 3) (q0 := 0) rfl rfl) hP hS rfl hl.1 rfl (Nat.le_of_ble_eq_true rfl) dX3_isFormRight_140 ⟨Nat.zero_le _, Nat.zero_le _⟩ (fun r_20 u_20 H locs hF_20 hP hS => ?_)
                have hF := hF.trans (pz_be hF_20)
                refine lv_if_eq (tgt := 150) hx hb dX3_isFormRight_143 (by decide) (fun c_21 => ?_) (fun c_21 => ?_)
                · have hF := hF.trans (if_pos c_21)
                  refine lv_iconst (v := 0) hx hb dX3_isFormRight_150 (by decide) ?_
                  exact W.zret (v := 0) hx hb hr rfl (fun t ht hW => ⟨⟨0, (), rfl, hF.symm, pz_hp ht hP⟩, hS.F ht⟩) hS.2.2 dX3_isFormRight_151 hlocks
                · have hF := hF.trans (if_neg c_21)
                  refine lv_iconst (v := 1) hx hb dX3_isFormRight_146 (by decide) ?_
                  refine lv_goto (tgt := 151) hx hb dX3_isFormRight_147 (by decide) ?_
                  exact W.zret (v := 1) hx hb hr rfl (fun t ht hW => ⟨⟨1, (), rfl, hF.symm, pz_hp ht hP⟩, hS.F ht⟩) hS.2.2 dX3_isFormRight_151 hlocks
            · have hF := hF.trans (if_neg c_16)
              have ho : pz_off (151) (5) (13) #[51, 51, 151, 151, 69, 151, 87, 105, 122] x1 = 151 := by
                unfold pz_off
                split
                · rfl
                · have hz : (x1).toInt = 5 ∨ (x1).toInt = 6 ∨ (x1).toInt = 7 ∨ (x1).toInt = 8 ∨ (x1).toInt = 9 ∨ (x1).toInt = 10 ∨ (x1).toInt = 11 ∨ (x1).toInt = 12 ∨ (x1).toInt = 13 := by omega
                  rcases hz with hz | hz | hz | hz | hz | hz | hz | hz | hz
                  · exact absurd (Int32.toInt_inj.mp (hz.trans (show (5 : Int) = (5 : Int32).toInt from rfl))) c_1
                  · exact absurd (Int32.toInt_inj.mp (hz.trans (show (6 : Int) = (6 : Int32).toInt from rfl))) c_4
                  · rw [hz]; rfl
                  · rw [hz]; rfl
                  · exact absurd (Int32.toInt_inj.mp (hz.trans (show (9 : Int) = (9 : Int32).toInt from rfl))) c_7
                  · rw [hz]; rfl
                  · exact absurd (Int32.toInt_inj.mp (hz.trans (show (11 : Int) = (11 : Int32).toInt from rfl))) c_10
                  · exact absurd (Int32.toInt_inj.mp (hz.trans (show (12 : Int) = (12 : Int32).toInt from rfl))) c_13
                  · exact absurd (Int32.toInt_inj.mp (hz.trans (show (13 : Int) = (13 : Int32).toInt from rfl))) c_16
              refine pz_table (tgt := 152) hx hb dX3_isFormRight_1 rfl ho (by decide) ?_
              refine lv_iconst (v := 1) hx hb dX3_isFormRight_152 (by decide) ?_
              exact W.zret (v := 1) hx hb hr rfl (fun t ht hW => ⟨⟨1, (), rfl, hF.symm, pz_hp ht hP⟩, hS.F ht⟩) hS.2.2 dX3_isFormRight_153 hlocks

-- == X3_areBoxesRight
def f_X3_areBoxesRight (ps : Nat → Int32) (qs : Nat → Int32) (rs : Nat → Int32) (frules : Nat → Int32) (ends : Nat → Int32) (usable : Nat → Int32) (x1 : Int32) (x2 : Int32) : Int32 := if x2 = 2 then (pz_bnd (f_X0_innermostOpen frules ends) (fun z_2 => if z_2 = (-1) then (0) else (1))) else (if x2 = 9 then (pz_bnd (f_X2_qOf qs x1) (fun z_5 => pz_bnd (f_X0_isUsableBox usable z_5) (fun z_6 => if z_6 = 0 then (0) else (pz_bnd (f_X2_rOf rs x1) (fun z_8 => pz_bnd (f_X0_isUsableBox usable z_8) (fun z_9 => if z_9 = 0 then (0) else (1))))))) else (if x2 = 10 then (pz_bnd (f_X2_pOf ps x1) (fun z_12 => pz_bnd (f_X0_isUsableBox usable z_12) (fun z_13 => z_13))) else (1)))
theorem fl_X3_areBoxesRight_19 : Cond.fieldLink RX3 19 "BoxProofs" "proof" "LBoxProofs$Lines;" ∈ wsX3_areBoxesRight := by decide +kernel
theorem fl_X3_areBoxesRight_26 : Cond.fieldLink RX3 26 "BoxProofs" "findings" "LBoxProofs$Findings;" ∈ wsX3_areBoxesRight := by decide +kernel
theorem hdV_X0_isUsableBox : yX0_isUsableBox.cls = RX0 ∧ yX0_isUsableBox.cls ≠ "java/lang/invoke/MethodHandle" ∧ yX0_isUsableBox.cls ≠ "java/lang/invoke/VarHandle" ∧ (parseMethodDescriptor yX0_isUsableBox.desc).map (fun d => d.parameters.length) = some 1 := by decide +kernel
theorem in_X3_areBoxesRight_X3 : ∀ w ∈ wsX30, w ∈ wsX3_areBoxesRight := by decide +kernel
set_option maxHeartbeats 4000000 in
set_option maxRecDepth 100000 in
theorem c_X3_areBoxesRight (l : Launch) (D : va_G) (q : Nat → Nat) (k : Nat → ClassId) (t : Nat → Nat) (cnt : Int32) (kinds : Nat → Int32) (firsts : Nat → Int32) (seconds : Nat → Int32) (heights : Nat → Int32) (tables : Nat → Int64) (replaced : Nat → Int32) (laid : Nat → Int32) (rules : Nat → Int32) (ps : Nat → Int32) (qs : Nat → Int32) (rs : Nat → Int32) (fs : Nat → Int32) (frules : Nat → Int32) (heads : Nat → Int32) (ends : Nat → Int32) (inforce : Nat → Int32) (usable : Nat → Int32) (summ : Nat → Int32) (x1 : Int32) (x2 : Int32)  : Met l yX3_areBoxesRight wsX3_areBoxesRight ({ frames := 3, cells := 0, slots := 0, locals := 62 }) (va_Pc [.ref (q 0), .int (x1), .int (x2)] (fun U => va_P D vwCl (pz_X q k cnt kinds firsts seconds heights tables replaced laid rules ps qs rs fs frules heads ends inforce usable summ) U.heap ∧ pz_KX D q k t U)) (va_Qi (fun r (_ : Unit) => r = (f_X3_areBoxesRight ps qs rs frules ends usable x1 x2)) (fun _ t => va_P D vwCl (pz_X q k cnt kinds firsts seconds heights tables replaced laid rules ps qs rs fs frules heads ends inforce usable summ) t.heap) (pz_A 22 q)) 0 0 (pz_A 22 q) := by
  refine Met.ofW (cc := cX3_areBoxesRight) (maxL := 3) (ret := (some .boolean)) (by decide) rfl ?_
  intro p e s m args below meth c s₁ B hml hv
  obtain ⟨rfl, hP, hKX⟩ := hv
  have hx := B.exec
  have hb := B.bytes
  have hr := B.returns
  have hts := atoms_spec (ws := wsX3_areBoxesRight) B.pre
  have hown : s.vm.findClass RX3 = some m.cls := findClass_of_methodNamed B.named
  have hlocks := B.notSynchronized
  have hC : pz_C p s m ([.ref (q 0), .int (x1), .int (x2)] : List Value).toArray meth c cX3_areBoxesRight wsX3_areBoxesRight RX3 3 (some .boolean) := ⟨hx, hb, hml, hown, hts, hr, hlocks⟩
  have hK := hKX.1
  have hS : va_S (pz_A 22 q) s.heap s.heap [] := va_S.rf
  have hl := lv_entry [.ref (q 0), .int (x1), .int (x2)] (n := 3) (Nat.le_of_ble_eq_true rfl)
  rw [lg_entry_eq]
  generalize (lg_sl [.ref (q 0), .int (x1), .int (x2)] ++ List.replicate (3 - (lg_sl [.ref (q 0), .int (x1), .int (x2)]).length) Slot.unset).toArray = ls at hl ⊢
  have hl : lv_has ls 3 [(0, .ref (q 0)), (1, .int (x1)), (2, .int (x2))] := hl
  generalize hF : f_X3_areBoxesRight ps qs rs frules ends usable x1 x2 = G
  replace hF := hF.symm
  unfold f_X3_areBoxesRight at hF
  refine lv_iload_n hx hb dX3_areBoxesRight_0 rfl (lv_at hl 2 rfl) ?_
  refine pz_cases (P := x2 = 2) (fun c_1 => ?_) (fun c_1 => ?_)
  · have hF := hF.trans (if_pos c_1)
    refine lv_lookup (tgt := 36) (off := 35) hx hb dX3_areBoxesRight_1 (by decide) (by rw [c_1]; rfl) (by decide) ?_
    refine lv_aload_n hx hb dX3_areBoxesRight_36 rfl (lv_at hl 0 rfl) ?_
    refine va_get (D := D) (ci := 3) (v := .ref (q 3)) (C := RX3) (T := TX3) (N := 3) hx hb hts in_X3_areBoxesRight_X3 hown hK hP 0 rfl rfl 2 (by decide) (hts _ fl_X3_areBoxesRight_26) (fun _ h9 => h9) rfl dX3_areBoxesRight_37 ?_
    refine pz_Vi (As := []) (rest := []) ⟨hx, hb, hml, hown, hts⟩ (c_X0_innermostOpen l D q k t cnt kinds firsts seconds heights tables replaced laid rules ps qs rs fs frules heads ends inforce usable summ) (cwV 0 hts gX3_areBoxesRight_X0_innermostOpen rfl rfl rfl hdV_X0_innermostOpen ⟨Nat.le_of_ble_eq_true rfl, Nat.le_of_ble_eq_true rfl⟩) pz_KX.call (hKX.go hS) (va_recv hK hP (ci := 0) (q0 := 3) rfl rfl) hP hS rfl hl.1 rfl (Nat.le_of_ble_eq_true rfl) dX3_areBoxesRight_40 ⟨Nat.zero_le _, Nat.zero_le _⟩ (fun r_2 u_2 H locs hF_2 hP hS => ?_)
    have hF := hF.trans (pz_be hF_2)
    refine lv_iconst (v := (-1)) hx hb dX3_areBoxesRight_43 (by decide) ?_
    refine lv_icmp_eq (tgt := 51) hx hb dX3_areBoxesRight_44 (by decide) (fun c_3 => ?_) (fun c_3 => ?_)
    · have hF := hF.trans (if_pos c_3)
      refine lv_iconst (v := 0) hx hb dX3_areBoxesRight_51 (by decide) ?_
      exact W.zret (v := 0) hx hb hr rfl (fun t ht hW => ⟨⟨0, (), rfl, hF.symm, pz_hp ht hP⟩, hS.F ht⟩) hS.2.2 dX3_areBoxesRight_52 hlocks
    · have hF := hF.trans (if_neg c_3)
      refine lv_iconst (v := 1) hx hb dX3_areBoxesRight_47 (by decide) ?_
      refine lv_goto (tgt := 52) hx hb dX3_areBoxesRight_48 (by decide) ?_
      exact W.zret (v := 1) hx hb hr rfl (fun t ht hW => ⟨⟨1, (), rfl, hF.symm, pz_hp ht hP⟩, hS.F ht⟩) hS.2.2 dX3_areBoxesRight_52 hlocks
  · have hF := hF.trans (if_neg c_1)
    refine pz_cases (P := x2 = 9) (fun c_4 => ?_) (fun c_4 => ?_)
    · have hF := hF.trans (if_pos c_4)
      refine lv_lookup (tgt := 53) (off := 52) hx hb dX3_areBoxesRight_1 (by decide) (by rw [c_4]; rfl) (by decide) ?_
      refine lv_aload_n hx hb dX3_areBoxesRight_53 rfl (lv_at hl 0 rfl) ?_
      refine va_get (D := D) (ci := 3) (v := .ref (q 3)) (C := RX3) (T := TX3) (N := 3) hx hb hts in_X3_areBoxesRight_X3 hown hK hP 0 rfl rfl 2 (by decide) (hts _ fl_X3_areBoxesRight_26) (fun _ h9 => h9) rfl dX3_areBoxesRight_54 ?_
      refine lv_aload_n hx hb dX3_areBoxesRight_57 rfl (lv_at hl 0 rfl) ?_
      refine va_get (D := D) (ci := 3) (v := .ref (q 2)) (C := RX3) (T := TX3) (N := 3) hx hb hts in_X3_areBoxesRight_X3 hown hK hP 0 rfl rfl 1 (by decide) (hts _ fl_X3_areBoxesRight_19) (fun _ h9 => h9) rfl dX3_areBoxesRight_58 ?_
      refine lv_iload_n hx hb dX3_areBoxesRight_61 rfl (lv_at hl 1 rfl) ?_
      refine pz_Vi (As := [.int (x1)]) (rest := [.ref (q 3)]) ⟨hx, hb, hml, hown, hts⟩ (c_X2_qOf l D q k t cnt kinds firsts seconds heights tables replaced laid rules ps qs rs fs frules heads ends inforce usable summ x1) (cwV 1 hts gX3_areBoxesRight_X2_qOf rfl rfl rfl hdV_X2_qOf ⟨Nat.le_of_ble_eq_true rfl, Nat.le_of_ble_eq_true rfl⟩) pz_KX.call (hKX.go hS) (va_recv hK hP (ci := 2) (q0 := 2) rfl rfl) hP hS rfl hl.1 rfl (Nat.le_of_ble_eq_true rfl) dX3_areBoxesRight_62 ⟨Nat.zero_le _, Nat.zero_le _⟩ (fun r_5 u_5 H locs hF_5 hP hS => ?_)
      have hF := hF.trans (pz_be hF_5)
      refine pz_Vi (As := [.int (r_5)]) (rest := []) ⟨hx, hb, hml, hown, hts⟩ (c_X0_isUsableBox l D q k t cnt kinds firsts seconds heights tables replaced laid rules ps qs rs fs frules heads ends inforce usable summ r_5) (cwV 1 hts gX3_areBoxesRight_X0_isUsableBox rfl rfl rfl hdV_X0_isUsableBox ⟨Nat.le_of_ble_eq_true rfl, Nat.le_of_ble_eq_true rfl⟩) pz_KX.call (hKX.go hS) (va_recv hK hP (ci := 0) (q0 := 3) rfl rfl) hP hS rfl hl.1 rfl (Nat.le_of_ble_eq_true rfl) dX3_areBoxesRight_65 ⟨Nat.zero_le _, Nat.zero_le _⟩ (fun r_6 u_6 H locs hF_6 hP hS => ?_)
      have hF := hF.trans (pz_be hF_6)
      refine lv_if_eq (tgt := 93) hx hb dX3_areBoxesRight_68 (by decide) (fun c_7 => ?_) (fun c_7 => ?_)
      · have hF := hF.trans (if_pos c_7)
        refine lv_iconst (v := 0) hx hb dX3_areBoxesRight_93 (by decide) ?_
        exact W.zret (v := 0) hx hb hr rfl (fun t ht hW => ⟨⟨0, (), rfl, hF.symm, pz_hp ht hP⟩, hS.F ht⟩) hS.2.2 dX3_areBoxesRight_94 hlocks
      · have hF := hF.trans (if_neg c_7)
        refine lv_aload_n hx hb dX3_areBoxesRight_71 rfl (lv_at hl 0 rfl) ?_
        refine va_get (D := D) (ci := 3) (v := .ref (q 3)) (C := RX3) (T := TX3) (N := 3) hx hb hts in_X3_areBoxesRight_X3 hown hK hP 0 rfl rfl 2 (by decide) (hts _ fl_X3_areBoxesRight_26) (fun _ h9 => h9) rfl dX3_areBoxesRight_72 ?_
        refine lv_aload_n hx hb dX3_areBoxesRight_75 rfl (lv_at hl 0 rfl) ?_
        refine va_get (D := D) (ci := 3) (v := .ref (q 2)) (C := RX3) (T := TX3) (N := 3) hx hb hts in_X3_areBoxesRight_X3 hown hK hP 0 rfl rfl 1 (by decide) (hts _ fl_X3_areBoxesRight_19) (fun _ h9 => h9) rfl dX3_areBoxesRight_76 ?_
        refine lv_iload_n hx hb dX3_areBoxesRight_79 rfl (lv_at hl 1 rfl) ?_
        refine pz_Vi (As := [.int (x1)]) (rest := [.ref (q 3)]) ⟨hx, hb, hml, hown, hts⟩ (c_X2_rOf l D q k t cnt kinds firsts seconds heights tables replaced laid rules ps qs rs fs frules heads ends inforce usable summ x1) (cwV 1 hts gX3_areBoxesRight_X2_rOf rfl rfl rfl hdV_X2_rOf ⟨Nat.le_of_ble_eq_true rfl, Nat.le_of_ble_eq_true rfl⟩) pz_KX.call (hKX.go hS) (va_recv hK hP (ci := 2) (q0 := 2) rfl rfl) hP hS rfl hl.1 rfl (Nat.le_of_ble_eq_true rfl) dX3_areBoxesRight_80 ⟨Nat.zero_le _, Nat.zero_le _⟩ (fun r_8 u_8 H locs hF_8 hP hS => ?_)
        have hF := hF.trans (pz_be hF_8)
        refine pz_Vi (As := [.int (r_8)]) (rest := []) ⟨hx, hb, hml, hown, hts⟩ (c_X0_isUsableBox l D q k t cnt kinds firsts seconds heights tables replaced laid rules ps qs rs fs frules heads ends inforce usable summ r_8) (cwV 1 hts gX3_areBoxesRight_X0_isUsableBox rfl rfl rfl hdV_X0_isUsableBox ⟨Nat.le_of_ble_eq_true rfl, Nat.le_of_ble_eq_true rfl⟩) pz_KX.call (hKX.go hS) (va_recv hK hP (ci := 0) (q0 := 3) rfl rfl) hP hS rfl hl.1 rfl (Nat.le_of_ble_eq_true rfl) dX3_areBoxesRight_83 ⟨Nat.zero_le _, Nat.zero_le _⟩ (fun r_9 u_9 H locs hF_9 hP hS => ?_)
        have hF := hF.trans (pz_be hF_9)
        refine lv_if_eq (tgt := 93) hx hb dX3_areBoxesRight_86 (by decide) (fun c_10 => ?_) (fun c_10 => ?_)
        · have hF := hF.trans (if_pos c_10)
          refine lv_iconst (v := 0) hx hb dX3_areBoxesRight_93 (by decide) ?_
          exact W.zret (v := 0) hx hb hr rfl (fun t ht hW => ⟨⟨0, (), rfl, hF.symm, pz_hp ht hP⟩, hS.F ht⟩) hS.2.2 dX3_areBoxesRight_94 hlocks
        · have hF := hF.trans (if_neg c_10)
          refine lv_iconst (v := 1) hx hb dX3_areBoxesRight_89 (by decide) ?_
          refine lv_goto (tgt := 94) hx hb dX3_areBoxesRight_90 (by decide) ?_
          exact W.zret (v := 1) hx hb hr rfl (fun t ht hW => ⟨⟨1, (), rfl, hF.symm, pz_hp ht hP⟩, hS.F ht⟩) hS.2.2 dX3_areBoxesRight_94 hlocks
    · have hF := hF.trans (if_neg c_4)
      refine pz_cases (P := x2 = 10) (fun c_11 => ?_) (fun c_11 => ?_)
      · have hF := hF.trans (if_pos c_11)
        refine lv_lookup (tgt := 95) (off := 94) hx hb dX3_areBoxesRight_1 (by decide) (by rw [c_11]; rfl) (by decide) ?_
        refine lv_aload_n hx hb dX3_areBoxesRight_95 rfl (lv_at hl 0 rfl) ?_
        refine va_get (D := D) (ci := 3) (v := .ref (q 3)) (C := RX3) (T := TX3) (N := 3) hx hb hts in_X3_areBoxesRight_X3 hown hK hP 0 rfl rfl 2 (by decide) (hts _ fl_X3_areBoxesRight_26) (fun _ h9 => h9) rfl dX3_areBoxesRight_96 ?_
        refine lv_aload_n hx hb dX3_areBoxesRight_99 rfl (lv_at hl 0 rfl) ?_
        refine va_get (D := D) (ci := 3) (v := .ref (q 2)) (C := RX3) (T := TX3) (N := 3) hx hb hts in_X3_areBoxesRight_X3 hown hK hP 0 rfl rfl 1 (by decide) (hts _ fl_X3_areBoxesRight_19) (fun _ h9 => h9) rfl dX3_areBoxesRight_100 ?_
        refine lv_iload_n hx hb dX3_areBoxesRight_103 rfl (lv_at hl 1 rfl) ?_
        refine pz_Vi (As := [.int (x1)]) (rest := [.ref (q 3)]) ⟨hx, hb, hml, hown, hts⟩ (c_X2_pOf l D q k t cnt kinds firsts seconds heights tables replaced laid rules ps qs rs fs frules heads ends inforce usable summ x1) (cwV 1 hts gX3_areBoxesRight_X2_pOf rfl rfl rfl hdV_X2_pOf ⟨Nat.le_of_ble_eq_true rfl, Nat.le_of_ble_eq_true rfl⟩) pz_KX.call (hKX.go hS) (va_recv hK hP (ci := 2) (q0 := 2) rfl rfl) hP hS rfl hl.1 rfl (Nat.le_of_ble_eq_true rfl) dX3_areBoxesRight_104 ⟨Nat.zero_le _, Nat.zero_le _⟩ (fun r_12 u_12 H locs hF_12 hP hS => ?_)
        have hF := hF.trans (pz_be hF_12)
        refine pz_Vi (As := [.int (r_12)]) (rest := []) ⟨hx, hb, hml, hown, hts⟩ (c_X0_isUsableBox l D q k t cnt kinds firsts seconds heights tables replaced laid rules ps qs rs fs frules heads ends inforce usable summ r_12) (cwV 1 hts gX3_areBoxesRight_X0_isUsableBox rfl rfl rfl hdV_X0_isUsableBox ⟨Nat.le_of_ble_eq_true rfl, Nat.le_of_ble_eq_true rfl⟩) pz_KX.call (hKX.go hS) (va_recv hK hP (ci := 0) (q0 := 3) rfl rfl) hP hS rfl hl.1 rfl (Nat.le_of_ble_eq_true rfl) dX3_areBoxesRight_107 ⟨Nat.zero_le _, Nat.zero_le _⟩ (fun r_13 u_13 H locs hF_13 hP hS => ?_)
        have hF := hF.trans (pz_be hF_13)
        exact W.zret (v := r_13) hx hb hr (pz_n01 (pz_usable_01 ‹_›)) (fun t ht hW => ⟨⟨r_13, (), rfl, hF.symm, pz_hp ht hP⟩, hS.F ht⟩) hS.2.2 dX3_areBoxesRight_110 hlocks
      · have hF := hF.trans (if_neg c_11)
        have ho : Op.lookupswitch.offset [(2, 35), (9, 52), (10, 94)] (110) (x2).toInt = 110 := by
          rw [Op.lookupswitch.offset_cons, if_neg (fun h => c_1 (Int32.toInt_inj.mp (h.symm.trans (show (2 : Int) = (2 : Int32).toInt from rfl)))), Op.lookupswitch.offset_cons, if_neg (fun h => c_4 (Int32.toInt_inj.mp (h.symm.trans (show (9 : Int) = (9 : Int32).toInt from rfl)))), Op.lookupswitch.offset_cons, if_neg (fun h => c_11 (Int32.toInt_inj.mp (h.symm.trans (show (10 : Int) = (10 : Int32).toInt from rfl)))), Op.lookupswitch.offset_nil]
        refine lv_lookup (tgt := 111) hx hb dX3_areBoxesRight_1 (by decide) ho (by decide) ?_
        refine lv_iconst (v := 1) hx hb dX3_areBoxesRight_111 (by decide) ?_
        exact W.zret (v := 1) hx hb hr rfl (fun t ht hW => ⟨⟨1, (), rfl, hF.symm, pz_hp ht hP⟩, hS.F ht⟩) hS.2.2 dX3_areBoxesRight_112 hlocks

-- == X3_heldAtEnd
def f_X3_heldAtEnd (heads : Nat → Int32) (ends : Nat → Int32) (x1 : Int32) : Int32 := pz_bnd (f_X0_endOf ends x1) (fun z_1 => pz_bnd (f_X0_headOf heads z_1) (fun z_2 => z_2))
theorem fl_X3_heldAtEnd_26 : Cond.fieldLink RX3 26 "BoxProofs" "findings" "LBoxProofs$Findings;" ∈ wsX3_heldAtEnd := by decide +kernel
theorem in_X3_heldAtEnd_X3 : ∀ w ∈ wsX30, w ∈ wsX3_heldAtEnd := by decide +kernel
set_option maxHeartbeats 4000000 in
set_option maxRecDepth 100000 in
theorem c_X3_heldAtEnd (l : Launch) (D : va_G) (q : Nat → Nat) (k : Nat → ClassId) (t : Nat → Nat) (cnt : Int32) (kinds : Nat → Int32) (firsts : Nat → Int32) (seconds : Nat → Int32) (heights : Nat → Int32) (tables : Nat → Int64) (replaced : Nat → Int32) (laid : Nat → Int32) (rules : Nat → Int32) (ps : Nat → Int32) (qs : Nat → Int32) (rs : Nat → Int32) (fs : Nat → Int32) (frules : Nat → Int32) (heads : Nat → Int32) (ends : Nat → Int32) (inforce : Nat → Int32) (usable : Nat → Int32) (summ : Nat → Int32) (x1 : Int32)  : Met l yX3_heldAtEnd wsX3_heldAtEnd ({ frames := 2, cells := 0, slots := 0, locals := 41 }) (va_Pc [.ref (q 0), .int (x1)] (fun U => va_P D vwCl (pz_X q k cnt kinds firsts seconds heights tables replaced laid rules ps qs rs fs frules heads ends inforce usable summ) U.heap ∧ pz_KX D q k t U)) (va_Qi (fun r (_ : Unit) => r = (f_X3_heldAtEnd heads ends x1)) (fun _ t => va_P D vwCl (pz_X q k cnt kinds firsts seconds heights tables replaced laid rules ps qs rs fs frules heads ends inforce usable summ) t.heap) (pz_A 22 q)) 0 0 (pz_A 22 q) := by
  refine Met.ofW (cc := cX3_heldAtEnd) (maxL := 2) (ret := (some .int)) (by decide) rfl ?_
  intro p e s m args below meth c s₁ B hml hv
  obtain ⟨rfl, hP, hKX⟩ := hv
  have hx := B.exec
  have hb := B.bytes
  have hr := B.returns
  have hts := atoms_spec (ws := wsX3_heldAtEnd) B.pre
  have hown : s.vm.findClass RX3 = some m.cls := findClass_of_methodNamed B.named
  have hlocks := B.notSynchronized
  have hC : pz_C p s m ([.ref (q 0), .int (x1)] : List Value).toArray meth c cX3_heldAtEnd wsX3_heldAtEnd RX3 2 (some .int) := ⟨hx, hb, hml, hown, hts, hr, hlocks⟩
  have hK := hKX.1
  have hS : va_S (pz_A 22 q) s.heap s.heap [] := va_S.rf
  have hl := lv_entry [.ref (q 0), .int (x1)] (n := 2) (Nat.le_of_ble_eq_true rfl)
  rw [lg_entry_eq]
  generalize (lg_sl [.ref (q 0), .int (x1)] ++ List.replicate (2 - (lg_sl [.ref (q 0), .int (x1)]).length) Slot.unset).toArray = ls at hl ⊢
  have hl : lv_has ls 2 [(0, .ref (q 0)), (1, .int (x1))] := hl
  generalize hF : f_X3_heldAtEnd heads ends x1 = G
  replace hF := hF.symm
  unfold f_X3_heldAtEnd at hF
  refine lv_aload_n hx hb dX3_heldAtEnd_0 rfl (lv_at hl 0 rfl) ?_
  refine va_get (D := D) (ci := 3) (v := .ref (q 3)) (C := RX3) (T := TX3) (N := 3) hx hb hts in_X3_heldAtEnd_X3 hown hK hP 0 rfl rfl 2 (by decide) (hts _ fl_X3_heldAtEnd_26) (fun _ h9 => h9) rfl dX3_heldAtEnd_1 ?_
  refine lv_aload_n hx hb dX3_heldAtEnd_4 rfl (lv_at hl 0 rfl) ?_
  refine va_get (D := D) (ci := 3) (v := .ref (q 3)) (C := RX3) (T := TX3) (N := 3) hx hb hts in_X3_heldAtEnd_X3 hown hK hP 0 rfl rfl 2 (by decide) (hts _ fl_X3_heldAtEnd_26) (fun _ h9 => h9) rfl dX3_heldAtEnd_5 ?_
  refine lv_iload_n hx hb dX3_heldAtEnd_8 rfl (lv_at hl 1 rfl) ?_
  refine pz_Vi (As := [.int (x1)]) (rest := [.ref (q 3)]) ⟨hx, hb, hml, hown, hts⟩ (c_X0_endOf l D q k t cnt kinds firsts seconds heights tables replaced laid rules ps qs rs fs frules heads ends inforce usable summ x1) (cwV 1 hts gX3_heldAtEnd_X0_endOf rfl rfl rfl hdV_X0_endOf ⟨Nat.le_of_ble_eq_true rfl, Nat.le_of_ble_eq_true rfl⟩) pz_KX.call (hKX.go hS) (va_recv hK hP (ci := 0) (q0 := 3) rfl rfl) hP hS rfl hl.1 rfl (Nat.le_of_ble_eq_true rfl) dX3_heldAtEnd_9 ⟨Nat.zero_le _, Nat.zero_le _⟩ (fun r_1 u_1 H locs hF_1 hP hS => ?_)
  have hF := hF.trans (pz_be hF_1)
  refine pz_Vi (As := [.int (r_1)]) (rest := []) ⟨hx, hb, hml, hown, hts⟩ (c_X0_headOf l D q k t cnt kinds firsts seconds heights tables replaced laid rules ps qs rs fs frules heads ends inforce usable summ r_1) (cwV 1 hts gX3_heldAtEnd_X0_headOf rfl rfl rfl hdV_X0_headOf ⟨Nat.le_of_ble_eq_true rfl, Nat.le_of_ble_eq_true rfl⟩) pz_KX.call (hKX.go hS) (va_recv hK hP (ci := 0) (q0 := 3) rfl rfl) hP hS rfl hl.1 rfl (Nat.le_of_ble_eq_true rfl) dX3_heldAtEnd_12 ⟨Nat.zero_le _, Nat.zero_le _⟩ (fun r_2 u_2 H locs hF_2 hP hS => ?_)
  have hF := hF.trans (pz_be hF_2)
  exact W.iret (v := r_2) hx hb hr (fun t ht hW => ⟨⟨r_2, (), rfl, hF.symm, pz_hp ht hP⟩, hS.F ht⟩) hS.2.2 dX3_heldAtEnd_15 hlocks

-- == X3_areAllLike
def f_X3_areAllLike (cnt : Int32) (firsts : Nat → Int32) (seconds : Nat → Int32) (ps : Nat → Int32) (qs : Nat → Int32) (rs : Nat → Int32) (heads : Nat → Int32) (ends : Nat → Int32) (x1 : Int32) (x2 : Int32) : Int32 := pz_bnd (f_X2_pOf ps x1) (fun z_1 => pz_bnd (f_X0_headOf heads z_1) (fun z_2 => pz_bnd (f_X2_qOf qs x1) (fun z_3 => pz_bnd (f_X2_rOf rs x1) (fun z_4 => if x2 = 9 then (pz_bnd (f_X0_headOf heads z_3) (fun z_6 => pz_bnd (f_X1_firstOf cnt firsts z_2) (fun z_7 => if z_6 = z_7 then (pz_bnd (f_X0_headOf heads z_4) (fun z_9 => pz_bnd (f_X1_secondOf cnt seconds z_2) (fun z_10 => if z_9 = z_10 then (pz_bnd (f_X3_heldAtEnd heads ends z_3) (fun z_12 => pz_bnd (f_X3_heldAtEnd heads ends z_4) (fun z_13 => if z_12 = z_13 then (1) else (0)))) else (0)))) else (0)))) else (if x2 = 11 then (pz_bnd (f_X0_headOf heads z_3) (fun z_16 => pz_bnd (f_X1_firstOf cnt firsts z_2) (fun z_17 => if z_16 = z_17 then (1) else (0)))) else (1))))))
theorem fl_X3_areAllLike_10 : Cond.fieldLink RX3 10 "BoxProofs" "known" "LBoxProofs$Formulas;" ∈ wsX3_areAllLike := by decide +kernel
theorem fl_X3_areAllLike_19 : Cond.fieldLink RX3 19 "BoxProofs" "proof" "LBoxProofs$Lines;" ∈ wsX3_areAllLike := by decide +kernel
theorem fl_X3_areAllLike_26 : Cond.fieldLink RX3 26 "BoxProofs" "findings" "LBoxProofs$Findings;" ∈ wsX3_areAllLike := by decide +kernel
theorem hdV_X3_heldAtEnd : yX3_heldAtEnd.cls = RX3 ∧ yX3_heldAtEnd.cls ≠ "java/lang/invoke/MethodHandle" ∧ yX3_heldAtEnd.cls ≠ "java/lang/invoke/VarHandle" ∧ (parseMethodDescriptor yX3_heldAtEnd.desc).map (fun d => d.parameters.length) = some 1 := by decide +kernel
theorem in_X3_areAllLike_X3 : ∀ w ∈ wsX30, w ∈ wsX3_areAllLike := by decide +kernel
set_option maxHeartbeats 4000000 in
set_option maxRecDepth 100000 in
theorem c_X3_areAllLike (l : Launch) (D : va_G) (q : Nat → Nat) (k : Nat → ClassId) (t : Nat → Nat) (cnt : Int32) (kinds : Nat → Int32) (firsts : Nat → Int32) (seconds : Nat → Int32) (heights : Nat → Int32) (tables : Nat → Int64) (replaced : Nat → Int32) (laid : Nat → Int32) (rules : Nat → Int32) (ps : Nat → Int32) (qs : Nat → Int32) (rs : Nat → Int32) (fs : Nat → Int32) (frules : Nat → Int32) (heads : Nat → Int32) (ends : Nat → Int32) (inforce : Nat → Int32) (usable : Nat → Int32) (summ : Nat → Int32) (x1 : Int32) (x2 : Int32) (hc : pz_c cnt) : Met l yX3_areAllLike wsX3_areAllLike ({ frames := 3, cells := 0, slots := 0, locals := 62 }) (va_Pc [.ref (q 0), .int (x1), .int (x2)] (fun U => va_P D vwCl (pz_X q k cnt kinds firsts seconds heights tables replaced laid rules ps qs rs fs frules heads ends inforce usable summ) U.heap ∧ pz_KX D q k t U)) (va_Qi (fun r (_ : Unit) => r = (f_X3_areAllLike cnt firsts seconds ps qs rs heads ends x1 x2)) (fun _ t => va_P D vwCl (pz_X q k cnt kinds firsts seconds heights tables replaced laid rules ps qs rs fs frules heads ends inforce usable summ) t.heap) (pz_A 22 q)) 0 0 (pz_A 22 q) := by
  refine Met.ofW (cc := cX3_areAllLike) (maxL := 6) (ret := (some .boolean)) (by decide) rfl ?_
  intro p e s m args below meth c s₁ B hml hv
  obtain ⟨rfl, hP, hKX⟩ := hv
  have hx := B.exec
  have hb := B.bytes
  have hr := B.returns
  have hts := atoms_spec (ws := wsX3_areAllLike) B.pre
  have hown : s.vm.findClass RX3 = some m.cls := findClass_of_methodNamed B.named
  have hlocks := B.notSynchronized
  have hC : pz_C p s m ([.ref (q 0), .int (x1), .int (x2)] : List Value).toArray meth c cX3_areAllLike wsX3_areAllLike RX3 6 (some .boolean) := ⟨hx, hb, hml, hown, hts, hr, hlocks⟩
  have hK := hKX.1
  have hS : va_S (pz_A 22 q) s.heap s.heap [] := va_S.rf
  have hl := lv_entry [.ref (q 0), .int (x1), .int (x2)] (n := 6) (Nat.le_of_ble_eq_true rfl)
  rw [lg_entry_eq]
  generalize (lg_sl [.ref (q 0), .int (x1), .int (x2)] ++ List.replicate (6 - (lg_sl [.ref (q 0), .int (x1), .int (x2)]).length) Slot.unset).toArray = ls at hl ⊢
  have hl : lv_has ls 6 [(0, .ref (q 0)), (1, .int (x1)), (2, .int (x2))] := hl
  generalize hF : f_X3_areAllLike cnt firsts seconds ps qs rs heads ends x1 x2 = G
  replace hF := hF.symm
  unfold f_X3_areAllLike at hF
  refine lv_aload_n hx hb dX3_areAllLike_0 rfl (lv_at hl 0 rfl) ?_
  refine va_get (D := D) (ci := 3) (v := .ref (q 3)) (C := RX3) (T := TX3) (N := 3) hx hb hts in_X3_areAllLike_X3 hown hK hP 0 rfl rfl 2 (by decide) (hts _ fl_X3_areAllLike_26) (fun _ h9 => h9) rfl dX3_areAllLike_1 ?_
  refine lv_aload_n hx hb dX3_areAllLike_4 rfl (lv_at hl 0 rfl) ?_
  refine va_get (D := D) (ci := 3) (v := .ref (q 2)) (C := RX3) (T := TX3) (N := 3) hx hb hts in_X3_areAllLike_X3 hown hK hP 0 rfl rfl 1 (by decide) (hts _ fl_X3_areAllLike_19) (fun _ h9 => h9) rfl dX3_areAllLike_5 ?_
  refine lv_iload_n hx hb dX3_areAllLike_8 rfl (lv_at hl 1 rfl) ?_
  refine pz_Vi (As := [.int (x1)]) (rest := [.ref (q 3)]) ⟨hx, hb, hml, hown, hts⟩ (c_X2_pOf l D q k t cnt kinds firsts seconds heights tables replaced laid rules ps qs rs fs frules heads ends inforce usable summ x1) (cwV 1 hts gX3_areAllLike_X2_pOf rfl rfl rfl hdV_X2_pOf ⟨Nat.le_of_ble_eq_true rfl, Nat.le_of_ble_eq_true rfl⟩) pz_KX.call (hKX.go hS) (va_recv hK hP (ci := 2) (q0 := 2) rfl rfl) hP hS rfl hl.1 rfl (Nat.le_of_ble_eq_true rfl) dX3_areAllLike_9 ⟨Nat.zero_le _, Nat.zero_le _⟩ (fun r_1 u_1 H locs hF_1 hP hS => ?_)
  have hF := hF.trans (pz_be hF_1)
  refine pz_Vi (As := [.int (r_1)]) (rest := []) ⟨hx, hb, hml, hown, hts⟩ (c_X0_headOf l D q k t cnt kinds firsts seconds heights tables replaced laid rules ps qs rs fs frules heads ends inforce usable summ r_1) (cwV 1 hts gX3_areAllLike_X0_headOf rfl rfl rfl hdV_X0_headOf ⟨Nat.le_of_ble_eq_true rfl, Nat.le_of_ble_eq_true rfl⟩) pz_KX.call (hKX.go hS) (va_recv hK hP (ci := 0) (q0 := 3) rfl rfl) hP hS rfl hl.1 rfl (Nat.le_of_ble_eq_true rfl) dX3_areAllLike_12 ⟨Nat.zero_le _, Nat.zero_le _⟩ (fun r_2 u_2 H locs hF_2 hP hS => ?_)
  have hF := hF.trans (pz_be hF_2)
  refine lv_istore_n (lv' := [(3, .int (r_2)), (0, .ref (q 0)), (1, .int (x1)), (2, .int (x2))]) hx hb dX3_areAllLike_15 rfl hl (by decide) rfl (fun ls hl => ?_)
  refine lv_aload_n hx hb dX3_areAllLike_16 rfl (lv_at hl 1 rfl) ?_
  refine va_get (D := D) (ci := 3) (v := .ref (q 2)) (C := RX3) (T := TX3) (N := 3) hx hb hts in_X3_areAllLike_X3 hown hK hP 0 rfl rfl 1 (by decide) (hts _ fl_X3_areAllLike_19) (fun _ h9 => h9) rfl dX3_areAllLike_17 ?_
  refine lv_iload_n hx hb dX3_areAllLike_20 rfl (lv_at hl 2 rfl) ?_
  refine pz_Vi (As := [.int (x1)]) (rest := []) ⟨hx, hb, hml, hown, hts⟩ (c_X2_qOf l D q k t cnt kinds firsts seconds heights tables replaced laid rules ps qs rs fs frules heads ends inforce usable summ x1) (cwV 1 hts gX3_areAllLike_X2_qOf rfl rfl rfl hdV_X2_qOf ⟨Nat.le_of_ble_eq_true rfl, Nat.le_of_ble_eq_true rfl⟩) pz_KX.call (hKX.go hS) (va_recv hK hP (ci := 2) (q0 := 2) rfl rfl) hP hS rfl hl.1 rfl (Nat.le_of_ble_eq_true rfl) dX3_areAllLike_21 ⟨Nat.zero_le _, Nat.zero_le _⟩ (fun r_3 u_3 H locs hF_3 hP hS => ?_)
  have hF := hF.trans (pz_be hF_3)
  refine lv_istore (lv' := [(4, .int (r_3)), (3, .int (r_2)), (0, .ref (q 0)), (1, .int (x1)), (2, .int (x2))]) hx hb dX3_areAllLike_24 hl (by decide) rfl (fun ls hl => ?_)
  refine lv_aload_n hx hb dX3_areAllLike_26 rfl (lv_at hl 2 rfl) ?_
  refine va_get (D := D) (ci := 3) (v := .ref (q 2)) (C := RX3) (T := TX3) (N := 3) hx hb hts in_X3_areAllLike_X3 hown hK hP 0 rfl rfl 1 (by decide) (hts _ fl_X3_areAllLike_19) (fun _ h9 => h9) rfl dX3_areAllLike_27 ?_
  refine lv_iload_n hx hb dX3_areAllLike_30 rfl (lv_at hl 3 rfl) ?_
  refine pz_Vi (As := [.int (x1)]) (rest := []) ⟨hx, hb, hml, hown, hts⟩ (c_X2_rOf l D q k t cnt kinds firsts seconds heights tables replaced laid rules ps qs rs fs frules heads ends inforce usable summ x1) (cwV 1 hts gX3_areAllLike_X2_rOf rfl rfl rfl hdV_X2_rOf ⟨Nat.le_of_ble_eq_true rfl, Nat.le_of_ble_eq_true rfl⟩) pz_KX.call (hKX.go hS) (va_recv hK hP (ci := 2) (q0 := 2) rfl rfl) hP hS rfl hl.1 rfl (Nat.le_of_ble_eq_true rfl) dX3_areAllLike_31 ⟨Nat.zero_le _, Nat.zero_le _⟩ (fun r_4 u_4 H locs hF_4 hP hS => ?_)
  have hF := hF.trans (pz_be hF_4)
  refine lv_istore (lv' := [(5, .int (r_4)), (4, .int (r_3)), (3, .int (r_2)), (0, .ref (q 0)), (1, .int (x1)), (2, .int (x2))]) hx hb dX3_areAllLike_34 hl (by decide) rfl (fun ls hl => ?_)
  refine lv_iload_n hx hb dX3_areAllLike_36 rfl (lv_at hl 5 rfl) ?_
  refine pz_cases (P := x2 = 9) (fun c_5 => ?_) (fun c_5 => ?_)
  · have hF := hF.trans (if_pos c_5)
    refine lv_lookup (tgt := 64) (off := 27) hx hb dX3_areAllLike_37 (by decide) (by rw [c_5]; rfl) (by decide) ?_
    refine lv_aload_n hx hb dX3_areAllLike_64 rfl (lv_at hl 3 rfl) ?_
    refine va_get (D := D) (ci := 3) (v := .ref (q 3)) (C := RX3) (T := TX3) (N := 3) hx hb hts in_X3_areAllLike_X3 hown hK hP 0 rfl rfl 2 (by decide) (hts _ fl_X3_areAllLike_26) (fun _ h9 => h9) rfl dX3_areAllLike_65 ?_
    refine lv_iload hx hb dX3_areAllLike_68 (lv_at hl 1 rfl) ?_
    refine pz_Vi (As := [.int (r_3)]) (rest := []) ⟨hx, hb, hml, hown, hts⟩ (c_X0_headOf l D q k t cnt kinds firsts seconds heights tables replaced laid rules ps qs rs fs frules heads ends inforce usable summ r_3) (cwV 1 hts gX3_areAllLike_X0_headOf rfl rfl rfl hdV_X0_headOf ⟨Nat.le_of_ble_eq_true rfl, Nat.le_of_ble_eq_true rfl⟩) pz_KX.call (hKX.go hS) (va_recv hK hP (ci := 0) (q0 := 3) rfl rfl) hP hS rfl hl.1 rfl (Nat.le_of_ble_eq_true rfl) dX3_areAllLike_70 ⟨Nat.zero_le _, Nat.zero_le _⟩ (fun r_6 u_6 H locs hF_6 hP hS => ?_)
    have hF := hF.trans (pz_be hF_6)
    refine lv_aload_n hx hb dX3_areAllLike_73 rfl (lv_at hl 3 rfl) ?_
    refine va_get (D := D) (ci := 3) (v := .ref (q 1)) (C := RX3) (T := TX3) (N := 3) hx hb hts in_X3_areAllLike_X3 hown hK hP 0 rfl rfl 0 (by decide) (hts _ fl_X3_areAllLike_10) (fun _ h9 => h9) rfl dX3_areAllLike_74 ?_
    refine lv_iload_n hx hb dX3_areAllLike_77 rfl (lv_at hl 2 rfl) ?_
    refine pz_Vi (As := [.int (r_2)]) (rest := [.int (r_6)]) ⟨hx, hb, hml, hown, hts⟩ (c_X1_firstOf l D q k t cnt kinds firsts seconds heights tables replaced laid rules ps qs rs fs frules heads ends inforce usable summ r_2 hc) (cwV 1 hts gX3_areAllLike_X1_firstOf rfl rfl rfl hdV_X1_firstOf ⟨Nat.le_of_ble_eq_true rfl, Nat.le_of_ble_eq_true rfl⟩) pz_KX.call (hKX.go hS) (va_recv hK hP (ci := 1) (q0 := 1) rfl rfl) hP hS rfl hl.1 rfl (Nat.le_of_ble_eq_true rfl) dX3_areAllLike_78 ⟨Nat.zero_le _, Nat.zero_le _⟩ (fun r_7 u_7 H locs hF_7 hP hS => ?_)
    have hF := hF.trans (pz_be hF_7)
    refine lv_icmp_ne (tgt := 123) hx hb dX3_areAllLike_81 (by decide) (fun c_8 => ?_) (fun c_8 => ?_)
    · have hF := hF.trans (if_neg c_8)
      refine lv_iconst (v := 0) hx hb dX3_areAllLike_123 (by decide) ?_
      exact W.zret (v := 0) hx hb hr rfl (fun t ht hW => ⟨⟨0, (), rfl, hF.symm, pz_hp ht hP⟩, hS.F ht⟩) hS.2.2 dX3_areAllLike_124 hlocks
    · have hF := hF.trans (if_pos c_8)
      refine lv_aload_n hx hb dX3_areAllLike_84 rfl (lv_at hl 3 rfl) ?_
      refine va_get (D := D) (ci := 3) (v := .ref (q 3)) (C := RX3) (T := TX3) (N := 3) hx hb hts in_X3_areAllLike_X3 hown hK hP 0 rfl rfl 2 (by decide) (hts _ fl_X3_areAllLike_26) (fun _ h9 => h9) rfl dX3_areAllLike_85 ?_
      refine lv_iload hx hb dX3_areAllLike_88 (lv_at hl 0 rfl) ?_
      refine pz_Vi (As := [.int (r_4)]) (rest := []) ⟨hx, hb, hml, hown, hts⟩ (c_X0_headOf l D q k t cnt kinds firsts seconds heights tables replaced laid rules ps qs rs fs frules heads ends inforce usable summ r_4) (cwV 1 hts gX3_areAllLike_X0_headOf rfl rfl rfl hdV_X0_headOf ⟨Nat.le_of_ble_eq_true rfl, Nat.le_of_ble_eq_true rfl⟩) pz_KX.call (hKX.go hS) (va_recv hK hP (ci := 0) (q0 := 3) rfl rfl) hP hS rfl hl.1 rfl (Nat.le_of_ble_eq_true rfl) dX3_areAllLike_90 ⟨Nat.zero_le _, Nat.zero_le _⟩ (fun r_9 u_9 H locs hF_9 hP hS => ?_)
      have hF := hF.trans (pz_be hF_9)
      refine lv_aload_n hx hb dX3_areAllLike_93 rfl (lv_at hl 3 rfl) ?_
      refine va_get (D := D) (ci := 3) (v := .ref (q 1)) (C := RX3) (T := TX3) (N := 3) hx hb hts in_X3_areAllLike_X3 hown hK hP 0 rfl rfl 0 (by decide) (hts _ fl_X3_areAllLike_10) (fun _ h9 => h9) rfl dX3_areAllLike_94 ?_
      refine lv_iload_n hx hb dX3_areAllLike_97 rfl (lv_at hl 2 rfl) ?_
      refine pz_Vi (As := [.int (r_2)]) (rest := [.int (r_9)]) ⟨hx, hb, hml, hown, hts⟩ (c_X1_secondOf l D q k t cnt kinds firsts seconds heights tables replaced laid rules ps qs rs fs frules heads ends inforce usable summ r_2 hc) (cwV 1 hts gX3_areAllLike_X1_secondOf rfl rfl rfl hdV_X1_secondOf ⟨Nat.le_of_ble_eq_true rfl, Nat.le_of_ble_eq_true rfl⟩) pz_KX.call (hKX.go hS) (va_recv hK hP (ci := 1) (q0 := 1) rfl rfl) hP hS rfl hl.1 rfl (Nat.le_of_ble_eq_true rfl) dX3_areAllLike_98 ⟨Nat.zero_le _, Nat.zero_le _⟩ (fun r_10 u_10 H locs hF_10 hP hS => ?_)
      have hF := hF.trans (pz_be hF_10)
      refine lv_icmp_ne (tgt := 123) hx hb dX3_areAllLike_101 (by decide) (fun c_11 => ?_) (fun c_11 => ?_)
      · have hF := hF.trans (if_neg c_11)
        refine lv_iconst (v := 0) hx hb dX3_areAllLike_123 (by decide) ?_
        exact W.zret (v := 0) hx hb hr rfl (fun t ht hW => ⟨⟨0, (), rfl, hF.symm, pz_hp ht hP⟩, hS.F ht⟩) hS.2.2 dX3_areAllLike_124 hlocks
      · have hF := hF.trans (if_pos c_11)
        refine lv_aload_n hx hb dX3_areAllLike_104 rfl (lv_at hl 3 rfl) ?_
        refine lv_iload hx hb dX3_areAllLike_105 (lv_at hl 1 rfl) ?_
        refine pz_Vi (As := [.int (r_3)]) (rest := []) ⟨hx, hb, hml, hown, hts⟩ (c_X3_heldAtEnd l D q k t cnt kinds firsts seconds heights tables replaced laid rules ps qs rs fs frules heads ends inforce usable summ r_3) (cwV 1 hts gX3_areAllLike_X3_heldAtEnd rfl rfl rfl hdV_X3_heldAtEnd ⟨Nat.le_of_ble_eq_true rfl, Nat.le_of_ble_eq_true rfl⟩) pz_KX.call (hKX.go hS) (va_recv hK hP (ci := 3) (q0 := 0) rfl rfl) hP hS rfl hl.1 rfl (Nat.le_of_ble_eq_true rfl) dX3_areAllLike_107 ⟨Nat.zero_le _, Nat.zero_le _⟩ (fun r_12 u_12 H locs hF_12 hP hS => ?_)
        have hF := hF.trans (pz_be hF_12)
        refine lv_aload_n hx hb dX3_areAllLike_110 rfl (lv_at hl 3 rfl) ?_
        refine lv_iload hx hb dX3_areAllLike_111 (lv_at hl 0 rfl) ?_
        refine pz_Vi (As := [.int (r_4)]) (rest := [.int (r_12)]) ⟨hx, hb, hml, hown, hts⟩ (c_X3_heldAtEnd l D q k t cnt kinds firsts seconds heights tables replaced laid rules ps qs rs fs frules heads ends inforce usable summ r_4) (cwV 1 hts gX3_areAllLike_X3_heldAtEnd rfl rfl rfl hdV_X3_heldAtEnd ⟨Nat.le_of_ble_eq_true rfl, Nat.le_of_ble_eq_true rfl⟩) pz_KX.call (hKX.go hS) (va_recv hK hP (ci := 3) (q0 := 0) rfl rfl) hP hS rfl hl.1 rfl (Nat.le_of_ble_eq_true rfl) dX3_areAllLike_113 ⟨Nat.zero_le _, Nat.zero_le _⟩ (fun r_13 u_13 H locs hF_13 hP hS => ?_)
        have hF := hF.trans (pz_be hF_13)
        refine lv_icmp_ne (tgt := 123) hx hb dX3_areAllLike_116 (by decide) (fun c_14 => ?_) (fun c_14 => ?_)
        · have hF := hF.trans (if_neg c_14)
          refine lv_iconst (v := 0) hx hb dX3_areAllLike_123 (by decide) ?_
          exact W.zret (v := 0) hx hb hr rfl (fun t ht hW => ⟨⟨0, (), rfl, hF.symm, pz_hp ht hP⟩, hS.F ht⟩) hS.2.2 dX3_areAllLike_124 hlocks
        · have hF := hF.trans (if_pos c_14)
          refine lv_iconst (v := 1) hx hb dX3_areAllLike_119 (by decide) ?_
          refine lv_goto (tgt := 124) hx hb dX3_areAllLike_120 (by decide) ?_
          exact W.zret (v := 1) hx hb hr rfl (fun t ht hW => ⟨⟨1, (), rfl, hF.symm, pz_hp ht hP⟩, hS.F ht⟩) hS.2.2 dX3_areAllLike_124 hlocks
  · have hF := hF.trans (if_neg c_5)
    refine pz_cases (P := x2 = 11) (fun c_15 => ?_) (fun c_15 => ?_)
    · have hF := hF.trans (if_pos c_15)
      refine lv_lookup (tgt := 125) (off := 88) hx hb dX3_areAllLike_37 (by decide) (by rw [c_15]; rfl) (by decide) ?_
      refine lv_aload_n hx hb dX3_areAllLike_125 rfl (lv_at hl 3 rfl) ?_
      refine va_get (D := D) (ci := 3) (v := .ref (q 3)) (C := RX3) (T := TX3) (N := 3) hx hb hts in_X3_areAllLike_X3 hown hK hP 0 rfl rfl 2 (by decide) (hts _ fl_X3_areAllLike_26) (fun _ h9 => h9) rfl dX3_areAllLike_126 ?_
      refine lv_iload hx hb dX3_areAllLike_129 (lv_at hl 1 rfl) ?_
      refine pz_Vi (As := [.int (r_3)]) (rest := []) ⟨hx, hb, hml, hown, hts⟩ (c_X0_headOf l D q k t cnt kinds firsts seconds heights tables replaced laid rules ps qs rs fs frules heads ends inforce usable summ r_3) (cwV 1 hts gX3_areAllLike_X0_headOf rfl rfl rfl hdV_X0_headOf ⟨Nat.le_of_ble_eq_true rfl, Nat.le_of_ble_eq_true rfl⟩) pz_KX.call (hKX.go hS) (va_recv hK hP (ci := 0) (q0 := 3) rfl rfl) hP hS rfl hl.1 rfl (Nat.le_of_ble_eq_true rfl) dX3_areAllLike_131 ⟨Nat.zero_le _, Nat.zero_le _⟩ (fun r_16 u_16 H locs hF_16 hP hS => ?_)
      have hF := hF.trans (pz_be hF_16)
      refine lv_aload_n hx hb dX3_areAllLike_134 rfl (lv_at hl 3 rfl) ?_
      refine va_get (D := D) (ci := 3) (v := .ref (q 1)) (C := RX3) (T := TX3) (N := 3) hx hb hts in_X3_areAllLike_X3 hown hK hP 0 rfl rfl 0 (by decide) (hts _ fl_X3_areAllLike_10) (fun _ h9 => h9) rfl dX3_areAllLike_135 ?_
      refine lv_iload_n hx hb dX3_areAllLike_138 rfl (lv_at hl 2 rfl) ?_
      refine pz_Vi (As := [.int (r_2)]) (rest := [.int (r_16)]) ⟨hx, hb, hml, hown, hts⟩ (c_X1_firstOf l D q k t cnt kinds firsts seconds heights tables replaced laid rules ps qs rs fs frules heads ends inforce usable summ r_2 hc) (cwV 1 hts gX3_areAllLike_X1_firstOf rfl rfl rfl hdV_X1_firstOf ⟨Nat.le_of_ble_eq_true rfl, Nat.le_of_ble_eq_true rfl⟩) pz_KX.call (hKX.go hS) (va_recv hK hP (ci := 1) (q0 := 1) rfl rfl) hP hS rfl hl.1 rfl (Nat.le_of_ble_eq_true rfl) dX3_areAllLike_139 ⟨Nat.zero_le _, Nat.zero_le _⟩ (fun r_17 u_17 H locs hF_17 hP hS => ?_)
      have hF := hF.trans (pz_be hF_17)
      refine lv_icmp_ne (tgt := 149) hx hb dX3_areAllLike_142 (by decide) (fun c_18 => ?_) (fun c_18 => ?_)
      · have hF := hF.trans (if_neg c_18)
        refine lv_iconst (v := 0) hx hb dX3_areAllLike_149 (by decide) ?_
        exact W.zret (v := 0) hx hb hr rfl (fun t ht hW => ⟨⟨0, (), rfl, hF.symm, pz_hp ht hP⟩, hS.F ht⟩) hS.2.2 dX3_areAllLike_150 hlocks
      · have hF := hF.trans (if_pos c_18)
        refine lv_iconst (v := 1) hx hb dX3_areAllLike_145 (by decide) ?_
        refine lv_goto (tgt := 150) hx hb dX3_areAllLike_146 (by decide) ?_
        exact W.zret (v := 1) hx hb hr rfl (fun t ht hW => ⟨⟨1, (), rfl, hF.symm, pz_hp ht hP⟩, hS.F ht⟩) hS.2.2 dX3_areAllLike_150 hlocks
    · have hF := hF.trans (if_neg c_15)
      have ho : Op.lookupswitch.offset [(9, 27), (11, 88)] (114) (x2).toInt = 114 := by
        rw [Op.lookupswitch.offset_cons, if_neg (fun h => c_5 (Int32.toInt_inj.mp (h.symm.trans (show (9 : Int) = (9 : Int32).toInt from rfl)))), Op.lookupswitch.offset_cons, if_neg (fun h => c_15 (Int32.toInt_inj.mp (h.symm.trans (show (11 : Int) = (11 : Int32).toInt from rfl)))), Op.lookupswitch.offset_nil]
      refine lv_lookup (tgt := 151) hx hb dX3_areAllLike_37 (by decide) ho (by decide) ?_
      refine lv_iconst (v := 1) hx hb dX3_areAllLike_151 (by decide) ?_
      exact W.zret (v := 1) hx hb hr rfl (fun t ht hW => ⟨⟨1, (), rfl, hF.symm, pz_hp ht hP⟩, hS.F ht⟩) hS.2.2 dX3_areAllLike_152 hlocks

-- == X3_conclude
def f_X3_conclude (cnt : Int32) (kinds : Nat → Int32) (firsts : Nat → Int32) (seconds : Nat → Int32) (heights : Nat → Int32) (tables : Nat → Int64) (rules : Nat → Int32) (ps : Nat → Int32) (qs : Nat → Int32) (fs : Nat → Int32) (heads : Nat → Int32) (ends : Nat → Int32) (x1 : Int32) : Int32 × (Int32) × (Nat → Int32) × (Nat → Int32) × (Nat → Int32) × (Nat → Int32) × (Nat → Int64) := pz_bnd (f_X2_pOf ps x1) (fun z_1 => pz_bnd (f_X0_headOf heads z_1) (fun z_2 => pz_bnd (f_X2_formulaOf fs x1) (fun z_3 => pz_bnd (f_X2_ruleOf rules x1) (fun z_4 => if z_4 = 0 then ((z_3, cnt, kinds, firsts, seconds, heights, tables)) else (if z_4 = 1 then ((z_3, cnt, kinds, firsts, seconds, heights, tables)) else (if z_4 = 3 then ((z_2, cnt, kinds, firsts, seconds, heights, tables)) else (if z_4 = 4 then (pz_bnd (f_X2_qOf qs x1) (fun z_9 => pz_bnd (f_X0_headOf heads z_9) (fun z_10 => pz_bnd (f_X1_make cnt kinds firsts seconds heights tables 2 z_2 z_10) (fun z_11 => (z_11.1, z_11.2.1, z_11.2.2.1, z_11.2.2.2.1, z_11.2.2.2.2.1, z_11.2.2.2.2.2.1, z_11.2.2.2.2.2.2))))) else (if z_4 = 5 then (pz_bnd (f_X1_firstOf cnt firsts z_2) (fun z_13 => (z_13, cnt, kinds, firsts, seconds, heights, tables))) else (if z_4 = 6 then (pz_bnd (f_X1_secondOf cnt seconds z_2) (fun z_15 => (z_15, cnt, kinds, firsts, seconds, heights, tables))) else (if z_4 = 7 then (pz_bnd (f_X1_make cnt kinds firsts seconds heights tables 3 z_2 z_3) (fun z_17 => (z_17.1, z_17.2.1, z_17.2.2.1, z_17.2.2.2.1, z_17.2.2.2.2.1, z_17.2.2.2.2.2.1, z_17.2.2.2.2.2.2))) else (if z_4 = 8 then (pz_bnd (f_X1_make cnt kinds firsts seconds heights tables 3 z_3 z_2) (fun z_19 => (z_19.1, z_19.2.1, z_19.2.2.1, z_19.2.2.2.1, z_19.2.2.2.2.1, z_19.2.2.2.2.2.1, z_19.2.2.2.2.2.2))) else (if z_4 = 9 then (pz_bnd (f_X2_qOf qs x1) (fun z_21 => pz_bnd (f_X3_heldAtEnd heads ends z_21) (fun z_22 => (z_22, cnt, kinds, firsts, seconds, heights, tables)))) else (if z_4 = 10 then (pz_bnd (f_X3_heldAtEnd heads ends z_1) (fun z_24 => pz_bnd (f_X1_make cnt kinds firsts seconds heights tables 4 z_2 z_24) (fun z_25 => (z_25.1, z_25.2.1, z_25.2.2.1, z_25.2.2.2.1, z_25.2.2.2.2.1, z_25.2.2.2.2.2.1, z_25.2.2.2.2.2.2)))) else (if z_4 = 11 then (pz_bnd (f_X1_secondOf cnt seconds z_2) (fun z_27 => (z_27, cnt, kinds, firsts, seconds, heights, tables))) else (if z_4 = 12 then ((z_3, cnt, kinds, firsts, seconds, heights, tables)) else (if z_4 = 13 then (pz_bnd (f_X1_firstOf cnt firsts z_2) (fun z_30 => pz_bnd (f_X1_firstOf cnt firsts z_30) (fun z_31 => (z_31, cnt, kinds, firsts, seconds, heights, tables)))) else (((-1), cnt, kinds, firsts, seconds, heights, tables))))))))))))))))))
theorem fl_X3_conclude_10 : Cond.fieldLink RX3 10 "BoxProofs" "known" "LBoxProofs$Formulas;" ∈ wsX3_conclude := by decide +kernel
theorem fl_X3_conclude_19 : Cond.fieldLink RX3 19 "BoxProofs" "proof" "LBoxProofs$Lines;" ∈ wsX3_conclude := by decide +kernel
theorem fl_X3_conclude_26 : Cond.fieldLink RX3 26 "BoxProofs" "findings" "LBoxProofs$Findings;" ∈ wsX3_conclude := by decide +kernel
theorem hdV_X2_ruleOf : yX2_ruleOf.cls = RX2 ∧ yX2_ruleOf.cls ≠ "java/lang/invoke/MethodHandle" ∧ yX2_ruleOf.cls ≠ "java/lang/invoke/VarHandle" ∧ (parseMethodDescriptor yX2_ruleOf.desc).map (fun d => d.parameters.length) = some 1 := by decide +kernel
theorem in_X3_conclude_X3 : ∀ w ∈ wsX30, w ∈ wsX3_conclude := by decide +kernel
set_option maxHeartbeats 4000000 in
set_option maxRecDepth 100000 in
theorem c_X3_conclude (l : Launch) (D : va_G) (q : Nat → Nat) (k : Nat → ClassId) (t : Nat → Nat) (cnt : Int32) (kinds : Nat → Int32) (firsts : Nat → Int32) (seconds : Nat → Int32) (heights : Nat → Int32) (tables : Nat → Int64) (replaced : Nat → Int32) (laid : Nat → Int32) (rules : Nat → Int32) (ps : Nat → Int32) (qs : Nat → Int32) (rs : Nat → Int32) (fs : Nat → Int32) (frules : Nat → Int32) (heads : Nat → Int32) (ends : Nat → Int32) (inforce : Nat → Int32) (usable : Nat → Int32) (summ : Nat → Int32) (x1 : Int32) (hc : pz_c cnt) : Met l yX3_conclude wsX3_conclude ({ frames := 4, cells := 0, slots := 0, locals := 90 }) (va_Pc [.ref (q 0), .int (x1)] (fun U => va_P D vwCl (pz_X q k cnt kinds firsts seconds heights tables replaced laid rules ps qs rs fs frules heads ends inforce usable summ) U.heap ∧ pz_KX D q k t U)) (va_Qi (fun r (u : (Int32) × (Nat → Int32) × (Nat → Int32) × (Nat → Int32) × (Nat → Int32) × (Nat → Int64)) => (r, u) = (f_X3_conclude cnt kinds firsts seconds heights tables rules ps qs fs heads ends x1)) (fun u t => va_P D vwCl (pz_X q k u.1 u.2.1 u.2.2.1 u.2.2.2.1 u.2.2.2.2.1 u.2.2.2.2.2 replaced laid rules ps qs rs fs frules heads ends inforce usable summ) t.heap) (pz_A 22 q)) 0 0 (pz_A 22 q) := by
  refine Met.ofW (cc := cX3_conclude) (maxL := 5) (ret := (some .int)) (by decide) rfl ?_
  intro p e s m args below meth c s₁ B hml hv
  obtain ⟨rfl, hP, hKX⟩ := hv
  have hx := B.exec
  have hb := B.bytes
  have hr := B.returns
  have hts := atoms_spec (ws := wsX3_conclude) B.pre
  have hown : s.vm.findClass RX3 = some m.cls := findClass_of_methodNamed B.named
  have hlocks := B.notSynchronized
  have hC : pz_C p s m ([.ref (q 0), .int (x1)] : List Value).toArray meth c cX3_conclude wsX3_conclude RX3 5 (some .int) := ⟨hx, hb, hml, hown, hts, hr, hlocks⟩
  have hK := hKX.1
  have hS : va_S (pz_A 22 q) s.heap s.heap [] := va_S.rf
  have hl := lv_entry [.ref (q 0), .int (x1)] (n := 5) (Nat.le_of_ble_eq_true rfl)
  rw [lg_entry_eq]
  generalize (lg_sl [.ref (q 0), .int (x1)] ++ List.replicate (5 - (lg_sl [.ref (q 0), .int (x1)]).length) Slot.unset).toArray = ls at hl ⊢
  have hl : lv_has ls 5 [(0, .ref (q 0)), (1, .int (x1))] := hl
  generalize hF : f_X3_conclude cnt kinds firsts seconds heights tables rules ps qs fs heads ends x1 = G
  replace hF := hF.symm
  unfold f_X3_conclude at hF
  refine lv_aload_n hx hb dX3_conclude_0 rfl (lv_at hl 0 rfl) ?_
  refine va_get (D := D) (ci := 3) (v := .ref (q 2)) (C := RX3) (T := TX3) (N := 3) hx hb hts in_X3_conclude_X3 hown hK hP 0 rfl rfl 1 (by decide) (hts _ fl_X3_conclude_19) (fun _ h9 => h9) rfl dX3_conclude_1 ?_
  refine lv_iload_n hx hb dX3_conclude_4 rfl (lv_at hl 1 rfl) ?_
  refine pz_Vi (As := [.int (x1)]) (rest := []) ⟨hx, hb, hml, hown, hts⟩ (c_X2_pOf l D q k t cnt kinds firsts seconds heights tables replaced laid rules ps qs rs fs frules heads ends inforce usable summ x1) (cwV 1 hts gX3_conclude_X2_pOf rfl rfl rfl hdV_X2_pOf ⟨Nat.le_of_ble_eq_true rfl, Nat.le_of_ble_eq_true rfl⟩) pz_KX.call (hKX.go hS) (va_recv hK hP (ci := 2) (q0 := 2) rfl rfl) hP hS rfl hl.1 rfl (Nat.le_of_ble_eq_true rfl) dX3_conclude_5 ⟨Nat.zero_le _, Nat.zero_le _⟩ (fun r_1 u_1 H locs hF_1 hP hS => ?_)
  have hF := hF.trans (pz_be hF_1)
  refine lv_istore_n (lv' := [(2, .int (r_1)), (0, .ref (q 0)), (1, .int (x1))]) hx hb dX3_conclude_8 rfl hl (by decide) rfl (fun ls hl => ?_)
  refine lv_aload_n hx hb dX3_conclude_9 rfl (lv_at hl 1 rfl) ?_
  refine va_get (D := D) (ci := 3) (v := .ref (q 3)) (C := RX3) (T := TX3) (N := 3) hx hb hts in_X3_conclude_X3 hown hK hP 0 rfl rfl 2 (by decide) (hts _ fl_X3_conclude_26) (fun _ h9 => h9) rfl dX3_conclude_10 ?_
  refine lv_iload_n hx hb dX3_conclude_13 rfl (lv_at hl 0 rfl) ?_
  refine pz_Vi (As := [.int (r_1)]) (rest := []) ⟨hx, hb, hml, hown, hts⟩ (c_X0_headOf l D q k t cnt kinds firsts seconds heights tables replaced laid rules ps qs rs fs frules heads ends inforce usable summ r_1) (cwV 1 hts gX3_conclude_X0_headOf rfl rfl rfl hdV_X0_headOf ⟨Nat.le_of_ble_eq_true rfl, Nat.le_of_ble_eq_true rfl⟩) pz_KX.call (hKX.go hS) (va_recv hK hP (ci := 0) (q0 := 3) rfl rfl) hP hS rfl hl.1 rfl (Nat.le_of_ble_eq_true rfl) dX3_conclude_14 ⟨Nat.zero_le _, Nat.zero_le _⟩ (fun r_2 u_2 H locs hF_2 hP hS => ?_)
  have hF := hF.trans (pz_be hF_2)
  refine lv_istore_n (lv' := [(3, .int (r_2)), (2, .int (r_1)), (0, .ref (q 0)), (1, .int (x1))]) hx hb dX3_conclude_17 rfl hl (by decide) rfl (fun ls hl => ?_)
  refine lv_aload_n hx hb dX3_conclude_18 rfl (lv_at hl 2 rfl) ?_
  refine va_get (D := D) (ci := 3) (v := .ref (q 2)) (C := RX3) (T := TX3) (N := 3) hx hb hts in_X3_conclude_X3 hown hK hP 0 rfl rfl 1 (by decide) (hts _ fl_X3_conclude_19) (fun _ h9 => h9) rfl dX3_conclude_19 ?_
  refine lv_iload_n hx hb dX3_conclude_22 rfl (lv_at hl 3 rfl) ?_
  refine pz_Vi (As := [.int (x1)]) (rest := []) ⟨hx, hb, hml, hown, hts⟩ (c_X2_formulaOf l D q k t cnt kinds firsts seconds heights tables replaced laid rules ps qs rs fs frules heads ends inforce usable summ x1) (cwV 1 hts gX3_conclude_X2_formulaOf rfl rfl rfl hdV_X2_formulaOf ⟨Nat.le_of_ble_eq_true rfl, Nat.le_of_ble_eq_true rfl⟩) pz_KX.call (hKX.go hS) (va_recv hK hP (ci := 2) (q0 := 2) rfl rfl) hP hS rfl hl.1 rfl (Nat.le_of_ble_eq_true rfl) dX3_conclude_23 ⟨Nat.zero_le _, Nat.zero_le _⟩ (fun r_3 u_3 H locs hF_3 hP hS => ?_)
  have hF := hF.trans (pz_be hF_3)
  refine lv_istore (lv' := [(4, .int (r_3)), (3, .int (r_2)), (2, .int (r_1)), (0, .ref (q 0)), (1, .int (x1))]) hx hb dX3_conclude_26 hl (by decide) rfl (fun ls hl => ?_)
  refine lv_aload_n hx hb dX3_conclude_28 rfl (lv_at hl 3 rfl) ?_
  refine va_get (D := D) (ci := 3) (v := .ref (q 2)) (C := RX3) (T := TX3) (N := 3) hx hb hts in_X3_conclude_X3 hown hK hP 0 rfl rfl 1 (by decide) (hts _ fl_X3_conclude_19) (fun _ h9 => h9) rfl dX3_conclude_29 ?_
  refine lv_iload_n hx hb dX3_conclude_32 rfl (lv_at hl 4 rfl) ?_
  refine pz_Vi (As := [.int (x1)]) (rest := []) ⟨hx, hb, hml, hown, hts⟩ (c_X2_ruleOf l D q k t cnt kinds firsts seconds heights tables replaced laid rules ps qs rs fs frules heads ends inforce usable summ x1) (cwV 1 hts gX3_conclude_X2_ruleOf rfl rfl rfl hdV_X2_ruleOf ⟨Nat.le_of_ble_eq_true rfl, Nat.le_of_ble_eq_true rfl⟩) pz_KX.call (hKX.go hS) (va_recv hK hP (ci := 2) (q0 := 2) rfl rfl) hP hS rfl hl.1 rfl (Nat.le_of_ble_eq_true rfl) dX3_conclude_33 ⟨Nat.zero_le _, Nat.zero_le _⟩ (fun r_4 u_4 H locs hF_4 hP hS => ?_)
  have hF := hF.trans (pz_be hF_4)
  refine pz_cases (P := r_4 = 0) (fun c_5 => ?_) (fun c_5 => ?_)
  · have hF := hF.trans (if_pos c_5)
    refine pz_table (tgt := 108) (off := 72) hx hb dX3_conclude_36 rfl (by rw [c_5]; rfl) (by decide) ?_
    refine lv_iload hx hb dX3_conclude_108 (lv_at hl 0 rfl) ?_
    exact W.iret (v := r_3) hx hb hr (fun t ht hW => ⟨⟨r_3, (cnt, kinds, firsts, seconds, heights, tables), rfl, hF.symm, pz_hp ht hP⟩, hS.F ht⟩) hS.2.2 dX3_conclude_110 hlocks
  · have hF := hF.trans (if_neg c_5)
    refine pz_cases (P := r_4 = 1) (fun c_6 => ?_) (fun c_6 => ?_)
    · have hF := hF.trans (if_pos c_6)
      refine pz_table (tgt := 108) (off := 72) hx hb dX3_conclude_36 rfl (by rw [c_6]; rfl) (by decide) ?_
      refine lv_iload hx hb dX3_conclude_108 (lv_at hl 0 rfl) ?_
      exact W.iret (v := r_3) hx hb hr (fun t ht hW => ⟨⟨r_3, (cnt, kinds, firsts, seconds, heights, tables), rfl, hF.symm, pz_hp ht hP⟩, hS.F ht⟩) hS.2.2 dX3_conclude_110 hlocks
    · have hF := hF.trans (if_neg c_6)
      refine pz_cases (P := r_4 = 3) (fun c_7 => ?_) (fun c_7 => ?_)
      · have hF := hF.trans (if_pos c_7)
        refine pz_table (tgt := 111) (off := 75) hx hb dX3_conclude_36 rfl (by rw [c_7]; rfl) (by decide) ?_
        refine lv_iload_n hx hb dX3_conclude_111 rfl (lv_at hl 1 rfl) ?_
        exact W.iret (v := r_2) hx hb hr (fun t ht hW => ⟨⟨r_2, (cnt, kinds, firsts, seconds, heights, tables), rfl, hF.symm, pz_hp ht hP⟩, hS.F ht⟩) hS.2.2 dX3_conclude_112 hlocks
      · have hF := hF.trans (if_neg c_7)
        refine pz_cases (P := r_4 = 4) (fun c_8 => ?_) (fun c_8 => ?_)
        · have hF := hF.trans (if_pos c_8)
          refine pz_table (tgt := 113) (off := 77) hx hb dX3_conclude_36 rfl (by rw [c_8]; rfl) (by decide) ?_
          refine lv_aload_n hx hb dX3_conclude_113 rfl (lv_at hl 3 rfl) ?_
          refine va_get (D := D) (ci := 3) (v := .ref (q 1)) (C := RX3) (T := TX3) (N := 3) hx hb hts in_X3_conclude_X3 hown hK hP 0 rfl rfl 0 (by decide) (hts _ fl_X3_conclude_10) (fun _ h9 => h9) rfl dX3_conclude_114 ?_
          refine lv_iconst (v := 2) hx hb dX3_conclude_117 (by decide) ?_
          refine lv_iload_n hx hb dX3_conclude_118 rfl (lv_at hl 1 rfl) ?_
          refine lv_aload_n hx hb dX3_conclude_119 rfl (lv_at hl 3 rfl) ?_
          refine va_get (D := D) (ci := 3) (v := .ref (q 3)) (C := RX3) (T := TX3) (N := 3) hx hb hts in_X3_conclude_X3 hown hK hP 0 rfl rfl 2 (by decide) (hts _ fl_X3_conclude_26) (fun _ h9 => h9) rfl dX3_conclude_120 ?_
          refine lv_aload_n hx hb dX3_conclude_123 rfl (lv_at hl 3 rfl) ?_
          refine va_get (D := D) (ci := 3) (v := .ref (q 2)) (C := RX3) (T := TX3) (N := 3) hx hb hts in_X3_conclude_X3 hown hK hP 0 rfl rfl 1 (by decide) (hts _ fl_X3_conclude_19) (fun _ h9 => h9) rfl dX3_conclude_124 ?_
          refine lv_iload_n hx hb dX3_conclude_127 rfl (lv_at hl 4 rfl) ?_
          refine pz_Vi (As := [.int (x1)]) (rest := [.ref (q 3), .int (r_2), .int (2), .ref (q 1)]) ⟨hx, hb, hml, hown, hts⟩ (c_X2_qOf l D q k t cnt kinds firsts seconds heights tables replaced laid rules ps qs rs fs frules heads ends inforce usable summ x1) (cwV 1 hts gX3_conclude_X2_qOf rfl rfl rfl hdV_X2_qOf ⟨Nat.le_of_ble_eq_true rfl, Nat.le_of_ble_eq_true rfl⟩) pz_KX.call (hKX.go hS) (va_recv hK hP (ci := 2) (q0 := 2) rfl rfl) hP hS rfl hl.1 rfl (Nat.le_of_ble_eq_true rfl) dX3_conclude_128 ⟨Nat.zero_le _, Nat.zero_le _⟩ (fun r_9 u_9 H locs hF_9 hP hS => ?_)
          have hF := hF.trans (pz_be hF_9)
          refine pz_Vi (As := [.int (r_9)]) (rest := [.int (r_2), .int (2), .ref (q 1)]) ⟨hx, hb, hml, hown, hts⟩ (c_X0_headOf l D q k t cnt kinds firsts seconds heights tables replaced laid rules ps qs rs fs frules heads ends inforce usable summ r_9) (cwV 1 hts gX3_conclude_X0_headOf rfl rfl rfl hdV_X0_headOf ⟨Nat.le_of_ble_eq_true rfl, Nat.le_of_ble_eq_true rfl⟩) pz_KX.call (hKX.go hS) (va_recv hK hP (ci := 0) (q0 := 3) rfl rfl) hP hS rfl hl.1 rfl (Nat.le_of_ble_eq_true rfl) dX3_conclude_131 ⟨Nat.zero_le _, Nat.zero_le _⟩ (fun r_10 u_10 H locs hF_10 hP hS => ?_)
          have hF := hF.trans (pz_be hF_10)
          refine pz_Vi (As := [.int (2), .int (r_2), .int (r_10)]) (rest := []) ⟨hx, hb, hml, hown, hts⟩ (c_X1_make l D q k t cnt kinds firsts seconds heights tables replaced laid rules ps qs rs fs frules heads ends inforce usable summ 2 r_2 r_10 hc) (cwV 3 hts gX3_conclude_X1_make rfl rfl rfl hdV_X1_make ⟨Nat.le_of_ble_eq_true rfl, Nat.le_of_ble_eq_true rfl⟩) pz_KX.call (hKX.go hS) (va_recv hK hP (ci := 1) (q0 := 1) rfl rfl) hP hS rfl hl.1 rfl (Nat.le_of_ble_eq_true rfl) dX3_conclude_134 ⟨Nat.zero_le _, Nat.zero_le _⟩ (fun r_11 u_11 H locs hF_11 hP hS => ?_)
          obtain ⟨w_11_cnt, w_11_kinds, w_11_firsts, w_11_seconds, w_11_heights, w_11_tables⟩ := u_11
          have hP : va_P D vwCl (pz_X q k w_11_cnt w_11_kinds w_11_firsts w_11_seconds w_11_heights w_11_tables replaced laid rules ps qs rs fs frules heads ends inforce usable summ) H := hP
          have hF := hF.trans (pz_be hF_11)
          try dsimp only at hF
          exact W.iret (v := r_11) hx hb hr (fun t ht hW => ⟨⟨r_11, (w_11_cnt, w_11_kinds, w_11_firsts, w_11_seconds, w_11_heights, w_11_tables), rfl, hF.symm, pz_hp ht hP⟩, hS.F ht⟩) hS.2.2 dX3_conclude_137 hlocks
        · have hF := hF.trans (if_neg c_8)
          refine pz_cases (P := r_4 = 5) (fun c_12 => ?_) (fun c_12 => ?_)
          · have hF := hF.trans (if_pos c_12)
            refine pz_table (tgt := 138) (off := 102) hx hb dX3_conclude_36 rfl (by rw [c_12]; rfl) (by decide) ?_
            refine lv_aload_n hx hb dX3_conclude_138 rfl (lv_at hl 3 rfl) ?_
            refine va_get (D := D) (ci := 3) (v := .ref (q 1)) (C := RX3) (T := TX3) (N := 3) hx hb hts in_X3_conclude_X3 hown hK hP 0 rfl rfl 0 (by decide) (hts _ fl_X3_conclude_10) (fun _ h9 => h9) rfl dX3_conclude_139 ?_
            refine lv_iload_n hx hb dX3_conclude_142 rfl (lv_at hl 1 rfl) ?_
            refine pz_Vi (As := [.int (r_2)]) (rest := []) ⟨hx, hb, hml, hown, hts⟩ (c_X1_firstOf l D q k t cnt kinds firsts seconds heights tables replaced laid rules ps qs rs fs frules heads ends inforce usable summ r_2 hc) (cwV 1 hts gX3_conclude_X1_firstOf rfl rfl rfl hdV_X1_firstOf ⟨Nat.le_of_ble_eq_true rfl, Nat.le_of_ble_eq_true rfl⟩) pz_KX.call (hKX.go hS) (va_recv hK hP (ci := 1) (q0 := 1) rfl rfl) hP hS rfl hl.1 rfl (Nat.le_of_ble_eq_true rfl) dX3_conclude_143 ⟨Nat.zero_le _, Nat.zero_le _⟩ (fun r_13 u_13 H locs hF_13 hP hS => ?_)
            have hF := hF.trans (pz_be hF_13)
            exact W.iret (v := r_13) hx hb hr (fun t ht hW => ⟨⟨r_13, (cnt, kinds, firsts, seconds, heights, tables), rfl, hF.symm, pz_hp ht hP⟩, hS.F ht⟩) hS.2.2 dX3_conclude_146 hlocks
          · have hF := hF.trans (if_neg c_12)
            refine pz_cases (P := r_4 = 6) (fun c_14 => ?_) (fun c_14 => ?_)
            · have hF := hF.trans (if_pos c_14)
              refine pz_table (tgt := 147) (off := 111) hx hb dX3_conclude_36 rfl (by rw [c_14]; rfl) (by decide) ?_
              refine lv_aload_n hx hb dX3_conclude_147 rfl (lv_at hl 3 rfl) ?_
              refine va_get (D := D) (ci := 3) (v := .ref (q 1)) (C := RX3) (T := TX3) (N := 3) hx hb hts in_X3_conclude_X3 hown hK hP 0 rfl rfl 0 (by decide) (hts _ fl_X3_conclude_10) (fun _ h9 => h9) rfl dX3_conclude_148 ?_
              refine lv_iload_n hx hb dX3_conclude_151 rfl (lv_at hl 1 rfl) ?_
              refine pz_Vi (As := [.int (r_2)]) (rest := []) ⟨hx, hb, hml, hown, hts⟩ (c_X1_secondOf l D q k t cnt kinds firsts seconds heights tables replaced laid rules ps qs rs fs frules heads ends inforce usable summ r_2 hc) (cwV 1 hts gX3_conclude_X1_secondOf rfl rfl rfl hdV_X1_secondOf ⟨Nat.le_of_ble_eq_true rfl, Nat.le_of_ble_eq_true rfl⟩) pz_KX.call (hKX.go hS) (va_recv hK hP (ci := 1) (q0 := 1) rfl rfl) hP hS rfl hl.1 rfl (Nat.le_of_ble_eq_true rfl) dX3_conclude_152 ⟨Nat.zero_le _, Nat.zero_le _⟩ (fun r_15 u_15 H locs hF_15 hP hS => ?_)
              have hF := hF.trans (pz_be hF_15)
              exact W.iret (v := r_15) hx hb hr (fun t ht hW => ⟨⟨r_15, (cnt, kinds, firsts, seconds, heights, tables), rfl, hF.symm, pz_hp ht hP⟩, hS.F ht⟩) hS.2.2 dX3_conclude_155 hlocks
            · have hF := hF.trans (if_neg c_14)
              refine pz_cases (P := r_4 = 7) (fun c_16 => ?_) (fun c_16 => ?_)
              · have hF := hF.trans (if_pos c_16)
                refine pz_table (tgt := 156) (off := 120) hx hb dX3_conclude_36 rfl (by rw [c_16]; rfl) (by decide) ?_
                refine lv_aload_n hx hb dX3_conclude_156 rfl (lv_at hl 3 rfl) ?_
                refine va_get (D := D) (ci := 3) (v := .ref (q 1)) (C := RX3) (T := TX3) (N := 3) hx hb hts in_X3_conclude_X3 hown hK hP 0 rfl rfl 0 (by decide) (hts _ fl_X3_conclude_10) (fun _ h9 => h9) rfl dX3_conclude_157 ?_
                refine lv_iconst (v := 3) hx hb dX3_conclude_160 (by decide) ?_
                refine lv_iload_n hx hb dX3_conclude_161 rfl (lv_at hl 1 rfl) ?_
                refine lv_iload hx hb dX3_conclude_162 (lv_at hl 0 rfl) ?_
                refine pz_Vi (As := [.int (3), .int (r_2), .int (r_3)]) (rest := []) ⟨hx, hb, hml, hown, hts⟩ (c_X1_make l D q k t cnt kinds firsts seconds heights tables replaced laid rules ps qs rs fs frules heads ends inforce usable summ 3 r_2 r_3 hc) (cwV 3 hts gX3_conclude_X1_make rfl rfl rfl hdV_X1_make ⟨Nat.le_of_ble_eq_true rfl, Nat.le_of_ble_eq_true rfl⟩) pz_KX.call (hKX.go hS) (va_recv hK hP (ci := 1) (q0 := 1) rfl rfl) hP hS rfl hl.1 rfl (Nat.le_of_ble_eq_true rfl) dX3_conclude_164 ⟨Nat.zero_le _, Nat.zero_le _⟩ (fun r_17 u_17 H locs hF_17 hP hS => ?_)
                obtain ⟨w_17_cnt, w_17_kinds, w_17_firsts, w_17_seconds, w_17_heights, w_17_tables⟩ := u_17
                have hP : va_P D vwCl (pz_X q k w_17_cnt w_17_kinds w_17_firsts w_17_seconds w_17_heights w_17_tables replaced laid rules ps qs rs fs frules heads ends inforce usable summ) H := hP
                have hF := hF.trans (pz_be hF_17)
                try dsimp only at hF
                exact W.iret (v := r_17) hx hb hr (fun t ht hW => ⟨⟨r_17, (w_17_cnt, w_17_kinds, w_17_firsts, w_17_seconds, w_17_heights, w_17_tables), rfl, hF.symm, pz_hp ht hP⟩, hS.F ht⟩) hS.2.2 dX3_conclude_167 hlocks
              · have hF := hF.trans (if_neg c_16)
                refine pz_cases (P := r_4 = 8) (fun c_18 => ?_) (fun c_18 => ?_)
                · have hF := hF.trans (if_pos c_18)
                  refine pz_table (tgt := 168) (off := 132) hx hb dX3_conclude_36 rfl (by rw [c_18]; rfl) (by decide) ?_
                  refine lv_aload_n hx hb dX3_conclude_168 rfl (lv_at hl 3 rfl) ?_
                  refine va_get (D := D) (ci := 3) (v := .ref (q 1)) (C := RX3) (T := TX3) (N := 3) hx hb hts in_X3_conclude_X3 hown hK hP 0 rfl rfl 0 (by decide) (hts _ fl_X3_conclude_10) (fun _ h9 => h9) rfl dX3_conclude_169 ?_
                  refine lv_iconst (v := 3) hx hb dX3_conclude_172 (by decide) ?_
                  refine lv_iload hx hb dX3_conclude_173 (lv_at hl 0 rfl) ?_
                  refine lv_iload_n hx hb dX3_conclude_175 rfl (lv_at hl 1 rfl) ?_
                  refine pz_Vi (As := [.int (3), .int (r_3), .int (r_2)]) (rest := []) ⟨hx, hb, hml, hown, hts⟩ (c_X1_make l D q k t cnt kinds firsts seconds heights tables replaced laid rules ps qs rs fs frules heads ends inforce usable summ 3 r_3 r_2 hc) (cwV 3 hts gX3_conclude_X1_make rfl rfl rfl hdV_X1_make ⟨Nat.le_of_ble_eq_true rfl, Nat.le_of_ble_eq_true rfl⟩) pz_KX.call (hKX.go hS) (va_recv hK hP (ci := 1) (q0 := 1) rfl rfl) hP hS rfl hl.1 rfl (Nat.le_of_ble_eq_true rfl) dX3_conclude_176 ⟨Nat.zero_le _, Nat.zero_le _⟩ (fun r_19 u_19 H locs hF_19 hP hS => ?_)
                  obtain ⟨w_19_cnt, w_19_kinds, w_19_firsts, w_19_seconds, w_19_heights, w_19_tables⟩ := u_19
                  have hP : va_P D vwCl (pz_X q k w_19_cnt w_19_kinds w_19_firsts w_19_seconds w_19_heights w_19_tables replaced laid rules ps qs rs fs frules heads ends inforce usable summ) H := hP
                  have hF := hF.trans (pz_be hF_19)
                  try dsimp only at hF
                  exact W.iret (v := r_19) hx hb hr (fun t ht hW => ⟨⟨r_19, (w_19_cnt, w_19_kinds, w_19_firsts, w_19_seconds, w_19_heights, w_19_tables), rfl, hF.symm, pz_hp ht hP⟩, hS.F ht⟩) hS.2.2 dX3_conclude_179 hlocks
                · have hF := hF.trans (if_neg c_18)
                  refine pz_cases (P := r_4 = 9) (fun c_20 => ?_) (fun c_20 => ?_)
                  · have hF := hF.trans (if_pos c_20)
                    refine pz_table (tgt := 180) (off := 144) hx hb dX3_conclude_36 rfl (by rw [c_20]; rfl) (by decide) ?_
                    refine lv_aload_n hx hb dX3_conclude_180 rfl (lv_at hl 3 rfl) ?_
                    refine lv_aload_n hx hb dX3_conclude_181 rfl (lv_at hl 3 rfl) ?_
                    refine va_get (D := D) (ci := 3) (v := .ref (q 2)) (C := RX3) (T := TX3) (N := 3) hx hb hts in_X3_conclude_X3 hown hK hP 0 rfl rfl 1 (by decide) (hts _ fl_X3_conclude_19) (fun _ h9 => h9) rfl dX3_conclude_182 ?_
                    refine lv_iload_n hx hb dX3_conclude_185 rfl (lv_at hl 4 rfl) ?_
                    refine pz_Vi (As := [.int (x1)]) (rest := [.ref (q 0)]) ⟨hx, hb, hml, hown, hts⟩ (c_X2_qOf l D q k t cnt kinds firsts seconds heights tables replaced laid rules ps qs rs fs frules heads ends inforce usable summ x1) (cwV 1 hts gX3_conclude_X2_qOf rfl rfl rfl hdV_X2_qOf ⟨Nat.le_of_ble_eq_true rfl, Nat.le_of_ble_eq_true rfl⟩) pz_KX.call (hKX.go hS) (va_recv hK hP (ci := 2) (q0 := 2) rfl rfl) hP hS rfl hl.1 rfl (Nat.le_of_ble_eq_true rfl) dX3_conclude_186 ⟨Nat.zero_le _, Nat.zero_le _⟩ (fun r_21 u_21 H locs hF_21 hP hS => ?_)
                    have hF := hF.trans (pz_be hF_21)
                    refine pz_Vi (As := [.int (r_21)]) (rest := []) ⟨hx, hb, hml, hown, hts⟩ (c_X3_heldAtEnd l D q k t cnt kinds firsts seconds heights tables replaced laid rules ps qs rs fs frules heads ends inforce usable summ r_21) (cwV 1 hts gX3_conclude_X3_heldAtEnd rfl rfl rfl hdV_X3_heldAtEnd ⟨Nat.le_of_ble_eq_true rfl, Nat.le_of_ble_eq_true rfl⟩) pz_KX.call (hKX.go hS) (va_recv hK hP (ci := 3) (q0 := 0) rfl rfl) hP hS rfl hl.1 rfl (Nat.le_of_ble_eq_true rfl) dX3_conclude_189 ⟨Nat.zero_le _, Nat.zero_le _⟩ (fun r_22 u_22 H locs hF_22 hP hS => ?_)
                    have hF := hF.trans (pz_be hF_22)
                    exact W.iret (v := r_22) hx hb hr (fun t ht hW => ⟨⟨r_22, (cnt, kinds, firsts, seconds, heights, tables), rfl, hF.symm, pz_hp ht hP⟩, hS.F ht⟩) hS.2.2 dX3_conclude_192 hlocks
                  · have hF := hF.trans (if_neg c_20)
                    refine pz_cases (P := r_4 = 10) (fun c_23 => ?_) (fun c_23 => ?_)
                    · have hF := hF.trans (if_pos c_23)
                      refine pz_table (tgt := 193) (off := 157) hx hb dX3_conclude_36 rfl (by rw [c_23]; rfl) (by decide) ?_
                      refine lv_aload_n hx hb dX3_conclude_193 rfl (lv_at hl 3 rfl) ?_
                      refine va_get (D := D) (ci := 3) (v := .ref (q 1)) (C := RX3) (T := TX3) (N := 3) hx hb hts in_X3_conclude_X3 hown hK hP 0 rfl rfl 0 (by decide) (hts _ fl_X3_conclude_10) (fun _ h9 => h9) rfl dX3_conclude_194 ?_
                      refine lv_iconst (v := 4) hx hb dX3_conclude_197 (by decide) ?_
                      refine lv_iload_n hx hb dX3_conclude_198 rfl (lv_at hl 1 rfl) ?_
                      refine lv_aload_n hx hb dX3_conclude_199 rfl (lv_at hl 3 rfl) ?_
                      refine lv_iload_n hx hb dX3_conclude_200 rfl (lv_at hl 2 rfl) ?_
                      refine pz_Vi (As := [.int (r_1)]) (rest := [.int (r_2), .int (4), .ref (q 1)]) ⟨hx, hb, hml, hown, hts⟩ (c_X3_heldAtEnd l D q k t cnt kinds firsts seconds heights tables replaced laid rules ps qs rs fs frules heads ends inforce usable summ r_1) (cwV 1 hts gX3_conclude_X3_heldAtEnd rfl rfl rfl hdV_X3_heldAtEnd ⟨Nat.le_of_ble_eq_true rfl, Nat.le_of_ble_eq_true rfl⟩) pz_KX.call (hKX.go hS) (va_recv hK hP (ci := 3) (q0 := 0) rfl rfl) hP hS rfl hl.1 rfl (Nat.le_of_ble_eq_true rfl) dX3_conclude_201 ⟨Nat.zero_le _, Nat.zero_le _⟩ (fun r_24 u_24 H locs hF_24 hP hS => ?_)
                      have hF := hF.trans (pz_be hF_24)
                      refine pz_Vi (As := [.int (4), .int (r_2), .int (r_24)]) (rest := []) ⟨hx, hb, hml, hown, hts⟩ (c_X1_make l D q k t cnt kinds firsts seconds heights tables replaced laid rules ps qs rs fs frules heads ends inforce usable summ 4 r_2 r_24 hc) (cwV 3 hts gX3_conclude_X1_make rfl rfl rfl hdV_X1_make ⟨Nat.le_of_ble_eq_true rfl, Nat.le_of_ble_eq_true rfl⟩) pz_KX.call (hKX.go hS) (va_recv hK hP (ci := 1) (q0 := 1) rfl rfl) hP hS rfl hl.1 rfl (Nat.le_of_ble_eq_true rfl) dX3_conclude_204 ⟨Nat.zero_le _, Nat.zero_le _⟩ (fun r_25 u_25 H locs hF_25 hP hS => ?_)
                      obtain ⟨w_25_cnt, w_25_kinds, w_25_firsts, w_25_seconds, w_25_heights, w_25_tables⟩ := u_25
                      have hP : va_P D vwCl (pz_X q k w_25_cnt w_25_kinds w_25_firsts w_25_seconds w_25_heights w_25_tables replaced laid rules ps qs rs fs frules heads ends inforce usable summ) H := hP
                      have hF := hF.trans (pz_be hF_25)
                      try dsimp only at hF
                      exact W.iret (v := r_25) hx hb hr (fun t ht hW => ⟨⟨r_25, (w_25_cnt, w_25_kinds, w_25_firsts, w_25_seconds, w_25_heights, w_25_tables), rfl, hF.symm, pz_hp ht hP⟩, hS.F ht⟩) hS.2.2 dX3_conclude_207 hlocks
                    · have hF := hF.trans (if_neg c_23)
                      refine pz_cases (P := r_4 = 11) (fun c_26 => ?_) (fun c_26 => ?_)
                      · have hF := hF.trans (if_pos c_26)
                        refine pz_table (tgt := 147) (off := 111) hx hb dX3_conclude_36 rfl (by rw [c_26]; rfl) (by decide) ?_
                        refine lv_aload_n hx hb dX3_conclude_147 rfl (lv_at hl 3 rfl) ?_
                        refine va_get (D := D) (ci := 3) (v := .ref (q 1)) (C := RX3) (T := TX3) (N := 3) hx hb hts in_X3_conclude_X3 hown hK hP 0 rfl rfl 0 (by decide) (hts _ fl_X3_conclude_10) (fun _ h9 => h9) rfl dX3_conclude_148 ?_
                        refine lv_iload_n hx hb dX3_conclude_151 rfl (lv_at hl 1 rfl) ?_
                        refine pz_Vi (As := [.int (r_2)]) (rest := []) ⟨hx, hb, hml, hown, hts⟩ (c_X1_secondOf l D q k t cnt kinds firsts seconds heights tables replaced laid rules ps qs rs fs frules heads ends inforce usable summ r_2 hc) (cwV 1 hts gX3_conclude_X1_secondOf rfl rfl rfl hdV_X1_secondOf ⟨Nat.le_of_ble_eq_true rfl, Nat.le_of_ble_eq_true rfl⟩) pz_KX.call (hKX.go hS) (va_recv hK hP (ci := 1) (q0 := 1) rfl rfl) hP hS rfl hl.1 rfl (Nat.le_of_ble_eq_true rfl) dX3_conclude_152 ⟨Nat.zero_le _, Nat.zero_le _⟩ (fun r_27 u_27 H locs hF_27 hP hS => ?_)
                        have hF := hF.trans (pz_be hF_27)
                        exact W.iret (v := r_27) hx hb hr (fun t ht hW => ⟨⟨r_27, (cnt, kinds, firsts, seconds, heights, tables), rfl, hF.symm, pz_hp ht hP⟩, hS.F ht⟩) hS.2.2 dX3_conclude_155 hlocks
                      · have hF := hF.trans (if_neg c_26)
                        refine pz_cases (P := r_4 = 12) (fun c_28 => ?_) (fun c_28 => ?_)
                        · have hF := hF.trans (if_pos c_28)
                          refine pz_table (tgt := 108) (off := 72) hx hb dX3_conclude_36 rfl (by rw [c_28]; rfl) (by decide) ?_
                          refine lv_iload hx hb dX3_conclude_108 (lv_at hl 0 rfl) ?_
                          exact W.iret (v := r_3) hx hb hr (fun t ht hW => ⟨⟨r_3, (cnt, kinds, firsts, seconds, heights, tables), rfl, hF.symm, pz_hp ht hP⟩, hS.F ht⟩) hS.2.2 dX3_conclude_110 hlocks
                        · have hF := hF.trans (if_neg c_28)
                          refine pz_cases (P := r_4 = 13) (fun c_29 => ?_) (fun c_29 => ?_)
                          · have hF := hF.trans (if_pos c_29)
                            refine pz_table (tgt := 208) (off := 172) hx hb dX3_conclude_36 rfl (by rw [c_29]; rfl) (by decide) ?_
                            refine lv_aload_n hx hb dX3_conclude_208 rfl (lv_at hl 3 rfl) ?_
                            refine va_get (D := D) (ci := 3) (v := .ref (q 1)) (C := RX3) (T := TX3) (N := 3) hx hb hts in_X3_conclude_X3 hown hK hP 0 rfl rfl 0 (by decide) (hts _ fl_X3_conclude_10) (fun _ h9 => h9) rfl dX3_conclude_209 ?_
                            refine lv_aload_n hx hb dX3_conclude_212 rfl (lv_at hl 3 rfl) ?_
                            refine va_get (D := D) (ci := 3) (v := .ref (q 1)) (C := RX3) (T := TX3) (N := 3) hx hb hts in_X3_conclude_X3 hown hK hP 0 rfl rfl 0 (by decide) (hts _ fl_X3_conclude_10) (fun _ h9 => h9) rfl dX3_conclude_213 ?_
                            refine lv_iload_n hx hb dX3_conclude_216 rfl (lv_at hl 1 rfl) ?_
                            refine pz_Vi (As := [.int (r_2)]) (rest := [.ref (q 1)]) ⟨hx, hb, hml, hown, hts⟩ (c_X1_firstOf l D q k t cnt kinds firsts seconds heights tables replaced laid rules ps qs rs fs frules heads ends inforce usable summ r_2 hc) (cwV 1 hts gX3_conclude_X1_firstOf rfl rfl rfl hdV_X1_firstOf ⟨Nat.le_of_ble_eq_true rfl, Nat.le_of_ble_eq_true rfl⟩) pz_KX.call (hKX.go hS) (va_recv hK hP (ci := 1) (q0 := 1) rfl rfl) hP hS rfl hl.1 rfl (Nat.le_of_ble_eq_true rfl) dX3_conclude_217 ⟨Nat.zero_le _, Nat.zero_le _⟩ (fun r_30 u_30 H locs hF_30 hP hS => ?_)
                            have hF := hF.trans (pz_be hF_30)
                            refine pz_Vi (As := [.int (r_30)]) (rest := []) ⟨hx, hb, hml, hown, hts⟩ (c_X1_firstOf l D q k t cnt kinds firsts seconds heights tables replaced laid rules ps qs rs fs frules heads ends inforce usable summ r_30 hc) (cwV 1 hts gX3_conclude_X1_firstOf rfl rfl rfl hdV_X1_firstOf ⟨Nat.le_of_ble_eq_true rfl, Nat.le_of_ble_eq_true rfl⟩) pz_KX.call (hKX.go hS) (va_recv hK hP (ci := 1) (q0 := 1) rfl rfl) hP hS rfl hl.1 rfl (Nat.le_of_ble_eq_true rfl) dX3_conclude_220 ⟨Nat.zero_le _, Nat.zero_le _⟩ (fun r_31 u_31 H locs hF_31 hP hS => ?_)
                            have hF := hF.trans (pz_be hF_31)
                            exact W.iret (v := r_31) hx hb hr (fun t ht hW => ⟨⟨r_31, (cnt, kinds, firsts, seconds, heights, tables), rfl, hF.symm, pz_hp ht hP⟩, hS.F ht⟩) hS.2.2 dX3_conclude_223 hlocks
                          · have hF := hF.trans (if_neg c_29)
                            have ho : pz_off (188) (0) (13) #[72, 72, 188, 75, 77, 102, 111, 120, 132, 144, 157, 111, 72, 172] r_4 = 188 := by
                              unfold pz_off
                              split
                              · rfl
                              · have hz : (r_4).toInt = 0 ∨ (r_4).toInt = 1 ∨ (r_4).toInt = 2 ∨ (r_4).toInt = 3 ∨ (r_4).toInt = 4 ∨ (r_4).toInt = 5 ∨ (r_4).toInt = 6 ∨ (r_4).toInt = 7 ∨ (r_4).toInt = 8 ∨ (r_4).toInt = 9 ∨ (r_4).toInt = 10 ∨ (r_4).toInt = 11 ∨ (r_4).toInt = 12 ∨ (r_4).toInt = 13 := by omega
                                rcases hz with hz | hz | hz | hz | hz | hz | hz | hz | hz | hz | hz | hz | hz | hz
                                · exact absurd (Int32.toInt_inj.mp (hz.trans (show (0 : Int) = (0 : Int32).toInt from rfl))) c_5
                                · exact absurd (Int32.toInt_inj.mp (hz.trans (show (1 : Int) = (1 : Int32).toInt from rfl))) c_6
                                · rw [hz]; rfl
                                · exact absurd (Int32.toInt_inj.mp (hz.trans (show (3 : Int) = (3 : Int32).toInt from rfl))) c_7
                                · exact absurd (Int32.toInt_inj.mp (hz.trans (show (4 : Int) = (4 : Int32).toInt from rfl))) c_8
                                · exact absurd (Int32.toInt_inj.mp (hz.trans (show (5 : Int) = (5 : Int32).toInt from rfl))) c_12
                                · exact absurd (Int32.toInt_inj.mp (hz.trans (show (6 : Int) = (6 : Int32).toInt from rfl))) c_14
                                · exact absurd (Int32.toInt_inj.mp (hz.trans (show (7 : Int) = (7 : Int32).toInt from rfl))) c_16
                                · exact absurd (Int32.toInt_inj.mp (hz.trans (show (8 : Int) = (8 : Int32).toInt from rfl))) c_18
                                · exact absurd (Int32.toInt_inj.mp (hz.trans (show (9 : Int) = (9 : Int32).toInt from rfl))) c_20
                                · exact absurd (Int32.toInt_inj.mp (hz.trans (show (10 : Int) = (10 : Int32).toInt from rfl))) c_23
                                · exact absurd (Int32.toInt_inj.mp (hz.trans (show (11 : Int) = (11 : Int32).toInt from rfl))) c_26
                                · exact absurd (Int32.toInt_inj.mp (hz.trans (show (12 : Int) = (12 : Int32).toInt from rfl))) c_28
                                · exact absurd (Int32.toInt_inj.mp (hz.trans (show (13 : Int) = (13 : Int32).toInt from rfl))) c_29
                            refine pz_table (tgt := 224) hx hb dX3_conclude_36 rfl ho (by decide) ?_
                            refine lv_iconst (v := (-1)) hx hb dX3_conclude_224 (by decide) ?_
                            exact W.iret (v := (-1)) hx hb hr (fun t ht hW => ⟨⟨(-1), (cnt, kinds, firsts, seconds, heights, tables), rfl, hF.symm, pz_hp ht hP⟩, hS.F ht⟩) hS.2.2 dX3_conclude_225 hlocks

def pz_Q_X3_conclude (z : Int32 × (Int32) × (Nat → Int32) × (Nat → Int32) × (Nat → Int32) × (Nat → Int32) × (Nat → Int64)) : Prop := pz_c z.2.1
theorem pz_Qm_X3_conclude {a cnt : Int32} {r : (Nat → Int32) × (Nat → Int32) × (Nat → Int32) × (Nat → Int32) × (Nat → Int64)} (hc : pz_c cnt) : pz_Q_X3_conclude (a, cnt, r) := hc
theorem pz_X3_conclude_c {cnt : Int32} {kinds : Nat → Int32} {firsts : Nat → Int32} {seconds : Nat → Int32} {heights : Nat → Int32} {tables : Nat → Int64} {rules : Nat → Int32} {ps : Nat → Int32} {qs : Nat → Int32} {fs : Nat → Int32} {heads : Nat → Int32} {ends : Nat → Int32} {x1 : Int32} (hc : pz_c cnt) : pz_c (f_X3_conclude cnt kinds firsts seconds heights tables rules ps qs fs heads ends x1).2.1 := by
  unfold f_X3_conclude
  show pz_Q_X3_conclude _
  repeat' first
    | with_reducible (refine pz_it (fun _ => ?_) (fun _ => ?_))
    | with_reducible (refine pz_bi (fun z h => ?_))
    | with_reducible (exact pz_Qm_X3_conclude hc)
    | (refine pz_Qm_X3_conclude ?_; rw [h]; exact pz_make_c hc)

-- == X3_reasonAgainst
def f_X3_reasonAgainst (cnt : Int32) (kinds : Nat → Int32) (firsts : Nat → Int32) (seconds : Nat → Int32) (rules : Nat → Int32) (ps : Nat → Int32) (qs : Nat → Int32) (rs : Nat → Int32) (fs : Nat → Int32) (frules : Nat → Int32) (heads : Nat → Int32) (ends : Nat → Int32) (inforce : Nat → Int32) (usable : Nat → Int32) (x1 : Int32) : Int32 := pz_bnd (f_X2_ruleOf rules x1) (fun z_1 => if z_1 < 0 then (8) else (if z_1 < 14 then (pz_bnd (f_X3_reasonAgainstNumbers cnt ps qs rs fs inforce x1 z_1 (pz_LT (z_1).toNatClampNeg)) (fun z_5 => if z_5 = 0 then (pz_bnd (f_X2_pOf ps x1) (fun z_7 => pz_bnd (f_X0_headOf heads z_7) (fun z_8 => pz_bnd (f_X3_isFormRight cnt kinds firsts seconds z_1 z_8) (fun z_9 => if z_9 = 0 then (4) else (pz_bnd (f_X3_areBoxesRight ps qs rs frules ends usable x1 z_1) (fun z_11 => if z_11 = 0 then (5) else (pz_bnd (f_X3_areAllLike cnt firsts seconds ps qs rs heads ends x1 z_1) (fun z_13 => if z_13 = 0 then (6) else (0))))))))) else (z_5))) else (8)))
theorem fl_X3_reasonAgainst_125 : Cond.fieldLink RX3 125 "BoxProofs" "LINES_TAKEN" "[I" ∈ wsX3_reasonAgainst := by decide +kernel
theorem fl_X3_reasonAgainst_19 : Cond.fieldLink RX3 19 "BoxProofs" "proof" "LBoxProofs$Lines;" ∈ wsX3_reasonAgainst := by decide +kernel
theorem fl_X3_reasonAgainst_26 : Cond.fieldLink RX3 26 "BoxProofs" "findings" "LBoxProofs$Findings;" ∈ wsX3_reasonAgainst := by decide +kernel
theorem hdV_X3_areAllLike : yX3_areAllLike.cls = RX3 ∧ yX3_areAllLike.cls ≠ "java/lang/invoke/MethodHandle" ∧ yX3_areAllLike.cls ≠ "java/lang/invoke/VarHandle" ∧ (parseMethodDescriptor yX3_areAllLike.desc).map (fun d => d.parameters.length) = some 2 := by decide +kernel
theorem hdV_X3_areBoxesRight : yX3_areBoxesRight.cls = RX3 ∧ yX3_areBoxesRight.cls ≠ "java/lang/invoke/MethodHandle" ∧ yX3_areBoxesRight.cls ≠ "java/lang/invoke/VarHandle" ∧ (parseMethodDescriptor yX3_areBoxesRight.desc).map (fun d => d.parameters.length) = some 2 := by decide +kernel
theorem hdV_X3_isFormRight : yX3_isFormRight.cls = RX3 ∧ yX3_isFormRight.cls ≠ "java/lang/invoke/MethodHandle" ∧ yX3_isFormRight.cls ≠ "java/lang/invoke/VarHandle" ∧ (parseMethodDescriptor yX3_isFormRight.desc).map (fun d => d.parameters.length) = some 2 := by decide +kernel
theorem hdV_X3_reasonAgainstNumbers : yX3_reasonAgainstNumbers.cls = RX3 ∧ yX3_reasonAgainstNumbers.cls ≠ "java/lang/invoke/MethodHandle" ∧ yX3_reasonAgainstNumbers.cls ≠ "java/lang/invoke/VarHandle" ∧ (parseMethodDescriptor yX3_reasonAgainstNumbers.desc).map (fun d => d.parameters.length) = some 3 := by decide +kernel
theorem in_X3_reasonAgainst_X3 : ∀ w ∈ wsX30, w ∈ wsX3_reasonAgainst := by decide +kernel
set_option maxHeartbeats 4000000 in
set_option maxRecDepth 100000 in
theorem c_X3_reasonAgainst (l : Launch) (D : va_G) (q : Nat → Nat) (k : Nat → ClassId) (t : Nat → Nat) (cnt : Int32) (kinds : Nat → Int32) (firsts : Nat → Int32) (seconds : Nat → Int32) (heights : Nat → Int32) (tables : Nat → Int64) (replaced : Nat → Int32) (laid : Nat → Int32) (rules : Nat → Int32) (ps : Nat → Int32) (qs : Nat → Int32) (rs : Nat → Int32) (fs : Nat → Int32) (frules : Nat → Int32) (heads : Nat → Int32) (ends : Nat → Int32) (inforce : Nat → Int32) (usable : Nat → Int32) (summ : Nat → Int32) (x1 : Int32) (hc : pz_c cnt) : Met l yX3_reasonAgainst wsX3_reasonAgainst ({ frames := 4, cells := 0, slots := 0, locals := 88 }) (va_Pc [.ref (q 0), .int (x1)] (fun U => va_P D vwCl (pz_X q k cnt kinds firsts seconds heights tables replaced laid rules ps qs rs fs frules heads ends inforce usable summ) U.heap ∧ pz_KX D q k t U)) (va_Qi (fun r (_ : Unit) => r = (f_X3_reasonAgainst cnt kinds firsts seconds rules ps qs rs fs frules heads ends inforce usable x1)) (fun _ t => va_P D vwCl (pz_X q k cnt kinds firsts seconds heights tables replaced laid rules ps qs rs fs frules heads ends inforce usable summ) t.heap) (pz_A 22 q)) 0 0 (pz_A 22 q) := by
  refine Met.ofW (cc := cX3_reasonAgainst) (maxL := 4) (ret := (some .int)) (by decide) rfl ?_
  intro p e s m args below meth c s₁ B hml hv
  obtain ⟨rfl, hP, hKX⟩ := hv
  have hx := B.exec
  have hb := B.bytes
  have hr := B.returns
  have hts := atoms_spec (ws := wsX3_reasonAgainst) B.pre
  have hown : s.vm.findClass RX3 = some m.cls := findClass_of_methodNamed B.named
  have hlocks := B.notSynchronized
  have hC : pz_C p s m ([.ref (q 0), .int (x1)] : List Value).toArray meth c cX3_reasonAgainst wsX3_reasonAgainst RX3 4 (some .int) := ⟨hx, hb, hml, hown, hts, hr, hlocks⟩
  have hK := hKX.1
  have hS : va_S (pz_A 22 q) s.heap s.heap [] := va_S.rf
  have hl := lv_entry [.ref (q 0), .int (x1)] (n := 4) (Nat.le_of_ble_eq_true rfl)
  rw [lg_entry_eq]
  generalize (lg_sl [.ref (q 0), .int (x1)] ++ List.replicate (4 - (lg_sl [.ref (q 0), .int (x1)]).length) Slot.unset).toArray = ls at hl ⊢
  have hl : lv_has ls 4 [(0, .ref (q 0)), (1, .int (x1))] := hl
  generalize hF : f_X3_reasonAgainst cnt kinds firsts seconds rules ps qs rs fs frules heads ends inforce usable x1 = G
  replace hF := hF.symm
  unfold f_X3_reasonAgainst at hF
  refine lv_aload_n hx hb dX3_reasonAgainst_0 rfl (lv_at hl 0 rfl) ?_
  refine va_get (D := D) (ci := 3) (v := .ref (q 2)) (C := RX3) (T := TX3) (N := 3) hx hb hts in_X3_reasonAgainst_X3 hown hK hP 0 rfl rfl 1 (by decide) (hts _ fl_X3_reasonAgainst_19) (fun _ h9 => h9) rfl dX3_reasonAgainst_1 ?_
  refine lv_iload_n hx hb dX3_reasonAgainst_4 rfl (lv_at hl 1 rfl) ?_
  refine pz_Vi (As := [.int (x1)]) (rest := []) ⟨hx, hb, hml, hown, hts⟩ (c_X2_ruleOf l D q k t cnt kinds firsts seconds heights tables replaced laid rules ps qs rs fs frules heads ends inforce usable summ x1) (cwV 1 hts gX3_reasonAgainst_X2_ruleOf rfl rfl rfl hdV_X2_ruleOf ⟨Nat.le_of_ble_eq_true rfl, Nat.le_of_ble_eq_true rfl⟩) pz_KX.call (hKX.go hS) (va_recv hK hP (ci := 2) (q0 := 2) rfl rfl) hP hS rfl hl.1 rfl (Nat.le_of_ble_eq_true rfl) dX3_reasonAgainst_5 ⟨Nat.zero_le _, Nat.zero_le _⟩ (fun r_1 u_1 H locs hF_1 hP hS => ?_)
  have hF := hF.trans (pz_be hF_1)
  refine lv_istore_n (lv' := [(2, .int (r_1)), (0, .ref (q 0)), (1, .int (x1))]) hx hb dX3_reasonAgainst_8 rfl hl (by decide) rfl (fun ls hl => ?_)
  refine lv_iload_n hx hb dX3_reasonAgainst_9 rfl (lv_at hl 0 rfl) ?_
  refine lv_if_lt (tgt := 21) hx hb dX3_reasonAgainst_10 (by decide) (fun c_2 => ?_) (fun c_2 => ?_)
  · have hF := hF.trans (if_pos c_2)
    refine lv_bipush (v := 8) hx hb dX3_reasonAgainst_21 (by decide) ?_
    exact W.iret (v := 8) hx hb hr (fun t ht hW => ⟨⟨8, (), rfl, hF.symm, pz_hp ht hP⟩, hS.F ht⟩) hS.2.2 dX3_reasonAgainst_23 hlocks
  · have hF := hF.trans (if_neg c_2)
    refine lv_iload_n hx hb dX3_reasonAgainst_13 rfl (lv_at hl 0 rfl) ?_
    refine va_gets hx hb hKX.2.2.2.2.1 hS hown (hts _ fl_X3_reasonAgainst_125) (fun _ h9 => h9) dX3_reasonAgainst_14 ?_
    refine va_tlen hx hb hKX.2.2.2.2.2.1 hS (v := 14) rfl dX3_reasonAgainst_17 ?_
    refine lv_icmp_lt (tgt := 24) hx hb dX3_reasonAgainst_18 (by decide) (fun c_3 => ?_) (fun c_3 => ?_)
    · have hF := hF.trans (if_pos c_3)
      refine lv_aload_n hx hb dX3_reasonAgainst_24 rfl (lv_at hl 1 rfl) ?_
      refine lv_iload_n hx hb dX3_reasonAgainst_25 rfl (lv_at hl 2 rfl) ?_
      refine lv_iload_n hx hb dX3_reasonAgainst_26 rfl (lv_at hl 0 rfl) ?_
      refine va_gets hx hb hKX.2.2.2.2.1 hS hown (hts _ fl_X3_reasonAgainst_125) (fun _ h9 => h9) dX3_reasonAgainst_27 ?_
      refine lv_iload_n hx hb dX3_reasonAgainst_30 rfl (lv_at hl 0 rfl) ?_
      have hi_4 : vp_in r_1 14 := pz_in ‹_› ‹_› (by decide)
      refine va_ti hx hb hKX.2.2.2.2.2.1 hS hi_4 (v := .int (pz_LT (r_1).toNatClampNeg)) rfl dX3_reasonAgainst_31 ?_
      refine pz_Vi (As := [.int (x1), .int (r_1), .int ((pz_LT (r_1).toNatClampNeg))]) (rest := []) ⟨hx, hb, hml, hown, hts⟩ (c_X3_reasonAgainstNumbers l D q k t cnt kinds firsts seconds heights tables replaced laid rules ps qs rs fs frules heads ends inforce usable summ x1 r_1 (pz_LT (r_1).toNatClampNeg)) (cwV 3 hts gX3_reasonAgainst_X3_reasonAgainstNumbers rfl rfl rfl hdV_X3_reasonAgainstNumbers ⟨Nat.le_of_ble_eq_true rfl, Nat.le_of_ble_eq_true rfl⟩) pz_KX.call (hKX.go hS) (va_recv hK hP (ci := 3) (q0 := 0) rfl rfl) hP hS rfl hl.1 rfl (Nat.le_of_ble_eq_true rfl) dX3_reasonAgainst_32 ⟨Nat.zero_le _, Nat.zero_le _⟩ (fun r_5 u_5 H locs hF_5 hP hS => ?_)
      have hF := hF.trans (pz_be hF_5)
      refine lv_istore_n (lv' := [(3, .int (r_5)), (2, .int (r_1)), (0, .ref (q 0)), (1, .int (x1))]) hx hb dX3_reasonAgainst_35 rfl hl (by decide) rfl (fun ls hl => ?_)
      refine lv_iload_n hx hb dX3_reasonAgainst_36 rfl (lv_at hl 0 rfl) ?_
      refine lv_if_eq (tgt := 42) hx hb dX3_reasonAgainst_37 (by decide) (fun c_6 => ?_) (fun c_6 => ?_)
      · have hF := hF.trans (if_pos c_6)
        refine lv_aload_n hx hb dX3_reasonAgainst_42 rfl (lv_at hl 2 rfl) ?_
        refine lv_iload_n hx hb dX3_reasonAgainst_43 rfl (lv_at hl 1 rfl) ?_
        refine lv_aload_n hx hb dX3_reasonAgainst_44 rfl (lv_at hl 2 rfl) ?_
        refine va_get (D := D) (ci := 3) (v := .ref (q 3)) (C := RX3) (T := TX3) (N := 3) hx hb hts in_X3_reasonAgainst_X3 hown hK hP 0 rfl rfl 2 (by decide) (hts _ fl_X3_reasonAgainst_26) (fun _ h9 => h9) rfl dX3_reasonAgainst_45 ?_
        refine lv_aload_n hx hb dX3_reasonAgainst_48 rfl (lv_at hl 2 rfl) ?_
        refine va_get (D := D) (ci := 3) (v := .ref (q 2)) (C := RX3) (T := TX3) (N := 3) hx hb hts in_X3_reasonAgainst_X3 hown hK hP 0 rfl rfl 1 (by decide) (hts _ fl_X3_reasonAgainst_19) (fun _ h9 => h9) rfl dX3_reasonAgainst_49 ?_
        refine lv_iload_n hx hb dX3_reasonAgainst_52 rfl (lv_at hl 3 rfl) ?_
        refine pz_Vi (As := [.int (x1)]) (rest := [.ref (q 3), .int (r_1), .ref (q 0)]) ⟨hx, hb, hml, hown, hts⟩ (c_X2_pOf l D q k t cnt kinds firsts seconds heights tables replaced laid rules ps qs rs fs frules heads ends inforce usable summ x1) (cwV 1 hts gX3_reasonAgainst_X2_pOf rfl rfl rfl hdV_X2_pOf ⟨Nat.le_of_ble_eq_true rfl, Nat.le_of_ble_eq_true rfl⟩) pz_KX.call (hKX.go hS) (va_recv hK hP (ci := 2) (q0 := 2) rfl rfl) hP hS rfl hl.1 rfl (Nat.le_of_ble_eq_true rfl) dX3_reasonAgainst_53 ⟨Nat.zero_le _, Nat.zero_le _⟩ (fun r_7 u_7 H locs hF_7 hP hS => ?_)
        have hF := hF.trans (pz_be hF_7)
        refine pz_Vi (As := [.int (r_7)]) (rest := [.int (r_1), .ref (q 0)]) ⟨hx, hb, hml, hown, hts⟩ (c_X0_headOf l D q k t cnt kinds firsts seconds heights tables replaced laid rules ps qs rs fs frules heads ends inforce usable summ r_7) (cwV 1 hts gX3_reasonAgainst_X0_headOf rfl rfl rfl hdV_X0_headOf ⟨Nat.le_of_ble_eq_true rfl, Nat.le_of_ble_eq_true rfl⟩) pz_KX.call (hKX.go hS) (va_recv hK hP (ci := 0) (q0 := 3) rfl rfl) hP hS rfl hl.1 rfl (Nat.le_of_ble_eq_true rfl) dX3_reasonAgainst_56 ⟨Nat.zero_le _, Nat.zero_le _⟩ (fun r_8 u_8 H locs hF_8 hP hS => ?_)
        have hF := hF.trans (pz_be hF_8)
        refine pz_Vi (As := [.int (r_1), .int (r_8)]) (rest := []) ⟨hx, hb, hml, hown, hts⟩ (c_X3_isFormRight l D q k t cnt kinds firsts seconds heights tables replaced laid rules ps qs rs fs frules heads ends inforce usable summ r_1 r_8 hc) (cwV 2 hts gX3_reasonAgainst_X3_isFormRight rfl rfl rfl hdV_X3_isFormRight ⟨Nat.le_of_ble_eq_true rfl, Nat.le_of_ble_eq_true rfl⟩) pz_KX.call (hKX.go hS) (va_recv hK hP (ci := 3) (q0 := 0) rfl rfl) hP hS rfl hl.1 rfl (Nat.le_of_ble_eq_true rfl) dX3_reasonAgainst_59 ⟨Nat.zero_le _, Nat.zero_le _⟩ (fun r_9 u_9 H locs hF_9 hP hS => ?_)
        have hF := hF.trans (pz_be hF_9)
        refine lv_if_ne (tgt := 67) hx hb dX3_reasonAgainst_62 (by decide) (fun c_10 => ?_) (fun c_10 => ?_)
        · have hF := hF.trans (if_neg c_10)
          refine lv_aload_n hx hb dX3_reasonAgainst_67 rfl (lv_at hl 2 rfl) ?_
          refine lv_iload_n hx hb dX3_reasonAgainst_68 rfl (lv_at hl 3 rfl) ?_
          refine lv_iload_n hx hb dX3_reasonAgainst_69 rfl (lv_at hl 1 rfl) ?_
          refine pz_Vi (As := [.int (x1), .int (r_1)]) (rest := []) ⟨hx, hb, hml, hown, hts⟩ (c_X3_areBoxesRight l D q k t cnt kinds firsts seconds heights tables replaced laid rules ps qs rs fs frules heads ends inforce usable summ x1 r_1) (cwV 2 hts gX3_reasonAgainst_X3_areBoxesRight rfl rfl rfl hdV_X3_areBoxesRight ⟨Nat.le_of_ble_eq_true rfl, Nat.le_of_ble_eq_true rfl⟩) pz_KX.call (hKX.go hS) (va_recv hK hP (ci := 3) (q0 := 0) rfl rfl) hP hS rfl hl.1 rfl (Nat.le_of_ble_eq_true rfl) dX3_reasonAgainst_70 ⟨Nat.zero_le _, Nat.zero_le _⟩ (fun r_11 u_11 H locs hF_11 hP hS => ?_)
          have hF := hF.trans (pz_be hF_11)
          refine lv_if_ne (tgt := 78) hx hb dX3_reasonAgainst_73 (by decide) (fun c_12 => ?_) (fun c_12 => ?_)
          · have hF := hF.trans (if_neg c_12)
            refine lv_aload_n hx hb dX3_reasonAgainst_78 rfl (lv_at hl 2 rfl) ?_
            refine lv_iload_n hx hb dX3_reasonAgainst_79 rfl (lv_at hl 3 rfl) ?_
            refine lv_iload_n hx hb dX3_reasonAgainst_80 rfl (lv_at hl 1 rfl) ?_
            refine pz_Vi (As := [.int (x1), .int (r_1)]) (rest := []) ⟨hx, hb, hml, hown, hts⟩ (c_X3_areAllLike l D q k t cnt kinds firsts seconds heights tables replaced laid rules ps qs rs fs frules heads ends inforce usable summ x1 r_1 hc) (cwV 2 hts gX3_reasonAgainst_X3_areAllLike rfl rfl rfl hdV_X3_areAllLike ⟨Nat.le_of_ble_eq_true rfl, Nat.le_of_ble_eq_true rfl⟩) pz_KX.call (hKX.go hS) (va_recv hK hP (ci := 3) (q0 := 0) rfl rfl) hP hS rfl hl.1 rfl (Nat.le_of_ble_eq_true rfl) dX3_reasonAgainst_81 ⟨Nat.zero_le _, Nat.zero_le _⟩ (fun r_13 u_13 H locs hF_13 hP hS => ?_)
            have hF := hF.trans (pz_be hF_13)
            refine lv_if_eq (tgt := 91) hx hb dX3_reasonAgainst_84 (by decide) (fun c_14 => ?_) (fun c_14 => ?_)
            · have hF := hF.trans (if_pos c_14)
              refine lv_bipush (v := 6) hx hb dX3_reasonAgainst_91 (by decide) ?_
              exact W.iret (v := 6) hx hb hr (fun t ht hW => ⟨⟨6, (), rfl, hF.symm, pz_hp ht hP⟩, hS.F ht⟩) hS.2.2 dX3_reasonAgainst_93 hlocks
            · have hF := hF.trans (if_neg c_14)
              refine lv_iconst (v := 0) hx hb dX3_reasonAgainst_87 (by decide) ?_
              refine lv_goto (tgt := 93) hx hb dX3_reasonAgainst_88 (by decide) ?_
              exact W.iret (v := 0) hx hb hr (fun t ht hW => ⟨⟨0, (), rfl, hF.symm, pz_hp ht hP⟩, hS.F ht⟩) hS.2.2 dX3_reasonAgainst_93 hlocks
          · have hF := hF.trans (if_pos c_12)
            refine lv_iconst (v := 5) hx hb dX3_reasonAgainst_76 (by decide) ?_
            exact W.iret (v := 5) hx hb hr (fun t ht hW => ⟨⟨5, (), rfl, hF.symm, pz_hp ht hP⟩, hS.F ht⟩) hS.2.2 dX3_reasonAgainst_77 hlocks
        · have hF := hF.trans (if_pos c_10)
          refine lv_iconst (v := 4) hx hb dX3_reasonAgainst_65 (by decide) ?_
          exact W.iret (v := 4) hx hb hr (fun t ht hW => ⟨⟨4, (), rfl, hF.symm, pz_hp ht hP⟩, hS.F ht⟩) hS.2.2 dX3_reasonAgainst_66 hlocks
      · have hF := hF.trans (if_neg c_6)
        refine lv_iload_n hx hb dX3_reasonAgainst_40 rfl (lv_at hl 0 rfl) ?_
        exact W.iret (v := r_5) hx hb hr (fun t ht hW => ⟨⟨r_5, (), rfl, hF.symm, pz_hp ht hP⟩, hS.F ht⟩) hS.2.2 dX3_reasonAgainst_41 hlocks
    · have hF := hF.trans (if_neg c_3)
      refine lv_bipush (v := 8) hx hb dX3_reasonAgainst_21 (by decide) ?_
      exact W.iret (v := 8) hx hb hr (fun t ht hW => ⟨⟨8, (), rfl, hF.symm, pz_hp ht hP⟩, hS.F ht⟩) hS.2.2 dX3_reasonAgainst_23 hlocks

-- == X3_lookAt
def f_X3_lookAt (cnt : Int32) (kinds : Nat → Int32) (firsts : Nat → Int32) (seconds : Nat → Int32) (heights : Nat → Int32) (tables : Nat → Int64) (rules : Nat → Int32) (ps : Nat → Int32) (qs : Nat → Int32) (rs : Nat → Int32) (fs : Nat → Int32) (frules : Nat → Int32) (heads : Nat → Int32) (ends : Nat → Int32) (inforce : Nat → Int32) (usable : Nat → Int32) (x1 : Int32) : Int32 × (Int32) × (Nat → Int32) × (Nat → Int32) × (Nat → Int32) × (Nat → Int32) × (Nat → Int64) × (Nat → Int32) × (Nat → Int32) × (Nat → Int32) × (Nat → Int32) × (Nat → Int32) := pz_bnd (f_X3_reasonAgainst cnt kinds firsts seconds rules ps qs rs fs frules heads ends inforce usable x1) (fun z_1 => if z_1 = 0 then (pz_bnd (f_X3_conclude cnt kinds firsts seconds heights tables rules ps qs fs heads ends x1) (fun z_3 => if z_3.1 = (-4) then ((7, z_3.2.1, z_3.2.2.1, z_3.2.2.2.1, z_3.2.2.2.2.1, z_3.2.2.2.2.2.1, z_3.2.2.2.2.2.2, frules, heads, ends, inforce, usable)) else (pz_bnd (f_X2_ruleOf rules x1) (fun z_5 => pz_bnd (f_X0_keep frules heads ends inforce usable x1 z_5 z_3.1) (fun z_6 => (0, z_3.2.1, z_3.2.2.1, z_3.2.2.2.1, z_3.2.2.2.2.1, z_3.2.2.2.2.2.1, z_3.2.2.2.2.2.2, z_6.1, z_6.2.1, z_6.2.2.1, z_6.2.2.2.1, z_6.2.2.2.2)))))) else ((z_1, cnt, kinds, firsts, seconds, heights, tables, frules, heads, ends, inforce, usable)))
theorem fl_X3_lookAt_19 : Cond.fieldLink RX3 19 "BoxProofs" "proof" "LBoxProofs$Lines;" ∈ wsX3_lookAt := by decide +kernel
theorem fl_X3_lookAt_26 : Cond.fieldLink RX3 26 "BoxProofs" "findings" "LBoxProofs$Findings;" ∈ wsX3_lookAt := by decide +kernel
theorem hdV_X0_keep : yX0_keep.cls = RX0 ∧ yX0_keep.cls ≠ "java/lang/invoke/MethodHandle" ∧ yX0_keep.cls ≠ "java/lang/invoke/VarHandle" ∧ (parseMethodDescriptor yX0_keep.desc).map (fun d => d.parameters.length) = some 3 := by decide +kernel
theorem hdV_X3_conclude : yX3_conclude.cls = RX3 ∧ yX3_conclude.cls ≠ "java/lang/invoke/MethodHandle" ∧ yX3_conclude.cls ≠ "java/lang/invoke/VarHandle" ∧ (parseMethodDescriptor yX3_conclude.desc).map (fun d => d.parameters.length) = some 1 := by decide +kernel
theorem hdV_X3_reasonAgainst : yX3_reasonAgainst.cls = RX3 ∧ yX3_reasonAgainst.cls ≠ "java/lang/invoke/MethodHandle" ∧ yX3_reasonAgainst.cls ≠ "java/lang/invoke/VarHandle" ∧ (parseMethodDescriptor yX3_reasonAgainst.desc).map (fun d => d.parameters.length) = some 1 := by decide +kernel
theorem in_X3_lookAt_X3 : ∀ w ∈ wsX30, w ∈ wsX3_lookAt := by decide +kernel
set_option maxHeartbeats 4000000 in
set_option maxRecDepth 100000 in
theorem c_X3_lookAt (l : Launch) (D : va_G) (q : Nat → Nat) (k : Nat → ClassId) (t : Nat → Nat) (cnt : Int32) (kinds : Nat → Int32) (firsts : Nat → Int32) (seconds : Nat → Int32) (heights : Nat → Int32) (tables : Nat → Int64) (replaced : Nat → Int32) (laid : Nat → Int32) (rules : Nat → Int32) (ps : Nat → Int32) (qs : Nat → Int32) (rs : Nat → Int32) (fs : Nat → Int32) (frules : Nat → Int32) (heads : Nat → Int32) (ends : Nat → Int32) (inforce : Nat → Int32) (usable : Nat → Int32) (summ : Nat → Int32) (x1 : Int32) (hc : pz_c cnt) : Met l yX3_lookAt wsX3_lookAt ({ frames := 5, cells := 0, slots := 0, locals := 114 }) (va_Pc [.ref (q 0), .int (x1)] (fun U => va_P D vwCl (pz_X q k cnt kinds firsts seconds heights tables replaced laid rules ps qs rs fs frules heads ends inforce usable summ) U.heap ∧ pz_KX D q k t U)) (va_Qi (fun r (u : (Int32) × (Nat → Int32) × (Nat → Int32) × (Nat → Int32) × (Nat → Int32) × (Nat → Int64) × (Nat → Int32) × (Nat → Int32) × (Nat → Int32) × (Nat → Int32) × (Nat → Int32)) => (r, u) = (f_X3_lookAt cnt kinds firsts seconds heights tables rules ps qs rs fs frules heads ends inforce usable x1)) (fun u t => va_P D vwCl (pz_X q k u.1 u.2.1 u.2.2.1 u.2.2.2.1 u.2.2.2.2.1 u.2.2.2.2.2.1 replaced laid rules ps qs rs fs u.2.2.2.2.2.2.1 u.2.2.2.2.2.2.2.1 u.2.2.2.2.2.2.2.2.1 u.2.2.2.2.2.2.2.2.2.1 u.2.2.2.2.2.2.2.2.2.2 summ) t.heap) (pz_A 22 q)) 0 0 (pz_A 22 q) := by
  refine Met.ofW (cc := cX3_lookAt) (maxL := 4) (ret := (some .int)) (by decide) rfl ?_
  intro p e s m args below meth c s₁ B hml hv
  obtain ⟨rfl, hP, hKX⟩ := hv
  have hx := B.exec
  have hb := B.bytes
  have hr := B.returns
  have hts := atoms_spec (ws := wsX3_lookAt) B.pre
  have hown : s.vm.findClass RX3 = some m.cls := findClass_of_methodNamed B.named
  have hlocks := B.notSynchronized
  have hC : pz_C p s m ([.ref (q 0), .int (x1)] : List Value).toArray meth c cX3_lookAt wsX3_lookAt RX3 4 (some .int) := ⟨hx, hb, hml, hown, hts, hr, hlocks⟩
  have hK := hKX.1
  have hS : va_S (pz_A 22 q) s.heap s.heap [] := va_S.rf
  have hl := lv_entry [.ref (q 0), .int (x1)] (n := 4) (Nat.le_of_ble_eq_true rfl)
  rw [lg_entry_eq]
  generalize (lg_sl [.ref (q 0), .int (x1)] ++ List.replicate (4 - (lg_sl [.ref (q 0), .int (x1)]).length) Slot.unset).toArray = ls at hl ⊢
  have hl : lv_has ls 4 [(0, .ref (q 0)), (1, .int (x1))] := hl
  generalize hF : f_X3_lookAt cnt kinds firsts seconds heights tables rules ps qs rs fs frules heads ends inforce usable x1 = G
  replace hF := hF.symm
  unfold f_X3_lookAt at hF
  refine lv_aload_n hx hb dX3_lookAt_0 rfl (lv_at hl 0 rfl) ?_
  refine lv_iload_n hx hb dX3_lookAt_1 rfl (lv_at hl 1 rfl) ?_
  refine pz_Vi (As := [.int (x1)]) (rest := []) ⟨hx, hb, hml, hown, hts⟩ (c_X3_reasonAgainst l D q k t cnt kinds firsts seconds heights tables replaced laid rules ps qs rs fs frules heads ends inforce usable summ x1 hc) (cwV 1 hts gX3_lookAt_X3_reasonAgainst rfl rfl rfl hdV_X3_reasonAgainst ⟨Nat.le_of_ble_eq_true rfl, Nat.le_of_ble_eq_true rfl⟩) pz_KX.call (hKX.go hS) (va_recv hK hP (ci := 3) (q0 := 0) rfl rfl) hP hS rfl hl.1 rfl (Nat.le_of_ble_eq_true rfl) dX3_lookAt_2 ⟨Nat.zero_le _, Nat.zero_le _⟩ (fun r_1 u_1 H locs hF_1 hP hS => ?_)
  have hF := hF.trans (pz_be hF_1)
  refine lv_istore_n (lv' := [(2, .int (r_1)), (0, .ref (q 0)), (1, .int (x1))]) hx hb dX3_lookAt_5 rfl hl (by decide) rfl (fun ls hl => ?_)
  refine lv_iload_n hx hb dX3_lookAt_6 rfl (lv_at hl 0 rfl) ?_
  refine lv_if_eq (tgt := 12) hx hb dX3_lookAt_7 (by decide) (fun c_2 => ?_) (fun c_2 => ?_)
  · have hF := hF.trans (if_pos c_2)
    refine lv_aload_n hx hb dX3_lookAt_12 rfl (lv_at hl 1 rfl) ?_
    refine lv_iload_n hx hb dX3_lookAt_13 rfl (lv_at hl 2 rfl) ?_
    refine pz_Vi (As := [.int (x1)]) (rest := []) ⟨hx, hb, hml, hown, hts⟩ (c_X3_conclude l D q k t cnt kinds firsts seconds heights tables replaced laid rules ps qs rs fs frules heads ends inforce usable summ x1 hc) (cwV 1 hts gX3_lookAt_X3_conclude rfl rfl rfl hdV_X3_conclude ⟨Nat.le_of_ble_eq_true rfl, Nat.le_of_ble_eq_true rfl⟩) pz_KX.call (hKX.go hS) (va_recv hK hP (ci := 3) (q0 := 0) rfl rfl) hP hS rfl hl.1 rfl (Nat.le_of_ble_eq_true rfl) dX3_lookAt_14 ⟨Nat.zero_le _, Nat.zero_le _⟩ (fun r_3 u_3 H locs hF_3 hP hS => ?_)
    obtain ⟨w_3_cnt, w_3_kinds, w_3_firsts, w_3_seconds, w_3_heights, w_3_tables⟩ := u_3
    have hP : va_P D vwCl (pz_X q k w_3_cnt w_3_kinds w_3_firsts w_3_seconds w_3_heights w_3_tables replaced laid rules ps qs rs fs frules heads ends inforce usable summ) H := hP
    have hF := hF.trans (pz_be hF_3)
    try dsimp only at hF
    have hc : pz_c w_3_cnt := by
      have hz : w_3_cnt = _ := congrArg (fun z => z.2.1) hF_3
      rw [hz]
      exact pz_X3_conclude_c hc
    refine lv_istore_n (lv' := [(3, .int (r_3)), (2, .int (r_1)), (0, .ref (q 0)), (1, .int (x1))]) hx hb dX3_lookAt_17 rfl hl (by decide) rfl (fun ls hl => ?_)
    refine lv_iload_n hx hb dX3_lookAt_18 rfl (lv_at hl 0 rfl) ?_
    refine lv_bipush (v := (-4)) hx hb dX3_lookAt_19 (by decide) ?_
    refine lv_icmp_ne (tgt := 27) hx hb dX3_lookAt_21 (by decide) (fun c_4 => ?_) (fun c_4 => ?_)
    · have hF := hF.trans (if_neg c_4)
      refine lv_aload_n hx hb dX3_lookAt_27 rfl (lv_at hl 2 rfl) ?_
      refine va_get (D := D) (ci := 3) (v := .ref (q 3)) (C := RX3) (T := TX3) (N := 3) hx hb hts in_X3_lookAt_X3 hown hK hP 0 rfl rfl 2 (by decide) (hts _ fl_X3_lookAt_26) (fun _ h9 => h9) rfl dX3_lookAt_28 ?_
      refine lv_iload_n hx hb dX3_lookAt_31 rfl (lv_at hl 3 rfl) ?_
      refine lv_aload_n hx hb dX3_lookAt_32 rfl (lv_at hl 2 rfl) ?_
      refine va_get (D := D) (ci := 3) (v := .ref (q 2)) (C := RX3) (T := TX3) (N := 3) hx hb hts in_X3_lookAt_X3 hown hK hP 0 rfl rfl 1 (by decide) (hts _ fl_X3_lookAt_19) (fun _ h9 => h9) rfl dX3_lookAt_33 ?_
      refine lv_iload_n hx hb dX3_lookAt_36 rfl (lv_at hl 3 rfl) ?_
      refine pz_Vi (As := [.int (x1)]) (rest := [.int (x1), .ref (q 3)]) ⟨hx, hb, hml, hown, hts⟩ (c_X2_ruleOf l D q k t w_3_cnt w_3_kinds w_3_firsts w_3_seconds w_3_heights w_3_tables replaced laid rules ps qs rs fs frules heads ends inforce usable summ x1) (cwV 1 hts gX3_lookAt_X2_ruleOf rfl rfl rfl hdV_X2_ruleOf ⟨Nat.le_of_ble_eq_true rfl, Nat.le_of_ble_eq_true rfl⟩) pz_KX.call (hKX.go hS) (va_recv hK hP (ci := 2) (q0 := 2) rfl rfl) hP hS rfl hl.1 rfl (Nat.le_of_ble_eq_true rfl) dX3_lookAt_37 ⟨Nat.zero_le _, Nat.zero_le _⟩ (fun r_5 u_5 H locs hF_5 hP hS => ?_)
      have hF := hF.trans (pz_be hF_5)
      refine lv_iload_n hx hb dX3_lookAt_40 rfl (lv_at hl 0 rfl) ?_
      refine pz_Vv (As := [.int (x1), .int (r_5), .int (r_3)]) (rest := []) ⟨hx, hb, hml, hown, hts⟩ (c_X0_keep l D q k t w_3_cnt w_3_kinds w_3_firsts w_3_seconds w_3_heights w_3_tables replaced laid rules ps qs rs fs frules heads ends inforce usable summ x1 r_5 r_3) (cwV 3 hts gX3_lookAt_X0_keep rfl rfl rfl hdV_X0_keep ⟨Nat.le_of_ble_eq_true rfl, Nat.le_of_ble_eq_true rfl⟩) pz_KX.call (hKX.go hS) (va_recv hK hP (ci := 0) (q0 := 3) rfl rfl) hP hS rfl hl.1 rfl (Nat.le_of_ble_eq_true rfl) dX3_lookAt_41 ⟨Nat.zero_le _, Nat.zero_le _⟩ (fun u_6 H locs hF_6 hP hS => ?_)
      obtain ⟨w_6_frules, w_6_heads, w_6_ends, w_6_inforce, w_6_usable⟩ := u_6
      have hP : va_P D vwCl (pz_X q k w_3_cnt w_3_kinds w_3_firsts w_3_seconds w_3_heights w_3_tables replaced laid rules ps qs rs fs w_6_frules w_6_heads w_6_ends w_6_inforce w_6_usable summ) H := hP
      have hF := hF.trans (pz_be hF_6)
      try dsimp only at hF
      refine lv_iconst (v := 0) hx hb dX3_lookAt_44 (by decide) ?_
      exact W.iret (v := 0) hx hb hr (fun t ht hW => ⟨⟨0, (w_3_cnt, w_3_kinds, w_3_firsts, w_3_seconds, w_3_heights, w_3_tables, w_6_frules, w_6_heads, w_6_ends, w_6_inforce, w_6_usable), rfl, hF.symm, pz_hp ht hP⟩, hS.F ht⟩) hS.2.2 dX3_lookAt_45 hlocks
    · have hF := hF.trans (if_pos c_4)
      refine lv_bipush (v := 7) hx hb dX3_lookAt_24 (by decide) ?_
      exact W.iret (v := 7) hx hb hr (fun t ht hW => ⟨⟨7, (w_3_cnt, w_3_kinds, w_3_firsts, w_3_seconds, w_3_heights, w_3_tables, frules, heads, ends, inforce, usable), rfl, hF.symm, pz_hp ht hP⟩, hS.F ht⟩) hS.2.2 dX3_lookAt_26 hlocks
  · have hF := hF.trans (if_neg c_2)
    refine lv_iload_n hx hb dX3_lookAt_10 rfl (lv_at hl 0 rfl) ?_
    exact W.iret (v := r_1) hx hb hr (fun t ht hW => ⟨⟨r_1, (cnt, kinds, firsts, seconds, heights, tables, frules, heads, ends, inforce, usable), rfl, hF.symm, pz_hp ht hP⟩, hS.F ht⟩) hS.2.2 dX3_lookAt_11 hlocks

