-- == X3_isLine
def f_X3_isLine (x0 : Int32) : Int32 := if x0 < 0 then (0) else (if 60 ≤ x0 then (0) else (1))
set_option maxHeartbeats 4000000 in
set_option maxRecDepth 100000 in
theorem c_X3_isLine (l : Launch)   (x0 : Int32)  : Met l yX3_isLine wsX3_isLine ({ frames := 0, cells := 0, slots := 0, locals := 0 }) (va_Pc [.int (x0)] (fun _ => True)) (va_Qi (fun r (_ : Unit) => r = (f_X3_isLine x0)) (fun _ _ => True) (fun _ => False)) 0 0 (fun _ => False) := by
  refine Met.ofW (cc := cX3_isLine) (maxL := 1) (ret := (some .boolean)) (by decide) rfl ?_
  intro p e s m args below meth c s₁ B hml hv
  obtain ⟨rfl, -⟩ := hv
  have hx := B.exec
  have hb := B.bytes
  have hr := B.returns
  have hts := atoms_spec (ws := wsX3_isLine) B.pre
  have hown : s.vm.findClass RX3 = some m.cls := findClass_of_methodNamed B.named
  have hlocks := B.notSynchronized
  have hC : pz_C p s m ([.int (x0)] : List Value).toArray meth c cX3_isLine wsX3_isLine RX3 1 (some .boolean) := ⟨hx, hb, hml, hown, hts, hr, hlocks⟩
  have hS : va_S (fun _ => False) s.heap s.heap [] := va_S.rf
  have hl := lv_entry [.int (x0)] (n := 1) (Nat.le_of_ble_eq_true rfl)
  rw [lg_entry_eq]
  generalize (lg_sl [.int (x0)] ++ List.replicate (1 - (lg_sl [.int (x0)]).length) Slot.unset).toArray = ls at hl ⊢
  have hl : lv_has ls 1 [(0, .int (x0))] := hl
  generalize hF : f_X3_isLine x0 = G
  replace hF := hF.symm
  unfold f_X3_isLine at hF
  refine lv_iload_n hx hb dX3_isLine_0 rfl (lv_at hl 0 rfl) ?_
  refine lv_if_lt (tgt := 14) hx hb dX3_isLine_1 (by decide) (fun c_1 => ?_) (fun c_1 => ?_)
  · have hF := hF.trans (if_pos c_1)
    refine lv_iconst (v := 0) hx hb dX3_isLine_14 (by decide) ?_
    exact W.zret (v := 0) hx hb hr rfl (fun t ht hW => ⟨⟨0, (), rfl, hF.symm, trivial⟩, hS.F ht⟩) hS.2.2 dX3_isLine_15 hlocks
  · have hF := hF.trans (if_neg c_1)
    refine lv_iload_n hx hb dX3_isLine_4 rfl (lv_at hl 0 rfl) ?_
    refine lv_bipush (v := 60) hx hb dX3_isLine_5 (by decide) ?_
    refine lv_icmp_ge (tgt := 14) hx hb dX3_isLine_7 (by decide) (fun c_2 => ?_) (fun c_2 => ?_)
    · have hF := hF.trans (if_pos c_2)
      refine lv_iconst (v := 0) hx hb dX3_isLine_14 (by decide) ?_
      exact W.zret (v := 0) hx hb hr rfl (fun t ht hW => ⟨⟨0, (), rfl, hF.symm, trivial⟩, hS.F ht⟩) hS.2.2 dX3_isLine_15 hlocks
    · have hF := hF.trans (if_neg c_2)
      refine lv_iconst (v := 1) hx hb dX3_isLine_10 (by decide) ?_
      refine lv_goto (tgt := 15) hx hb dX3_isLine_11 (by decide) ?_
      exact W.zret (v := 1) hx hb hr rfl (fun t ht hW => ⟨⟨1, (), rfl, hF.symm, trivial⟩, hS.F ht⟩) hS.2.2 dX3_isLine_15 hlocks

theorem pz_line {r k : Int32} (h : r = f_X3_isLine k) (h0 : ¬ r = 0) : vp_in k 60 := by
  rw [h] at h0; unfold f_X3_isLine at h0
  by_cases c1 : k < 0
  · rw [if_pos c1] at h0; exact absurd rfl h0
  · rw [if_neg c1] at h0
    by_cases c2 : (60 : Int32) ≤ k
    · rw [if_pos c2] at h0; exact absurd rfl h0
    · exact pz_in c1 (c := 60) (by rw [Int32.lt_iff_toInt_lt]; rw [Int32.le_iff_toInt_le] at c2; omega) (by decide)

-- == X3_isLetter
def f_X3_isLetter (x0 : Int32) : Int32 := if x0 < 0 then (0) else (if 6 ≤ x0 then (0) else (1))
set_option maxHeartbeats 4000000 in
set_option maxRecDepth 100000 in
theorem c_X3_isLetter (l : Launch)   (x0 : Int32)  : Met l yX3_isLetter wsX3_isLetter ({ frames := 0, cells := 0, slots := 0, locals := 0 }) (va_Pc [.int (x0)] (fun _ => True)) (va_Qi (fun r (_ : Unit) => r = (f_X3_isLetter x0)) (fun _ _ => True) (fun _ => False)) 0 0 (fun _ => False) := by
  refine Met.ofW (cc := cX3_isLetter) (maxL := 1) (ret := (some .boolean)) (by decide) rfl ?_
  intro p e s m args below meth c s₁ B hml hv
  obtain ⟨rfl, -⟩ := hv
  have hx := B.exec
  have hb := B.bytes
  have hr := B.returns
  have hts := atoms_spec (ws := wsX3_isLetter) B.pre
  have hown : s.vm.findClass RX3 = some m.cls := findClass_of_methodNamed B.named
  have hlocks := B.notSynchronized
  have hC : pz_C p s m ([.int (x0)] : List Value).toArray meth c cX3_isLetter wsX3_isLetter RX3 1 (some .boolean) := ⟨hx, hb, hml, hown, hts, hr, hlocks⟩
  have hS : va_S (fun _ => False) s.heap s.heap [] := va_S.rf
  have hl := lv_entry [.int (x0)] (n := 1) (Nat.le_of_ble_eq_true rfl)
  rw [lg_entry_eq]
  generalize (lg_sl [.int (x0)] ++ List.replicate (1 - (lg_sl [.int (x0)]).length) Slot.unset).toArray = ls at hl ⊢
  have hl : lv_has ls 1 [(0, .int (x0))] := hl
  generalize hF : f_X3_isLetter x0 = G
  replace hF := hF.symm
  unfold f_X3_isLetter at hF
  refine lv_iload_n hx hb dX3_isLetter_0 rfl (lv_at hl 0 rfl) ?_
  refine lv_if_lt (tgt := 14) hx hb dX3_isLetter_1 (by decide) (fun c_1 => ?_) (fun c_1 => ?_)
  · have hF := hF.trans (if_pos c_1)
    refine lv_iconst (v := 0) hx hb dX3_isLetter_14 (by decide) ?_
    exact W.zret (v := 0) hx hb hr rfl (fun t ht hW => ⟨⟨0, (), rfl, hF.symm, trivial⟩, hS.F ht⟩) hS.2.2 dX3_isLetter_15 hlocks
  · have hF := hF.trans (if_neg c_1)
    refine lv_iload_n hx hb dX3_isLetter_4 rfl (lv_at hl 0 rfl) ?_
    refine lv_bipush (v := 6) hx hb dX3_isLetter_5 (by decide) ?_
    refine lv_icmp_ge (tgt := 14) hx hb dX3_isLetter_7 (by decide) (fun c_2 => ?_) (fun c_2 => ?_)
    · have hF := hF.trans (if_pos c_2)
      refine lv_iconst (v := 0) hx hb dX3_isLetter_14 (by decide) ?_
      exact W.zret (v := 0) hx hb hr rfl (fun t ht hW => ⟨⟨0, (), rfl, hF.symm, trivial⟩, hS.F ht⟩) hS.2.2 dX3_isLetter_15 hlocks
    · have hF := hF.trans (if_neg c_2)
      refine lv_iconst (v := 1) hx hb dX3_isLetter_10 (by decide) ?_
      refine lv_goto (tgt := 15) hx hb dX3_isLetter_11 (by decide) ?_
      exact W.zret (v := 1) hx hb hr rfl (fun t ht hW => ⟨⟨1, (), rfl, hF.symm, trivial⟩, hS.F ht⟩) hS.2.2 dX3_isLetter_15 hlocks

theorem pz_letter {r k : Int32} (h : r = f_X3_isLetter k) (h0 : ¬ r = 0) : vp_in k 6 := by
  rw [h] at h0; unfold f_X3_isLetter at h0
  by_cases c1 : k < 0
  · rw [if_pos c1] at h0; exact absurd rfl h0
  · rw [if_neg c1] at h0
    by_cases c2 : (6 : Int32) ≤ k
    · rw [if_pos c2] at h0; exact absurd rfl h0
    · exact pz_in c1 (c := 6) (by rw [Int32.lt_iff_toInt_lt]; rw [Int32.le_iff_toInt_le] at c2; omega) (by decide)

-- == X3_takesFormula
def f_X3_takesFormula (x0 : Int32) : Int32 := if x0 = 0 then (1) else (if x0 = 1 then (1) else (if x0 = 7 then (1) else (if x0 = 8 then (1) else (if x0 = 12 then (1) else (0)))))
set_option maxHeartbeats 4000000 in
set_option maxRecDepth 100000 in
theorem c_X3_takesFormula (l : Launch)   (x0 : Int32)  : Met l yX3_takesFormula wsX3_takesFormula ({ frames := 0, cells := 0, slots := 0, locals := 0 }) (va_Pc [.int (x0)] (fun _ => True)) (va_Qi (fun r (_ : Unit) => r = (f_X3_takesFormula x0)) (fun _ _ => True) (fun _ => False)) 0 0 (fun _ => False) := by
  refine Met.ofW (cc := cX3_takesFormula) (maxL := 1) (ret := (some .boolean)) (by decide) rfl ?_
  intro p e s m args below meth c s₁ B hml hv
  obtain ⟨rfl, -⟩ := hv
  have hx := B.exec
  have hb := B.bytes
  have hr := B.returns
  have hts := atoms_spec (ws := wsX3_takesFormula) B.pre
  have hown : s.vm.findClass RX3 = some m.cls := findClass_of_methodNamed B.named
  have hlocks := B.notSynchronized
  have hC : pz_C p s m ([.int (x0)] : List Value).toArray meth c cX3_takesFormula wsX3_takesFormula RX3 1 (some .boolean) := ⟨hx, hb, hml, hown, hts, hr, hlocks⟩
  have hS : va_S (fun _ => False) s.heap s.heap [] := va_S.rf
  have hl := lv_entry [.int (x0)] (n := 1) (Nat.le_of_ble_eq_true rfl)
  rw [lg_entry_eq]
  generalize (lg_sl [.int (x0)] ++ List.replicate (1 - (lg_sl [.int (x0)]).length) Slot.unset).toArray = ls at hl ⊢
  have hl : lv_has ls 1 [(0, .int (x0))] := hl
  generalize hF : f_X3_takesFormula x0 = G
  replace hF := hF.symm
  unfold f_X3_takesFormula at hF
  refine lv_iload_n hx hb dX3_takesFormula_0 rfl (lv_at hl 0 rfl) ?_
  refine lv_if_eq (tgt := 27) hx hb dX3_takesFormula_1 (by decide) (fun c_1 => ?_) (fun c_1 => ?_)
  · have hF := hF.trans (if_pos c_1)
    refine lv_iconst (v := 1) hx hb dX3_takesFormula_27 (by decide) ?_
    refine lv_goto (tgt := 32) hx hb dX3_takesFormula_28 (by decide) ?_
    exact W.zret (v := 1) hx hb hr rfl (fun t ht hW => ⟨⟨1, (), rfl, hF.symm, trivial⟩, hS.F ht⟩) hS.2.2 dX3_takesFormula_32 hlocks
  · have hF := hF.trans (if_neg c_1)
    refine lv_iload_n hx hb dX3_takesFormula_4 rfl (lv_at hl 0 rfl) ?_
    refine lv_iconst (v := 1) hx hb dX3_takesFormula_5 (by decide) ?_
    refine lv_icmp_eq (tgt := 27) hx hb dX3_takesFormula_6 (by decide) (fun c_2 => ?_) (fun c_2 => ?_)
    · have hF := hF.trans (if_pos c_2)
      refine lv_iconst (v := 1) hx hb dX3_takesFormula_27 (by decide) ?_
      refine lv_goto (tgt := 32) hx hb dX3_takesFormula_28 (by decide) ?_
      exact W.zret (v := 1) hx hb hr rfl (fun t ht hW => ⟨⟨1, (), rfl, hF.symm, trivial⟩, hS.F ht⟩) hS.2.2 dX3_takesFormula_32 hlocks
    · have hF := hF.trans (if_neg c_2)
      refine lv_iload_n hx hb dX3_takesFormula_9 rfl (lv_at hl 0 rfl) ?_
      refine lv_bipush (v := 7) hx hb dX3_takesFormula_10 (by decide) ?_
      refine lv_icmp_eq (tgt := 27) hx hb dX3_takesFormula_12 (by decide) (fun c_3 => ?_) (fun c_3 => ?_)
      · have hF := hF.trans (if_pos c_3)
        refine lv_iconst (v := 1) hx hb dX3_takesFormula_27 (by decide) ?_
        refine lv_goto (tgt := 32) hx hb dX3_takesFormula_28 (by decide) ?_
        exact W.zret (v := 1) hx hb hr rfl (fun t ht hW => ⟨⟨1, (), rfl, hF.symm, trivial⟩, hS.F ht⟩) hS.2.2 dX3_takesFormula_32 hlocks
      · have hF := hF.trans (if_neg c_3)
        refine lv_iload_n hx hb dX3_takesFormula_15 rfl (lv_at hl 0 rfl) ?_
        refine lv_bipush (v := 8) hx hb dX3_takesFormula_16 (by decide) ?_
        refine lv_icmp_eq (tgt := 27) hx hb dX3_takesFormula_18 (by decide) (fun c_4 => ?_) (fun c_4 => ?_)
        · have hF := hF.trans (if_pos c_4)
          refine lv_iconst (v := 1) hx hb dX3_takesFormula_27 (by decide) ?_
          refine lv_goto (tgt := 32) hx hb dX3_takesFormula_28 (by decide) ?_
          exact W.zret (v := 1) hx hb hr rfl (fun t ht hW => ⟨⟨1, (), rfl, hF.symm, trivial⟩, hS.F ht⟩) hS.2.2 dX3_takesFormula_32 hlocks
        · have hF := hF.trans (if_neg c_4)
          refine lv_iload_n hx hb dX3_takesFormula_21 rfl (lv_at hl 0 rfl) ?_
          refine lv_bipush (v := 12) hx hb dX3_takesFormula_22 (by decide) ?_
          refine lv_icmp_ne (tgt := 31) hx hb dX3_takesFormula_24 (by decide) (fun c_5 => ?_) (fun c_5 => ?_)
          · have hF := hF.trans (if_neg c_5)
            refine lv_iconst (v := 0) hx hb dX3_takesFormula_31 (by decide) ?_
            exact W.zret (v := 0) hx hb hr rfl (fun t ht hW => ⟨⟨0, (), rfl, hF.symm, trivial⟩, hS.F ht⟩) hS.2.2 dX3_takesFormula_32 hlocks
          · have hF := hF.trans (if_pos c_5)
            refine lv_iconst (v := 1) hx hb dX3_takesFormula_27 (by decide) ?_
            refine lv_goto (tgt := 32) hx hb dX3_takesFormula_28 (by decide) ?_
            exact W.zret (v := 1) hx hb hr rfl (fun t ht hW => ⟨⟨1, (), rfl, hF.symm, trivial⟩, hS.F ht⟩) hS.2.2 dX3_takesFormula_32 hlocks

-- == X2_isLaid
def f_X2_isLaid (laid : Nat → Int32) (x1 : Int32) : Int32 := pz_bnd (f_X3_isLine x1) (fun z_1 => if z_1 = 0 then (0) else (if (laid (x1).toNatClampNeg) = 0 then (0) else (1)))
theorem fl_X2_isLaid_9 : Cond.fieldLink RX2 9 "BoxProofs$Lines" "laid" "[Z" ∈ wsX2_isLaid := by decide +kernel
theorem hdS_X3_isLine : yX3_isLine.cls ≠ "java/lang/invoke/MethodHandle" ∧ yX3_isLine.cls ≠ "java/lang/invoke/VarHandle" ∧ (parseMethodDescriptor yX3_isLine.desc).map (fun d => d.parameters.length) = some 1 := by decide +kernel
theorem in_X2_isLaid_X2 : ∀ w ∈ wsX20, w ∈ wsX2_isLaid := by decide +kernel
theorem mm_X2_isLaid_Cond_initialized_RX3 : Cond.initialized RX3 ∈ wsX2_isLaid := by decide +kernel
theorem mm_X2_isLaid_Cond_static_yX3_isLine : Cond.static yX3_isLine ∈ wsX2_isLaid := by decide +kernel
set_option maxHeartbeats 4000000 in
set_option maxRecDepth 100000 in
theorem c_X2_isLaid (l : Launch) (D : va_G) (q : Nat → Nat) (k : Nat → ClassId) (t : Nat → Nat) (cnt : Int32) (kinds : Nat → Int32) (firsts : Nat → Int32) (seconds : Nat → Int32) (heights : Nat → Int32) (tables : Nat → Int64) (replaced : Nat → Int32) (laid : Nat → Int32) (rules : Nat → Int32) (ps : Nat → Int32) (qs : Nat → Int32) (rs : Nat → Int32) (fs : Nat → Int32) (frules : Nat → Int32) (heads : Nat → Int32) (ends : Nat → Int32) (inforce : Nat → Int32) (usable : Nat → Int32) (summ : Nat → Int32) (x1 : Int32)  : Met l yX2_isLaid wsX2_isLaid ({ frames := 1, cells := 0, slots := 0, locals := 20 }) (va_Pc [.ref (q 2), .int (x1)] (fun U => va_P D vwCl (pz_X q k cnt kinds firsts seconds heights tables replaced laid rules ps qs rs fs frules heads ends inforce usable summ) U.heap ∧ pz_KX D q k t U)) (va_Qi (fun r (_ : Unit) => r = (f_X2_isLaid laid x1)) (fun _ t => va_P D vwCl (pz_X q k cnt kinds firsts seconds heights tables replaced laid rules ps qs rs fs frules heads ends inforce usable summ) t.heap) (pz_A 22 q)) 0 0 (pz_A 22 q) := by
  refine Met.ofW (cc := cX2_isLaid) (maxL := 2) (ret := (some .boolean)) (by decide) rfl ?_
  intro p e s m args below meth c s₁ B hml hv
  obtain ⟨rfl, hP, hKX⟩ := hv
  have hx := B.exec
  have hb := B.bytes
  have hr := B.returns
  have hts := atoms_spec (ws := wsX2_isLaid) B.pre
  have hown : s.vm.findClass RX2 = some m.cls := findClass_of_methodNamed B.named
  have hlocks := B.notSynchronized
  have hC : pz_C p s m ([.ref (q 2), .int (x1)] : List Value).toArray meth c cX2_isLaid wsX2_isLaid RX2 2 (some .boolean) := ⟨hx, hb, hml, hown, hts, hr, hlocks⟩
  have hK := hKX.1
  have hS : va_S (pz_A 22 q) s.heap s.heap [] := va_S.rf
  have hl := lv_entry [.ref (q 2), .int (x1)] (n := 2) (Nat.le_of_ble_eq_true rfl)
  rw [lg_entry_eq]
  generalize (lg_sl [.ref (q 2), .int (x1)] ++ List.replicate (2 - (lg_sl [.ref (q 2), .int (x1)]).length) Slot.unset).toArray = ls at hl ⊢
  have hl : lv_has ls 2 [(0, .ref (q 2)), (1, .int (x1))] := hl
  generalize hF : f_X2_isLaid laid x1 = G
  replace hF := hF.symm
  unfold f_X2_isLaid at hF
  refine lv_iload_n hx hb dX2_isLaid_0 rfl (lv_at hl 1 rfl) ?_
  refine pz_SNi (As := [.int (x1)]) (rest := []) ⟨hx, hb, hml, hown, hts⟩ (c_X3_isLine l x1) ⟨va_cnB 1 hts gX2_isLaid_X3_isLine_n31 rfl rfl rfl hKX.2.2.2.1 (hts _ mm_X2_isLaid_Cond_initialized_RX3) hdS_X3_isLine ⟨Nat.le_of_ble_eq_true rfl, Nat.le_of_ble_eq_true rfl⟩, hts _ mm_X2_isLaid_Cond_static_yX3_isLine, trivial⟩ hP hS rfl hl.1 rfl (Nat.le_of_ble_eq_true rfl) dX2_isLaid_1 ⟨Nat.zero_le _, Nat.zero_le _⟩ (fun r_1 H locs hF_1 hP hS => ?_)
  have hF := hF.trans (pz_be hF_1)
  refine lv_if_eq (tgt := 20) hx hb dX2_isLaid_4 (by decide) (fun c_2 => ?_) (fun c_2 => ?_)
  · have hF := hF.trans (if_pos c_2)
    refine lv_iconst (v := 0) hx hb dX2_isLaid_20 (by decide) ?_
    exact W.zret (v := 0) hx hb hr rfl (fun t ht hW => ⟨⟨0, (), rfl, hF.symm, pz_hp ht hP⟩, hS.F ht⟩) hS.2.2 dX2_isLaid_21 hlocks
  · have hF := hF.trans (if_neg c_2)
    refine lv_aload_n hx hb dX2_isLaid_7 rfl (lv_at hl 0 rfl) ?_
    refine va_get (D := D) (ci := 2) (v := .ref (q 10)) (C := RX2) (T := TX2) (N := 6) hx hb hts in_X2_isLaid_X2 hown hK hP 2 rfl rfl 0 (by decide) (hts _ fl_X2_isLaid_9) (fun _ h9 => h9) rfl dX2_isLaid_8 ?_
    refine lv_iload_n hx hb dX2_isLaid_11 rfl (lv_at hl 1 rfl) ?_
    have hi_3 : vp_in x1 60 := by first | exact pz_line ‹_› ‹_› | assumption
    refine va_zald hx hb hK hP 10 2 rfl rfl hi_3 dX2_isLaid_12 ?_
    refine lv_if_eq (tgt := 20) hx hb dX2_isLaid_13 (by decide) (fun c_4 => ?_) (fun c_4 => ?_)
    · have hF := hF.trans (if_pos c_4)
      refine lv_iconst (v := 0) hx hb dX2_isLaid_20 (by decide) ?_
      exact W.zret (v := 0) hx hb hr rfl (fun t ht hW => ⟨⟨0, (), rfl, hF.symm, pz_hp ht hP⟩, hS.F ht⟩) hS.2.2 dX2_isLaid_21 hlocks
    · have hF := hF.trans (if_neg c_4)
      refine lv_iconst (v := 1) hx hb dX2_isLaid_16 (by decide) ?_
      refine lv_goto (tgt := 21) hx hb dX2_isLaid_17 (by decide) ?_
      exact W.zret (v := 1) hx hb hr rfl (fun t ht hW => ⟨⟨1, (), rfl, hF.symm, pz_hp ht hP⟩, hS.F ht⟩) hS.2.2 dX2_isLaid_21 hlocks

-- == X2_put
def f_X2_put (laid : Nat → Int32) (rules : Nat → Int32) (ps : Nat → Int32) (qs : Nat → Int32) (rs : Nat → Int32) (fs : Nat → Int32) (x1 : Int32) (x2 : Int32) (x3 : Int32) (x4 : Int32) (x5 : Int32) (x6 : Int32) : (Nat → Int32) × (Nat → Int32) × (Nat → Int32) × (Nat → Int32) × (Nat → Int32) × (Nat → Int32) := pz_bnd (f_X3_isLine x1) (fun z_1 => if z_1 = 0 then ((laid, rules, ps, qs, rs, fs)) else (((upd laid (x1).toNatClampNeg 1), (upd rules (x1).toNatClampNeg x2), (upd ps (x1).toNatClampNeg x3), (upd qs (x1).toNatClampNeg x4), (upd rs (x1).toNatClampNeg x5), (upd fs (x1).toNatClampNeg x6))))
theorem fl_X2_put_15 : Cond.fieldLink RX2 15 "BoxProofs$Lines" "rules" "[I" ∈ wsX2_put := by decide +kernel
theorem fl_X2_put_19 : Cond.fieldLink RX2 19 "BoxProofs$Lines" "ps" "[I" ∈ wsX2_put := by decide +kernel
theorem fl_X2_put_22 : Cond.fieldLink RX2 22 "BoxProofs$Lines" "qs" "[I" ∈ wsX2_put := by decide +kernel
theorem fl_X2_put_25 : Cond.fieldLink RX2 25 "BoxProofs$Lines" "rs" "[I" ∈ wsX2_put := by decide +kernel
theorem fl_X2_put_28 : Cond.fieldLink RX2 28 "BoxProofs$Lines" "fs" "[I" ∈ wsX2_put := by decide +kernel
theorem fl_X2_put_9 : Cond.fieldLink RX2 9 "BoxProofs$Lines" "laid" "[Z" ∈ wsX2_put := by decide +kernel
theorem in_X2_put_X2 : ∀ w ∈ wsX20, w ∈ wsX2_put := by decide +kernel
theorem mm_X2_put_Cond_initialized_RX3 : Cond.initialized RX3 ∈ wsX2_put := by decide +kernel
theorem mm_X2_put_Cond_static_yX3_isLine : Cond.static yX3_isLine ∈ wsX2_put := by decide +kernel
set_option maxHeartbeats 4000000 in
set_option maxRecDepth 100000 in
theorem c_X2_put (l : Launch) (D : va_G) (q : Nat → Nat) (k : Nat → ClassId) (t : Nat → Nat) (cnt : Int32) (kinds : Nat → Int32) (firsts : Nat → Int32) (seconds : Nat → Int32) (heights : Nat → Int32) (tables : Nat → Int64) (replaced : Nat → Int32) (laid : Nat → Int32) (rules : Nat → Int32) (ps : Nat → Int32) (qs : Nat → Int32) (rs : Nat → Int32) (fs : Nat → Int32) (frules : Nat → Int32) (heads : Nat → Int32) (ends : Nat → Int32) (inforce : Nat → Int32) (usable : Nat → Int32) (summ : Nat → Int32) (x1 : Int32) (x2 : Int32) (x3 : Int32) (x4 : Int32) (x5 : Int32) (x6 : Int32)  : Met l yX2_put wsX2_put ({ frames := 1, cells := 0, slots := 0, locals := 20 }) (va_Pc [.ref (q 2), .int (x1), .int (x2), .int (x3), .int (x4), .int (x5), .int (x6)] (fun U => va_P D vwCl (pz_X q k cnt kinds firsts seconds heights tables replaced laid rules ps qs rs fs frules heads ends inforce usable summ) U.heap ∧ pz_KX D q k t U)) (va_Qv (fun (u : (Nat → Int32) × (Nat → Int32) × (Nat → Int32) × (Nat → Int32) × (Nat → Int32) × (Nat → Int32)) => u = (f_X2_put laid rules ps qs rs fs x1 x2 x3 x4 x5 x6)) (fun u t => va_P D vwCl (pz_X q k cnt kinds firsts seconds heights tables replaced u.1 u.2.1 u.2.2.1 u.2.2.2.1 u.2.2.2.2.1 u.2.2.2.2.2 frules heads ends inforce usable summ) t.heap) (pz_A 22 q)) 0 0 (pz_A 22 q) := by
  refine Met.ofW (cc := cX2_put) (maxL := 7) (ret := none) (by decide) rfl ?_
  intro p e s m args below meth c s₁ B hml hv
  obtain ⟨rfl, hP, hKX⟩ := hv
  have hx := B.exec
  have hb := B.bytes
  have hr := B.returns
  have hts := atoms_spec (ws := wsX2_put) B.pre
  have hown : s.vm.findClass RX2 = some m.cls := findClass_of_methodNamed B.named
  have hlocks := B.notSynchronized
  have hC : pz_C p s m ([.ref (q 2), .int (x1), .int (x2), .int (x3), .int (x4), .int (x5), .int (x6)] : List Value).toArray meth c cX2_put wsX2_put RX2 7 none := ⟨hx, hb, hml, hown, hts, hr, hlocks⟩
  have hK := hKX.1
  have hS : va_S (pz_A 22 q) s.heap s.heap [] := va_S.rf
  have hl := lv_entry [.ref (q 2), .int (x1), .int (x2), .int (x3), .int (x4), .int (x5), .int (x6)] (n := 7) (Nat.le_of_ble_eq_true rfl)
  rw [lg_entry_eq]
  generalize (lg_sl [.ref (q 2), .int (x1), .int (x2), .int (x3), .int (x4), .int (x5), .int (x6)] ++ List.replicate (7 - (lg_sl [.ref (q 2), .int (x1), .int (x2), .int (x3), .int (x4), .int (x5), .int (x6)]).length) Slot.unset).toArray = ls at hl ⊢
  have hl : lv_has ls 7 [(0, .ref (q 2)), (1, .int (x1)), (2, .int (x2)), (3, .int (x3)), (4, .int (x4)), (5, .int (x5)), (6, .int (x6))] := hl
  generalize hF : f_X2_put laid rules ps qs rs fs x1 x2 x3 x4 x5 x6 = G
  replace hF := hF.symm
  unfold f_X2_put at hF
  refine lv_iload_n hx hb dX2_put_0 rfl (lv_at hl 1 rfl) ?_
  refine pz_SNi (As := [.int (x1)]) (rest := []) ⟨hx, hb, hml, hown, hts⟩ (c_X3_isLine l x1) ⟨va_cnB 1 hts gX2_put_X3_isLine_n31 rfl rfl rfl hKX.2.2.2.1 (hts _ mm_X2_put_Cond_initialized_RX3) hdS_X3_isLine ⟨Nat.le_of_ble_eq_true rfl, Nat.le_of_ble_eq_true rfl⟩, hts _ mm_X2_put_Cond_static_yX3_isLine, trivial⟩ hP hS rfl hl.1 rfl (Nat.le_of_ble_eq_true rfl) dX2_put_1 ⟨Nat.zero_le _, Nat.zero_le _⟩ (fun r_1 H locs hF_1 hP hS => ?_)
  have hF := hF.trans (pz_be hF_1)
  refine lv_if_eq (tgt := 52) hx hb dX2_put_4 (by decide) (fun c_2 => ?_) (fun c_2 => ?_)
  · have hF := hF.trans (if_pos c_2)
    exact W.vret hx hb hr (fun t ht hW => ⟨⟨(laid, rules, ps, qs, rs, fs), rfl, hF.symm, pz_hp ht hP⟩, hS.F ht⟩) hS.2.2 dX2_put_52 hlocks
  · have hF := hF.trans (if_neg c_2)
    refine lv_aload_n hx hb dX2_put_7 rfl (lv_at hl 0 rfl) ?_
    refine va_get (D := D) (ci := 2) (v := .ref (q 10)) (C := RX2) (T := TX2) (N := 6) hx hb hts in_X2_put_X2 hown hK hP 2 rfl rfl 0 (by decide) (hts _ fl_X2_put_9) (fun _ h9 => h9) rfl dX2_put_8 ?_
    refine lv_iload_n hx hb dX2_put_11 rfl (lv_at hl 1 rfl) ?_
    refine lv_iconst (v := 1) hx hb dX2_put_12 (by decide) ?_
    have hi_3 : vp_in x1 60 := by first | exact pz_line ‹_› ‹_› | assumption
    refine va_zast hx hb hK hP (pz_D hKX.2.2.2.2.2.2.2.2 rfl) hS 10 2 rfl rfl hi_3 dX2_put_13 (fun H locs hP _ hS => ?_)
    have hP : va_P D vwCl (pz_X q k cnt kinds firsts seconds heights tables replaced (upd laid (x1).toNatClampNeg 1) rules ps qs rs fs frules heads ends inforce usable summ) H := hP
    refine lv_aload_n hx hb dX2_put_14 rfl (lv_at hl 0 rfl) ?_
    refine va_get (D := D) (ci := 2) (v := .ref (q 11)) (C := RX2) (T := TX2) (N := 6) hx hb hts in_X2_put_X2 hown hK hP 2 rfl rfl 1 (by decide) (hts _ fl_X2_put_15) (fun _ h9 => h9) rfl dX2_put_15 ?_
    refine lv_iload_n hx hb dX2_put_18 rfl (lv_at hl 1 rfl) ?_
    refine lv_iload_n hx hb dX2_put_19 rfl (lv_at hl 2 rfl) ?_
    have hi_4 : vp_in x1 60 := by first | exact pz_line ‹_› ‹_› | assumption
    refine va_iast hx hb hK hP (pz_D hKX.2.2.2.2.2.2.2.2 rfl) hS 11 0 rfl rfl hi_4 dX2_put_20 (fun H locs hP _ hS => ?_)
    have hP : va_P D vwCl (pz_X q k cnt kinds firsts seconds heights tables replaced (upd laid (x1).toNatClampNeg 1) (upd rules (x1).toNatClampNeg x2) ps qs rs fs frules heads ends inforce usable summ) H := hP
    refine lv_aload_n hx hb dX2_put_21 rfl (lv_at hl 0 rfl) ?_
    refine va_get (D := D) (ci := 2) (v := .ref (q 12)) (C := RX2) (T := TX2) (N := 6) hx hb hts in_X2_put_X2 hown hK hP 2 rfl rfl 2 (by decide) (hts _ fl_X2_put_19) (fun _ h9 => h9) rfl dX2_put_22 ?_
    refine lv_iload_n hx hb dX2_put_25 rfl (lv_at hl 1 rfl) ?_
    refine lv_iload_n hx hb dX2_put_26 rfl (lv_at hl 3 rfl) ?_
    have hi_5 : vp_in x1 60 := by first | exact pz_line ‹_› ‹_› | assumption
    refine va_iast hx hb hK hP (pz_D hKX.2.2.2.2.2.2.2.2 rfl) hS 12 0 rfl rfl hi_5 dX2_put_27 (fun H locs hP _ hS => ?_)
    have hP : va_P D vwCl (pz_X q k cnt kinds firsts seconds heights tables replaced (upd laid (x1).toNatClampNeg 1) (upd rules (x1).toNatClampNeg x2) (upd ps (x1).toNatClampNeg x3) qs rs fs frules heads ends inforce usable summ) H := hP
    refine lv_aload_n hx hb dX2_put_28 rfl (lv_at hl 0 rfl) ?_
    refine va_get (D := D) (ci := 2) (v := .ref (q 13)) (C := RX2) (T := TX2) (N := 6) hx hb hts in_X2_put_X2 hown hK hP 2 rfl rfl 3 (by decide) (hts _ fl_X2_put_22) (fun _ h9 => h9) rfl dX2_put_29 ?_
    refine lv_iload_n hx hb dX2_put_32 rfl (lv_at hl 1 rfl) ?_
    refine lv_iload hx hb dX2_put_33 (lv_at hl 4 rfl) ?_
    have hi_6 : vp_in x1 60 := by first | exact pz_line ‹_› ‹_› | assumption
    refine va_iast hx hb hK hP (pz_D hKX.2.2.2.2.2.2.2.2 rfl) hS 13 0 rfl rfl hi_6 dX2_put_35 (fun H locs hP _ hS => ?_)
    have hP : va_P D vwCl (pz_X q k cnt kinds firsts seconds heights tables replaced (upd laid (x1).toNatClampNeg 1) (upd rules (x1).toNatClampNeg x2) (upd ps (x1).toNatClampNeg x3) (upd qs (x1).toNatClampNeg x4) rs fs frules heads ends inforce usable summ) H := hP
    refine lv_aload_n hx hb dX2_put_36 rfl (lv_at hl 0 rfl) ?_
    refine va_get (D := D) (ci := 2) (v := .ref (q 14)) (C := RX2) (T := TX2) (N := 6) hx hb hts in_X2_put_X2 hown hK hP 2 rfl rfl 4 (by decide) (hts _ fl_X2_put_25) (fun _ h9 => h9) rfl dX2_put_37 ?_
    refine lv_iload_n hx hb dX2_put_40 rfl (lv_at hl 1 rfl) ?_
    refine lv_iload hx hb dX2_put_41 (lv_at hl 5 rfl) ?_
    have hi_7 : vp_in x1 60 := by first | exact pz_line ‹_› ‹_› | assumption
    refine va_iast hx hb hK hP (pz_D hKX.2.2.2.2.2.2.2.2 rfl) hS 14 0 rfl rfl hi_7 dX2_put_43 (fun H locs hP _ hS => ?_)
    have hP : va_P D vwCl (pz_X q k cnt kinds firsts seconds heights tables replaced (upd laid (x1).toNatClampNeg 1) (upd rules (x1).toNatClampNeg x2) (upd ps (x1).toNatClampNeg x3) (upd qs (x1).toNatClampNeg x4) (upd rs (x1).toNatClampNeg x5) fs frules heads ends inforce usable summ) H := hP
    refine lv_aload_n hx hb dX2_put_44 rfl (lv_at hl 0 rfl) ?_
    refine va_get (D := D) (ci := 2) (v := .ref (q 15)) (C := RX2) (T := TX2) (N := 6) hx hb hts in_X2_put_X2 hown hK hP 2 rfl rfl 5 (by decide) (hts _ fl_X2_put_28) (fun _ h9 => h9) rfl dX2_put_45 ?_
    refine lv_iload_n hx hb dX2_put_48 rfl (lv_at hl 1 rfl) ?_
    refine lv_iload hx hb dX2_put_49 (lv_at hl 6 rfl) ?_
    have hi_8 : vp_in x1 60 := by first | exact pz_line ‹_› ‹_› | assumption
    refine va_iast hx hb hK hP (pz_D hKX.2.2.2.2.2.2.2.2 rfl) hS 15 0 rfl rfl hi_8 dX2_put_51 (fun H locs hP _ hS => ?_)
    have hP : va_P D vwCl (pz_X q k cnt kinds firsts seconds heights tables replaced (upd laid (x1).toNatClampNeg 1) (upd rules (x1).toNatClampNeg x2) (upd ps (x1).toNatClampNeg x3) (upd qs (x1).toNatClampNeg x4) (upd rs (x1).toNatClampNeg x5) (upd fs (x1).toNatClampNeg x6) frules heads ends inforce usable summ) H := hP
    exact W.vret hx hb hr (fun t ht hW => ⟨⟨((upd laid (x1).toNatClampNeg 1), (upd rules (x1).toNatClampNeg x2), (upd ps (x1).toNatClampNeg x3), (upd qs (x1).toNatClampNeg x4), (upd rs (x1).toNatClampNeg x5), (upd fs (x1).toNatClampNeg x6)), rfl, hF.symm, pz_hp ht hP⟩, hS.F ht⟩) hS.2.2 dX2_put_52 hlocks

-- == X2_clear
def f_X2_clear (laid : Nat → Int32) (x1 : Int32) : (Nat → Int32) := pz_bnd (f_X3_isLine x1) (fun z_1 => if z_1 = 0 then (laid) else ((upd laid (x1).toNatClampNeg 0)))
theorem fl_X2_clear_9 : Cond.fieldLink RX2 9 "BoxProofs$Lines" "laid" "[Z" ∈ wsX2_clear := by decide +kernel
theorem in_X2_clear_X2 : ∀ w ∈ wsX20, w ∈ wsX2_clear := by decide +kernel
theorem mm_X2_clear_Cond_initialized_RX3 : Cond.initialized RX3 ∈ wsX2_clear := by decide +kernel
theorem mm_X2_clear_Cond_static_yX3_isLine : Cond.static yX3_isLine ∈ wsX2_clear := by decide +kernel
set_option maxHeartbeats 4000000 in
set_option maxRecDepth 100000 in
theorem c_X2_clear (l : Launch) (D : va_G) (q : Nat → Nat) (k : Nat → ClassId) (t : Nat → Nat) (cnt : Int32) (kinds : Nat → Int32) (firsts : Nat → Int32) (seconds : Nat → Int32) (heights : Nat → Int32) (tables : Nat → Int64) (replaced : Nat → Int32) (laid : Nat → Int32) (rules : Nat → Int32) (ps : Nat → Int32) (qs : Nat → Int32) (rs : Nat → Int32) (fs : Nat → Int32) (frules : Nat → Int32) (heads : Nat → Int32) (ends : Nat → Int32) (inforce : Nat → Int32) (usable : Nat → Int32) (summ : Nat → Int32) (x1 : Int32)  : Met l yX2_clear wsX2_clear ({ frames := 1, cells := 0, slots := 0, locals := 20 }) (va_Pc [.ref (q 2), .int (x1)] (fun U => va_P D vwCl (pz_X q k cnt kinds firsts seconds heights tables replaced laid rules ps qs rs fs frules heads ends inforce usable summ) U.heap ∧ pz_KX D q k t U)) (va_Qv (fun (u : (Nat → Int32)) => u = (f_X2_clear laid x1)) (fun u t => va_P D vwCl (pz_X q k cnt kinds firsts seconds heights tables replaced u rules ps qs rs fs frules heads ends inforce usable summ) t.heap) (pz_A 22 q)) 0 0 (pz_A 22 q) := by
  refine Met.ofW (cc := cX2_clear) (maxL := 2) (ret := none) (by decide) rfl ?_
  intro p e s m args below meth c s₁ B hml hv
  obtain ⟨rfl, hP, hKX⟩ := hv
  have hx := B.exec
  have hb := B.bytes
  have hr := B.returns
  have hts := atoms_spec (ws := wsX2_clear) B.pre
  have hown : s.vm.findClass RX2 = some m.cls := findClass_of_methodNamed B.named
  have hlocks := B.notSynchronized
  have hC : pz_C p s m ([.ref (q 2), .int (x1)] : List Value).toArray meth c cX2_clear wsX2_clear RX2 2 none := ⟨hx, hb, hml, hown, hts, hr, hlocks⟩
  have hK := hKX.1
  have hS : va_S (pz_A 22 q) s.heap s.heap [] := va_S.rf
  have hl := lv_entry [.ref (q 2), .int (x1)] (n := 2) (Nat.le_of_ble_eq_true rfl)
  rw [lg_entry_eq]
  generalize (lg_sl [.ref (q 2), .int (x1)] ++ List.replicate (2 - (lg_sl [.ref (q 2), .int (x1)]).length) Slot.unset).toArray = ls at hl ⊢
  have hl : lv_has ls 2 [(0, .ref (q 2)), (1, .int (x1))] := hl
  generalize hF : f_X2_clear laid x1 = G
  replace hF := hF.symm
  unfold f_X2_clear at hF
  refine lv_iload_n hx hb dX2_clear_0 rfl (lv_at hl 1 rfl) ?_
  refine pz_SNi (As := [.int (x1)]) (rest := []) ⟨hx, hb, hml, hown, hts⟩ (c_X3_isLine l x1) ⟨va_cnB 1 hts gX2_clear_X3_isLine_n31 rfl rfl rfl hKX.2.2.2.1 (hts _ mm_X2_clear_Cond_initialized_RX3) hdS_X3_isLine ⟨Nat.le_of_ble_eq_true rfl, Nat.le_of_ble_eq_true rfl⟩, hts _ mm_X2_clear_Cond_static_yX3_isLine, trivial⟩ hP hS rfl hl.1 rfl (Nat.le_of_ble_eq_true rfl) dX2_clear_1 ⟨Nat.zero_le _, Nat.zero_le _⟩ (fun r_1 H locs hF_1 hP hS => ?_)
  have hF := hF.trans (pz_be hF_1)
  refine lv_if_eq (tgt := 14) hx hb dX2_clear_4 (by decide) (fun c_2 => ?_) (fun c_2 => ?_)
  · have hF := hF.trans (if_pos c_2)
    exact W.vret hx hb hr (fun t ht hW => ⟨⟨laid, rfl, hF.symm, pz_hp ht hP⟩, hS.F ht⟩) hS.2.2 dX2_clear_14 hlocks
  · have hF := hF.trans (if_neg c_2)
    refine lv_aload_n hx hb dX2_clear_7 rfl (lv_at hl 0 rfl) ?_
    refine va_get (D := D) (ci := 2) (v := .ref (q 10)) (C := RX2) (T := TX2) (N := 6) hx hb hts in_X2_clear_X2 hown hK hP 2 rfl rfl 0 (by decide) (hts _ fl_X2_clear_9) (fun _ h9 => h9) rfl dX2_clear_8 ?_
    refine lv_iload_n hx hb dX2_clear_11 rfl (lv_at hl 1 rfl) ?_
    refine lv_iconst (v := 0) hx hb dX2_clear_12 (by decide) ?_
    have hi_3 : vp_in x1 60 := by first | exact pz_line ‹_› ‹_› | assumption
    refine va_zast hx hb hK hP (pz_D hKX.2.2.2.2.2.2.2.2 rfl) hS 10 2 rfl rfl hi_3 dX2_clear_13 (fun H locs hP _ hS => ?_)
    have hP : va_P D vwCl (pz_X q k cnt kinds firsts seconds heights tables replaced (upd laid (x1).toNatClampNeg 0) rules ps qs rs fs frules heads ends inforce usable summ) H := hP
    exact W.vret hx hb hr (fun t ht hW => ⟨⟨(upd laid (x1).toNatClampNeg 0), rfl, hF.symm, pz_hp ht hP⟩, hS.F ht⟩) hS.2.2 dX2_clear_14 hlocks

-- == X2_ruleOf
def f_X2_ruleOf (rules : Nat → Int32) (x1 : Int32) : Int32 := pz_bnd (f_X3_isLine x1) (fun z_1 => if z_1 = 0 then ((-1)) else ((rules (x1).toNatClampNeg)))
theorem fl_X2_ruleOf_15 : Cond.fieldLink RX2 15 "BoxProofs$Lines" "rules" "[I" ∈ wsX2_ruleOf := by decide +kernel
theorem in_X2_ruleOf_X2 : ∀ w ∈ wsX20, w ∈ wsX2_ruleOf := by decide +kernel
theorem mm_X2_ruleOf_Cond_initialized_RX3 : Cond.initialized RX3 ∈ wsX2_ruleOf := by decide +kernel
theorem mm_X2_ruleOf_Cond_static_yX3_isLine : Cond.static yX3_isLine ∈ wsX2_ruleOf := by decide +kernel
set_option maxHeartbeats 4000000 in
set_option maxRecDepth 100000 in
theorem c_X2_ruleOf (l : Launch) (D : va_G) (q : Nat → Nat) (k : Nat → ClassId) (t : Nat → Nat) (cnt : Int32) (kinds : Nat → Int32) (firsts : Nat → Int32) (seconds : Nat → Int32) (heights : Nat → Int32) (tables : Nat → Int64) (replaced : Nat → Int32) (laid : Nat → Int32) (rules : Nat → Int32) (ps : Nat → Int32) (qs : Nat → Int32) (rs : Nat → Int32) (fs : Nat → Int32) (frules : Nat → Int32) (heads : Nat → Int32) (ends : Nat → Int32) (inforce : Nat → Int32) (usable : Nat → Int32) (summ : Nat → Int32) (x1 : Int32)  : Met l yX2_ruleOf wsX2_ruleOf ({ frames := 1, cells := 0, slots := 0, locals := 20 }) (va_Pc [.ref (q 2), .int (x1)] (fun U => va_P D vwCl (pz_X q k cnt kinds firsts seconds heights tables replaced laid rules ps qs rs fs frules heads ends inforce usable summ) U.heap ∧ pz_KX D q k t U)) (va_Qi (fun r (_ : Unit) => r = (f_X2_ruleOf rules x1)) (fun _ t => va_P D vwCl (pz_X q k cnt kinds firsts seconds heights tables replaced laid rules ps qs rs fs frules heads ends inforce usable summ) t.heap) (pz_A 22 q)) 0 0 (pz_A 22 q) := by
  refine Met.ofW (cc := cX2_ruleOf) (maxL := 2) (ret := (some .int)) (by decide) rfl ?_
  intro p e s m args below meth c s₁ B hml hv
  obtain ⟨rfl, hP, hKX⟩ := hv
  have hx := B.exec
  have hb := B.bytes
  have hr := B.returns
  have hts := atoms_spec (ws := wsX2_ruleOf) B.pre
  have hown : s.vm.findClass RX2 = some m.cls := findClass_of_methodNamed B.named
  have hlocks := B.notSynchronized
  have hC : pz_C p s m ([.ref (q 2), .int (x1)] : List Value).toArray meth c cX2_ruleOf wsX2_ruleOf RX2 2 (some .int) := ⟨hx, hb, hml, hown, hts, hr, hlocks⟩
  have hK := hKX.1
  have hS : va_S (pz_A 22 q) s.heap s.heap [] := va_S.rf
  have hl := lv_entry [.ref (q 2), .int (x1)] (n := 2) (Nat.le_of_ble_eq_true rfl)
  rw [lg_entry_eq]
  generalize (lg_sl [.ref (q 2), .int (x1)] ++ List.replicate (2 - (lg_sl [.ref (q 2), .int (x1)]).length) Slot.unset).toArray = ls at hl ⊢
  have hl : lv_has ls 2 [(0, .ref (q 2)), (1, .int (x1))] := hl
  generalize hF : f_X2_ruleOf rules x1 = G
  replace hF := hF.symm
  unfold f_X2_ruleOf at hF
  refine lv_iload_n hx hb dX2_ruleOf_0 rfl (lv_at hl 1 rfl) ?_
  refine pz_SNi (As := [.int (x1)]) (rest := []) ⟨hx, hb, hml, hown, hts⟩ (c_X3_isLine l x1) ⟨va_cnB 1 hts gX2_ruleOf_X3_isLine_n31 rfl rfl rfl hKX.2.2.2.1 (hts _ mm_X2_ruleOf_Cond_initialized_RX3) hdS_X3_isLine ⟨Nat.le_of_ble_eq_true rfl, Nat.le_of_ble_eq_true rfl⟩, hts _ mm_X2_ruleOf_Cond_static_yX3_isLine, trivial⟩ hP hS rfl hl.1 rfl (Nat.le_of_ble_eq_true rfl) dX2_ruleOf_1 ⟨Nat.zero_le _, Nat.zero_le _⟩ (fun r_1 H locs hF_1 hP hS => ?_)
  have hF := hF.trans (pz_be hF_1)
  refine lv_if_eq (tgt := 16) hx hb dX2_ruleOf_4 (by decide) (fun c_2 => ?_) (fun c_2 => ?_)
  · have hF := hF.trans (if_pos c_2)
    refine lv_iconst (v := (-1)) hx hb dX2_ruleOf_16 (by decide) ?_
    exact W.iret (v := (-1)) hx hb hr (fun t ht hW => ⟨⟨(-1), (), rfl, hF.symm, pz_hp ht hP⟩, hS.F ht⟩) hS.2.2 dX2_ruleOf_17 hlocks
  · have hF := hF.trans (if_neg c_2)
    refine lv_aload_n hx hb dX2_ruleOf_7 rfl (lv_at hl 0 rfl) ?_
    refine va_get (D := D) (ci := 2) (v := .ref (q 11)) (C := RX2) (T := TX2) (N := 6) hx hb hts in_X2_ruleOf_X2 hown hK hP 2 rfl rfl 1 (by decide) (hts _ fl_X2_ruleOf_15) (fun _ h9 => h9) rfl dX2_ruleOf_8 ?_
    refine lv_iload_n hx hb dX2_ruleOf_11 rfl (lv_at hl 1 rfl) ?_
    have hi_3 : vp_in x1 60 := by first | exact pz_line ‹_› ‹_› | assumption
    refine va_iald hx hb hK hP 11 0 rfl rfl hi_3 dX2_ruleOf_12 ?_
    refine lv_goto (tgt := 17) hx hb dX2_ruleOf_13 (by decide) ?_
    exact W.iret (v := (rules (x1).toNatClampNeg)) hx hb hr (fun t ht hW => ⟨⟨(rules (x1).toNatClampNeg), (), rfl, hF.symm, pz_hp ht hP⟩, hS.F ht⟩) hS.2.2 dX2_ruleOf_17 hlocks

-- == X2_pOf
def f_X2_pOf (ps : Nat → Int32) (x1 : Int32) : Int32 := pz_bnd (f_X3_isLine x1) (fun z_1 => if z_1 = 0 then ((-1)) else ((ps (x1).toNatClampNeg)))
theorem fl_X2_pOf_19 : Cond.fieldLink RX2 19 "BoxProofs$Lines" "ps" "[I" ∈ wsX2_pOf := by decide +kernel
theorem in_X2_pOf_X2 : ∀ w ∈ wsX20, w ∈ wsX2_pOf := by decide +kernel
theorem mm_X2_pOf_Cond_initialized_RX3 : Cond.initialized RX3 ∈ wsX2_pOf := by decide +kernel
theorem mm_X2_pOf_Cond_static_yX3_isLine : Cond.static yX3_isLine ∈ wsX2_pOf := by decide +kernel
set_option maxHeartbeats 4000000 in
set_option maxRecDepth 100000 in
theorem c_X2_pOf (l : Launch) (D : va_G) (q : Nat → Nat) (k : Nat → ClassId) (t : Nat → Nat) (cnt : Int32) (kinds : Nat → Int32) (firsts : Nat → Int32) (seconds : Nat → Int32) (heights : Nat → Int32) (tables : Nat → Int64) (replaced : Nat → Int32) (laid : Nat → Int32) (rules : Nat → Int32) (ps : Nat → Int32) (qs : Nat → Int32) (rs : Nat → Int32) (fs : Nat → Int32) (frules : Nat → Int32) (heads : Nat → Int32) (ends : Nat → Int32) (inforce : Nat → Int32) (usable : Nat → Int32) (summ : Nat → Int32) (x1 : Int32)  : Met l yX2_pOf wsX2_pOf ({ frames := 1, cells := 0, slots := 0, locals := 20 }) (va_Pc [.ref (q 2), .int (x1)] (fun U => va_P D vwCl (pz_X q k cnt kinds firsts seconds heights tables replaced laid rules ps qs rs fs frules heads ends inforce usable summ) U.heap ∧ pz_KX D q k t U)) (va_Qi (fun r (_ : Unit) => r = (f_X2_pOf ps x1)) (fun _ t => va_P D vwCl (pz_X q k cnt kinds firsts seconds heights tables replaced laid rules ps qs rs fs frules heads ends inforce usable summ) t.heap) (pz_A 22 q)) 0 0 (pz_A 22 q) := by
  refine Met.ofW (cc := cX2_pOf) (maxL := 2) (ret := (some .int)) (by decide) rfl ?_
  intro p e s m args below meth c s₁ B hml hv
  obtain ⟨rfl, hP, hKX⟩ := hv
  have hx := B.exec
  have hb := B.bytes
  have hr := B.returns
  have hts := atoms_spec (ws := wsX2_pOf) B.pre
  have hown : s.vm.findClass RX2 = some m.cls := findClass_of_methodNamed B.named
  have hlocks := B.notSynchronized
  have hC : pz_C p s m ([.ref (q 2), .int (x1)] : List Value).toArray meth c cX2_pOf wsX2_pOf RX2 2 (some .int) := ⟨hx, hb, hml, hown, hts, hr, hlocks⟩
  have hK := hKX.1
  have hS : va_S (pz_A 22 q) s.heap s.heap [] := va_S.rf
  have hl := lv_entry [.ref (q 2), .int (x1)] (n := 2) (Nat.le_of_ble_eq_true rfl)
  rw [lg_entry_eq]
  generalize (lg_sl [.ref (q 2), .int (x1)] ++ List.replicate (2 - (lg_sl [.ref (q 2), .int (x1)]).length) Slot.unset).toArray = ls at hl ⊢
  have hl : lv_has ls 2 [(0, .ref (q 2)), (1, .int (x1))] := hl
  generalize hF : f_X2_pOf ps x1 = G
  replace hF := hF.symm
  unfold f_X2_pOf at hF
  refine lv_iload_n hx hb dX2_pOf_0 rfl (lv_at hl 1 rfl) ?_
  refine pz_SNi (As := [.int (x1)]) (rest := []) ⟨hx, hb, hml, hown, hts⟩ (c_X3_isLine l x1) ⟨va_cnB 1 hts gX2_pOf_X3_isLine_n31 rfl rfl rfl hKX.2.2.2.1 (hts _ mm_X2_pOf_Cond_initialized_RX3) hdS_X3_isLine ⟨Nat.le_of_ble_eq_true rfl, Nat.le_of_ble_eq_true rfl⟩, hts _ mm_X2_pOf_Cond_static_yX3_isLine, trivial⟩ hP hS rfl hl.1 rfl (Nat.le_of_ble_eq_true rfl) dX2_pOf_1 ⟨Nat.zero_le _, Nat.zero_le _⟩ (fun r_1 H locs hF_1 hP hS => ?_)
  have hF := hF.trans (pz_be hF_1)
  refine lv_if_eq (tgt := 16) hx hb dX2_pOf_4 (by decide) (fun c_2 => ?_) (fun c_2 => ?_)
  · have hF := hF.trans (if_pos c_2)
    refine lv_iconst (v := (-1)) hx hb dX2_pOf_16 (by decide) ?_
    exact W.iret (v := (-1)) hx hb hr (fun t ht hW => ⟨⟨(-1), (), rfl, hF.symm, pz_hp ht hP⟩, hS.F ht⟩) hS.2.2 dX2_pOf_17 hlocks
  · have hF := hF.trans (if_neg c_2)
    refine lv_aload_n hx hb dX2_pOf_7 rfl (lv_at hl 0 rfl) ?_
    refine va_get (D := D) (ci := 2) (v := .ref (q 12)) (C := RX2) (T := TX2) (N := 6) hx hb hts in_X2_pOf_X2 hown hK hP 2 rfl rfl 2 (by decide) (hts _ fl_X2_pOf_19) (fun _ h9 => h9) rfl dX2_pOf_8 ?_
    refine lv_iload_n hx hb dX2_pOf_11 rfl (lv_at hl 1 rfl) ?_
    have hi_3 : vp_in x1 60 := by first | exact pz_line ‹_› ‹_› | assumption
    refine va_iald hx hb hK hP 12 0 rfl rfl hi_3 dX2_pOf_12 ?_
    refine lv_goto (tgt := 17) hx hb dX2_pOf_13 (by decide) ?_
    exact W.iret (v := (ps (x1).toNatClampNeg)) hx hb hr (fun t ht hW => ⟨⟨(ps (x1).toNatClampNeg), (), rfl, hF.symm, pz_hp ht hP⟩, hS.F ht⟩) hS.2.2 dX2_pOf_17 hlocks

-- == X2_qOf
def f_X2_qOf (qs : Nat → Int32) (x1 : Int32) : Int32 := pz_bnd (f_X3_isLine x1) (fun z_1 => if z_1 = 0 then ((-1)) else ((qs (x1).toNatClampNeg)))
theorem fl_X2_qOf_22 : Cond.fieldLink RX2 22 "BoxProofs$Lines" "qs" "[I" ∈ wsX2_qOf := by decide +kernel
theorem in_X2_qOf_X2 : ∀ w ∈ wsX20, w ∈ wsX2_qOf := by decide +kernel
theorem mm_X2_qOf_Cond_initialized_RX3 : Cond.initialized RX3 ∈ wsX2_qOf := by decide +kernel
theorem mm_X2_qOf_Cond_static_yX3_isLine : Cond.static yX3_isLine ∈ wsX2_qOf := by decide +kernel
set_option maxHeartbeats 4000000 in
set_option maxRecDepth 100000 in
theorem c_X2_qOf (l : Launch) (D : va_G) (q : Nat → Nat) (k : Nat → ClassId) (t : Nat → Nat) (cnt : Int32) (kinds : Nat → Int32) (firsts : Nat → Int32) (seconds : Nat → Int32) (heights : Nat → Int32) (tables : Nat → Int64) (replaced : Nat → Int32) (laid : Nat → Int32) (rules : Nat → Int32) (ps : Nat → Int32) (qs : Nat → Int32) (rs : Nat → Int32) (fs : Nat → Int32) (frules : Nat → Int32) (heads : Nat → Int32) (ends : Nat → Int32) (inforce : Nat → Int32) (usable : Nat → Int32) (summ : Nat → Int32) (x1 : Int32)  : Met l yX2_qOf wsX2_qOf ({ frames := 1, cells := 0, slots := 0, locals := 20 }) (va_Pc [.ref (q 2), .int (x1)] (fun U => va_P D vwCl (pz_X q k cnt kinds firsts seconds heights tables replaced laid rules ps qs rs fs frules heads ends inforce usable summ) U.heap ∧ pz_KX D q k t U)) (va_Qi (fun r (_ : Unit) => r = (f_X2_qOf qs x1)) (fun _ t => va_P D vwCl (pz_X q k cnt kinds firsts seconds heights tables replaced laid rules ps qs rs fs frules heads ends inforce usable summ) t.heap) (pz_A 22 q)) 0 0 (pz_A 22 q) := by
  refine Met.ofW (cc := cX2_qOf) (maxL := 2) (ret := (some .int)) (by decide) rfl ?_
  intro p e s m args below meth c s₁ B hml hv
  obtain ⟨rfl, hP, hKX⟩ := hv
  have hx := B.exec
  have hb := B.bytes
  have hr := B.returns
  have hts := atoms_spec (ws := wsX2_qOf) B.pre
  have hown : s.vm.findClass RX2 = some m.cls := findClass_of_methodNamed B.named
  have hlocks := B.notSynchronized
  have hC : pz_C p s m ([.ref (q 2), .int (x1)] : List Value).toArray meth c cX2_qOf wsX2_qOf RX2 2 (some .int) := ⟨hx, hb, hml, hown, hts, hr, hlocks⟩
  have hK := hKX.1
  have hS : va_S (pz_A 22 q) s.heap s.heap [] := va_S.rf
  have hl := lv_entry [.ref (q 2), .int (x1)] (n := 2) (Nat.le_of_ble_eq_true rfl)
  rw [lg_entry_eq]
  generalize (lg_sl [.ref (q 2), .int (x1)] ++ List.replicate (2 - (lg_sl [.ref (q 2), .int (x1)]).length) Slot.unset).toArray = ls at hl ⊢
  have hl : lv_has ls 2 [(0, .ref (q 2)), (1, .int (x1))] := hl
  generalize hF : f_X2_qOf qs x1 = G
  replace hF := hF.symm
  unfold f_X2_qOf at hF
  refine lv_iload_n hx hb dX2_qOf_0 rfl (lv_at hl 1 rfl) ?_
  refine pz_SNi (As := [.int (x1)]) (rest := []) ⟨hx, hb, hml, hown, hts⟩ (c_X3_isLine l x1) ⟨va_cnB 1 hts gX2_qOf_X3_isLine_n31 rfl rfl rfl hKX.2.2.2.1 (hts _ mm_X2_qOf_Cond_initialized_RX3) hdS_X3_isLine ⟨Nat.le_of_ble_eq_true rfl, Nat.le_of_ble_eq_true rfl⟩, hts _ mm_X2_qOf_Cond_static_yX3_isLine, trivial⟩ hP hS rfl hl.1 rfl (Nat.le_of_ble_eq_true rfl) dX2_qOf_1 ⟨Nat.zero_le _, Nat.zero_le _⟩ (fun r_1 H locs hF_1 hP hS => ?_)
  have hF := hF.trans (pz_be hF_1)
  refine lv_if_eq (tgt := 16) hx hb dX2_qOf_4 (by decide) (fun c_2 => ?_) (fun c_2 => ?_)
  · have hF := hF.trans (if_pos c_2)
    refine lv_iconst (v := (-1)) hx hb dX2_qOf_16 (by decide) ?_
    exact W.iret (v := (-1)) hx hb hr (fun t ht hW => ⟨⟨(-1), (), rfl, hF.symm, pz_hp ht hP⟩, hS.F ht⟩) hS.2.2 dX2_qOf_17 hlocks
  · have hF := hF.trans (if_neg c_2)
    refine lv_aload_n hx hb dX2_qOf_7 rfl (lv_at hl 0 rfl) ?_
    refine va_get (D := D) (ci := 2) (v := .ref (q 13)) (C := RX2) (T := TX2) (N := 6) hx hb hts in_X2_qOf_X2 hown hK hP 2 rfl rfl 3 (by decide) (hts _ fl_X2_qOf_22) (fun _ h9 => h9) rfl dX2_qOf_8 ?_
    refine lv_iload_n hx hb dX2_qOf_11 rfl (lv_at hl 1 rfl) ?_
    have hi_3 : vp_in x1 60 := by first | exact pz_line ‹_› ‹_› | assumption
    refine va_iald hx hb hK hP 13 0 rfl rfl hi_3 dX2_qOf_12 ?_
    refine lv_goto (tgt := 17) hx hb dX2_qOf_13 (by decide) ?_
    exact W.iret (v := (qs (x1).toNatClampNeg)) hx hb hr (fun t ht hW => ⟨⟨(qs (x1).toNatClampNeg), (), rfl, hF.symm, pz_hp ht hP⟩, hS.F ht⟩) hS.2.2 dX2_qOf_17 hlocks

-- == X2_rOf
def f_X2_rOf (rs : Nat → Int32) (x1 : Int32) : Int32 := pz_bnd (f_X3_isLine x1) (fun z_1 => if z_1 = 0 then ((-1)) else ((rs (x1).toNatClampNeg)))
theorem fl_X2_rOf_25 : Cond.fieldLink RX2 25 "BoxProofs$Lines" "rs" "[I" ∈ wsX2_rOf := by decide +kernel
theorem in_X2_rOf_X2 : ∀ w ∈ wsX20, w ∈ wsX2_rOf := by decide +kernel
theorem mm_X2_rOf_Cond_initialized_RX3 : Cond.initialized RX3 ∈ wsX2_rOf := by decide +kernel
theorem mm_X2_rOf_Cond_static_yX3_isLine : Cond.static yX3_isLine ∈ wsX2_rOf := by decide +kernel
set_option maxHeartbeats 4000000 in
set_option maxRecDepth 100000 in
theorem c_X2_rOf (l : Launch) (D : va_G) (q : Nat → Nat) (k : Nat → ClassId) (t : Nat → Nat) (cnt : Int32) (kinds : Nat → Int32) (firsts : Nat → Int32) (seconds : Nat → Int32) (heights : Nat → Int32) (tables : Nat → Int64) (replaced : Nat → Int32) (laid : Nat → Int32) (rules : Nat → Int32) (ps : Nat → Int32) (qs : Nat → Int32) (rs : Nat → Int32) (fs : Nat → Int32) (frules : Nat → Int32) (heads : Nat → Int32) (ends : Nat → Int32) (inforce : Nat → Int32) (usable : Nat → Int32) (summ : Nat → Int32) (x1 : Int32)  : Met l yX2_rOf wsX2_rOf ({ frames := 1, cells := 0, slots := 0, locals := 20 }) (va_Pc [.ref (q 2), .int (x1)] (fun U => va_P D vwCl (pz_X q k cnt kinds firsts seconds heights tables replaced laid rules ps qs rs fs frules heads ends inforce usable summ) U.heap ∧ pz_KX D q k t U)) (va_Qi (fun r (_ : Unit) => r = (f_X2_rOf rs x1)) (fun _ t => va_P D vwCl (pz_X q k cnt kinds firsts seconds heights tables replaced laid rules ps qs rs fs frules heads ends inforce usable summ) t.heap) (pz_A 22 q)) 0 0 (pz_A 22 q) := by
  refine Met.ofW (cc := cX2_rOf) (maxL := 2) (ret := (some .int)) (by decide) rfl ?_
  intro p e s m args below meth c s₁ B hml hv
  obtain ⟨rfl, hP, hKX⟩ := hv
  have hx := B.exec
  have hb := B.bytes
  have hr := B.returns
  have hts := atoms_spec (ws := wsX2_rOf) B.pre
  have hown : s.vm.findClass RX2 = some m.cls := findClass_of_methodNamed B.named
  have hlocks := B.notSynchronized
  have hC : pz_C p s m ([.ref (q 2), .int (x1)] : List Value).toArray meth c cX2_rOf wsX2_rOf RX2 2 (some .int) := ⟨hx, hb, hml, hown, hts, hr, hlocks⟩
  have hK := hKX.1
  have hS : va_S (pz_A 22 q) s.heap s.heap [] := va_S.rf
  have hl := lv_entry [.ref (q 2), .int (x1)] (n := 2) (Nat.le_of_ble_eq_true rfl)
  rw [lg_entry_eq]
  generalize (lg_sl [.ref (q 2), .int (x1)] ++ List.replicate (2 - (lg_sl [.ref (q 2), .int (x1)]).length) Slot.unset).toArray = ls at hl ⊢
  have hl : lv_has ls 2 [(0, .ref (q 2)), (1, .int (x1))] := hl
  generalize hF : f_X2_rOf rs x1 = G
  replace hF := hF.symm
  unfold f_X2_rOf at hF
  refine lv_iload_n hx hb dX2_rOf_0 rfl (lv_at hl 1 rfl) ?_
  refine pz_SNi (As := [.int (x1)]) (rest := []) ⟨hx, hb, hml, hown, hts⟩ (c_X3_isLine l x1) ⟨va_cnB 1 hts gX2_rOf_X3_isLine_n31 rfl rfl rfl hKX.2.2.2.1 (hts _ mm_X2_rOf_Cond_initialized_RX3) hdS_X3_isLine ⟨Nat.le_of_ble_eq_true rfl, Nat.le_of_ble_eq_true rfl⟩, hts _ mm_X2_rOf_Cond_static_yX3_isLine, trivial⟩ hP hS rfl hl.1 rfl (Nat.le_of_ble_eq_true rfl) dX2_rOf_1 ⟨Nat.zero_le _, Nat.zero_le _⟩ (fun r_1 H locs hF_1 hP hS => ?_)
  have hF := hF.trans (pz_be hF_1)
  refine lv_if_eq (tgt := 16) hx hb dX2_rOf_4 (by decide) (fun c_2 => ?_) (fun c_2 => ?_)
  · have hF := hF.trans (if_pos c_2)
    refine lv_iconst (v := (-1)) hx hb dX2_rOf_16 (by decide) ?_
    exact W.iret (v := (-1)) hx hb hr (fun t ht hW => ⟨⟨(-1), (), rfl, hF.symm, pz_hp ht hP⟩, hS.F ht⟩) hS.2.2 dX2_rOf_17 hlocks
  · have hF := hF.trans (if_neg c_2)
    refine lv_aload_n hx hb dX2_rOf_7 rfl (lv_at hl 0 rfl) ?_
    refine va_get (D := D) (ci := 2) (v := .ref (q 14)) (C := RX2) (T := TX2) (N := 6) hx hb hts in_X2_rOf_X2 hown hK hP 2 rfl rfl 4 (by decide) (hts _ fl_X2_rOf_25) (fun _ h9 => h9) rfl dX2_rOf_8 ?_
    refine lv_iload_n hx hb dX2_rOf_11 rfl (lv_at hl 1 rfl) ?_
    have hi_3 : vp_in x1 60 := by first | exact pz_line ‹_› ‹_› | assumption
    refine va_iald hx hb hK hP 14 0 rfl rfl hi_3 dX2_rOf_12 ?_
    refine lv_goto (tgt := 17) hx hb dX2_rOf_13 (by decide) ?_
    exact W.iret (v := (rs (x1).toNatClampNeg)) hx hb hr (fun t ht hW => ⟨⟨(rs (x1).toNatClampNeg), (), rfl, hF.symm, pz_hp ht hP⟩, hS.F ht⟩) hS.2.2 dX2_rOf_17 hlocks

-- == X2_formulaOf
def f_X2_formulaOf (fs : Nat → Int32) (x1 : Int32) : Int32 := pz_bnd (f_X3_isLine x1) (fun z_1 => if z_1 = 0 then ((-1)) else ((fs (x1).toNatClampNeg)))
theorem fl_X2_formulaOf_28 : Cond.fieldLink RX2 28 "BoxProofs$Lines" "fs" "[I" ∈ wsX2_formulaOf := by decide +kernel
theorem in_X2_formulaOf_X2 : ∀ w ∈ wsX20, w ∈ wsX2_formulaOf := by decide +kernel
theorem mm_X2_formulaOf_Cond_initialized_RX3 : Cond.initialized RX3 ∈ wsX2_formulaOf := by decide +kernel
theorem mm_X2_formulaOf_Cond_static_yX3_isLine : Cond.static yX3_isLine ∈ wsX2_formulaOf := by decide +kernel
set_option maxHeartbeats 4000000 in
set_option maxRecDepth 100000 in
theorem c_X2_formulaOf (l : Launch) (D : va_G) (q : Nat → Nat) (k : Nat → ClassId) (t : Nat → Nat) (cnt : Int32) (kinds : Nat → Int32) (firsts : Nat → Int32) (seconds : Nat → Int32) (heights : Nat → Int32) (tables : Nat → Int64) (replaced : Nat → Int32) (laid : Nat → Int32) (rules : Nat → Int32) (ps : Nat → Int32) (qs : Nat → Int32) (rs : Nat → Int32) (fs : Nat → Int32) (frules : Nat → Int32) (heads : Nat → Int32) (ends : Nat → Int32) (inforce : Nat → Int32) (usable : Nat → Int32) (summ : Nat → Int32) (x1 : Int32)  : Met l yX2_formulaOf wsX2_formulaOf ({ frames := 1, cells := 0, slots := 0, locals := 20 }) (va_Pc [.ref (q 2), .int (x1)] (fun U => va_P D vwCl (pz_X q k cnt kinds firsts seconds heights tables replaced laid rules ps qs rs fs frules heads ends inforce usable summ) U.heap ∧ pz_KX D q k t U)) (va_Qi (fun r (_ : Unit) => r = (f_X2_formulaOf fs x1)) (fun _ t => va_P D vwCl (pz_X q k cnt kinds firsts seconds heights tables replaced laid rules ps qs rs fs frules heads ends inforce usable summ) t.heap) (pz_A 22 q)) 0 0 (pz_A 22 q) := by
  refine Met.ofW (cc := cX2_formulaOf) (maxL := 2) (ret := (some .int)) (by decide) rfl ?_
  intro p e s m args below meth c s₁ B hml hv
  obtain ⟨rfl, hP, hKX⟩ := hv
  have hx := B.exec
  have hb := B.bytes
  have hr := B.returns
  have hts := atoms_spec (ws := wsX2_formulaOf) B.pre
  have hown : s.vm.findClass RX2 = some m.cls := findClass_of_methodNamed B.named
  have hlocks := B.notSynchronized
  have hC : pz_C p s m ([.ref (q 2), .int (x1)] : List Value).toArray meth c cX2_formulaOf wsX2_formulaOf RX2 2 (some .int) := ⟨hx, hb, hml, hown, hts, hr, hlocks⟩
  have hK := hKX.1
  have hS : va_S (pz_A 22 q) s.heap s.heap [] := va_S.rf
  have hl := lv_entry [.ref (q 2), .int (x1)] (n := 2) (Nat.le_of_ble_eq_true rfl)
  rw [lg_entry_eq]
  generalize (lg_sl [.ref (q 2), .int (x1)] ++ List.replicate (2 - (lg_sl [.ref (q 2), .int (x1)]).length) Slot.unset).toArray = ls at hl ⊢
  have hl : lv_has ls 2 [(0, .ref (q 2)), (1, .int (x1))] := hl
  generalize hF : f_X2_formulaOf fs x1 = G
  replace hF := hF.symm
  unfold f_X2_formulaOf at hF
  refine lv_iload_n hx hb dX2_formulaOf_0 rfl (lv_at hl 1 rfl) ?_
  refine pz_SNi (As := [.int (x1)]) (rest := []) ⟨hx, hb, hml, hown, hts⟩ (c_X3_isLine l x1) ⟨va_cnB 1 hts gX2_formulaOf_X3_isLine_n31 rfl rfl rfl hKX.2.2.2.1 (hts _ mm_X2_formulaOf_Cond_initialized_RX3) hdS_X3_isLine ⟨Nat.le_of_ble_eq_true rfl, Nat.le_of_ble_eq_true rfl⟩, hts _ mm_X2_formulaOf_Cond_static_yX3_isLine, trivial⟩ hP hS rfl hl.1 rfl (Nat.le_of_ble_eq_true rfl) dX2_formulaOf_1 ⟨Nat.zero_le _, Nat.zero_le _⟩ (fun r_1 H locs hF_1 hP hS => ?_)
  have hF := hF.trans (pz_be hF_1)
  refine lv_if_eq (tgt := 16) hx hb dX2_formulaOf_4 (by decide) (fun c_2 => ?_) (fun c_2 => ?_)
  · have hF := hF.trans (if_pos c_2)
    refine lv_iconst (v := (-1)) hx hb dX2_formulaOf_16 (by decide) ?_
    exact W.iret (v := (-1)) hx hb hr (fun t ht hW => ⟨⟨(-1), (), rfl, hF.symm, pz_hp ht hP⟩, hS.F ht⟩) hS.2.2 dX2_formulaOf_17 hlocks
  · have hF := hF.trans (if_neg c_2)
    refine lv_aload_n hx hb dX2_formulaOf_7 rfl (lv_at hl 0 rfl) ?_
    refine va_get (D := D) (ci := 2) (v := .ref (q 15)) (C := RX2) (T := TX2) (N := 6) hx hb hts in_X2_formulaOf_X2 hown hK hP 2 rfl rfl 5 (by decide) (hts _ fl_X2_formulaOf_28) (fun _ h9 => h9) rfl dX2_formulaOf_8 ?_
    refine lv_iload_n hx hb dX2_formulaOf_11 rfl (lv_at hl 1 rfl) ?_
    have hi_3 : vp_in x1 60 := by first | exact pz_line ‹_› ‹_› | assumption
    refine va_iald hx hb hK hP 15 0 rfl rfl hi_3 dX2_formulaOf_12 ?_
    refine lv_goto (tgt := 17) hx hb dX2_formulaOf_13 (by decide) ?_
    exact W.iret (v := (fs (x1).toNatClampNeg)) hx hb hr (fun t ht hW => ⟨⟨(fs (x1).toNatClampNeg), (), rfl, hF.symm, pz_hp ht hP⟩, hS.F ht⟩) hS.2.2 dX2_formulaOf_17 hlocks

