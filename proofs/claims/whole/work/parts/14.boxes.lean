/-! boxes of the reference: chains that end, lines that hold -/
def pz_bx (rt : Nat → Int32) (b : Int32) : Prop := b = -1 ∨ (0 ≤ b.toInt ∧ b.toInt < 60 ∧ rt b.toNatClampNeg = 1)
def pz_ar (rt around : Nat → Int32) : Prop := ∀ j : Nat, j < 60 → rt j = 1 → around j = -1 ∨ (0 ≤ (around j).toInt ∧ (around j).toInt < j ∧ rt (around j).toNatClampNeg = 1)
def pz_sb (rt shutBy : Nat → Int32) : Prop := ∀ j : Nat, j < 60 → rt j = 1 → shutBy j = -1 ∨ ((j : Int) < (shutBy j).toInt ∧ (shutBy j).toInt < 60)
def pz_vf (formulas x : Int32) : Prop := 0 ≤ x.toInt ∧ x.toInt < formulas.toInt
def pz_hd (formulas : Int32) (rt heads boxOf : Nat → Int32) : Prop := ∀ j : Nat, j < 60 → ¬ heads j = -1 → pz_vf formulas (heads j) ∧ pz_bx rt (boxOf j)
def pz_gr (formulas : Int32) (rt heads : Nat → Int32) : Prop := ∀ j : Nat, j < 60 → (rt j = 0 ∨ rt j = 1) → pz_vf formulas (heads j)
theorem pz_m1 : (-1 : Int32).toInt = -1 := rfl
theorem pz_bxl {rt : Nat → Int32} {x : Int32} (h : pz_bx rt x) : -1 ≤ x.toInt ∧ x.toInt < 60 := by
  rcases h with h | h
  · rw [h, pz_m1]; omega
  · omega
theorem pz_bxi {rt : Nat → Int32} {x : Int32} (h : pz_bx rt x) (hn : ¬ x = -1) : vp_in x 60 := by
  rcases h with h | h
  · exact absurd h hn
  · exact pz_inI h.1 h.2.1
theorem pz_ixN {x : Int32} {n : Nat} (h : vp_in x n) : x.toNatClampNeg < n := by
  have a := vp_in_iff.mp h
  have e := pz_tn a.1
  omega
theorem pz_arx {rt around : Nat → Int32} {x : Int32} (har : pz_ar rt around) (h : vp_in x 60) (h1 : rt x.toNatClampNeg = 1) : pz_bx rt (around x.toNatClampNeg) ∧ (around x.toNatClampNeg).toInt + 1 ≤ x.toInt := by
  have a := vp_in_iff.mp h
  have e := pz_tn a.1
  rcases har _ (pz_ixN h) h1 with b | b
  · rw [b, pz_m1]; exact ⟨Or.inl rfl, by omega⟩
  · exact ⟨Or.inr ⟨b.1, by omega, b.2.2⟩, by omega⟩
theorem pz_arb {rt around : Nat → Int32} {x : Int32} (har : pz_ar rt around) (h : pz_bx rt x) (hn : ¬ x = -1) : pz_bx rt (around x.toNatClampNeg) ∧ (around x.toNatClampNeg).toInt + 1 ≤ x.toInt := by
  have hi := pz_bxi h hn
  rcases h with h | h
  · exact absurd h hn
  · exact pz_arx har hi h.2.2
theorem pz_sbi {rt shutBy : Nat → Int32} {x : Int32} (hsb : pz_sb rt shutBy) (h : vp_in x 60) (h1 : rt x.toNatClampNeg = 1) (h2 : ¬ shutBy x.toNatClampNeg = -1) : vp_in (shutBy x.toNatClampNeg - 1) 60 := by
  rcases hsb _ (pz_ixN h) h1 with b | b
  · exact absurd b h2
  · have e := pz_sub1 (f := shutBy x.toNatClampNeg) (by omega)
    exact pz_inI (by omega) (by omega)
theorem pz_vin {formulas x : Int32} (hc : pz_c formulas) (h : pz_vf formulas x) : vp_in x 80 := by
  have b := hc.2
  exact pz_inI h.1 (by have := h.2; omega)
theorem pz_FLR {formulas : Int32} {kind left right : Nat → Int32} {x : Int32} (hf : pz_F formulas kind left right) (h : pz_vf formulas x) (c0 : ¬ kind x.toNatClampNeg = 0) (c1 : ¬ kind x.toNatClampNeg = 1) : pz_vf formulas (left x.toNatClampNeg) ∧ pz_vf formulas (right x.toNatClampNeg) := by
  have e := pz_tn h.1
  have h2 := h.2
  obtain ⟨⟨l1, l2⟩, r1, r2⟩ := hf.2 x.toNatClampNeg (by omega) c0 c1
  exact ⟨⟨l1, by omega⟩, r1, by omega⟩

-- == X4_allOpen
def F_X4_allOpen_2 : Nat → (Nat → Int32) → (Nat → Int32) → (Int32) → (Int32) → Int32
  | 0, shutBy, around, x1, x2 => 0
  | n + 1, shutBy, around, x1, x2 => if x2 = (-1) then (if x2 = (-1) then (1) else (0)) else (if (shutBy (x2).toNatClampNeg) = (-1) then (F_X4_allOpen_2 n shutBy around x1 (around (x2).toNatClampNeg)) else (if x2 = (-1) then (1) else (0)))
def f_X4_allOpen (shutBy : Nat → Int32) (around : Nat → Int32) (x1 : Int32) : Int32 := F_X4_allOpen_2 62 shutBy around x1 x1
theorem fl_X4_allOpen_50 : Cond.fieldLink RX4 50 "BoxProofsModel" "shutBy" "[I" ∈ wsX4_allOpen := by decide +kernel
theorem fl_X4_allOpen_53 : Cond.fieldLink RX4 53 "BoxProofsModel" "around" "[I" ∈ wsX4_allOpen := by decide +kernel
theorem in_X4_allOpen_X4 : ∀ w ∈ wsX40, w ∈ wsX4_allOpen := by decide +kernel
set_option maxHeartbeats 4000000 in
set_option maxRecDepth 100000 in
theorem k_X4_allOpen_2 {p : Program} {l : Launch} {e : Env} {s : State} {m : MethodId} {args : Array Value} {below : List Frame} {meth : Method} {c : Code} {D : va_G} {q : Nat → Nat} {k : Nat → ClassId} (hC : pz_C p s m args meth c cX4_allOpen wsX4_allOpen RX4 3 (some .boolean)) (hKX : pz_KM D q k s) (formulas : Int32) (kind : Nat → Int32) (left : Nat → Int32) (right : Nat → Int32) (height : Nat → Int32) (laid : Nat → Int32) (rules : Nat → Int32) (ps : Nat → Int32) (qs : Nat → Int32) (rs : Nat → Int32) (fs : Nat → Int32) (checked : Int32) (stopped : Int32) (reason : Int32) (made : Int32) (opened : Int32) (ruleThen : Nat → Int32) (heads : Nat → Int32) (boxOf : Nat → Int32) (shutBy : Nat → Int32) (around : Nat → Int32) (inner : Int32) (truth : Nat → Int32) (turned : Nat → Int32) (pile : Nat → Int32) {G : Int32} :
    ∀ (n : Nat) (x1 : Int32) (x2 : Int32) (hbx : pz_bx ruleThen x2) (hn : x2.toInt + 2 ≤ n) (har : pz_ar ruleThen around) (hb1 : pz_bx ruleThen x1) (H : Heap) (locs : List Loc) (ls : Array Slot), G = F_X4_allOpen_2 n shutBy around x1 x2 → va_P D vwCl (pz_M q k formulas kind left right height laid rules ps qs rs fs checked stopped reason made opened ruleThen heads boxOf shutBy around inner truth turned pile) H → va_S (pz_A 19 q) s.heap H locs → lv_has ls 3 [(0, .ref (q 0)), (1, .int (x1)), (2, .int (x2))] → W p l e (headSpec wsX4_allOpen { frames := 0, cells := 0, slots := 0, locals := 0 }).room s m args below meth c H locs 0 0 (MQ below (va_Qi (fun r (_ : Unit) => r = G) (fun _ t => va_P D vwCl (pz_M q k formulas kind left right height laid rules ps qs rs fs checked stopped reason made opened ruleThen heads boxOf shutBy around inner truth turned pile) t.heap) (pz_A 19 q)) args s 0 0 (pz_A 19 q)) (F0 m 2 ls []) := by
  obtain ⟨hx, hb, hml, hown, hts, hr, hlocks⟩ := hC
  have hC : pz_C p s m args meth c cX4_allOpen wsX4_allOpen RX4 3 (some .boolean) := ⟨hx, hb, hml, hown, hts, hr, hlocks⟩
  have hK := hKX.1
  intro n
  induction n with
  | zero =>
    intro x1 x2 hbx hn har hb1 H locs ls hF hP hS hl
    exact absurd hn (by have a := pz_bxl hbx; omega)
  | succ n ih =>
    intro x1 x2 hbx hn har hb1 H locs ls hF hP hS hl
    unfold F_X4_allOpen_2 at hF
    refine lv_iload_n hx hb dX4_allOpen_2 rfl (lv_at hl 2 rfl) ?_
    refine lv_iconst (v := (-1)) hx hb dX4_allOpen_3 (by decide) ?_
    refine lv_icmp_eq (tgt := 27) hx hb dX4_allOpen_4 (by decide) (fun c_1 => ?_) (fun c_1 => ?_)
    · have hF := hF.trans (if_pos c_1)
      refine lv_iload_n hx hb dX4_allOpen_27 rfl (lv_at hl 2 rfl) ?_
      refine lv_iconst (v := (-1)) hx hb dX4_allOpen_28 (by decide) ?_
      refine lv_icmp_ne (tgt := 36) hx hb dX4_allOpen_29 (by decide) (fun c_2 => ?_) (fun c_2 => ?_)
      · have hF := hF.trans (if_neg c_2)
        refine lv_iconst (v := 0) hx hb dX4_allOpen_36 (by decide) ?_
        exact W.zret (v := 0) hx hb hr rfl (fun t ht hW => ⟨⟨0, (), rfl, hF.symm, pz_hp ht hP⟩, hS.F ht⟩) hS.2.2 dX4_allOpen_37 hlocks
      · have hF := hF.trans (if_pos c_2)
        refine lv_iconst (v := 1) hx hb dX4_allOpen_32 (by decide) ?_
        refine lv_goto (tgt := 37) hx hb dX4_allOpen_33 (by decide) ?_
        exact W.zret (v := 1) hx hb hr rfl (fun t ht hW => ⟨⟨1, (), rfl, hF.symm, pz_hp ht hP⟩, hS.F ht⟩) hS.2.2 dX4_allOpen_37 hlocks
    · have hF := hF.trans (if_neg c_1)
      refine lv_aload_n hx hb dX4_allOpen_7 rfl (lv_at hl 0 rfl) ?_
      refine va_get (D := D) (ci := 4) (v := .ref (q 14)) (C := RX4) (T := TX4) (N := 25) hx hb hts in_X4_allOpen_X4 hown hK hP 0 rfl rfl 19 (by decide) (hts _ fl_X4_allOpen_50) (fun _ h9 => h9) rfl dX4_allOpen_8 ?_
      refine lv_iload_n hx hb dX4_allOpen_11 rfl (lv_at hl 2 rfl) ?_
      have hi_3 : vp_in x2 60 := pz_bxi hbx ‹_›
      refine va_iald hx hb hK hP 14 0 rfl rfl hi_3 dX4_allOpen_12 ?_
      refine lv_iconst (v := (-1)) hx hb dX4_allOpen_13 (by decide) ?_
      refine lv_icmp_ne (tgt := 27) hx hb dX4_allOpen_14 (by decide) (fun c_4 => ?_) (fun c_4 => ?_)
      · have hF := hF.trans (if_neg c_4)
        refine lv_iload_n hx hb dX4_allOpen_27 rfl (lv_at hl 2 rfl) ?_
        refine lv_iconst (v := (-1)) hx hb dX4_allOpen_28 (by decide) ?_
        refine lv_icmp_ne (tgt := 36) hx hb dX4_allOpen_29 (by decide) (fun c_5 => ?_) (fun c_5 => ?_)
        · have hF := hF.trans (if_neg c_5)
          refine lv_iconst (v := 0) hx hb dX4_allOpen_36 (by decide) ?_
          exact W.zret (v := 0) hx hb hr rfl (fun t ht hW => ⟨⟨0, (), rfl, hF.symm, pz_hp ht hP⟩, hS.F ht⟩) hS.2.2 dX4_allOpen_37 hlocks
        · have hF := hF.trans (if_pos c_5)
          refine lv_iconst (v := 1) hx hb dX4_allOpen_32 (by decide) ?_
          refine lv_goto (tgt := 37) hx hb dX4_allOpen_33 (by decide) ?_
          exact W.zret (v := 1) hx hb hr rfl (fun t ht hW => ⟨⟨1, (), rfl, hF.symm, pz_hp ht hP⟩, hS.F ht⟩) hS.2.2 dX4_allOpen_37 hlocks
      · have hF := hF.trans (if_pos c_4)
        refine lv_aload_n hx hb dX4_allOpen_17 rfl (lv_at hl 0 rfl) ?_
        refine va_get (D := D) (ci := 4) (v := .ref (q 15)) (C := RX4) (T := TX4) (N := 25) hx hb hts in_X4_allOpen_X4 hown hK hP 0 rfl rfl 20 (by decide) (hts _ fl_X4_allOpen_53) (fun _ h9 => h9) rfl dX4_allOpen_18 ?_
        refine lv_iload_n hx hb dX4_allOpen_21 rfl (lv_at hl 2 rfl) ?_
        have hi_6 : vp_in x2 60 := pz_bxi hbx ‹_›
        refine va_iald hx hb hK hP 15 0 rfl rfl hi_6 dX4_allOpen_22 ?_
        refine lv_istore_n (lv' := [(2, .int ((around (x2).toNatClampNeg))), (0, .ref (q 0)), (1, .int (x1))]) hx hb dX4_allOpen_23 rfl hl (by decide) rfl (fun ls hl => ?_)
        refine lv_goto (tgt := 2) hx hb dX4_allOpen_24 (by decide) ?_
        exact ih x1 (around (x2).toNatClampNeg) (pz_arb har hbx ‹_›).1 (by have a := (pz_arb har hbx ‹_›).2; omega) har hb1 _ _ _ hF hP hS (lv_sub hl [1, 2, 0] rfl)
set_option maxHeartbeats 4000000 in
set_option maxRecDepth 100000 in
theorem c_X4_allOpen (l : Launch) (D : va_G) (q : Nat → Nat) (k : Nat → ClassId) (formulas : Int32) (kind : Nat → Int32) (left : Nat → Int32) (right : Nat → Int32) (height : Nat → Int32) (laid : Nat → Int32) (rules : Nat → Int32) (ps : Nat → Int32) (qs : Nat → Int32) (rs : Nat → Int32) (fs : Nat → Int32) (checked : Int32) (stopped : Int32) (reason : Int32) (made : Int32) (opened : Int32) (ruleThen : Nat → Int32) (heads : Nat → Int32) (boxOf : Nat → Int32) (shutBy : Nat → Int32) (around : Nat → Int32) (inner : Int32) (truth : Nat → Int32) (turned : Nat → Int32) (pile : Nat → Int32) (x1 : Int32) (har : pz_ar ruleThen around) (hb1 : pz_bx ruleThen x1) : Met l yX4_allOpen wsX4_allOpen ({ frames := 0, cells := 0, slots := 0, locals := 0 }) (va_Pc [.ref (q 0), .int (x1)] (fun U => va_P D vwCl (pz_M q k formulas kind left right height laid rules ps qs rs fs checked stopped reason made opened ruleThen heads boxOf shutBy around inner truth turned pile) U.heap ∧ pz_KM D q k U)) (va_Qi (fun r (_ : Unit) => r = (f_X4_allOpen shutBy around x1)) (fun _ t => va_P D vwCl (pz_M q k formulas kind left right height laid rules ps qs rs fs checked stopped reason made opened ruleThen heads boxOf shutBy around inner truth turned pile) t.heap) (pz_A 19 q)) 0 0 (pz_A 19 q) := by
  refine Met.ofW (cc := cX4_allOpen) (maxL := 3) (ret := (some .boolean)) (by decide) rfl ?_
  intro p e s m args below meth c s₁ B hml hv
  obtain ⟨rfl, hP, hKX⟩ := hv
  have hx := B.exec
  have hb := B.bytes
  have hr := B.returns
  have hts := atoms_spec (ws := wsX4_allOpen) B.pre
  have hown : s.vm.findClass RX4 = some m.cls := findClass_of_methodNamed B.named
  have hlocks := B.notSynchronized
  have hC : pz_C p s m ([.ref (q 0), .int (x1)] : List Value).toArray meth c cX4_allOpen wsX4_allOpen RX4 3 (some .boolean) := ⟨hx, hb, hml, hown, hts, hr, hlocks⟩
  have hK := hKX.1
  have hS : va_S (pz_A 19 q) s.heap s.heap [] := va_S.rf
  have hl := lv_entry [.ref (q 0), .int (x1)] (n := 3) (Nat.le_of_ble_eq_true rfl)
  rw [lg_entry_eq]
  generalize (lg_sl [.ref (q 0), .int (x1)] ++ List.replicate (3 - (lg_sl [.ref (q 0), .int (x1)]).length) Slot.unset).toArray = ls at hl ⊢
  have hl : lv_has ls 3 [(0, .ref (q 0)), (1, .int (x1))] := hl
  generalize hF : f_X4_allOpen shutBy around x1 = G
  replace hF := hF.symm
  unfold f_X4_allOpen at hF
  refine lv_iload_n hx hb dX4_allOpen_0 rfl (lv_at hl 1 rfl) ?_
  refine lv_istore_n (lv' := [(2, .int (x1)), (0, .ref (q 0)), (1, .int (x1))]) hx hb dX4_allOpen_1 rfl hl (by decide) rfl (fun ls hl => ?_)
  exact k_X4_allOpen_2 hC hKX formulas kind left right height laid rules ps qs rs fs checked stopped reason made opened ruleThen heads boxOf shutBy around inner truth turned pile 62 x1 x1 hb1 (by have a := pz_bxl hb1; omega) har hb1 _ _ _ hF hP hS (lv_sub hl [1, 2, 0] rfl)

-- == X4_inForce
def f_X4_inForce (heads : Nat → Int32) (boxOf : Nat → Int32) (shutBy : Nat → Int32) (around : Nat → Int32) (x1 : Int32) : Int32 := if (heads (x1).toNatClampNeg) = (-1) then (0) else (pz_bnd (f_X4_allOpen shutBy around (boxOf (x1).toNatClampNeg)) (fun z_4 => if z_4 = 0 then (0) else (1)))
theorem fl_X4_inForce_44 : Cond.fieldLink RX4 44 "BoxProofsModel" "heads" "[I" ∈ wsX4_inForce := by decide +kernel
theorem fl_X4_inForce_47 : Cond.fieldLink RX4 47 "BoxProofsModel" "boxOf" "[I" ∈ wsX4_inForce := by decide +kernel
theorem hdV_X4_allOpen : yX4_allOpen.cls = RX4 ∧ yX4_allOpen.cls ≠ "java/lang/invoke/MethodHandle" ∧ yX4_allOpen.cls ≠ "java/lang/invoke/VarHandle" ∧ (parseMethodDescriptor yX4_allOpen.desc).map (fun d => d.parameters.length) = some 1 := by decide +kernel
theorem in_X4_inForce_X4 : ∀ w ∈ wsX40, w ∈ wsX4_inForce := by decide +kernel
set_option maxHeartbeats 4000000 in
set_option maxRecDepth 100000 in
theorem c_X4_inForce (l : Launch) (D : va_G) (q : Nat → Nat) (k : Nat → ClassId) (formulas : Int32) (kind : Nat → Int32) (left : Nat → Int32) (right : Nat → Int32) (height : Nat → Int32) (laid : Nat → Int32) (rules : Nat → Int32) (ps : Nat → Int32) (qs : Nat → Int32) (rs : Nat → Int32) (fs : Nat → Int32) (checked : Int32) (stopped : Int32) (reason : Int32) (made : Int32) (opened : Int32) (ruleThen : Nat → Int32) (heads : Nat → Int32) (boxOf : Nat → Int32) (shutBy : Nat → Int32) (around : Nat → Int32) (inner : Int32) (truth : Nat → Int32) (turned : Nat → Int32) (pile : Nat → Int32) (x1 : Int32) (hk : vp_in x1 60) (har : pz_ar ruleThen around) (hhd : pz_hd formulas ruleThen heads boxOf) : Met l yX4_inForce wsX4_inForce ({ frames := 1, cells := 0, slots := 0, locals := 22 }) (va_Pc [.ref (q 0), .int (x1)] (fun U => va_P D vwCl (pz_M q k formulas kind left right height laid rules ps qs rs fs checked stopped reason made opened ruleThen heads boxOf shutBy around inner truth turned pile) U.heap ∧ pz_KM D q k U)) (va_Qi (fun r (_ : Unit) => r = (f_X4_inForce heads boxOf shutBy around x1)) (fun _ t => va_P D vwCl (pz_M q k formulas kind left right height laid rules ps qs rs fs checked stopped reason made opened ruleThen heads boxOf shutBy around inner truth turned pile) t.heap) (pz_A 19 q)) 0 0 (pz_A 19 q) := by
  refine Met.ofW (cc := cX4_inForce) (maxL := 2) (ret := (some .boolean)) (by decide) rfl ?_
  intro p e s m args below meth c s₁ B hml hv
  obtain ⟨rfl, hP, hKX⟩ := hv
  have hx := B.exec
  have hb := B.bytes
  have hr := B.returns
  have hts := atoms_spec (ws := wsX4_inForce) B.pre
  have hown : s.vm.findClass RX4 = some m.cls := findClass_of_methodNamed B.named
  have hlocks := B.notSynchronized
  have hC : pz_C p s m ([.ref (q 0), .int (x1)] : List Value).toArray meth c cX4_inForce wsX4_inForce RX4 2 (some .boolean) := ⟨hx, hb, hml, hown, hts, hr, hlocks⟩
  have hK := hKX.1
  have hS : va_S (pz_A 19 q) s.heap s.heap [] := va_S.rf
  have hl := lv_entry [.ref (q 0), .int (x1)] (n := 2) (Nat.le_of_ble_eq_true rfl)
  rw [lg_entry_eq]
  generalize (lg_sl [.ref (q 0), .int (x1)] ++ List.replicate (2 - (lg_sl [.ref (q 0), .int (x1)]).length) Slot.unset).toArray = ls at hl ⊢
  have hl : lv_has ls 2 [(0, .ref (q 0)), (1, .int (x1))] := hl
  generalize hF : f_X4_inForce heads boxOf shutBy around x1 = G
  replace hF := hF.symm
  unfold f_X4_inForce at hF
  refine lv_aload_n hx hb dX4_inForce_0 rfl (lv_at hl 0 rfl) ?_
  refine va_get (D := D) (ci := 4) (v := .ref (q 12)) (C := RX4) (T := TX4) (N := 25) hx hb hts in_X4_inForce_X4 hown hK hP 0 rfl rfl 17 (by decide) (hts _ fl_X4_inForce_44) (fun _ h9 => h9) rfl dX4_inForce_1 ?_
  refine lv_iload_n hx hb dX4_inForce_4 rfl (lv_at hl 1 rfl) ?_
  have hi_1 : vp_in x1 60 := hk
  refine va_iald hx hb hK hP 12 0 rfl rfl hi_1 dX4_inForce_5 ?_
  refine lv_iconst (v := (-1)) hx hb dX4_inForce_6 (by decide) ?_
  refine lv_icmp_eq (tgt := 27) hx hb dX4_inForce_7 (by decide) (fun c_2 => ?_) (fun c_2 => ?_)
  · have hF := hF.trans (if_pos c_2)
    refine lv_iconst (v := 0) hx hb dX4_inForce_27 (by decide) ?_
    exact W.zret (v := 0) hx hb hr rfl (fun t ht hW => ⟨⟨0, (), rfl, hF.symm, pz_hp ht hP⟩, hS.F ht⟩) hS.2.2 dX4_inForce_28 hlocks
  · have hF := hF.trans (if_neg c_2)
    refine lv_aload_n hx hb dX4_inForce_10 rfl (lv_at hl 0 rfl) ?_
    refine lv_aload_n hx hb dX4_inForce_11 rfl (lv_at hl 0 rfl) ?_
    refine va_get (D := D) (ci := 4) (v := .ref (q 13)) (C := RX4) (T := TX4) (N := 25) hx hb hts in_X4_inForce_X4 hown hK hP 0 rfl rfl 18 (by decide) (hts _ fl_X4_inForce_47) (fun _ h9 => h9) rfl dX4_inForce_12 ?_
    refine lv_iload_n hx hb dX4_inForce_15 rfl (lv_at hl 1 rfl) ?_
    have hi_3 : vp_in x1 60 := hk
    refine va_iald hx hb hK hP 13 0 rfl rfl hi_3 dX4_inForce_16 ?_
    refine pz_Vi (As := [.int ((boxOf (x1).toNatClampNeg))]) (rest := []) ⟨hx, hb, hml, hown, hts⟩ (c_X4_allOpen l D q k formulas kind left right height laid rules ps qs rs fs checked stopped reason made opened ruleThen heads boxOf shutBy around inner truth turned pile (boxOf (x1).toNatClampNeg) har ((hhd _ (pz_ixN hk) ‹_›).2)) (cwV 1 hts gX4_inForce_X4_allOpen rfl rfl rfl hdV_X4_allOpen ⟨Nat.le_of_ble_eq_true rfl, Nat.le_of_ble_eq_true rfl⟩) pz_KM.call hKX.go (va_recv hK hP (ci := 4) (q0 := 0) rfl rfl) hP hS rfl hl.1 rfl (Nat.le_of_ble_eq_true rfl) dX4_inForce_17 ⟨Nat.zero_le _, Nat.zero_le _⟩ (fun r_4 u_4 H locs hF_4 hP hS => ?_)
    have hF := hF.trans (pz_be hF_4)
    refine lv_if_eq (tgt := 27) hx hb dX4_inForce_20 (by decide) (fun c_5 => ?_) (fun c_5 => ?_)
    · have hF := hF.trans (if_pos c_5)
      refine lv_iconst (v := 0) hx hb dX4_inForce_27 (by decide) ?_
      exact W.zret (v := 0) hx hb hr rfl (fun t ht hW => ⟨⟨0, (), rfl, hF.symm, pz_hp ht hP⟩, hS.F ht⟩) hS.2.2 dX4_inForce_28 hlocks
    · have hF := hF.trans (if_neg c_5)
      refine lv_iconst (v := 1) hx hb dX4_inForce_23 (by decide) ?_
      refine lv_goto (tgt := 28) hx hb dX4_inForce_24 (by decide) ?_
      exact W.zret (v := 1) hx hb hr rfl (fun t ht hW => ⟨⟨1, (), rfl, hF.symm, pz_hp ht hP⟩, hS.F ht⟩) hS.2.2 dX4_inForce_28 hlocks

-- == X4_badLine
def f_X4_badLine (heads : Nat → Int32) (boxOf : Nat → Int32) (shutBy : Nat → Int32) (around : Nat → Int32) (x1 : Int32) (x2 : Int32) (x3 : Int32) : Int32 := pz_bnd (f_X4_isLine x2) (fun z_1 => if z_1 = 0 then (1) else (if x2 < x1 then (if x3 = 0 then (0) else (pz_bnd (f_X4_inForce heads boxOf shutBy around x2) (fun z_5 => if z_5 = 0 then (3) else (0)))) else (2)))
theorem hdV_X4_inForce : yX4_inForce.cls = RX4 ∧ yX4_inForce.cls ≠ "java/lang/invoke/MethodHandle" ∧ yX4_inForce.cls ≠ "java/lang/invoke/VarHandle" ∧ (parseMethodDescriptor yX4_inForce.desc).map (fun d => d.parameters.length) = some 1 := by decide +kernel
set_option maxHeartbeats 4000000 in
set_option maxRecDepth 100000 in
theorem c_X4_badLine (l : Launch) (D : va_G) (q : Nat → Nat) (k : Nat → ClassId) (formulas : Int32) (kind : Nat → Int32) (left : Nat → Int32) (right : Nat → Int32) (height : Nat → Int32) (laid : Nat → Int32) (rules : Nat → Int32) (ps : Nat → Int32) (qs : Nat → Int32) (rs : Nat → Int32) (fs : Nat → Int32) (checked : Int32) (stopped : Int32) (reason : Int32) (made : Int32) (opened : Int32) (ruleThen : Nat → Int32) (heads : Nat → Int32) (boxOf : Nat → Int32) (shutBy : Nat → Int32) (around : Nat → Int32) (inner : Int32) (truth : Nat → Int32) (turned : Nat → Int32) (pile : Nat → Int32) (x1 : Int32) (x2 : Int32) (x3 : Int32) (har : pz_ar ruleThen around) (hhd : pz_hd formulas ruleThen heads boxOf) : Met l yX4_badLine wsX4_badLine ({ frames := 2, cells := 0, slots := 0, locals := 43 }) (va_Pc [.ref (q 0), .int (x1), .int (x2), .int (x3)] (fun U => va_P D vwCl (pz_M q k formulas kind left right height laid rules ps qs rs fs checked stopped reason made opened ruleThen heads boxOf shutBy around inner truth turned pile) U.heap ∧ pz_KM D q k U)) (va_Qi (fun r (_ : Unit) => r = (f_X4_badLine heads boxOf shutBy around x1 x2 x3)) (fun _ t => va_P D vwCl (pz_M q k formulas kind left right height laid rules ps qs rs fs checked stopped reason made opened ruleThen heads boxOf shutBy around inner truth turned pile) t.heap) (pz_A 19 q)) 0 0 (pz_A 19 q) := by
  refine Met.ofW (cc := cX4_badLine) (maxL := 4) (ret := (some .int)) (by decide) rfl ?_
  intro p e s m args below meth c s₁ B hml hv
  obtain ⟨rfl, hP, hKX⟩ := hv
  have hx := B.exec
  have hb := B.bytes
  have hr := B.returns
  have hts := atoms_spec (ws := wsX4_badLine) B.pre
  have hown : s.vm.findClass RX4 = some m.cls := findClass_of_methodNamed B.named
  have hlocks := B.notSynchronized
  have hC : pz_C p s m ([.ref (q 0), .int (x1), .int (x2), .int (x3)] : List Value).toArray meth c cX4_badLine wsX4_badLine RX4 4 (some .int) := ⟨hx, hb, hml, hown, hts, hr, hlocks⟩
  have hK := hKX.1
  have hS : va_S (pz_A 19 q) s.heap s.heap [] := va_S.rf
  have hl := lv_entry [.ref (q 0), .int (x1), .int (x2), .int (x3)] (n := 4) (Nat.le_of_ble_eq_true rfl)
  rw [lg_entry_eq]
  generalize (lg_sl [.ref (q 0), .int (x1), .int (x2), .int (x3)] ++ List.replicate (4 - (lg_sl [.ref (q 0), .int (x1), .int (x2), .int (x3)]).length) Slot.unset).toArray = ls at hl ⊢
  have hl : lv_has ls 4 [(0, .ref (q 0)), (1, .int (x1)), (2, .int (x2)), (3, .int (x3))] := hl
  generalize hF : f_X4_badLine heads boxOf shutBy around x1 x2 x3 = G
  replace hF := hF.symm
  unfold f_X4_badLine at hF
  refine lv_iload_n hx hb dX4_badLine_0 rfl (lv_at hl 2 rfl) ?_
  refine pz_Si (As := [.int (x2)]) (rest := []) ⟨hx, hb, hml, hown, hts⟩ (c_X4_isLine l x2) (va_cwS 1 hts gX4_badLine_X4_isLine rfl rfl rfl hdS_X4_isLine ⟨Nat.le_of_ble_eq_true rfl, Nat.le_of_ble_eq_true rfl⟩) hP hS rfl hl.1 rfl (Nat.le_of_ble_eq_true rfl) dX4_badLine_1 ⟨Nat.zero_le _, Nat.zero_le _⟩ (fun r_1 H locs hF_1 hP hS => ?_)
  have hF := hF.trans (pz_be hF_1)
  refine lv_if_ne (tgt := 11) hx hb dX4_badLine_4 (by decide) (fun c_2 => ?_) (fun c_2 => ?_)
  · have hF := hF.trans (if_neg c_2)
    refine lv_iload_n hx hb dX4_badLine_11 rfl (lv_at hl 2 rfl) ?_
    refine lv_iload_n hx hb dX4_badLine_12 rfl (lv_at hl 1 rfl) ?_
    refine lv_icmp_lt (tgt := 20) hx hb dX4_badLine_13 (by decide) (fun c_3 => ?_) (fun c_3 => ?_)
    · have hF := hF.trans (if_pos c_3)
      refine lv_iload_n hx hb dX4_badLine_20 rfl (lv_at hl 3 rfl) ?_
      refine lv_if_eq (tgt := 36) hx hb dX4_badLine_21 (by decide) (fun c_4 => ?_) (fun c_4 => ?_)
      · have hF := hF.trans (if_pos c_4)
        refine lv_iconst (v := 0) hx hb dX4_badLine_36 (by decide) ?_
        exact W.iret (v := 0) hx hb hr (fun t ht hW => ⟨⟨0, (), rfl, hF.symm, pz_hp ht hP⟩, hS.F ht⟩) hS.2.2 dX4_badLine_37 hlocks
      · have hF := hF.trans (if_neg c_4)
        refine lv_aload_n hx hb dX4_badLine_24 rfl (lv_at hl 0 rfl) ?_
        refine lv_iload_n hx hb dX4_badLine_25 rfl (lv_at hl 2 rfl) ?_
        refine pz_Vi (As := [.int (x2)]) (rest := []) ⟨hx, hb, hml, hown, hts⟩ (c_X4_inForce l D q k formulas kind left right height laid rules ps qs rs fs checked stopped reason made opened ruleThen heads boxOf shutBy around inner truth turned pile x2 (pz_lineM ‹_› ‹_›) har hhd) (cwV 1 hts gX4_badLine_X4_inForce rfl rfl rfl hdV_X4_inForce ⟨Nat.le_of_ble_eq_true rfl, Nat.le_of_ble_eq_true rfl⟩) pz_KM.call hKX.go (va_recv hK hP (ci := 4) (q0 := 0) rfl rfl) hP hS rfl hl.1 rfl (Nat.le_of_ble_eq_true rfl) dX4_badLine_26 ⟨Nat.zero_le _, Nat.zero_le _⟩ (fun r_5 u_5 H locs hF_5 hP hS => ?_)
        have hF := hF.trans (pz_be hF_5)
        refine lv_if_ne (tgt := 36) hx hb dX4_badLine_29 (by decide) (fun c_6 => ?_) (fun c_6 => ?_)
        · have hF := hF.trans (if_neg c_6)
          refine lv_iconst (v := 0) hx hb dX4_badLine_36 (by decide) ?_
          exact W.iret (v := 0) hx hb hr (fun t ht hW => ⟨⟨0, (), rfl, hF.symm, pz_hp ht hP⟩, hS.F ht⟩) hS.2.2 dX4_badLine_37 hlocks
        · have hF := hF.trans (if_pos c_6)
          refine lv_iconst (v := 3) hx hb dX4_badLine_32 (by decide) ?_
          refine lv_goto (tgt := 37) hx hb dX4_badLine_33 (by decide) ?_
          exact W.iret (v := 3) hx hb hr (fun t ht hW => ⟨⟨3, (), rfl, hF.symm, pz_hp ht hP⟩, hS.F ht⟩) hS.2.2 dX4_badLine_37 hlocks
    · have hF := hF.trans (if_neg c_3)
      refine lv_iconst (v := 2) hx hb dX4_badLine_16 (by decide) ?_
      refine lv_goto (tgt := 37) hx hb dX4_badLine_17 (by decide) ?_
      exact W.iret (v := 2) hx hb hr (fun t ht hW => ⟨⟨2, (), rfl, hF.symm, pz_hp ht hP⟩, hS.F ht⟩) hS.2.2 dX4_badLine_37 hlocks
  · have hF := hF.trans (if_pos c_2)
    refine lv_iconst (v := 1) hx hb dX4_badLine_7 (by decide) ?_
    refine lv_goto (tgt := 37) hx hb dX4_badLine_8 (by decide) ?_
    exact W.iret (v := 1) hx hb hr (fun t ht hW => ⟨⟨1, (), rfl, hF.symm, pz_hp ht hP⟩, hS.F ht⟩) hS.2.2 dX4_badLine_37 hlocks

-- == X4_badBox
def f_X4_badBox (ruleThen : Nat → Int32) (heads : Nat → Int32) (shutBy : Nat → Int32) (around : Nat → Int32) (x1 : Int32) : Int32 := if (ruleThen (x1).toNatClampNeg) = 1 then (if (shutBy (x1).toNatClampNeg) = (-1) then (5) else (pz_bnd (f_X4_allOpen shutBy around (around (x1).toNatClampNeg)) (fun z_8 => if z_8 = 0 then (5) else (if (heads (((shutBy (x1).toNatClampNeg) - 1)).toNatClampNeg) = (-1) then (5) else (0))))) else (5)
theorem fl_X4_badBox_41 : Cond.fieldLink RX4 41 "BoxProofsModel" "ruleThen" "[I" ∈ wsX4_badBox := by decide +kernel
theorem fl_X4_badBox_44 : Cond.fieldLink RX4 44 "BoxProofsModel" "heads" "[I" ∈ wsX4_badBox := by decide +kernel
theorem fl_X4_badBox_50 : Cond.fieldLink RX4 50 "BoxProofsModel" "shutBy" "[I" ∈ wsX4_badBox := by decide +kernel
theorem fl_X4_badBox_53 : Cond.fieldLink RX4 53 "BoxProofsModel" "around" "[I" ∈ wsX4_badBox := by decide +kernel
theorem in_X4_badBox_X4 : ∀ w ∈ wsX40, w ∈ wsX4_badBox := by decide +kernel
set_option maxHeartbeats 4000000 in
set_option maxRecDepth 100000 in
theorem c_X4_badBox (l : Launch) (D : va_G) (q : Nat → Nat) (k : Nat → ClassId) (formulas : Int32) (kind : Nat → Int32) (left : Nat → Int32) (right : Nat → Int32) (height : Nat → Int32) (laid : Nat → Int32) (rules : Nat → Int32) (ps : Nat → Int32) (qs : Nat → Int32) (rs : Nat → Int32) (fs : Nat → Int32) (checked : Int32) (stopped : Int32) (reason : Int32) (made : Int32) (opened : Int32) (ruleThen : Nat → Int32) (heads : Nat → Int32) (boxOf : Nat → Int32) (shutBy : Nat → Int32) (around : Nat → Int32) (inner : Int32) (truth : Nat → Int32) (turned : Nat → Int32) (pile : Nat → Int32) (x1 : Int32) (hk : vp_in x1 60) (har : pz_ar ruleThen around) (hsb : pz_sb ruleThen shutBy) : Met l yX4_badBox wsX4_badBox ({ frames := 1, cells := 0, slots := 0, locals := 22 }) (va_Pc [.ref (q 0), .int (x1)] (fun U => va_P D vwCl (pz_M q k formulas kind left right height laid rules ps qs rs fs checked stopped reason made opened ruleThen heads boxOf shutBy around inner truth turned pile) U.heap ∧ pz_KM D q k U)) (va_Qi (fun r (_ : Unit) => r = (f_X4_badBox ruleThen heads shutBy around x1)) (fun _ t => va_P D vwCl (pz_M q k formulas kind left right height laid rules ps qs rs fs checked stopped reason made opened ruleThen heads boxOf shutBy around inner truth turned pile) t.heap) (pz_A 19 q)) 0 0 (pz_A 19 q) := by
  refine Met.ofW (cc := cX4_badBox) (maxL := 3) (ret := (some .int)) (by decide) rfl ?_
  intro p e s m args below meth c s₁ B hml hv
  obtain ⟨rfl, hP, hKX⟩ := hv
  have hx := B.exec
  have hb := B.bytes
  have hr := B.returns
  have hts := atoms_spec (ws := wsX4_badBox) B.pre
  have hown : s.vm.findClass RX4 = some m.cls := findClass_of_methodNamed B.named
  have hlocks := B.notSynchronized
  have hC : pz_C p s m ([.ref (q 0), .int (x1)] : List Value).toArray meth c cX4_badBox wsX4_badBox RX4 3 (some .int) := ⟨hx, hb, hml, hown, hts, hr, hlocks⟩
  have hK := hKX.1
  have hS : va_S (pz_A 19 q) s.heap s.heap [] := va_S.rf
  have hl := lv_entry [.ref (q 0), .int (x1)] (n := 3) (Nat.le_of_ble_eq_true rfl)
  rw [lg_entry_eq]
  generalize (lg_sl [.ref (q 0), .int (x1)] ++ List.replicate (3 - (lg_sl [.ref (q 0), .int (x1)]).length) Slot.unset).toArray = ls at hl ⊢
  have hl : lv_has ls 3 [(0, .ref (q 0)), (1, .int (x1))] := hl
  generalize hF : f_X4_badBox ruleThen heads shutBy around x1 = G
  replace hF := hF.symm
  unfold f_X4_badBox at hF
  refine lv_aload_n hx hb dX4_badBox_0 rfl (lv_at hl 0 rfl) ?_
  refine va_get (D := D) (ci := 4) (v := .ref (q 11)) (C := RX4) (T := TX4) (N := 25) hx hb hts in_X4_badBox_X4 hown hK hP 0 rfl rfl 16 (by decide) (hts _ fl_X4_badBox_41) (fun _ h9 => h9) rfl dX4_badBox_1 ?_
  refine lv_iload_n hx hb dX4_badBox_4 rfl (lv_at hl 1 rfl) ?_
  have hi_1 : vp_in x1 60 := hk
  refine va_iald hx hb hK hP 11 0 rfl rfl hi_1 dX4_badBox_5 ?_
  refine lv_iconst (v := 1) hx hb dX4_badBox_6 (by decide) ?_
  refine lv_icmp_ne (tgt := 54) hx hb dX4_badBox_7 (by decide) (fun c_2 => ?_) (fun c_2 => ?_)
  · have hF := hF.trans (if_neg c_2)
    refine lv_iconst (v := 0) hx hb dX4_badBox_54 (by decide) ?_
    refine lv_istore_n (lv' := [(2, .int (0)), (0, .ref (q 0)), (1, .int (x1))]) hx hb dX4_badBox_55 rfl hl (by decide) rfl (fun ls hl => ?_)
    refine lv_iload_n hx hb dX4_badBox_56 rfl (lv_at hl 0 rfl) ?_
    refine lv_if_eq (tgt := 64) hx hb dX4_badBox_57 (by decide) (fun c_3 => ?_) (fun c_3 => ?_)
    · refine lv_iconst (v := 5) hx hb dX4_badBox_64 (by decide) ?_
      exact W.iret (v := 5) hx hb hr (fun t ht hW => ⟨⟨5, (), rfl, hF.symm, pz_hp ht hP⟩, hS.F ht⟩) hS.2.2 dX4_badBox_65 hlocks
    · exact absurd c_3 (by decide)
  · have hF := hF.trans (if_pos c_2)
    refine lv_aload_n hx hb dX4_badBox_10 rfl (lv_at hl 0 rfl) ?_
    refine va_get (D := D) (ci := 4) (v := .ref (q 14)) (C := RX4) (T := TX4) (N := 25) hx hb hts in_X4_badBox_X4 hown hK hP 0 rfl rfl 19 (by decide) (hts _ fl_X4_badBox_50) (fun _ h9 => h9) rfl dX4_badBox_11 ?_
    refine lv_iload_n hx hb dX4_badBox_14 rfl (lv_at hl 1 rfl) ?_
    have hi_4 : vp_in x1 60 := hk
    refine va_iald hx hb hK hP 14 0 rfl rfl hi_4 dX4_badBox_15 ?_
    refine lv_iconst (v := (-1)) hx hb dX4_badBox_16 (by decide) ?_
    refine lv_icmp_eq (tgt := 54) hx hb dX4_badBox_17 (by decide) (fun c_5 => ?_) (fun c_5 => ?_)
    · have hF := hF.trans (if_pos c_5)
      refine lv_iconst (v := 0) hx hb dX4_badBox_54 (by decide) ?_
      refine lv_istore_n (lv' := [(2, .int (0)), (0, .ref (q 0)), (1, .int (x1))]) hx hb dX4_badBox_55 rfl hl (by decide) rfl (fun ls hl => ?_)
      refine lv_iload_n hx hb dX4_badBox_56 rfl (lv_at hl 0 rfl) ?_
      refine lv_if_eq (tgt := 64) hx hb dX4_badBox_57 (by decide) (fun c_6 => ?_) (fun c_6 => ?_)
      · refine lv_iconst (v := 5) hx hb dX4_badBox_64 (by decide) ?_
        exact W.iret (v := 5) hx hb hr (fun t ht hW => ⟨⟨5, (), rfl, hF.symm, pz_hp ht hP⟩, hS.F ht⟩) hS.2.2 dX4_badBox_65 hlocks
      · exact absurd c_6 (by decide)
    · have hF := hF.trans (if_neg c_5)
      refine lv_aload_n hx hb dX4_badBox_20 rfl (lv_at hl 0 rfl) ?_
      refine lv_aload_n hx hb dX4_badBox_21 rfl (lv_at hl 0 rfl) ?_
      refine va_get (D := D) (ci := 4) (v := .ref (q 15)) (C := RX4) (T := TX4) (N := 25) hx hb hts in_X4_badBox_X4 hown hK hP 0 rfl rfl 20 (by decide) (hts _ fl_X4_badBox_53) (fun _ h9 => h9) rfl dX4_badBox_22 ?_
      refine lv_iload_n hx hb dX4_badBox_25 rfl (lv_at hl 1 rfl) ?_
      have hi_7 : vp_in x1 60 := hk
      refine va_iald hx hb hK hP 15 0 rfl rfl hi_7 dX4_badBox_26 ?_
      refine pz_Vi (As := [.int ((around (x1).toNatClampNeg))]) (rest := []) ⟨hx, hb, hml, hown, hts⟩ (c_X4_allOpen l D q k formulas kind left right height laid rules ps qs rs fs checked stopped reason made opened ruleThen heads boxOf shutBy around inner truth turned pile (around (x1).toNatClampNeg) har (pz_arx har hk ‹_›).1) (cwV 1 hts gX4_badBox_X4_allOpen rfl rfl rfl hdV_X4_allOpen ⟨Nat.le_of_ble_eq_true rfl, Nat.le_of_ble_eq_true rfl⟩) pz_KM.call hKX.go (va_recv hK hP (ci := 4) (q0 := 0) rfl rfl) hP hS rfl hl.1 rfl (Nat.le_of_ble_eq_true rfl) dX4_badBox_27 ⟨Nat.zero_le _, Nat.zero_le _⟩ (fun r_8 u_8 H locs hF_8 hP hS => ?_)
      have hF := hF.trans (pz_be hF_8)
      refine lv_if_eq (tgt := 54) hx hb dX4_badBox_30 (by decide) (fun c_9 => ?_) (fun c_9 => ?_)
      · have hF := hF.trans (if_pos c_9)
        refine lv_iconst (v := 0) hx hb dX4_badBox_54 (by decide) ?_
        refine lv_istore_n (lv' := [(2, .int (0)), (0, .ref (q 0)), (1, .int (x1))]) hx hb dX4_badBox_55 rfl hl (by decide) rfl (fun ls hl => ?_)
        refine lv_iload_n hx hb dX4_badBox_56 rfl (lv_at hl 0 rfl) ?_
        refine lv_if_eq (tgt := 64) hx hb dX4_badBox_57 (by decide) (fun c_10 => ?_) (fun c_10 => ?_)
        · refine lv_iconst (v := 5) hx hb dX4_badBox_64 (by decide) ?_
          exact W.iret (v := 5) hx hb hr (fun t ht hW => ⟨⟨5, (), rfl, hF.symm, pz_hp ht hP⟩, hS.F ht⟩) hS.2.2 dX4_badBox_65 hlocks
        · exact absurd c_10 (by decide)
      · have hF := hF.trans (if_neg c_9)
        refine lv_aload_n hx hb dX4_badBox_33 rfl (lv_at hl 0 rfl) ?_
        refine va_get (D := D) (ci := 4) (v := .ref (q 12)) (C := RX4) (T := TX4) (N := 25) hx hb hts in_X4_badBox_X4 hown hK hP 0 rfl rfl 17 (by decide) (hts _ fl_X4_badBox_44) (fun _ h9 => h9) rfl dX4_badBox_34 ?_
        refine lv_aload_n hx hb dX4_badBox_37 rfl (lv_at hl 0 rfl) ?_
        refine va_get (D := D) (ci := 4) (v := .ref (q 14)) (C := RX4) (T := TX4) (N := 25) hx hb hts in_X4_badBox_X4 hown hK hP 0 rfl rfl 19 (by decide) (hts _ fl_X4_badBox_50) (fun _ h9 => h9) rfl dX4_badBox_38 ?_
        refine lv_iload_n hx hb dX4_badBox_41 rfl (lv_at hl 1 rfl) ?_
        have hi_11 : vp_in x1 60 := hk
        refine va_iald hx hb hK hP 14 0 rfl rfl hi_11 dX4_badBox_42 ?_
        refine lv_iconst (v := 1) hx hb dX4_badBox_43 (by decide) ?_
        refine lv_isub hx hb dX4_badBox_44 ?_
        have hi_12 : vp_in ((shutBy (x1).toNatClampNeg) - 1) 60 := pz_sbi hsb hk ‹_› ‹_›
        refine va_iald hx hb hK hP 12 0 rfl rfl hi_12 dX4_badBox_45 ?_
        refine lv_iconst (v := (-1)) hx hb dX4_badBox_46 (by decide) ?_
        refine lv_icmp_eq (tgt := 54) hx hb dX4_badBox_47 (by decide) (fun c_13 => ?_) (fun c_13 => ?_)
        · have hF := hF.trans (if_pos c_13)
          refine lv_iconst (v := 0) hx hb dX4_badBox_54 (by decide) ?_
          refine lv_istore_n (lv' := [(2, .int (0)), (0, .ref (q 0)), (1, .int (x1))]) hx hb dX4_badBox_55 rfl hl (by decide) rfl (fun ls hl => ?_)
          refine lv_iload_n hx hb dX4_badBox_56 rfl (lv_at hl 0 rfl) ?_
          refine lv_if_eq (tgt := 64) hx hb dX4_badBox_57 (by decide) (fun c_14 => ?_) (fun c_14 => ?_)
          · refine lv_iconst (v := 5) hx hb dX4_badBox_64 (by decide) ?_
            exact W.iret (v := 5) hx hb hr (fun t ht hW => ⟨⟨5, (), rfl, hF.symm, pz_hp ht hP⟩, hS.F ht⟩) hS.2.2 dX4_badBox_65 hlocks
          · exact absurd c_14 (by decide)
        · have hF := hF.trans (if_neg c_13)
          refine lv_iconst (v := 1) hx hb dX4_badBox_50 (by decide) ?_
          refine lv_goto (tgt := 55) hx hb dX4_badBox_51 (by decide) ?_
          refine lv_istore_n (lv' := [(2, .int (1)), (0, .ref (q 0)), (1, .int (x1))]) hx hb dX4_badBox_55 rfl hl (by decide) rfl (fun ls hl => ?_)
          refine lv_iload_n hx hb dX4_badBox_56 rfl (lv_at hl 0 rfl) ?_
          refine lv_if_eq (tgt := 64) hx hb dX4_badBox_57 (by decide) (fun c_15 => ?_) (fun c_15 => ?_)
          · exact absurd c_15 (by decide)
          · refine lv_iconst (v := 0) hx hb dX4_badBox_60 (by decide) ?_
            refine lv_goto (tgt := 65) hx hb dX4_badBox_61 (by decide) ?_
            exact W.iret (v := 0) hx hb hr (fun t ht hW => ⟨⟨0, (), rfl, hF.symm, pz_hp ht hP⟩, hS.F ht⟩) hS.2.2 dX4_badBox_65 hlocks

-- == X4_endOf
def f_X4_endOf (heads : Nat → Int32) (shutBy : Nat → Int32) (x1 : Int32) : Int32 := (heads (((shutBy (x1).toNatClampNeg) - 1)).toNatClampNeg)
theorem fl_X4_endOf_44 : Cond.fieldLink RX4 44 "BoxProofsModel" "heads" "[I" ∈ wsX4_endOf := by decide +kernel
theorem fl_X4_endOf_50 : Cond.fieldLink RX4 50 "BoxProofsModel" "shutBy" "[I" ∈ wsX4_endOf := by decide +kernel
theorem in_X4_endOf_X4 : ∀ w ∈ wsX40, w ∈ wsX4_endOf := by decide +kernel
set_option maxHeartbeats 4000000 in
set_option maxRecDepth 100000 in
theorem c_X4_endOf (l : Launch) (D : va_G) (q : Nat → Nat) (k : Nat → ClassId) (formulas : Int32) (kind : Nat → Int32) (left : Nat → Int32) (right : Nat → Int32) (height : Nat → Int32) (laid : Nat → Int32) (rules : Nat → Int32) (ps : Nat → Int32) (qs : Nat → Int32) (rs : Nat → Int32) (fs : Nat → Int32) (checked : Int32) (stopped : Int32) (reason : Int32) (made : Int32) (opened : Int32) (ruleThen : Nat → Int32) (heads : Nat → Int32) (boxOf : Nat → Int32) (shutBy : Nat → Int32) (around : Nat → Int32) (inner : Int32) (truth : Nat → Int32) (turned : Nat → Int32) (pile : Nat → Int32) (x1 : Int32) (hk : vp_in x1 60) (he : vp_in (shutBy x1.toNatClampNeg - 1) 60) : Met l yX4_endOf wsX4_endOf ({ frames := 0, cells := 0, slots := 0, locals := 0 }) (va_Pc [.ref (q 0), .int (x1)] (fun U => va_P D vwCl (pz_M q k formulas kind left right height laid rules ps qs rs fs checked stopped reason made opened ruleThen heads boxOf shutBy around inner truth turned pile) U.heap ∧ pz_KM D q k U)) (va_Qi (fun r (_ : Unit) => r = (f_X4_endOf heads shutBy x1)) (fun _ t => va_P D vwCl (pz_M q k formulas kind left right height laid rules ps qs rs fs checked stopped reason made opened ruleThen heads boxOf shutBy around inner truth turned pile) t.heap) (pz_A 19 q)) 0 0 (pz_A 19 q) := by
  refine Met.ofW (cc := cX4_endOf) (maxL := 2) (ret := (some .int)) (by decide) rfl ?_
  intro p e s m args below meth c s₁ B hml hv
  obtain ⟨rfl, hP, hKX⟩ := hv
  have hx := B.exec
  have hb := B.bytes
  have hr := B.returns
  have hts := atoms_spec (ws := wsX4_endOf) B.pre
  have hown : s.vm.findClass RX4 = some m.cls := findClass_of_methodNamed B.named
  have hlocks := B.notSynchronized
  have hC : pz_C p s m ([.ref (q 0), .int (x1)] : List Value).toArray meth c cX4_endOf wsX4_endOf RX4 2 (some .int) := ⟨hx, hb, hml, hown, hts, hr, hlocks⟩
  have hK := hKX.1
  have hS : va_S (pz_A 19 q) s.heap s.heap [] := va_S.rf
  have hl := lv_entry [.ref (q 0), .int (x1)] (n := 2) (Nat.le_of_ble_eq_true rfl)
  rw [lg_entry_eq]
  generalize (lg_sl [.ref (q 0), .int (x1)] ++ List.replicate (2 - (lg_sl [.ref (q 0), .int (x1)]).length) Slot.unset).toArray = ls at hl ⊢
  have hl : lv_has ls 2 [(0, .ref (q 0)), (1, .int (x1))] := hl
  generalize hF : f_X4_endOf heads shutBy x1 = G
  replace hF := hF.symm
  unfold f_X4_endOf at hF
  refine lv_aload_n hx hb dX4_endOf_0 rfl (lv_at hl 0 rfl) ?_
  refine va_get (D := D) (ci := 4) (v := .ref (q 12)) (C := RX4) (T := TX4) (N := 25) hx hb hts in_X4_endOf_X4 hown hK hP 0 rfl rfl 17 (by decide) (hts _ fl_X4_endOf_44) (fun _ h9 => h9) rfl dX4_endOf_1 ?_
  refine lv_aload_n hx hb dX4_endOf_4 rfl (lv_at hl 0 rfl) ?_
  refine va_get (D := D) (ci := 4) (v := .ref (q 14)) (C := RX4) (T := TX4) (N := 25) hx hb hts in_X4_endOf_X4 hown hK hP 0 rfl rfl 19 (by decide) (hts _ fl_X4_endOf_50) (fun _ h9 => h9) rfl dX4_endOf_5 ?_
  refine lv_iload_n hx hb dX4_endOf_8 rfl (lv_at hl 1 rfl) ?_
  have hi_1 : vp_in x1 60 := hk
  refine va_iald hx hb hK hP 14 0 rfl rfl hi_1 dX4_endOf_9 ?_
  refine lv_iconst (v := 1) hx hb dX4_endOf_10 (by decide) ?_
  refine lv_isub hx hb dX4_endOf_11 ?_
  have hi_2 : vp_in ((shutBy (x1).toNatClampNeg) - 1) 60 := he
  refine va_iald hx hb hK hP 12 0 rfl rfl hi_2 dX4_endOf_12 ?_
  exact W.iret (v := (heads (((shutBy (x1).toNatClampNeg) - 1)).toNatClampNeg)) hx hb hr (fun t ht hW => ⟨⟨(heads (((shutBy (x1).toNatClampNeg) - 1)).toNatClampNeg), (), rfl, hF.symm, pz_hp ht hP⟩, hS.F ht⟩) hS.2.2 dX4_endOf_13 hlocks

-- == X4_isKind
def f_X4_isKind (kind : Nat → Int32) (x1 : Int32) (x2 : Int32) : Int32 := if (kind (x1).toNatClampNeg) = x2 then (1) else (0)
theorem fl_X4_isKind_7 : Cond.fieldLink RX4 7 "BoxProofsModel" "kind" "[I" ∈ wsX4_isKind := by decide +kernel
theorem in_X4_isKind_X4 : ∀ w ∈ wsX40, w ∈ wsX4_isKind := by decide +kernel
set_option maxHeartbeats 4000000 in
set_option maxRecDepth 100000 in
theorem c_X4_isKind (l : Launch) (D : va_G) (q : Nat → Nat) (k : Nat → ClassId) (formulas : Int32) (kind : Nat → Int32) (left : Nat → Int32) (right : Nat → Int32) (height : Nat → Int32) (laid : Nat → Int32) (rules : Nat → Int32) (ps : Nat → Int32) (qs : Nat → Int32) (rs : Nat → Int32) (fs : Nat → Int32) (checked : Int32) (stopped : Int32) (reason : Int32) (made : Int32) (opened : Int32) (ruleThen : Nat → Int32) (heads : Nat → Int32) (boxOf : Nat → Int32) (shutBy : Nat → Int32) (around : Nat → Int32) (inner : Int32) (truth : Nat → Int32) (turned : Nat → Int32) (pile : Nat → Int32) (x1 : Int32) (x2 : Int32) (hk8 : vp_in x1 80) : Met l yX4_isKind wsX4_isKind ({ frames := 0, cells := 0, slots := 0, locals := 0 }) (va_Pc [.ref (q 0), .int (x1), .int (x2)] (fun U => va_P D vwCl (pz_M q k formulas kind left right height laid rules ps qs rs fs checked stopped reason made opened ruleThen heads boxOf shutBy around inner truth turned pile) U.heap ∧ pz_KM D q k U)) (va_Qi (fun r (_ : Unit) => r = (f_X4_isKind kind x1 x2)) (fun _ t => va_P D vwCl (pz_M q k formulas kind left right height laid rules ps qs rs fs checked stopped reason made opened ruleThen heads boxOf shutBy around inner truth turned pile) t.heap) (pz_A 19 q)) 0 0 (pz_A 19 q) := by
  refine Met.ofW (cc := cX4_isKind) (maxL := 3) (ret := (some .boolean)) (by decide) rfl ?_
  intro p e s m args below meth c s₁ B hml hv
  obtain ⟨rfl, hP, hKX⟩ := hv
  have hx := B.exec
  have hb := B.bytes
  have hr := B.returns
  have hts := atoms_spec (ws := wsX4_isKind) B.pre
  have hown : s.vm.findClass RX4 = some m.cls := findClass_of_methodNamed B.named
  have hlocks := B.notSynchronized
  have hC : pz_C p s m ([.ref (q 0), .int (x1), .int (x2)] : List Value).toArray meth c cX4_isKind wsX4_isKind RX4 3 (some .boolean) := ⟨hx, hb, hml, hown, hts, hr, hlocks⟩
  have hK := hKX.1
  have hS : va_S (pz_A 19 q) s.heap s.heap [] := va_S.rf
  have hl := lv_entry [.ref (q 0), .int (x1), .int (x2)] (n := 3) (Nat.le_of_ble_eq_true rfl)
  rw [lg_entry_eq]
  generalize (lg_sl [.ref (q 0), .int (x1), .int (x2)] ++ List.replicate (3 - (lg_sl [.ref (q 0), .int (x1), .int (x2)]).length) Slot.unset).toArray = ls at hl ⊢
  have hl : lv_has ls 3 [(0, .ref (q 0)), (1, .int (x1)), (2, .int (x2))] := hl
  generalize hF : f_X4_isKind kind x1 x2 = G
  replace hF := hF.symm
  unfold f_X4_isKind at hF
  refine lv_aload_n hx hb dX4_isKind_0 rfl (lv_at hl 0 rfl) ?_
  refine va_get (D := D) (ci := 4) (v := .ref (q 1)) (C := RX4) (T := TX4) (N := 25) hx hb hts in_X4_isKind_X4 hown hK hP 0 rfl rfl 1 (by decide) (hts _ fl_X4_isKind_7) (fun _ h9 => h9) rfl dX4_isKind_1 ?_
  refine lv_iload_n hx hb dX4_isKind_4 rfl (lv_at hl 1 rfl) ?_
  have hi_1 : vp_in x1 80 := hk8
  refine va_iald hx hb hK hP 1 0 rfl rfl hi_1 dX4_isKind_5 ?_
  refine lv_iload_n hx hb dX4_isKind_6 rfl (lv_at hl 2 rfl) ?_
  refine lv_icmp_ne (tgt := 14) hx hb dX4_isKind_7 (by decide) (fun c_2 => ?_) (fun c_2 => ?_)
  · have hF := hF.trans (if_neg c_2)
    refine lv_iconst (v := 0) hx hb dX4_isKind_14 (by decide) ?_
    exact W.zret (v := 0) hx hb hr rfl (fun t ht hW => ⟨⟨0, (), rfl, hF.symm, pz_hp ht hP⟩, hS.F ht⟩) hS.2.2 dX4_isKind_15 hlocks
  · have hF := hF.trans (if_pos c_2)
    refine lv_iconst (v := 1) hx hb dX4_isKind_10 (by decide) ?_
    refine lv_goto (tgt := 15) hx hb dX4_isKind_11 (by decide) ?_
    exact W.zret (v := 1) hx hb hr rfl (fun t ht hW => ⟨⟨1, (), rfl, hF.symm, pz_hp ht hP⟩, hS.F ht⟩) hS.2.2 dX4_isKind_15 hlocks

theorem pz_isK {r x v : Int32} {kind : Nat → Int32} (h : r = f_X4_isKind kind x v) (h0 : ¬ r = 0) : kind x.toNatClampNeg = v := by
  rw [h] at h0; unfold f_X4_isKind at h0
  by_cases c : kind x.toNatClampNeg = v
  · exact c
  · rw [if_neg c] at h0; exact absurd rfl h0
theorem pz_isKn {r x : Int32} {kind : Nat → Int32} (h : r = f_X4_isKind kind x 4) (h0 : ¬ r = 0) : (¬ kind x.toNatClampNeg = 0) ∧ ¬ kind x.toNatClampNeg = 1 := by
  rw [pz_isK h h0]; exact ⟨by decide, by decide⟩
theorem pz_bb {rt heads shutBy around : Nat → Int32} {r x : Int32} (hsb : pz_sb rt shutBy) (hx : vp_in x 60) (h : r = f_X4_badBox rt heads shutBy around x) (h0 : r = 0) : vp_in (shutBy x.toNatClampNeg - 1) 60 ∧ rt x.toNatClampNeg = 1 ∧ ¬ shutBy x.toNatClampNeg = -1 ∧ ¬ heads (shutBy x.toNatClampNeg - 1).toNatClampNeg = -1 := by
  rw [h] at h0; unfold f_X4_badBox at h0
  by_cases c1 : rt x.toNatClampNeg = 1
  · rw [if_pos c1] at h0
    by_cases c2 : shutBy x.toNatClampNeg = -1
    · rw [if_pos c2] at h0; exact absurd h0 (by decide)
    · rw [if_neg c2] at h0
      rw [pz_be (x := f_X4_allOpen shutBy around (around x.toNatClampNeg)) rfl] at h0
      by_cases c3 : f_X4_allOpen shutBy around (around x.toNatClampNeg) = 0
      · rw [if_pos c3] at h0; exact absurd h0 (by decide)
      · rw [if_neg c3] at h0
        by_cases c4 : heads (shutBy x.toNatClampNeg - 1).toNatClampNeg = -1
        · rw [if_pos c4] at h0; exact absurd h0 (by decide)
        · exact ⟨pz_sbi hsb hx c1 c2, c1, c2, c4⟩
  · rw [if_neg c1] at h0; exact absurd h0 (by decide)
theorem pz_endv {heads shutBy : Nat → Int32} {r x : Int32} (h : r = f_X4_endOf heads shutBy x) (hv : vp_in (heads (shutBy x.toNatClampNeg - 1).toNatClampNeg) 80) : vp_in r 80 := by rw [h]; exact hv

-- == X4_badNumbers
def F_X4_badNumbers_127 (formulas : Int32) (ps : Nat → Int32) (qs : Nat → Int32) (rs : Nat → Int32) (fs : Nat → Int32) (heads : Nat → Int32) (boxOf : Nat → Int32) (shutBy : Nat → Int32) (around : Nat → Int32) (x1 : Int32) (x2 : Int32) (x3 : Int32) (x4 : Int32) : Int32 := if x3 = 0 then (if x4 = 0 then (x3) else (pz_bnd (f_X4_isFormula formulas (fs (x1).toNatClampNeg)) (fun z_4 => if z_4 = 0 then (1) else (x3)))) else (x3)
def F_X4_badNumbers_97 (formulas : Int32) (ps : Nat → Int32) (qs : Nat → Int32) (rs : Nat → Int32) (fs : Nat → Int32) (heads : Nat → Int32) (boxOf : Nat → Int32) (shutBy : Nat → Int32) (around : Nat → Int32) (x1 : Int32) (x2 : Int32) (x3 : Int32) : Int32 := if x2 < 2 then (F_X4_badNumbers_127 formulas ps qs rs fs heads boxOf shutBy around x1 x2 x3 1) else (if x2 = 7 then (F_X4_badNumbers_127 formulas ps qs rs fs heads boxOf shutBy around x1 x2 x3 1) else (if x2 = 8 then (F_X4_badNumbers_127 formulas ps qs rs fs heads boxOf shutBy around x1 x2 x3 1) else (if x2 = 12 then (F_X4_badNumbers_127 formulas ps qs rs fs heads boxOf shutBy around x1 x2 x3 1) else (F_X4_badNumbers_127 formulas ps qs rs fs heads boxOf shutBy around x1 x2 x3 0))))
def F_X4_badNumbers_74 (formulas : Int32) (ps : Nat → Int32) (qs : Nat → Int32) (rs : Nat → Int32) (fs : Nat → Int32) (heads : Nat → Int32) (boxOf : Nat → Int32) (shutBy : Nat → Int32) (around : Nat → Int32) (x1 : Int32) (x2 : Int32) (x3 : Int32) : Int32 := if x3 = 0 then (if x2 = 9 then (pz_bnd (f_X4_badLine heads boxOf shutBy around x1 (rs (x1).toNatClampNeg) 0) (fun z_13 => F_X4_badNumbers_97 formulas ps qs rs fs heads boxOf shutBy around x1 x2 z_13)) else (F_X4_badNumbers_97 formulas ps qs rs fs heads boxOf shutBy around x1 x2 x3)) else (F_X4_badNumbers_97 formulas ps qs rs fs heads boxOf shutBy around x1 x2 x3)
def F_X4_badNumbers_30 (formulas : Int32) (ps : Nat → Int32) (qs : Nat → Int32) (rs : Nat → Int32) (fs : Nat → Int32) (heads : Nat → Int32) (boxOf : Nat → Int32) (shutBy : Nat → Int32) (around : Nat → Int32) (x1 : Int32) (x2 : Int32) (x3 : Int32) : Int32 := if x3 = 0 then (if x2 = 4 then (if x2 = 9 then (pz_bnd (f_X4_badLine heads boxOf shutBy around x1 (qs (x1).toNatClampNeg) 0) (fun z_18 => F_X4_badNumbers_74 formulas ps qs rs fs heads boxOf shutBy around x1 x2 z_18)) else (pz_bnd (f_X4_badLine heads boxOf shutBy around x1 (qs (x1).toNatClampNeg) 1) (fun z_19 => F_X4_badNumbers_74 formulas ps qs rs fs heads boxOf shutBy around x1 x2 z_19))) else (if x2 = 9 then (if x2 = 9 then (pz_bnd (f_X4_badLine heads boxOf shutBy around x1 (qs (x1).toNatClampNeg) 0) (fun z_23 => F_X4_badNumbers_74 formulas ps qs rs fs heads boxOf shutBy around x1 x2 z_23)) else (pz_bnd (f_X4_badLine heads boxOf shutBy around x1 (qs (x1).toNatClampNeg) 1) (fun z_24 => F_X4_badNumbers_74 formulas ps qs rs fs heads boxOf shutBy around x1 x2 z_24))) else (if x2 = 11 then (if x2 = 9 then (pz_bnd (f_X4_badLine heads boxOf shutBy around x1 (qs (x1).toNatClampNeg) 0) (fun z_28 => F_X4_badNumbers_74 formulas ps qs rs fs heads boxOf shutBy around x1 x2 z_28)) else (pz_bnd (f_X4_badLine heads boxOf shutBy around x1 (qs (x1).toNatClampNeg) 1) (fun z_29 => F_X4_badNumbers_74 formulas ps qs rs fs heads boxOf shutBy around x1 x2 z_29))) else (F_X4_badNumbers_74 formulas ps qs rs fs heads boxOf shutBy around x1 x2 x3)))) else (F_X4_badNumbers_74 formulas ps qs rs fs heads boxOf shutBy around x1 x2 x3)
def f_X4_badNumbers (formulas : Int32) (ps : Nat → Int32) (qs : Nat → Int32) (rs : Nat → Int32) (fs : Nat → Int32) (heads : Nat → Int32) (boxOf : Nat → Int32) (shutBy : Nat → Int32) (around : Nat → Int32) (x1 : Int32) (x2 : Int32) : Int32 := if x2 ≤ 2 then (F_X4_badNumbers_30 formulas ps qs rs fs heads boxOf shutBy around x1 x2 0) else (if x2 = 10 then (pz_bnd (f_X4_badLine heads boxOf shutBy around x1 (ps (x1).toNatClampNeg) 0) (fun z_33 => F_X4_badNumbers_30 formulas ps qs rs fs heads boxOf shutBy around x1 x2 z_33)) else (pz_bnd (f_X4_badLine heads boxOf shutBy around x1 (ps (x1).toNatClampNeg) 1) (fun z_34 => F_X4_badNumbers_30 formulas ps qs rs fs heads boxOf shutBy around x1 x2 z_34)))
theorem fl_X4_badNumbers_29 : Cond.fieldLink RX4 29 "BoxProofsModel" "ps" "[I" ∈ wsX4_badNumbers := by decide +kernel
theorem fl_X4_badNumbers_32 : Cond.fieldLink RX4 32 "BoxProofsModel" "qs" "[I" ∈ wsX4_badNumbers := by decide +kernel
theorem fl_X4_badNumbers_35 : Cond.fieldLink RX4 35 "BoxProofsModel" "rs" "[I" ∈ wsX4_badNumbers := by decide +kernel
theorem fl_X4_badNumbers_38 : Cond.fieldLink RX4 38 "BoxProofsModel" "fs" "[I" ∈ wsX4_badNumbers := by decide +kernel
theorem hdV_X4_badLine : yX4_badLine.cls = RX4 ∧ yX4_badLine.cls ≠ "java/lang/invoke/MethodHandle" ∧ yX4_badLine.cls ≠ "java/lang/invoke/VarHandle" ∧ (parseMethodDescriptor yX4_badLine.desc).map (fun d => d.parameters.length) = some 3 := by decide +kernel
theorem in_X4_badNumbers_X4 : ∀ w ∈ wsX40, w ∈ wsX4_badNumbers := by decide +kernel
set_option maxHeartbeats 4000000 in
set_option maxRecDepth 100000 in
theorem k_X4_badNumbers_127 {p : Program} {l : Launch} {e : Env} {s : State} {m : MethodId} {args : Array Value} {below : List Frame} {meth : Method} {c : Code} {D : va_G} {q : Nat → Nat} {k : Nat → ClassId} (hC : pz_C p s m args meth c cX4_badNumbers wsX4_badNumbers RX4 5 (some .int)) (hKX : pz_KM D q k s) (formulas : Int32) (kind : Nat → Int32) (left : Nat → Int32) (right : Nat → Int32) (height : Nat → Int32) (laid : Nat → Int32) (rules : Nat → Int32) (ps : Nat → Int32) (qs : Nat → Int32) (rs : Nat → Int32) (fs : Nat → Int32) (checked : Int32) (stopped : Int32) (reason : Int32) (made : Int32) (opened : Int32) (ruleThen : Nat → Int32) (heads : Nat → Int32) (boxOf : Nat → Int32) (shutBy : Nat → Int32) (around : Nat → Int32) (inner : Int32) (truth : Nat → Int32) (turned : Nat → Int32) (pile : Nat → Int32) {G : Int32} :
    ∀ (x1 : Int32) (x2 : Int32) (x3 : Int32) (x4 : Int32)  (hk : vp_in x1 60) (har : pz_ar ruleThen around) (hhd : pz_hd formulas ruleThen heads boxOf) (H : Heap) (locs : List Loc) (ls : Array Slot), G = F_X4_badNumbers_127 formulas ps qs rs fs heads boxOf shutBy around x1 x2 x3 x4 → va_P D vwCl (pz_M q k formulas kind left right height laid rules ps qs rs fs checked stopped reason made opened ruleThen heads boxOf shutBy around inner truth turned pile) H → va_S (pz_A 19 q) s.heap H locs → lv_has ls 5 [(0, .ref (q 0)), (1, .int (x1)), (2, .int (x2)), (3, .int (x3)), (4, .int (x4))] → W p l e (headSpec wsX4_badNumbers { frames := 3, cells := 0, slots := 0, locals := 66 }).room s m args below meth c H locs 0 0 (MQ below (va_Qi (fun r (_ : Unit) => r = G) (fun _ t => va_P D vwCl (pz_M q k formulas kind left right height laid rules ps qs rs fs checked stopped reason made opened ruleThen heads boxOf shutBy around inner truth turned pile) t.heap) (pz_A 19 q)) args s 0 0 (pz_A 19 q)) (F0 m 127 ls []) := by
  obtain ⟨hx, hb, hml, hown, hts, hr, hlocks⟩ := hC
  have hC : pz_C p s m args meth c cX4_badNumbers wsX4_badNumbers RX4 5 (some .int) := ⟨hx, hb, hml, hown, hts, hr, hlocks⟩
  have hK := hKX.1
  intro x1 x2 x3 x4 hk har hhd H locs ls hF hP hS hl
  unfold F_X4_badNumbers_127 at hF
  refine lv_iload_n hx hb dX4_badNumbers_127 rfl (lv_at hl 3 rfl) ?_
  refine lv_if_ne (tgt := 153) hx hb dX4_badNumbers_128 (by decide) (fun c_1 => ?_) (fun c_1 => ?_)
  · have hF := hF.trans (if_neg c_1)
    refine lv_iload_n hx hb dX4_badNumbers_153 rfl (lv_at hl 3 rfl) ?_
    exact W.iret (v := x3) hx hb hr (fun t ht hW => ⟨⟨x3, (), rfl, hF.symm, pz_hp ht hP⟩, hS.F ht⟩) hS.2.2 dX4_badNumbers_154 hlocks
  · have hF := hF.trans (if_pos c_1)
    refine lv_iload hx hb dX4_badNumbers_131 (lv_at hl 4 rfl) ?_
    refine lv_if_eq (tgt := 153) hx hb dX4_badNumbers_133 (by decide) (fun c_2 => ?_) (fun c_2 => ?_)
    · have hF := hF.trans (if_pos c_2)
      refine lv_iload_n hx hb dX4_badNumbers_153 rfl (lv_at hl 3 rfl) ?_
      exact W.iret (v := x3) hx hb hr (fun t ht hW => ⟨⟨x3, (), rfl, hF.symm, pz_hp ht hP⟩, hS.F ht⟩) hS.2.2 dX4_badNumbers_154 hlocks
    · have hF := hF.trans (if_neg c_2)
      refine lv_aload_n hx hb dX4_badNumbers_136 rfl (lv_at hl 0 rfl) ?_
      refine lv_aload_n hx hb dX4_badNumbers_137 rfl (lv_at hl 0 rfl) ?_
      refine va_get (D := D) (ci := 4) (v := .ref (q 10)) (C := RX4) (T := TX4) (N := 25) hx hb hts in_X4_badNumbers_X4 hown hK hP 0 rfl rfl 10 (by decide) (hts _ fl_X4_badNumbers_38) (fun _ h9 => h9) rfl dX4_badNumbers_138 ?_
      refine lv_iload_n hx hb dX4_badNumbers_141 rfl (lv_at hl 1 rfl) ?_
      have hi_3 : vp_in x1 60 := hk
      refine va_iald hx hb hK hP 10 0 rfl rfl hi_3 dX4_badNumbers_142 ?_
      refine pz_Vi (As := [.int ((fs (x1).toNatClampNeg))]) (rest := []) ⟨hx, hb, hml, hown, hts⟩ (c_X4_isFormula l D q k formulas kind left right height laid rules ps qs rs fs checked stopped reason made opened ruleThen heads boxOf shutBy around inner truth turned pile (fs (x1).toNatClampNeg)) (cwV 1 hts gX4_badNumbers_X4_isFormula rfl rfl rfl hdV_X4_isFormula ⟨Nat.le_of_ble_eq_true rfl, Nat.le_of_ble_eq_true rfl⟩) pz_KM.call hKX.go (va_recv hK hP (ci := 4) (q0 := 0) rfl rfl) hP hS rfl hl.1 rfl (Nat.le_of_ble_eq_true rfl) dX4_badNumbers_143 ⟨Nat.zero_le _, Nat.zero_le _⟩ (fun r_4 u_4 H locs hF_4 hP hS => ?_)
      have hF := hF.trans (pz_be hF_4)
      refine lv_if_ne (tgt := 153) hx hb dX4_badNumbers_146 (by decide) (fun c_5 => ?_) (fun c_5 => ?_)
      · have hF := hF.trans (if_neg c_5)
        refine lv_iload_n hx hb dX4_badNumbers_153 rfl (lv_at hl 3 rfl) ?_
        exact W.iret (v := x3) hx hb hr (fun t ht hW => ⟨⟨x3, (), rfl, hF.symm, pz_hp ht hP⟩, hS.F ht⟩) hS.2.2 dX4_badNumbers_154 hlocks
      · have hF := hF.trans (if_pos c_5)
        refine lv_iconst (v := 1) hx hb dX4_badNumbers_149 (by decide) ?_
        refine lv_goto (tgt := 154) hx hb dX4_badNumbers_150 (by decide) ?_
        exact W.iret (v := 1) hx hb hr (fun t ht hW => ⟨⟨1, (), rfl, hF.symm, pz_hp ht hP⟩, hS.F ht⟩) hS.2.2 dX4_badNumbers_154 hlocks
set_option maxHeartbeats 4000000 in
set_option maxRecDepth 100000 in
theorem k_X4_badNumbers_97 {p : Program} {l : Launch} {e : Env} {s : State} {m : MethodId} {args : Array Value} {below : List Frame} {meth : Method} {c : Code} {D : va_G} {q : Nat → Nat} {k : Nat → ClassId} (hC : pz_C p s m args meth c cX4_badNumbers wsX4_badNumbers RX4 5 (some .int)) (hKX : pz_KM D q k s) (formulas : Int32) (kind : Nat → Int32) (left : Nat → Int32) (right : Nat → Int32) (height : Nat → Int32) (laid : Nat → Int32) (rules : Nat → Int32) (ps : Nat → Int32) (qs : Nat → Int32) (rs : Nat → Int32) (fs : Nat → Int32) (checked : Int32) (stopped : Int32) (reason : Int32) (made : Int32) (opened : Int32) (ruleThen : Nat → Int32) (heads : Nat → Int32) (boxOf : Nat → Int32) (shutBy : Nat → Int32) (around : Nat → Int32) (inner : Int32) (truth : Nat → Int32) (turned : Nat → Int32) (pile : Nat → Int32) {G : Int32} :
    ∀ (x1 : Int32) (x2 : Int32) (x3 : Int32)  (hk : vp_in x1 60) (har : pz_ar ruleThen around) (hhd : pz_hd formulas ruleThen heads boxOf) (H : Heap) (locs : List Loc) (ls : Array Slot), G = F_X4_badNumbers_97 formulas ps qs rs fs heads boxOf shutBy around x1 x2 x3 → va_P D vwCl (pz_M q k formulas kind left right height laid rules ps qs rs fs checked stopped reason made opened ruleThen heads boxOf shutBy around inner truth turned pile) H → va_S (pz_A 19 q) s.heap H locs → lv_has ls 5 [(0, .ref (q 0)), (1, .int (x1)), (2, .int (x2)), (3, .int (x3))] → W p l e (headSpec wsX4_badNumbers { frames := 3, cells := 0, slots := 0, locals := 66 }).room s m args below meth c H locs 0 0 (MQ below (va_Qi (fun r (_ : Unit) => r = G) (fun _ t => va_P D vwCl (pz_M q k formulas kind left right height laid rules ps qs rs fs checked stopped reason made opened ruleThen heads boxOf shutBy around inner truth turned pile) t.heap) (pz_A 19 q)) args s 0 0 (pz_A 19 q)) (F0 m 97 ls []) := by
  obtain ⟨hx, hb, hml, hown, hts, hr, hlocks⟩ := hC
  have hC : pz_C p s m args meth c cX4_badNumbers wsX4_badNumbers RX4 5 (some .int) := ⟨hx, hb, hml, hown, hts, hr, hlocks⟩
  have hK := hKX.1
  intro x1 x2 x3 hk har hhd H locs ls hF hP hS hl
  unfold F_X4_badNumbers_97 at hF
  refine lv_iload_n hx hb dX4_badNumbers_97 rfl (lv_at hl 2 rfl) ?_
  refine lv_iconst (v := 2) hx hb dX4_badNumbers_98 (by decide) ?_
  refine lv_icmp_lt (tgt := 120) hx hb dX4_badNumbers_99 (by decide) (fun c_6 => ?_) (fun c_6 => ?_)
  · have hF := hF.trans (if_pos c_6)
    refine lv_iconst (v := 1) hx hb dX4_badNumbers_120 (by decide) ?_
    refine lv_goto (tgt := 125) hx hb dX4_badNumbers_121 (by decide) ?_
    refine lv_istore (lv' := [(4, .int (1)), (0, .ref (q 0)), (1, .int (x1)), (2, .int (x2)), (3, .int (x3))]) hx hb dX4_badNumbers_125 hl (by decide) rfl (fun ls hl => ?_)
    exact k_X4_badNumbers_127 hC hKX formulas kind left right height laid rules ps qs rs fs checked stopped reason made opened ruleThen heads boxOf shutBy around inner truth turned pile x1 x2 x3 1 hk har hhd _ _ _ hF hP hS (lv_sub hl [1, 2, 3, 4, 0] rfl)
  · have hF := hF.trans (if_neg c_6)
    refine lv_iload_n hx hb dX4_badNumbers_102 rfl (lv_at hl 2 rfl) ?_
    refine lv_bipush (v := 7) hx hb dX4_badNumbers_103 (by decide) ?_
    refine lv_icmp_eq (tgt := 120) hx hb dX4_badNumbers_105 (by decide) (fun c_7 => ?_) (fun c_7 => ?_)
    · have hF := hF.trans (if_pos c_7)
      refine lv_iconst (v := 1) hx hb dX4_badNumbers_120 (by decide) ?_
      refine lv_goto (tgt := 125) hx hb dX4_badNumbers_121 (by decide) ?_
      refine lv_istore (lv' := [(4, .int (1)), (0, .ref (q 0)), (1, .int (x1)), (2, .int (x2)), (3, .int (x3))]) hx hb dX4_badNumbers_125 hl (by decide) rfl (fun ls hl => ?_)
      exact k_X4_badNumbers_127 hC hKX formulas kind left right height laid rules ps qs rs fs checked stopped reason made opened ruleThen heads boxOf shutBy around inner truth turned pile x1 x2 x3 1 hk har hhd _ _ _ hF hP hS (lv_sub hl [1, 2, 3, 4, 0] rfl)
    · have hF := hF.trans (if_neg c_7)
      refine lv_iload_n hx hb dX4_badNumbers_108 rfl (lv_at hl 2 rfl) ?_
      refine lv_bipush (v := 8) hx hb dX4_badNumbers_109 (by decide) ?_
      refine lv_icmp_eq (tgt := 120) hx hb dX4_badNumbers_111 (by decide) (fun c_8 => ?_) (fun c_8 => ?_)
      · have hF := hF.trans (if_pos c_8)
        refine lv_iconst (v := 1) hx hb dX4_badNumbers_120 (by decide) ?_
        refine lv_goto (tgt := 125) hx hb dX4_badNumbers_121 (by decide) ?_
        refine lv_istore (lv' := [(4, .int (1)), (0, .ref (q 0)), (1, .int (x1)), (2, .int (x2)), (3, .int (x3))]) hx hb dX4_badNumbers_125 hl (by decide) rfl (fun ls hl => ?_)
        exact k_X4_badNumbers_127 hC hKX formulas kind left right height laid rules ps qs rs fs checked stopped reason made opened ruleThen heads boxOf shutBy around inner truth turned pile x1 x2 x3 1 hk har hhd _ _ _ hF hP hS (lv_sub hl [1, 2, 3, 4, 0] rfl)
      · have hF := hF.trans (if_neg c_8)
        refine lv_iload_n hx hb dX4_badNumbers_114 rfl (lv_at hl 2 rfl) ?_
        refine lv_bipush (v := 12) hx hb dX4_badNumbers_115 (by decide) ?_
        refine lv_icmp_ne (tgt := 124) hx hb dX4_badNumbers_117 (by decide) (fun c_9 => ?_) (fun c_9 => ?_)
        · have hF := hF.trans (if_neg c_9)
          refine lv_iconst (v := 0) hx hb dX4_badNumbers_124 (by decide) ?_
          refine lv_istore (lv' := [(4, .int (0)), (0, .ref (q 0)), (1, .int (x1)), (2, .int (x2)), (3, .int (x3))]) hx hb dX4_badNumbers_125 hl (by decide) rfl (fun ls hl => ?_)
          exact k_X4_badNumbers_127 hC hKX formulas kind left right height laid rules ps qs rs fs checked stopped reason made opened ruleThen heads boxOf shutBy around inner truth turned pile x1 x2 x3 0 hk har hhd _ _ _ hF hP hS (lv_sub hl [1, 2, 3, 4, 0] rfl)
        · have hF := hF.trans (if_pos c_9)
          refine lv_iconst (v := 1) hx hb dX4_badNumbers_120 (by decide) ?_
          refine lv_goto (tgt := 125) hx hb dX4_badNumbers_121 (by decide) ?_
          refine lv_istore (lv' := [(4, .int (1)), (0, .ref (q 0)), (1, .int (x1)), (2, .int (x2)), (3, .int (x3))]) hx hb dX4_badNumbers_125 hl (by decide) rfl (fun ls hl => ?_)
          exact k_X4_badNumbers_127 hC hKX formulas kind left right height laid rules ps qs rs fs checked stopped reason made opened ruleThen heads boxOf shutBy around inner truth turned pile x1 x2 x3 1 hk har hhd _ _ _ hF hP hS (lv_sub hl [1, 2, 3, 4, 0] rfl)
set_option maxHeartbeats 4000000 in
set_option maxRecDepth 100000 in
theorem k_X4_badNumbers_74 {p : Program} {l : Launch} {e : Env} {s : State} {m : MethodId} {args : Array Value} {below : List Frame} {meth : Method} {c : Code} {D : va_G} {q : Nat → Nat} {k : Nat → ClassId} (hC : pz_C p s m args meth c cX4_badNumbers wsX4_badNumbers RX4 5 (some .int)) (hKX : pz_KM D q k s) (formulas : Int32) (kind : Nat → Int32) (left : Nat → Int32) (right : Nat → Int32) (height : Nat → Int32) (laid : Nat → Int32) (rules : Nat → Int32) (ps : Nat → Int32) (qs : Nat → Int32) (rs : Nat → Int32) (fs : Nat → Int32) (checked : Int32) (stopped : Int32) (reason : Int32) (made : Int32) (opened : Int32) (ruleThen : Nat → Int32) (heads : Nat → Int32) (boxOf : Nat → Int32) (shutBy : Nat → Int32) (around : Nat → Int32) (inner : Int32) (truth : Nat → Int32) (turned : Nat → Int32) (pile : Nat → Int32) {G : Int32} :
    ∀ (x1 : Int32) (x2 : Int32) (x3 : Int32)  (hk : vp_in x1 60) (har : pz_ar ruleThen around) (hhd : pz_hd formulas ruleThen heads boxOf) (H : Heap) (locs : List Loc) (ls : Array Slot), G = F_X4_badNumbers_74 formulas ps qs rs fs heads boxOf shutBy around x1 x2 x3 → va_P D vwCl (pz_M q k formulas kind left right height laid rules ps qs rs fs checked stopped reason made opened ruleThen heads boxOf shutBy around inner truth turned pile) H → va_S (pz_A 19 q) s.heap H locs → lv_has ls 5 [(0, .ref (q 0)), (1, .int (x1)), (2, .int (x2)), (3, .int (x3))] → W p l e (headSpec wsX4_badNumbers { frames := 3, cells := 0, slots := 0, locals := 66 }).room s m args below meth c H locs 0 0 (MQ below (va_Qi (fun r (_ : Unit) => r = G) (fun _ t => va_P D vwCl (pz_M q k formulas kind left right height laid rules ps qs rs fs checked stopped reason made opened ruleThen heads boxOf shutBy around inner truth turned pile) t.heap) (pz_A 19 q)) args s 0 0 (pz_A 19 q)) (F0 m 74 ls []) := by
  obtain ⟨hx, hb, hml, hown, hts, hr, hlocks⟩ := hC
  have hC : pz_C p s m args meth c cX4_badNumbers wsX4_badNumbers RX4 5 (some .int) := ⟨hx, hb, hml, hown, hts, hr, hlocks⟩
  have hK := hKX.1
  intro x1 x2 x3 hk har hhd H locs ls hF hP hS hl
  unfold F_X4_badNumbers_74 at hF
  refine lv_iload_n hx hb dX4_badNumbers_74 rfl (lv_at hl 3 rfl) ?_
  refine lv_if_ne (tgt := 97) hx hb dX4_badNumbers_75 (by decide) (fun c_10 => ?_) (fun c_10 => ?_)
  · have hF := hF.trans (if_neg c_10)
    exact k_X4_badNumbers_97 hC hKX formulas kind left right height laid rules ps qs rs fs checked stopped reason made opened ruleThen heads boxOf shutBy around inner truth turned pile x1 x2 x3 hk har hhd _ _ _ hF hP hS (lv_sub hl [0, 1, 2, 3] rfl)
  · have hF := hF.trans (if_pos c_10)
    refine lv_iload_n hx hb dX4_badNumbers_78 rfl (lv_at hl 2 rfl) ?_
    refine lv_bipush (v := 9) hx hb dX4_badNumbers_79 (by decide) ?_
    refine lv_icmp_ne (tgt := 97) hx hb dX4_badNumbers_81 (by decide) (fun c_11 => ?_) (fun c_11 => ?_)
    · have hF := hF.trans (if_neg c_11)
      exact k_X4_badNumbers_97 hC hKX formulas kind left right height laid rules ps qs rs fs checked stopped reason made opened ruleThen heads boxOf shutBy around inner truth turned pile x1 x2 x3 hk har hhd _ _ _ hF hP hS (lv_sub hl [0, 1, 2, 3] rfl)
    · have hF := hF.trans (if_pos c_11)
      refine lv_aload_n hx hb dX4_badNumbers_84 rfl (lv_at hl 0 rfl) ?_
      refine lv_iload_n hx hb dX4_badNumbers_85 rfl (lv_at hl 1 rfl) ?_
      refine lv_aload_n hx hb dX4_badNumbers_86 rfl (lv_at hl 0 rfl) ?_
      refine va_get (D := D) (ci := 4) (v := .ref (q 9)) (C := RX4) (T := TX4) (N := 25) hx hb hts in_X4_badNumbers_X4 hown hK hP 0 rfl rfl 9 (by decide) (hts _ fl_X4_badNumbers_35) (fun _ h9 => h9) rfl dX4_badNumbers_87 ?_
      refine lv_iload_n hx hb dX4_badNumbers_90 rfl (lv_at hl 1 rfl) ?_
      have hi_12 : vp_in x1 60 := hk
      refine va_iald hx hb hK hP 9 0 rfl rfl hi_12 dX4_badNumbers_91 ?_
      refine lv_iconst (v := 0) hx hb dX4_badNumbers_92 (by decide) ?_
      refine pz_Vi (As := [.int (x1), .int ((rs (x1).toNatClampNeg)), .int (0)]) (rest := []) ⟨hx, hb, hml, hown, hts⟩ (c_X4_badLine l D q k formulas kind left right height laid rules ps qs rs fs checked stopped reason made opened ruleThen heads boxOf shutBy around inner truth turned pile x1 (rs (x1).toNatClampNeg) 0 har hhd) (cwV 3 hts gX4_badNumbers_X4_badLine rfl rfl rfl hdV_X4_badLine ⟨Nat.le_of_ble_eq_true rfl, Nat.le_of_ble_eq_true rfl⟩) pz_KM.call hKX.go (va_recv hK hP (ci := 4) (q0 := 0) rfl rfl) hP hS rfl hl.1 rfl (Nat.le_of_ble_eq_true rfl) dX4_badNumbers_93 ⟨Nat.zero_le _, Nat.zero_le _⟩ (fun r_13 u_13 H locs hF_13 hP hS => ?_)
      have hF := hF.trans (pz_be hF_13)
      refine lv_istore_n (lv' := [(3, .int (r_13)), (0, .ref (q 0)), (1, .int (x1)), (2, .int (x2))]) hx hb dX4_badNumbers_96 rfl hl (by decide) rfl (fun ls hl => ?_)
      exact k_X4_badNumbers_97 hC hKX formulas kind left right height laid rules ps qs rs fs checked stopped reason made opened ruleThen heads boxOf shutBy around inner truth turned pile x1 x2 r_13 hk har hhd _ _ _ hF hP hS (lv_sub hl [1, 2, 3, 0] rfl)
set_option maxHeartbeats 4000000 in
set_option maxRecDepth 100000 in
theorem k_X4_badNumbers_30 {p : Program} {l : Launch} {e : Env} {s : State} {m : MethodId} {args : Array Value} {below : List Frame} {meth : Method} {c : Code} {D : va_G} {q : Nat → Nat} {k : Nat → ClassId} (hC : pz_C p s m args meth c cX4_badNumbers wsX4_badNumbers RX4 5 (some .int)) (hKX : pz_KM D q k s) (formulas : Int32) (kind : Nat → Int32) (left : Nat → Int32) (right : Nat → Int32) (height : Nat → Int32) (laid : Nat → Int32) (rules : Nat → Int32) (ps : Nat → Int32) (qs : Nat → Int32) (rs : Nat → Int32) (fs : Nat → Int32) (checked : Int32) (stopped : Int32) (reason : Int32) (made : Int32) (opened : Int32) (ruleThen : Nat → Int32) (heads : Nat → Int32) (boxOf : Nat → Int32) (shutBy : Nat → Int32) (around : Nat → Int32) (inner : Int32) (truth : Nat → Int32) (turned : Nat → Int32) (pile : Nat → Int32) {G : Int32} :
    ∀ (x1 : Int32) (x2 : Int32) (x3 : Int32)  (hk : vp_in x1 60) (har : pz_ar ruleThen around) (hhd : pz_hd formulas ruleThen heads boxOf) (H : Heap) (locs : List Loc) (ls : Array Slot), G = F_X4_badNumbers_30 formulas ps qs rs fs heads boxOf shutBy around x1 x2 x3 → va_P D vwCl (pz_M q k formulas kind left right height laid rules ps qs rs fs checked stopped reason made opened ruleThen heads boxOf shutBy around inner truth turned pile) H → va_S (pz_A 19 q) s.heap H locs → lv_has ls 5 [(0, .ref (q 0)), (1, .int (x1)), (2, .int (x2)), (3, .int (x3))] → W p l e (headSpec wsX4_badNumbers { frames := 3, cells := 0, slots := 0, locals := 66 }).room s m args below meth c H locs 0 0 (MQ below (va_Qi (fun r (_ : Unit) => r = G) (fun _ t => va_P D vwCl (pz_M q k formulas kind left right height laid rules ps qs rs fs checked stopped reason made opened ruleThen heads boxOf shutBy around inner truth turned pile) t.heap) (pz_A 19 q)) args s 0 0 (pz_A 19 q)) (F0 m 30 ls []) := by
  obtain ⟨hx, hb, hml, hown, hts, hr, hlocks⟩ := hC
  have hC : pz_C p s m args meth c cX4_badNumbers wsX4_badNumbers RX4 5 (some .int) := ⟨hx, hb, hml, hown, hts, hr, hlocks⟩
  have hK := hKX.1
  intro x1 x2 x3 hk har hhd H locs ls hF hP hS hl
  unfold F_X4_badNumbers_30 at hF
  refine lv_iload_n hx hb dX4_badNumbers_30 rfl (lv_at hl 3 rfl) ?_
  refine lv_if_ne (tgt := 74) hx hb dX4_badNumbers_31 (by decide) (fun c_14 => ?_) (fun c_14 => ?_)
  · have hF := hF.trans (if_neg c_14)
    exact k_X4_badNumbers_74 hC hKX formulas kind left right height laid rules ps qs rs fs checked stopped reason made opened ruleThen heads boxOf shutBy around inner truth turned pile x1 x2 x3 hk har hhd _ _ _ hF hP hS (lv_sub hl [0, 1, 2, 3] rfl)
  · have hF := hF.trans (if_pos c_14)
    refine lv_iload_n hx hb dX4_badNumbers_34 rfl (lv_at hl 2 rfl) ?_
    refine lv_iconst (v := 4) hx hb dX4_badNumbers_35 (by decide) ?_
    refine lv_icmp_eq (tgt := 51) hx hb dX4_badNumbers_36 (by decide) (fun c_15 => ?_) (fun c_15 => ?_)
    · have hF := hF.trans (if_pos c_15)
      refine lv_aload_n hx hb dX4_badNumbers_51 rfl (lv_at hl 0 rfl) ?_
      refine lv_iload_n hx hb dX4_badNumbers_52 rfl (lv_at hl 1 rfl) ?_
      refine lv_aload_n hx hb dX4_badNumbers_53 rfl (lv_at hl 0 rfl) ?_
      refine va_get (D := D) (ci := 4) (v := .ref (q 8)) (C := RX4) (T := TX4) (N := 25) hx hb hts in_X4_badNumbers_X4 hown hK hP 0 rfl rfl 8 (by decide) (hts _ fl_X4_badNumbers_32) (fun _ h9 => h9) rfl dX4_badNumbers_54 ?_
      refine lv_iload_n hx hb dX4_badNumbers_57 rfl (lv_at hl 1 rfl) ?_
      have hi_16 : vp_in x1 60 := hk
      refine va_iald hx hb hK hP 8 0 rfl rfl hi_16 dX4_badNumbers_58 ?_
      refine lv_iload_n hx hb dX4_badNumbers_59 rfl (lv_at hl 2 rfl) ?_
      refine lv_bipush (v := 9) hx hb dX4_badNumbers_60 (by decide) ?_
      refine lv_icmp_eq (tgt := 69) hx hb dX4_badNumbers_62 (by decide) (fun c_17 => ?_) (fun c_17 => ?_)
      · have hF := hF.trans (if_pos c_17)
        refine lv_iconst (v := 0) hx hb dX4_badNumbers_69 (by decide) ?_
        refine pz_Vi (As := [.int (x1), .int ((qs (x1).toNatClampNeg)), .int (0)]) (rest := []) ⟨hx, hb, hml, hown, hts⟩ (c_X4_badLine l D q k formulas kind left right height laid rules ps qs rs fs checked stopped reason made opened ruleThen heads boxOf shutBy around inner truth turned pile x1 (qs (x1).toNatClampNeg) 0 har hhd) (cwV 3 hts gX4_badNumbers_X4_badLine rfl rfl rfl hdV_X4_badLine ⟨Nat.le_of_ble_eq_true rfl, Nat.le_of_ble_eq_true rfl⟩) pz_KM.call hKX.go (va_recv hK hP (ci := 4) (q0 := 0) rfl rfl) hP hS rfl hl.1 rfl (Nat.le_of_ble_eq_true rfl) dX4_badNumbers_70 ⟨Nat.zero_le _, Nat.zero_le _⟩ (fun r_18 u_18 H locs hF_18 hP hS => ?_)
        have hF := hF.trans (pz_be hF_18)
        refine lv_istore_n (lv' := [(3, .int (r_18)), (0, .ref (q 0)), (1, .int (x1)), (2, .int (x2))]) hx hb dX4_badNumbers_73 rfl hl (by decide) rfl (fun ls hl => ?_)
        exact k_X4_badNumbers_74 hC hKX formulas kind left right height laid rules ps qs rs fs checked stopped reason made opened ruleThen heads boxOf shutBy around inner truth turned pile x1 x2 r_18 hk har hhd _ _ _ hF hP hS (lv_sub hl [1, 2, 3, 0] rfl)
      · have hF := hF.trans (if_neg c_17)
        refine lv_iconst (v := 1) hx hb dX4_badNumbers_65 (by decide) ?_
        refine lv_goto (tgt := 70) hx hb dX4_badNumbers_66 (by decide) ?_
        refine pz_Vi (As := [.int (x1), .int ((qs (x1).toNatClampNeg)), .int (1)]) (rest := []) ⟨hx, hb, hml, hown, hts⟩ (c_X4_badLine l D q k formulas kind left right height laid rules ps qs rs fs checked stopped reason made opened ruleThen heads boxOf shutBy around inner truth turned pile x1 (qs (x1).toNatClampNeg) 1 har hhd) (cwV 3 hts gX4_badNumbers_X4_badLine rfl rfl rfl hdV_X4_badLine ⟨Nat.le_of_ble_eq_true rfl, Nat.le_of_ble_eq_true rfl⟩) pz_KM.call hKX.go (va_recv hK hP (ci := 4) (q0 := 0) rfl rfl) hP hS rfl hl.1 rfl (Nat.le_of_ble_eq_true rfl) dX4_badNumbers_70 ⟨Nat.zero_le _, Nat.zero_le _⟩ (fun r_19 u_19 H locs hF_19 hP hS => ?_)
        have hF := hF.trans (pz_be hF_19)
        refine lv_istore_n (lv' := [(3, .int (r_19)), (0, .ref (q 0)), (1, .int (x1)), (2, .int (x2))]) hx hb dX4_badNumbers_73 rfl hl (by decide) rfl (fun ls hl => ?_)
        exact k_X4_badNumbers_74 hC hKX formulas kind left right height laid rules ps qs rs fs checked stopped reason made opened ruleThen heads boxOf shutBy around inner truth turned pile x1 x2 r_19 hk har hhd _ _ _ hF hP hS (lv_sub hl [1, 2, 3, 0] rfl)
    · have hF := hF.trans (if_neg c_15)
      refine lv_iload_n hx hb dX4_badNumbers_39 rfl (lv_at hl 2 rfl) ?_
      refine lv_bipush (v := 9) hx hb dX4_badNumbers_40 (by decide) ?_
      refine lv_icmp_eq (tgt := 51) hx hb dX4_badNumbers_42 (by decide) (fun c_20 => ?_) (fun c_20 => ?_)
      · have hF := hF.trans (if_pos c_20)
        refine lv_aload_n hx hb dX4_badNumbers_51 rfl (lv_at hl 0 rfl) ?_
        refine lv_iload_n hx hb dX4_badNumbers_52 rfl (lv_at hl 1 rfl) ?_
        refine lv_aload_n hx hb dX4_badNumbers_53 rfl (lv_at hl 0 rfl) ?_
        refine va_get (D := D) (ci := 4) (v := .ref (q 8)) (C := RX4) (T := TX4) (N := 25) hx hb hts in_X4_badNumbers_X4 hown hK hP 0 rfl rfl 8 (by decide) (hts _ fl_X4_badNumbers_32) (fun _ h9 => h9) rfl dX4_badNumbers_54 ?_
        refine lv_iload_n hx hb dX4_badNumbers_57 rfl (lv_at hl 1 rfl) ?_
        have hi_21 : vp_in x1 60 := hk
        refine va_iald hx hb hK hP 8 0 rfl rfl hi_21 dX4_badNumbers_58 ?_
        refine lv_iload_n hx hb dX4_badNumbers_59 rfl (lv_at hl 2 rfl) ?_
        refine lv_bipush (v := 9) hx hb dX4_badNumbers_60 (by decide) ?_
        refine lv_icmp_eq (tgt := 69) hx hb dX4_badNumbers_62 (by decide) (fun c_22 => ?_) (fun c_22 => ?_)
        · have hF := hF.trans (if_pos c_22)
          refine lv_iconst (v := 0) hx hb dX4_badNumbers_69 (by decide) ?_
          refine pz_Vi (As := [.int (x1), .int ((qs (x1).toNatClampNeg)), .int (0)]) (rest := []) ⟨hx, hb, hml, hown, hts⟩ (c_X4_badLine l D q k formulas kind left right height laid rules ps qs rs fs checked stopped reason made opened ruleThen heads boxOf shutBy around inner truth turned pile x1 (qs (x1).toNatClampNeg) 0 har hhd) (cwV 3 hts gX4_badNumbers_X4_badLine rfl rfl rfl hdV_X4_badLine ⟨Nat.le_of_ble_eq_true rfl, Nat.le_of_ble_eq_true rfl⟩) pz_KM.call hKX.go (va_recv hK hP (ci := 4) (q0 := 0) rfl rfl) hP hS rfl hl.1 rfl (Nat.le_of_ble_eq_true rfl) dX4_badNumbers_70 ⟨Nat.zero_le _, Nat.zero_le _⟩ (fun r_23 u_23 H locs hF_23 hP hS => ?_)
          have hF := hF.trans (pz_be hF_23)
          refine lv_istore_n (lv' := [(3, .int (r_23)), (0, .ref (q 0)), (1, .int (x1)), (2, .int (x2))]) hx hb dX4_badNumbers_73 rfl hl (by decide) rfl (fun ls hl => ?_)
          exact k_X4_badNumbers_74 hC hKX formulas kind left right height laid rules ps qs rs fs checked stopped reason made opened ruleThen heads boxOf shutBy around inner truth turned pile x1 x2 r_23 hk har hhd _ _ _ hF hP hS (lv_sub hl [1, 2, 3, 0] rfl)
        · have hF := hF.trans (if_neg c_22)
          refine lv_iconst (v := 1) hx hb dX4_badNumbers_65 (by decide) ?_
          refine lv_goto (tgt := 70) hx hb dX4_badNumbers_66 (by decide) ?_
          refine pz_Vi (As := [.int (x1), .int ((qs (x1).toNatClampNeg)), .int (1)]) (rest := []) ⟨hx, hb, hml, hown, hts⟩ (c_X4_badLine l D q k formulas kind left right height laid rules ps qs rs fs checked stopped reason made opened ruleThen heads boxOf shutBy around inner truth turned pile x1 (qs (x1).toNatClampNeg) 1 har hhd) (cwV 3 hts gX4_badNumbers_X4_badLine rfl rfl rfl hdV_X4_badLine ⟨Nat.le_of_ble_eq_true rfl, Nat.le_of_ble_eq_true rfl⟩) pz_KM.call hKX.go (va_recv hK hP (ci := 4) (q0 := 0) rfl rfl) hP hS rfl hl.1 rfl (Nat.le_of_ble_eq_true rfl) dX4_badNumbers_70 ⟨Nat.zero_le _, Nat.zero_le _⟩ (fun r_24 u_24 H locs hF_24 hP hS => ?_)
          have hF := hF.trans (pz_be hF_24)
          refine lv_istore_n (lv' := [(3, .int (r_24)), (0, .ref (q 0)), (1, .int (x1)), (2, .int (x2))]) hx hb dX4_badNumbers_73 rfl hl (by decide) rfl (fun ls hl => ?_)
          exact k_X4_badNumbers_74 hC hKX formulas kind left right height laid rules ps qs rs fs checked stopped reason made opened ruleThen heads boxOf shutBy around inner truth turned pile x1 x2 r_24 hk har hhd _ _ _ hF hP hS (lv_sub hl [1, 2, 3, 0] rfl)
      · have hF := hF.trans (if_neg c_20)
        refine lv_iload_n hx hb dX4_badNumbers_45 rfl (lv_at hl 2 rfl) ?_
        refine lv_bipush (v := 11) hx hb dX4_badNumbers_46 (by decide) ?_
        refine lv_icmp_ne (tgt := 74) hx hb dX4_badNumbers_48 (by decide) (fun c_25 => ?_) (fun c_25 => ?_)
        · have hF := hF.trans (if_neg c_25)
          exact k_X4_badNumbers_74 hC hKX formulas kind left right height laid rules ps qs rs fs checked stopped reason made opened ruleThen heads boxOf shutBy around inner truth turned pile x1 x2 x3 hk har hhd _ _ _ hF hP hS (lv_sub hl [0, 1, 2, 3] rfl)
        · have hF := hF.trans (if_pos c_25)
          refine lv_aload_n hx hb dX4_badNumbers_51 rfl (lv_at hl 0 rfl) ?_
          refine lv_iload_n hx hb dX4_badNumbers_52 rfl (lv_at hl 1 rfl) ?_
          refine lv_aload_n hx hb dX4_badNumbers_53 rfl (lv_at hl 0 rfl) ?_
          refine va_get (D := D) (ci := 4) (v := .ref (q 8)) (C := RX4) (T := TX4) (N := 25) hx hb hts in_X4_badNumbers_X4 hown hK hP 0 rfl rfl 8 (by decide) (hts _ fl_X4_badNumbers_32) (fun _ h9 => h9) rfl dX4_badNumbers_54 ?_
          refine lv_iload_n hx hb dX4_badNumbers_57 rfl (lv_at hl 1 rfl) ?_
          have hi_26 : vp_in x1 60 := hk
          refine va_iald hx hb hK hP 8 0 rfl rfl hi_26 dX4_badNumbers_58 ?_
          refine lv_iload_n hx hb dX4_badNumbers_59 rfl (lv_at hl 2 rfl) ?_
          refine lv_bipush (v := 9) hx hb dX4_badNumbers_60 (by decide) ?_
          refine lv_icmp_eq (tgt := 69) hx hb dX4_badNumbers_62 (by decide) (fun c_27 => ?_) (fun c_27 => ?_)
          · have hF := hF.trans (if_pos c_27)
            refine lv_iconst (v := 0) hx hb dX4_badNumbers_69 (by decide) ?_
            refine pz_Vi (As := [.int (x1), .int ((qs (x1).toNatClampNeg)), .int (0)]) (rest := []) ⟨hx, hb, hml, hown, hts⟩ (c_X4_badLine l D q k formulas kind left right height laid rules ps qs rs fs checked stopped reason made opened ruleThen heads boxOf shutBy around inner truth turned pile x1 (qs (x1).toNatClampNeg) 0 har hhd) (cwV 3 hts gX4_badNumbers_X4_badLine rfl rfl rfl hdV_X4_badLine ⟨Nat.le_of_ble_eq_true rfl, Nat.le_of_ble_eq_true rfl⟩) pz_KM.call hKX.go (va_recv hK hP (ci := 4) (q0 := 0) rfl rfl) hP hS rfl hl.1 rfl (Nat.le_of_ble_eq_true rfl) dX4_badNumbers_70 ⟨Nat.zero_le _, Nat.zero_le _⟩ (fun r_28 u_28 H locs hF_28 hP hS => ?_)
            have hF := hF.trans (pz_be hF_28)
            refine lv_istore_n (lv' := [(3, .int (r_28)), (0, .ref (q 0)), (1, .int (x1)), (2, .int (x2))]) hx hb dX4_badNumbers_73 rfl hl (by decide) rfl (fun ls hl => ?_)
            exact k_X4_badNumbers_74 hC hKX formulas kind left right height laid rules ps qs rs fs checked stopped reason made opened ruleThen heads boxOf shutBy around inner truth turned pile x1 x2 r_28 hk har hhd _ _ _ hF hP hS (lv_sub hl [1, 2, 3, 0] rfl)
          · have hF := hF.trans (if_neg c_27)
            refine lv_iconst (v := 1) hx hb dX4_badNumbers_65 (by decide) ?_
            refine lv_goto (tgt := 70) hx hb dX4_badNumbers_66 (by decide) ?_
            refine pz_Vi (As := [.int (x1), .int ((qs (x1).toNatClampNeg)), .int (1)]) (rest := []) ⟨hx, hb, hml, hown, hts⟩ (c_X4_badLine l D q k formulas kind left right height laid rules ps qs rs fs checked stopped reason made opened ruleThen heads boxOf shutBy around inner truth turned pile x1 (qs (x1).toNatClampNeg) 1 har hhd) (cwV 3 hts gX4_badNumbers_X4_badLine rfl rfl rfl hdV_X4_badLine ⟨Nat.le_of_ble_eq_true rfl, Nat.le_of_ble_eq_true rfl⟩) pz_KM.call hKX.go (va_recv hK hP (ci := 4) (q0 := 0) rfl rfl) hP hS rfl hl.1 rfl (Nat.le_of_ble_eq_true rfl) dX4_badNumbers_70 ⟨Nat.zero_le _, Nat.zero_le _⟩ (fun r_29 u_29 H locs hF_29 hP hS => ?_)
            have hF := hF.trans (pz_be hF_29)
            refine lv_istore_n (lv' := [(3, .int (r_29)), (0, .ref (q 0)), (1, .int (x1)), (2, .int (x2))]) hx hb dX4_badNumbers_73 rfl hl (by decide) rfl (fun ls hl => ?_)
            exact k_X4_badNumbers_74 hC hKX formulas kind left right height laid rules ps qs rs fs checked stopped reason made opened ruleThen heads boxOf shutBy around inner truth turned pile x1 x2 r_29 hk har hhd _ _ _ hF hP hS (lv_sub hl [1, 2, 3, 0] rfl)
set_option maxHeartbeats 4000000 in
set_option maxRecDepth 100000 in
theorem c_X4_badNumbers (l : Launch) (D : va_G) (q : Nat → Nat) (k : Nat → ClassId) (formulas : Int32) (kind : Nat → Int32) (left : Nat → Int32) (right : Nat → Int32) (height : Nat → Int32) (laid : Nat → Int32) (rules : Nat → Int32) (ps : Nat → Int32) (qs : Nat → Int32) (rs : Nat → Int32) (fs : Nat → Int32) (checked : Int32) (stopped : Int32) (reason : Int32) (made : Int32) (opened : Int32) (ruleThen : Nat → Int32) (heads : Nat → Int32) (boxOf : Nat → Int32) (shutBy : Nat → Int32) (around : Nat → Int32) (inner : Int32) (truth : Nat → Int32) (turned : Nat → Int32) (pile : Nat → Int32) (x1 : Int32) (x2 : Int32) (hk : vp_in x1 60) (har : pz_ar ruleThen around) (hhd : pz_hd formulas ruleThen heads boxOf) : Met l yX4_badNumbers wsX4_badNumbers ({ frames := 3, cells := 0, slots := 0, locals := 66 }) (va_Pc [.ref (q 0), .int (x1), .int (x2)] (fun U => va_P D vwCl (pz_M q k formulas kind left right height laid rules ps qs rs fs checked stopped reason made opened ruleThen heads boxOf shutBy around inner truth turned pile) U.heap ∧ pz_KM D q k U)) (va_Qi (fun r (_ : Unit) => r = (f_X4_badNumbers formulas ps qs rs fs heads boxOf shutBy around x1 x2)) (fun _ t => va_P D vwCl (pz_M q k formulas kind left right height laid rules ps qs rs fs checked stopped reason made opened ruleThen heads boxOf shutBy around inner truth turned pile) t.heap) (pz_A 19 q)) 0 0 (pz_A 19 q) := by
  refine Met.ofW (cc := cX4_badNumbers) (maxL := 5) (ret := (some .int)) (by decide) rfl ?_
  intro p e s m args below meth c s₁ B hml hv
  obtain ⟨rfl, hP, hKX⟩ := hv
  have hx := B.exec
  have hb := B.bytes
  have hr := B.returns
  have hts := atoms_spec (ws := wsX4_badNumbers) B.pre
  have hown : s.vm.findClass RX4 = some m.cls := findClass_of_methodNamed B.named
  have hlocks := B.notSynchronized
  have hC : pz_C p s m ([.ref (q 0), .int (x1), .int (x2)] : List Value).toArray meth c cX4_badNumbers wsX4_badNumbers RX4 5 (some .int) := ⟨hx, hb, hml, hown, hts, hr, hlocks⟩
  have hK := hKX.1
  have hS : va_S (pz_A 19 q) s.heap s.heap [] := va_S.rf
  have hl := lv_entry [.ref (q 0), .int (x1), .int (x2)] (n := 5) (Nat.le_of_ble_eq_true rfl)
  rw [lg_entry_eq]
  generalize (lg_sl [.ref (q 0), .int (x1), .int (x2)] ++ List.replicate (5 - (lg_sl [.ref (q 0), .int (x1), .int (x2)]).length) Slot.unset).toArray = ls at hl ⊢
  have hl : lv_has ls 5 [(0, .ref (q 0)), (1, .int (x1)), (2, .int (x2))] := hl
  generalize hF : f_X4_badNumbers formulas ps qs rs fs heads boxOf shutBy around x1 x2 = G
  replace hF := hF.symm
  unfold f_X4_badNumbers at hF
  refine lv_iconst (v := 0) hx hb dX4_badNumbers_0 (by decide) ?_
  refine lv_istore_n (lv' := [(3, .int (0)), (0, .ref (q 0)), (1, .int (x1)), (2, .int (x2))]) hx hb dX4_badNumbers_1 rfl hl (by decide) rfl (fun ls hl => ?_)
  refine lv_iload_n hx hb dX4_badNumbers_2 rfl (lv_at hl 3 rfl) ?_
  refine lv_iconst (v := 2) hx hb dX4_badNumbers_3 (by decide) ?_
  refine lv_icmp_le (tgt := 30) hx hb dX4_badNumbers_4 (by decide) (fun c_30 => ?_) (fun c_30 => ?_)
  · have hF := hF.trans (if_pos c_30)
    exact k_X4_badNumbers_30 hC hKX formulas kind left right height laid rules ps qs rs fs checked stopped reason made opened ruleThen heads boxOf shutBy around inner truth turned pile x1 x2 0 hk har hhd _ _ _ hF hP hS (lv_sub hl [1, 2, 3, 0] rfl)
  · have hF := hF.trans (if_neg c_30)
    refine lv_aload_n hx hb dX4_badNumbers_7 rfl (lv_at hl 1 rfl) ?_
    refine lv_iload_n hx hb dX4_badNumbers_8 rfl (lv_at hl 2 rfl) ?_
    refine lv_aload_n hx hb dX4_badNumbers_9 rfl (lv_at hl 1 rfl) ?_
    refine va_get (D := D) (ci := 4) (v := .ref (q 7)) (C := RX4) (T := TX4) (N := 25) hx hb hts in_X4_badNumbers_X4 hown hK hP 0 rfl rfl 7 (by decide) (hts _ fl_X4_badNumbers_29) (fun _ h9 => h9) rfl dX4_badNumbers_10 ?_
    refine lv_iload_n hx hb dX4_badNumbers_13 rfl (lv_at hl 2 rfl) ?_
    have hi_31 : vp_in x1 60 := hk
    refine va_iald hx hb hK hP 7 0 rfl rfl hi_31 dX4_badNumbers_14 ?_
    refine lv_iload_n hx hb dX4_badNumbers_15 rfl (lv_at hl 3 rfl) ?_
    refine lv_bipush (v := 10) hx hb dX4_badNumbers_16 (by decide) ?_
    refine lv_icmp_eq (tgt := 25) hx hb dX4_badNumbers_18 (by decide) (fun c_32 => ?_) (fun c_32 => ?_)
    · have hF := hF.trans (if_pos c_32)
      refine lv_iconst (v := 0) hx hb dX4_badNumbers_25 (by decide) ?_
      refine pz_Vi (As := [.int (x1), .int ((ps (x1).toNatClampNeg)), .int (0)]) (rest := []) ⟨hx, hb, hml, hown, hts⟩ (c_X4_badLine l D q k formulas kind left right height laid rules ps qs rs fs checked stopped reason made opened ruleThen heads boxOf shutBy around inner truth turned pile x1 (ps (x1).toNatClampNeg) 0 har hhd) (cwV 3 hts gX4_badNumbers_X4_badLine rfl rfl rfl hdV_X4_badLine ⟨Nat.le_of_ble_eq_true rfl, Nat.le_of_ble_eq_true rfl⟩) pz_KM.call hKX.go (va_recv hK hP (ci := 4) (q0 := 0) rfl rfl) hP hS rfl hl.1 rfl (Nat.le_of_ble_eq_true rfl) dX4_badNumbers_26 ⟨Nat.zero_le _, Nat.zero_le _⟩ (fun r_33 u_33 H locs hF_33 hP hS => ?_)
      have hF := hF.trans (pz_be hF_33)
      refine lv_istore_n (lv' := [(3, .int (r_33)), (0, .ref (q 0)), (1, .int (x1)), (2, .int (x2))]) hx hb dX4_badNumbers_29 rfl hl (by decide) rfl (fun ls hl => ?_)
      exact k_X4_badNumbers_30 hC hKX formulas kind left right height laid rules ps qs rs fs checked stopped reason made opened ruleThen heads boxOf shutBy around inner truth turned pile x1 x2 r_33 hk har hhd _ _ _ hF hP hS (lv_sub hl [1, 2, 3, 0] rfl)
    · have hF := hF.trans (if_neg c_32)
      refine lv_iconst (v := 1) hx hb dX4_badNumbers_21 (by decide) ?_
      refine lv_goto (tgt := 26) hx hb dX4_badNumbers_22 (by decide) ?_
      refine pz_Vi (As := [.int (x1), .int ((ps (x1).toNatClampNeg)), .int (1)]) (rest := []) ⟨hx, hb, hml, hown, hts⟩ (c_X4_badLine l D q k formulas kind left right height laid rules ps qs rs fs checked stopped reason made opened ruleThen heads boxOf shutBy around inner truth turned pile x1 (ps (x1).toNatClampNeg) 1 har hhd) (cwV 3 hts gX4_badNumbers_X4_badLine rfl rfl rfl hdV_X4_badLine ⟨Nat.le_of_ble_eq_true rfl, Nat.le_of_ble_eq_true rfl⟩) pz_KM.call hKX.go (va_recv hK hP (ci := 4) (q0 := 0) rfl rfl) hP hS rfl hl.1 rfl (Nat.le_of_ble_eq_true rfl) dX4_badNumbers_26 ⟨Nat.zero_le _, Nat.zero_le _⟩ (fun r_34 u_34 H locs hF_34 hP hS => ?_)
      have hF := hF.trans (pz_be hF_34)
      refine lv_istore_n (lv' := [(3, .int (r_34)), (0, .ref (q 0)), (1, .int (x1)), (2, .int (x2))]) hx hb dX4_badNumbers_29 rfl hl (by decide) rfl (fun ls hl => ?_)
      exact k_X4_badNumbers_30 hC hKX formulas kind left right height laid rules ps qs rs fs checked stopped reason made opened ruleThen heads boxOf shutBy around inner truth turned pile x1 x2 r_34 hk har hhd _ _ _ hF hP hS (lv_sub hl [1, 2, 3, 0] rfl)

-- == X4_badForm
def f_X4_badForm (kind : Nat → Int32) (left : Nat → Int32) (right : Nat → Int32) (x1 : Int32) (x2 : Int32) : Int32 := if x1 = 5 then (pz_bnd (f_X4_isKind kind x2 2) (fun z_2 => if z_2 = 0 then (4) else (0))) else (if x1 = 6 then (pz_bnd (f_X4_isKind kind x2 2) (fun z_5 => if z_5 = 0 then (4) else (0))) else (if x1 = 9 then (pz_bnd (f_X4_isKind kind x2 3) (fun z_8 => if z_8 = 0 then (4) else (0))) else (if x1 = 11 then (pz_bnd (f_X4_isKind kind x2 4) (fun z_11 => if z_11 = 0 then (4) else (0))) else (if x1 = 12 then (pz_bnd (f_X4_isKind kind x2 0) (fun z_14 => if z_14 = 0 then (4) else (0))) else (if x1 = 13 then (pz_bnd (f_X4_isKind kind x2 4) (fun z_17 => if z_17 = 0 then (4) else (pz_bnd (f_X4_isKind kind (right (x2).toNatClampNeg) 0) (fun z_20 => if z_20 = 0 then (4) else (pz_bnd (f_X4_isKind kind (left (x2).toNatClampNeg) 4) (fun z_23 => if z_23 = 0 then (4) else (pz_bnd (f_X4_isKind kind (right ((left (x2).toNatClampNeg)).toNatClampNeg) 0) (fun z_27 => if z_27 = 0 then (4) else (0))))))))) else (0))))))
theorem fl_X4_badForm_13 : Cond.fieldLink RX4 13 "BoxProofsModel" "left" "[I" ∈ wsX4_badForm := by decide +kernel
theorem fl_X4_badForm_16 : Cond.fieldLink RX4 16 "BoxProofsModel" "right" "[I" ∈ wsX4_badForm := by decide +kernel
theorem hdV_X4_isKind : yX4_isKind.cls = RX4 ∧ yX4_isKind.cls ≠ "java/lang/invoke/MethodHandle" ∧ yX4_isKind.cls ≠ "java/lang/invoke/VarHandle" ∧ (parseMethodDescriptor yX4_isKind.desc).map (fun d => d.parameters.length) = some 2 := by decide +kernel
theorem in_X4_badForm_X4 : ∀ w ∈ wsX40, w ∈ wsX4_badForm := by decide +kernel
set_option maxHeartbeats 4000000 in
set_option maxRecDepth 100000 in
theorem c_X4_badForm (l : Launch) (D : va_G) (q : Nat → Nat) (k : Nat → ClassId) (formulas : Int32) (kind : Nat → Int32) (left : Nat → Int32) (right : Nat → Int32) (height : Nat → Int32) (laid : Nat → Int32) (rules : Nat → Int32) (ps : Nat → Int32) (qs : Nat → Int32) (rs : Nat → Int32) (fs : Nat → Int32) (checked : Int32) (stopped : Int32) (reason : Int32) (made : Int32) (opened : Int32) (ruleThen : Nat → Int32) (heads : Nat → Int32) (boxOf : Nat → Int32) (shutBy : Nat → Int32) (around : Nat → Int32) (inner : Int32) (truth : Nat → Int32) (turned : Nat → Int32) (pile : Nat → Int32) (x1 : Int32) (x2 : Int32) (hf : pz_F formulas kind left right) (hg : ∀ n : Int32, x1 = n → 2 < n → ¬ n = 10 → pz_vf formulas x2) : Met l yX4_badForm wsX4_badForm ({ frames := 1, cells := 0, slots := 0, locals := 22 }) (va_Pc [.ref (q 0), .int (x1), .int (x2)] (fun U => va_P D vwCl (pz_M q k formulas kind left right height laid rules ps qs rs fs checked stopped reason made opened ruleThen heads boxOf shutBy around inner truth turned pile) U.heap ∧ pz_KM D q k U)) (va_Qi (fun r (_ : Unit) => r = (f_X4_badForm kind left right x1 x2)) (fun _ t => va_P D vwCl (pz_M q k formulas kind left right height laid rules ps qs rs fs checked stopped reason made opened ruleThen heads boxOf shutBy around inner truth turned pile) t.heap) (pz_A 19 q)) 0 0 (pz_A 19 q) := by
  refine Met.ofW (cc := cX4_badForm) (maxL := 3) (ret := (some .int)) (by decide) rfl ?_
  intro p e s m args below meth c s₁ B hml hv
  obtain ⟨rfl, hP, hKX⟩ := hv
  have hx := B.exec
  have hb := B.bytes
  have hr := B.returns
  have hts := atoms_spec (ws := wsX4_badForm) B.pre
  have hown : s.vm.findClass RX4 = some m.cls := findClass_of_methodNamed B.named
  have hlocks := B.notSynchronized
  have hC : pz_C p s m ([.ref (q 0), .int (x1), .int (x2)] : List Value).toArray meth c cX4_badForm wsX4_badForm RX4 3 (some .int) := ⟨hx, hb, hml, hown, hts, hr, hlocks⟩
  have hK := hKX.1
  have hS : va_S (pz_A 19 q) s.heap s.heap [] := va_S.rf
  have hl := lv_entry [.ref (q 0), .int (x1), .int (x2)] (n := 3) (Nat.le_of_ble_eq_true rfl)
  rw [lg_entry_eq]
  generalize (lg_sl [.ref (q 0), .int (x1), .int (x2)] ++ List.replicate (3 - (lg_sl [.ref (q 0), .int (x1), .int (x2)]).length) Slot.unset).toArray = ls at hl ⊢
  have hl : lv_has ls 3 [(0, .ref (q 0)), (1, .int (x1)), (2, .int (x2))] := hl
  generalize hF : f_X4_badForm kind left right x1 x2 = G
  replace hF := hF.symm
  unfold f_X4_badForm at hF
  refine lv_iload_n hx hb dX4_badForm_0 rfl (lv_at hl 1 rfl) ?_
  refine pz_cases (P := x1 = 5) (fun c_1 => ?_) (fun c_1 => ?_)
  · have hF := hF.trans (if_pos c_1)
    refine pz_table (tgt := 52) (off := 51) hx hb dX4_badForm_1 rfl (by rw [c_1]; rfl) (by decide) ?_
    refine lv_aload_n hx hb dX4_badForm_52 rfl (lv_at hl 0 rfl) ?_
    refine lv_iload_n hx hb dX4_badForm_53 rfl (lv_at hl 2 rfl) ?_
    refine lv_iconst (v := 2) hx hb dX4_badForm_54 (by decide) ?_
    refine pz_Vi (As := [.int (x2), .int (2)]) (rest := []) ⟨hx, hb, hml, hown, hts⟩ (c_X4_isKind l D q k formulas kind left right height laid rules ps qs rs fs checked stopped reason made opened ruleThen heads boxOf shutBy around inner truth turned pile x2 2 (pz_vin hf.1 (hg _ ‹_› (by decide) (by decide)))) (cwV 2 hts gX4_badForm_X4_isKind rfl rfl rfl hdV_X4_isKind ⟨Nat.le_of_ble_eq_true rfl, Nat.le_of_ble_eq_true rfl⟩) pz_KM.call hKX.go (va_recv hK hP (ci := 4) (q0 := 0) rfl rfl) hP hS rfl hl.1 rfl (Nat.le_of_ble_eq_true rfl) dX4_badForm_55 ⟨Nat.zero_le _, Nat.zero_le _⟩ (fun r_2 u_2 H locs hF_2 hP hS => ?_)
    have hF := hF.trans (pz_be hF_2)
    refine lv_if_eq (tgt := 65) hx hb dX4_badForm_58 (by decide) (fun c_3 => ?_) (fun c_3 => ?_)
    · have hF := hF.trans (if_pos c_3)
      refine lv_iconst (v := 4) hx hb dX4_badForm_65 (by decide) ?_
      exact W.iret (v := 4) hx hb hr (fun t ht hW => ⟨⟨4, (), rfl, hF.symm, pz_hp ht hP⟩, hS.F ht⟩) hS.2.2 dX4_badForm_66 hlocks
    · have hF := hF.trans (if_neg c_3)
      refine lv_iconst (v := 0) hx hb dX4_badForm_61 (by decide) ?_
      refine lv_goto (tgt := 66) hx hb dX4_badForm_62 (by decide) ?_
      exact W.iret (v := 0) hx hb hr (fun t ht hW => ⟨⟨0, (), rfl, hF.symm, pz_hp ht hP⟩, hS.F ht⟩) hS.2.2 dX4_badForm_66 hlocks
  · have hF := hF.trans (if_neg c_1)
    refine pz_cases (P := x1 = 6) (fun c_4 => ?_) (fun c_4 => ?_)
    · have hF := hF.trans (if_pos c_4)
      refine pz_table (tgt := 52) (off := 51) hx hb dX4_badForm_1 rfl (by rw [c_4]; rfl) (by decide) ?_
      refine lv_aload_n hx hb dX4_badForm_52 rfl (lv_at hl 0 rfl) ?_
      refine lv_iload_n hx hb dX4_badForm_53 rfl (lv_at hl 2 rfl) ?_
      refine lv_iconst (v := 2) hx hb dX4_badForm_54 (by decide) ?_
      refine pz_Vi (As := [.int (x2), .int (2)]) (rest := []) ⟨hx, hb, hml, hown, hts⟩ (c_X4_isKind l D q k formulas kind left right height laid rules ps qs rs fs checked stopped reason made opened ruleThen heads boxOf shutBy around inner truth turned pile x2 2 (pz_vin hf.1 (hg _ ‹_› (by decide) (by decide)))) (cwV 2 hts gX4_badForm_X4_isKind rfl rfl rfl hdV_X4_isKind ⟨Nat.le_of_ble_eq_true rfl, Nat.le_of_ble_eq_true rfl⟩) pz_KM.call hKX.go (va_recv hK hP (ci := 4) (q0 := 0) rfl rfl) hP hS rfl hl.1 rfl (Nat.le_of_ble_eq_true rfl) dX4_badForm_55 ⟨Nat.zero_le _, Nat.zero_le _⟩ (fun r_5 u_5 H locs hF_5 hP hS => ?_)
      have hF := hF.trans (pz_be hF_5)
      refine lv_if_eq (tgt := 65) hx hb dX4_badForm_58 (by decide) (fun c_6 => ?_) (fun c_6 => ?_)
      · have hF := hF.trans (if_pos c_6)
        refine lv_iconst (v := 4) hx hb dX4_badForm_65 (by decide) ?_
        exact W.iret (v := 4) hx hb hr (fun t ht hW => ⟨⟨4, (), rfl, hF.symm, pz_hp ht hP⟩, hS.F ht⟩) hS.2.2 dX4_badForm_66 hlocks
      · have hF := hF.trans (if_neg c_6)
        refine lv_iconst (v := 0) hx hb dX4_badForm_61 (by decide) ?_
        refine lv_goto (tgt := 66) hx hb dX4_badForm_62 (by decide) ?_
        exact W.iret (v := 0) hx hb hr (fun t ht hW => ⟨⟨0, (), rfl, hF.symm, pz_hp ht hP⟩, hS.F ht⟩) hS.2.2 dX4_badForm_66 hlocks
    · have hF := hF.trans (if_neg c_4)
      refine pz_cases (P := x1 = 9) (fun c_7 => ?_) (fun c_7 => ?_)
      · have hF := hF.trans (if_pos c_7)
        refine pz_table (tgt := 67) (off := 66) hx hb dX4_badForm_1 rfl (by rw [c_7]; rfl) (by decide) ?_
        refine lv_aload_n hx hb dX4_badForm_67 rfl (lv_at hl 0 rfl) ?_
        refine lv_iload_n hx hb dX4_badForm_68 rfl (lv_at hl 2 rfl) ?_
        refine lv_iconst (v := 3) hx hb dX4_badForm_69 (by decide) ?_
        refine pz_Vi (As := [.int (x2), .int (3)]) (rest := []) ⟨hx, hb, hml, hown, hts⟩ (c_X4_isKind l D q k formulas kind left right height laid rules ps qs rs fs checked stopped reason made opened ruleThen heads boxOf shutBy around inner truth turned pile x2 3 (pz_vin hf.1 (hg _ ‹_› (by decide) (by decide)))) (cwV 2 hts gX4_badForm_X4_isKind rfl rfl rfl hdV_X4_isKind ⟨Nat.le_of_ble_eq_true rfl, Nat.le_of_ble_eq_true rfl⟩) pz_KM.call hKX.go (va_recv hK hP (ci := 4) (q0 := 0) rfl rfl) hP hS rfl hl.1 rfl (Nat.le_of_ble_eq_true rfl) dX4_badForm_70 ⟨Nat.zero_le _, Nat.zero_le _⟩ (fun r_8 u_8 H locs hF_8 hP hS => ?_)
        have hF := hF.trans (pz_be hF_8)
        refine lv_if_eq (tgt := 80) hx hb dX4_badForm_73 (by decide) (fun c_9 => ?_) (fun c_9 => ?_)
        · have hF := hF.trans (if_pos c_9)
          refine lv_iconst (v := 4) hx hb dX4_badForm_80 (by decide) ?_
          exact W.iret (v := 4) hx hb hr (fun t ht hW => ⟨⟨4, (), rfl, hF.symm, pz_hp ht hP⟩, hS.F ht⟩) hS.2.2 dX4_badForm_81 hlocks
        · have hF := hF.trans (if_neg c_9)
          refine lv_iconst (v := 0) hx hb dX4_badForm_76 (by decide) ?_
          refine lv_goto (tgt := 81) hx hb dX4_badForm_77 (by decide) ?_
          exact W.iret (v := 0) hx hb hr (fun t ht hW => ⟨⟨0, (), rfl, hF.symm, pz_hp ht hP⟩, hS.F ht⟩) hS.2.2 dX4_badForm_81 hlocks
      · have hF := hF.trans (if_neg c_7)
        refine pz_cases (P := x1 = 11) (fun c_10 => ?_) (fun c_10 => ?_)
        · have hF := hF.trans (if_pos c_10)
          refine pz_table (tgt := 82) (off := 81) hx hb dX4_badForm_1 rfl (by rw [c_10]; rfl) (by decide) ?_
          refine lv_aload_n hx hb dX4_badForm_82 rfl (lv_at hl 0 rfl) ?_
          refine lv_iload_n hx hb dX4_badForm_83 rfl (lv_at hl 2 rfl) ?_
          refine lv_iconst (v := 4) hx hb dX4_badForm_84 (by decide) ?_
          refine pz_Vi (As := [.int (x2), .int (4)]) (rest := []) ⟨hx, hb, hml, hown, hts⟩ (c_X4_isKind l D q k formulas kind left right height laid rules ps qs rs fs checked stopped reason made opened ruleThen heads boxOf shutBy around inner truth turned pile x2 4 (pz_vin hf.1 (hg _ ‹_› (by decide) (by decide)))) (cwV 2 hts gX4_badForm_X4_isKind rfl rfl rfl hdV_X4_isKind ⟨Nat.le_of_ble_eq_true rfl, Nat.le_of_ble_eq_true rfl⟩) pz_KM.call hKX.go (va_recv hK hP (ci := 4) (q0 := 0) rfl rfl) hP hS rfl hl.1 rfl (Nat.le_of_ble_eq_true rfl) dX4_badForm_85 ⟨Nat.zero_le _, Nat.zero_le _⟩ (fun r_11 u_11 H locs hF_11 hP hS => ?_)
          have hF := hF.trans (pz_be hF_11)
          refine lv_if_eq (tgt := 95) hx hb dX4_badForm_88 (by decide) (fun c_12 => ?_) (fun c_12 => ?_)
          · have hF := hF.trans (if_pos c_12)
            refine lv_iconst (v := 4) hx hb dX4_badForm_95 (by decide) ?_
            exact W.iret (v := 4) hx hb hr (fun t ht hW => ⟨⟨4, (), rfl, hF.symm, pz_hp ht hP⟩, hS.F ht⟩) hS.2.2 dX4_badForm_96 hlocks
          · have hF := hF.trans (if_neg c_12)
            refine lv_iconst (v := 0) hx hb dX4_badForm_91 (by decide) ?_
            refine lv_goto (tgt := 96) hx hb dX4_badForm_92 (by decide) ?_
            exact W.iret (v := 0) hx hb hr (fun t ht hW => ⟨⟨0, (), rfl, hF.symm, pz_hp ht hP⟩, hS.F ht⟩) hS.2.2 dX4_badForm_96 hlocks
        · have hF := hF.trans (if_neg c_10)
          refine pz_cases (P := x1 = 12) (fun c_13 => ?_) (fun c_13 => ?_)
          · have hF := hF.trans (if_pos c_13)
            refine pz_table (tgt := 97) (off := 96) hx hb dX4_badForm_1 rfl (by rw [c_13]; rfl) (by decide) ?_
            refine lv_aload_n hx hb dX4_badForm_97 rfl (lv_at hl 0 rfl) ?_
            refine lv_iload_n hx hb dX4_badForm_98 rfl (lv_at hl 2 rfl) ?_
            refine lv_iconst (v := 0) hx hb dX4_badForm_99 (by decide) ?_
            refine pz_Vi (As := [.int (x2), .int (0)]) (rest := []) ⟨hx, hb, hml, hown, hts⟩ (c_X4_isKind l D q k formulas kind left right height laid rules ps qs rs fs checked stopped reason made opened ruleThen heads boxOf shutBy around inner truth turned pile x2 0 (pz_vin hf.1 (hg _ ‹_› (by decide) (by decide)))) (cwV 2 hts gX4_badForm_X4_isKind rfl rfl rfl hdV_X4_isKind ⟨Nat.le_of_ble_eq_true rfl, Nat.le_of_ble_eq_true rfl⟩) pz_KM.call hKX.go (va_recv hK hP (ci := 4) (q0 := 0) rfl rfl) hP hS rfl hl.1 rfl (Nat.le_of_ble_eq_true rfl) dX4_badForm_100 ⟨Nat.zero_le _, Nat.zero_le _⟩ (fun r_14 u_14 H locs hF_14 hP hS => ?_)
            have hF := hF.trans (pz_be hF_14)
            refine lv_if_eq (tgt := 110) hx hb dX4_badForm_103 (by decide) (fun c_15 => ?_) (fun c_15 => ?_)
            · have hF := hF.trans (if_pos c_15)
              refine lv_iconst (v := 4) hx hb dX4_badForm_110 (by decide) ?_
              exact W.iret (v := 4) hx hb hr (fun t ht hW => ⟨⟨4, (), rfl, hF.symm, pz_hp ht hP⟩, hS.F ht⟩) hS.2.2 dX4_badForm_111 hlocks
            · have hF := hF.trans (if_neg c_15)
              refine lv_iconst (v := 0) hx hb dX4_badForm_106 (by decide) ?_
              refine lv_goto (tgt := 111) hx hb dX4_badForm_107 (by decide) ?_
              exact W.iret (v := 0) hx hb hr (fun t ht hW => ⟨⟨0, (), rfl, hF.symm, pz_hp ht hP⟩, hS.F ht⟩) hS.2.2 dX4_badForm_111 hlocks
          · have hF := hF.trans (if_neg c_13)
            refine pz_cases (P := x1 = 13) (fun c_16 => ?_) (fun c_16 => ?_)
            · have hF := hF.trans (if_pos c_16)
              refine pz_table (tgt := 112) (off := 111) hx hb dX4_badForm_1 rfl (by rw [c_16]; rfl) (by decide) ?_
              refine lv_aload_n hx hb dX4_badForm_112 rfl (lv_at hl 0 rfl) ?_
              refine lv_iload_n hx hb dX4_badForm_113 rfl (lv_at hl 2 rfl) ?_
              refine lv_iconst (v := 4) hx hb dX4_badForm_114 (by decide) ?_
              refine pz_Vi (As := [.int (x2), .int (4)]) (rest := []) ⟨hx, hb, hml, hown, hts⟩ (c_X4_isKind l D q k formulas kind left right height laid rules ps qs rs fs checked stopped reason made opened ruleThen heads boxOf shutBy around inner truth turned pile x2 4 (pz_vin hf.1 (hg _ ‹_› (by decide) (by decide)))) (cwV 2 hts gX4_badForm_X4_isKind rfl rfl rfl hdV_X4_isKind ⟨Nat.le_of_ble_eq_true rfl, Nat.le_of_ble_eq_true rfl⟩) pz_KM.call hKX.go (va_recv hK hP (ci := 4) (q0 := 0) rfl rfl) hP hS rfl hl.1 rfl (Nat.le_of_ble_eq_true rfl) dX4_badForm_115 ⟨Nat.zero_le _, Nat.zero_le _⟩ (fun r_17 u_17 H locs hF_17 hP hS => ?_)
              have hF := hF.trans (pz_be hF_17)
              refine lv_if_eq (tgt := 172) hx hb dX4_badForm_118 (by decide) (fun c_18 => ?_) (fun c_18 => ?_)
              · have hF := hF.trans (if_pos c_18)
                refine lv_iconst (v := 4) hx hb dX4_badForm_172 (by decide) ?_
                exact W.iret (v := 4) hx hb hr (fun t ht hW => ⟨⟨4, (), rfl, hF.symm, pz_hp ht hP⟩, hS.F ht⟩) hS.2.2 dX4_badForm_173 hlocks
              · have hF := hF.trans (if_neg c_18)
                refine lv_aload_n hx hb dX4_badForm_121 rfl (lv_at hl 0 rfl) ?_
                refine lv_aload_n hx hb dX4_badForm_122 rfl (lv_at hl 0 rfl) ?_
                refine va_get (D := D) (ci := 4) (v := .ref (q 3)) (C := RX4) (T := TX4) (N := 25) hx hb hts in_X4_badForm_X4 hown hK hP 0 rfl rfl 3 (by decide) (hts _ fl_X4_badForm_16) (fun _ h9 => h9) rfl dX4_badForm_123 ?_
                refine lv_iload_n hx hb dX4_badForm_126 rfl (lv_at hl 2 rfl) ?_
                have hi_19 : vp_in x2 80 := pz_vin hf.1 (hg _ ‹_› (by decide) (by decide))
                refine va_iald hx hb hK hP 3 0 rfl rfl hi_19 dX4_badForm_127 ?_
                refine lv_iconst (v := 0) hx hb dX4_badForm_128 (by decide) ?_
                refine pz_Vi (As := [.int ((right (x2).toNatClampNeg)), .int (0)]) (rest := []) ⟨hx, hb, hml, hown, hts⟩ (c_X4_isKind l D q k formulas kind left right height laid rules ps qs rs fs checked stopped reason made opened ruleThen heads boxOf shutBy around inner truth turned pile (right (x2).toNatClampNeg) 0 (pz_vin hf.1 (pz_FLR hf (hg _ ‹_› (by decide) (by decide)) (pz_isKn ‹_› ‹_›).1 (pz_isKn ‹_› ‹_›).2).2)) (cwV 2 hts gX4_badForm_X4_isKind rfl rfl rfl hdV_X4_isKind ⟨Nat.le_of_ble_eq_true rfl, Nat.le_of_ble_eq_true rfl⟩) pz_KM.call hKX.go (va_recv hK hP (ci := 4) (q0 := 0) rfl rfl) hP hS rfl hl.1 rfl (Nat.le_of_ble_eq_true rfl) dX4_badForm_129 ⟨Nat.zero_le _, Nat.zero_le _⟩ (fun r_20 u_20 H locs hF_20 hP hS => ?_)
                have hF := hF.trans (pz_be hF_20)
                refine lv_if_eq (tgt := 172) hx hb dX4_badForm_132 (by decide) (fun c_21 => ?_) (fun c_21 => ?_)
                · have hF := hF.trans (if_pos c_21)
                  refine lv_iconst (v := 4) hx hb dX4_badForm_172 (by decide) ?_
                  exact W.iret (v := 4) hx hb hr (fun t ht hW => ⟨⟨4, (), rfl, hF.symm, pz_hp ht hP⟩, hS.F ht⟩) hS.2.2 dX4_badForm_173 hlocks
                · have hF := hF.trans (if_neg c_21)
                  refine lv_aload_n hx hb dX4_badForm_135 rfl (lv_at hl 0 rfl) ?_
                  refine lv_aload_n hx hb dX4_badForm_136 rfl (lv_at hl 0 rfl) ?_
                  refine va_get (D := D) (ci := 4) (v := .ref (q 2)) (C := RX4) (T := TX4) (N := 25) hx hb hts in_X4_badForm_X4 hown hK hP 0 rfl rfl 2 (by decide) (hts _ fl_X4_badForm_13) (fun _ h9 => h9) rfl dX4_badForm_137 ?_
                  refine lv_iload_n hx hb dX4_badForm_140 rfl (lv_at hl 2 rfl) ?_
                  have hi_22 : vp_in x2 80 := pz_vin hf.1 (hg _ ‹_› (by decide) (by decide))
                  refine va_iald hx hb hK hP 2 0 rfl rfl hi_22 dX4_badForm_141 ?_
                  refine lv_iconst (v := 4) hx hb dX4_badForm_142 (by decide) ?_
                  refine pz_Vi (As := [.int ((left (x2).toNatClampNeg)), .int (4)]) (rest := []) ⟨hx, hb, hml, hown, hts⟩ (c_X4_isKind l D q k formulas kind left right height laid rules ps qs rs fs checked stopped reason made opened ruleThen heads boxOf shutBy around inner truth turned pile (left (x2).toNatClampNeg) 4 (pz_vin hf.1 (pz_FLR hf (hg _ ‹_› (by decide) (by decide)) (pz_isKn (x := x2) ‹_› ‹_›).1 (pz_isKn (x := x2) ‹_› ‹_›).2).1)) (cwV 2 hts gX4_badForm_X4_isKind rfl rfl rfl hdV_X4_isKind ⟨Nat.le_of_ble_eq_true rfl, Nat.le_of_ble_eq_true rfl⟩) pz_KM.call hKX.go (va_recv hK hP (ci := 4) (q0 := 0) rfl rfl) hP hS rfl hl.1 rfl (Nat.le_of_ble_eq_true rfl) dX4_badForm_143 ⟨Nat.zero_le _, Nat.zero_le _⟩ (fun r_23 u_23 H locs hF_23 hP hS => ?_)
                  have hF := hF.trans (pz_be hF_23)
                  refine lv_if_eq (tgt := 172) hx hb dX4_badForm_146 (by decide) (fun c_24 => ?_) (fun c_24 => ?_)
                  · have hF := hF.trans (if_pos c_24)
                    refine lv_iconst (v := 4) hx hb dX4_badForm_172 (by decide) ?_
                    exact W.iret (v := 4) hx hb hr (fun t ht hW => ⟨⟨4, (), rfl, hF.symm, pz_hp ht hP⟩, hS.F ht⟩) hS.2.2 dX4_badForm_173 hlocks
                  · have hF := hF.trans (if_neg c_24)
                    refine lv_aload_n hx hb dX4_badForm_149 rfl (lv_at hl 0 rfl) ?_
                    refine lv_aload_n hx hb dX4_badForm_150 rfl (lv_at hl 0 rfl) ?_
                    refine va_get (D := D) (ci := 4) (v := .ref (q 3)) (C := RX4) (T := TX4) (N := 25) hx hb hts in_X4_badForm_X4 hown hK hP 0 rfl rfl 3 (by decide) (hts _ fl_X4_badForm_16) (fun _ h9 => h9) rfl dX4_badForm_151 ?_
                    refine lv_aload_n hx hb dX4_badForm_154 rfl (lv_at hl 0 rfl) ?_
                    refine va_get (D := D) (ci := 4) (v := .ref (q 2)) (C := RX4) (T := TX4) (N := 25) hx hb hts in_X4_badForm_X4 hown hK hP 0 rfl rfl 2 (by decide) (hts _ fl_X4_badForm_13) (fun _ h9 => h9) rfl dX4_badForm_155 ?_
                    refine lv_iload_n hx hb dX4_badForm_158 rfl (lv_at hl 2 rfl) ?_
                    have hi_25 : vp_in x2 80 := pz_vin hf.1 (hg _ ‹_› (by decide) (by decide))
                    refine va_iald hx hb hK hP 2 0 rfl rfl hi_25 dX4_badForm_159 ?_
                    have hi_26 : vp_in (left (x2).toNatClampNeg) 80 := pz_vin hf.1 (pz_FLR hf (hg _ ‹_› (by decide) (by decide)) (pz_isKn (x := x2) ‹_› ‹_›).1 (pz_isKn (x := x2) ‹_› ‹_›).2).1
                    refine va_iald hx hb hK hP 3 0 rfl rfl hi_26 dX4_badForm_160 ?_
                    refine lv_iconst (v := 0) hx hb dX4_badForm_161 (by decide) ?_
                    refine pz_Vi (As := [.int ((right ((left (x2).toNatClampNeg)).toNatClampNeg)), .int (0)]) (rest := []) ⟨hx, hb, hml, hown, hts⟩ (c_X4_isKind l D q k formulas kind left right height laid rules ps qs rs fs checked stopped reason made opened ruleThen heads boxOf shutBy around inner truth turned pile (right ((left (x2).toNatClampNeg)).toNatClampNeg) 0 (pz_vin hf.1 (pz_FLR hf (pz_FLR hf (hg _ ‹_› (by decide) (by decide)) (pz_isKn (x := x2) ‹_› ‹_›).1 (pz_isKn (x := x2) ‹_› ‹_›).2).1 (pz_isKn (x := left x2.toNatClampNeg) ‹_› ‹_›).1 (pz_isKn (x := left x2.toNatClampNeg) ‹_› ‹_›).2).2)) (cwV 2 hts gX4_badForm_X4_isKind rfl rfl rfl hdV_X4_isKind ⟨Nat.le_of_ble_eq_true rfl, Nat.le_of_ble_eq_true rfl⟩) pz_KM.call hKX.go (va_recv hK hP (ci := 4) (q0 := 0) rfl rfl) hP hS rfl hl.1 rfl (Nat.le_of_ble_eq_true rfl) dX4_badForm_162 ⟨Nat.zero_le _, Nat.zero_le _⟩ (fun r_27 u_27 H locs hF_27 hP hS => ?_)
                    have hF := hF.trans (pz_be hF_27)
                    refine lv_if_eq (tgt := 172) hx hb dX4_badForm_165 (by decide) (fun c_28 => ?_) (fun c_28 => ?_)
                    · have hF := hF.trans (if_pos c_28)
                      refine lv_iconst (v := 4) hx hb dX4_badForm_172 (by decide) ?_
                      exact W.iret (v := 4) hx hb hr (fun t ht hW => ⟨⟨4, (), rfl, hF.symm, pz_hp ht hP⟩, hS.F ht⟩) hS.2.2 dX4_badForm_173 hlocks
                    · have hF := hF.trans (if_neg c_28)
                      refine lv_iconst (v := 0) hx hb dX4_badForm_168 (by decide) ?_
                      refine lv_goto (tgt := 173) hx hb dX4_badForm_169 (by decide) ?_
                      exact W.iret (v := 0) hx hb hr (fun t ht hW => ⟨⟨0, (), rfl, hF.symm, pz_hp ht hP⟩, hS.F ht⟩) hS.2.2 dX4_badForm_173 hlocks
            · have hF := hF.trans (if_neg c_16)
              have ho : pz_off (173) (5) (13) #[51, 51, 173, 173, 66, 173, 81, 96, 111] x1 = 173 := by
                unfold pz_off
                split
                · rfl
                · have hz : (x1).toInt = 5 ∨ (x1).toInt = 6 ∨ (x1).toInt = 7 ∨ (x1).toInt = 8 ∨ (x1).toInt = 9 ∨ (x1).toInt = 10 ∨ (x1).toInt = 11 ∨ (x1).toInt = 12 ∨ (x1).toInt = 13 := by omega
                  rcases hz with hz | hz | hz | hz | hz | hz | hz | hz | hz
                  · exact absurd (Int32.toInt_inj.mp (hz.trans (show (5 : Int) = (5 : Int32).toInt from rfl))) c_1
                  · exact absurd (Int32.toInt_inj.mp (hz.trans (show (6 : Int) = (6 : Int32).toInt from rfl))) c_4
                  · rw [hz]; rfl
                  · rw [hz]; rfl
                  · exact absurd (Int32.toInt_inj.mp (hz.trans (show (9 : Int) = (9 : Int32).toInt from rfl))) c_7
                  · rw [hz]; rfl
                  · exact absurd (Int32.toInt_inj.mp (hz.trans (show (11 : Int) = (11 : Int32).toInt from rfl))) c_10
                  · exact absurd (Int32.toInt_inj.mp (hz.trans (show (12 : Int) = (12 : Int32).toInt from rfl))) c_13
                  · exact absurd (Int32.toInt_inj.mp (hz.trans (show (13 : Int) = (13 : Int32).toInt from rfl))) c_16
              refine pz_table (tgt := 174) hx hb dX4_badForm_1 rfl ho (by decide) ?_
              refine lv_iconst (v := 0) hx hb dX4_badForm_174 (by decide) ?_
              exact W.iret (v := 0) hx hb hr (fun t ht hW => ⟨⟨0, (), rfl, hF.symm, pz_hp ht hP⟩, hS.F ht⟩) hS.2.2 dX4_badForm_175 hlocks

-- == X4_badBoxes
def f_X4_badBoxes (left : Nat → Int32) (right : Nat → Int32) (ps : Nat → Int32) (qs : Nat → Int32) (rs : Nat → Int32) (ruleThen : Nat → Int32) (heads : Nat → Int32) (shutBy : Nat → Int32) (around : Nat → Int32) (inner : Int32) (x1 : Int32) (x2 : Int32) (x3 : Int32) : Int32 := if x2 = 2 then (if inner = (-1) then (5) else (0)) else (if x2 = 10 then (pz_bnd (f_X4_badBox ruleThen heads shutBy around (ps (x1).toNatClampNeg)) (fun z_35 => z_35)) else (if x2 = 11 then (if (heads ((qs (x1).toNatClampNeg)).toNatClampNeg) = (left (x3).toNatClampNeg) then (0) else (6)) else (if x2 = 9 then (pz_bnd (f_X4_badBox ruleThen heads shutBy around (qs (x1).toNatClampNeg)) (fun z_7 => if z_7 = 0 then (pz_bnd (f_X4_badBox ruleThen heads shutBy around (rs (x1).toNatClampNeg)) (fun z_19 => if z_19 = 0 then (if (heads ((qs (x1).toNatClampNeg)).toNatClampNeg) = (left (x3).toNatClampNeg) then (if (heads ((rs (x1).toNatClampNeg)).toNatClampNeg) = (right (x3).toNatClampNeg) then (pz_bnd (f_X4_endOf heads shutBy (qs (x1).toNatClampNeg)) (fun z_27 => pz_bnd (f_X4_endOf heads shutBy (rs (x1).toNatClampNeg)) (fun z_28 => if z_27 = z_28 then (0) else (6)))) else (6)) else (6)) else (z_19))) else (if z_7 = 0 then (if (heads ((qs (x1).toNatClampNeg)).toNatClampNeg) = (left (x3).toNatClampNeg) then (if (heads ((rs (x1).toNatClampNeg)).toNatClampNeg) = (right (x3).toNatClampNeg) then (pz_bnd (f_X4_endOf heads shutBy (qs (x1).toNatClampNeg)) (fun z_16 => pz_bnd (f_X4_endOf heads shutBy (rs (x1).toNatClampNeg)) (fun z_17 => if z_16 = z_17 then (0) else (6)))) else (6)) else (6)) else (z_7)))) else (0))))
theorem fl_X4_badBoxes_102 : Cond.fieldLink RX4 102 "BoxProofsModel" "inner" "I" ∈ wsX4_badBoxes := by decide +kernel
theorem fl_X4_badBoxes_13 : Cond.fieldLink RX4 13 "BoxProofsModel" "left" "[I" ∈ wsX4_badBoxes := by decide +kernel
theorem fl_X4_badBoxes_16 : Cond.fieldLink RX4 16 "BoxProofsModel" "right" "[I" ∈ wsX4_badBoxes := by decide +kernel
theorem fl_X4_badBoxes_29 : Cond.fieldLink RX4 29 "BoxProofsModel" "ps" "[I" ∈ wsX4_badBoxes := by decide +kernel
theorem fl_X4_badBoxes_32 : Cond.fieldLink RX4 32 "BoxProofsModel" "qs" "[I" ∈ wsX4_badBoxes := by decide +kernel
theorem fl_X4_badBoxes_35 : Cond.fieldLink RX4 35 "BoxProofsModel" "rs" "[I" ∈ wsX4_badBoxes := by decide +kernel
theorem fl_X4_badBoxes_44 : Cond.fieldLink RX4 44 "BoxProofsModel" "heads" "[I" ∈ wsX4_badBoxes := by decide +kernel
theorem hdV_X4_badBox : yX4_badBox.cls = RX4 ∧ yX4_badBox.cls ≠ "java/lang/invoke/MethodHandle" ∧ yX4_badBox.cls ≠ "java/lang/invoke/VarHandle" ∧ (parseMethodDescriptor yX4_badBox.desc).map (fun d => d.parameters.length) = some 1 := by decide +kernel
theorem hdV_X4_endOf : yX4_endOf.cls = RX4 ∧ yX4_endOf.cls ≠ "java/lang/invoke/MethodHandle" ∧ yX4_endOf.cls ≠ "java/lang/invoke/VarHandle" ∧ (parseMethodDescriptor yX4_endOf.desc).map (fun d => d.parameters.length) = some 1 := by decide +kernel
theorem in_X4_badBoxes_X4 : ∀ w ∈ wsX40, w ∈ wsX4_badBoxes := by decide +kernel
set_option maxHeartbeats 4000000 in
set_option maxRecDepth 100000 in
theorem c_X4_badBoxes (l : Launch) (D : va_G) (q : Nat → Nat) (k : Nat → ClassId) (formulas : Int32) (kind : Nat → Int32) (left : Nat → Int32) (right : Nat → Int32) (height : Nat → Int32) (laid : Nat → Int32) (rules : Nat → Int32) (ps : Nat → Int32) (qs : Nat → Int32) (rs : Nat → Int32) (fs : Nat → Int32) (checked : Int32) (stopped : Int32) (reason : Int32) (made : Int32) (opened : Int32) (ruleThen : Nat → Int32) (heads : Nat → Int32) (boxOf : Nat → Int32) (shutBy : Nat → Int32) (around : Nat → Int32) (inner : Int32) (truth : Nat → Int32) (turned : Nat → Int32) (pile : Nat → Int32) (x1 : Int32) (x2 : Int32) (x3 : Int32) (hk : vp_in x1 60) (har : pz_ar ruleThen around) (hsb : pz_sb ruleThen shutBy) (hp : x2 = 10 → vp_in (ps x1.toNatClampNeg) 60) (hq : ∀ n : Int32, x2 = n → n = 9 ∨ n = 11 → vp_in (qs x1.toNatClampNeg) 60) (hr9 : x2 = 9 → vp_in (rs x1.toNatClampNeg) 60) (hgb : ∀ n : Int32, x2 = n → n = 9 ∨ n = 11 → vp_in x3 80) : Met l yX4_badBoxes wsX4_badBoxes ({ frames := 2, cells := 0, slots := 0, locals := 44 }) (va_Pc [.ref (q 0), .int (x1), .int (x2), .int (x3)] (fun U => va_P D vwCl (pz_M q k formulas kind left right height laid rules ps qs rs fs checked stopped reason made opened ruleThen heads boxOf shutBy around inner truth turned pile) U.heap ∧ pz_KM D q k U)) (va_Qi (fun r (_ : Unit) => r = (f_X4_badBoxes left right ps qs rs ruleThen heads shutBy around inner x1 x2 x3)) (fun _ t => va_P D vwCl (pz_M q k formulas kind left right height laid rules ps qs rs fs checked stopped reason made opened ruleThen heads boxOf shutBy around inner truth turned pile) t.heap) (pz_A 19 q)) 0 0 (pz_A 19 q) := by
  refine Met.ofW (cc := cX4_badBoxes) (maxL := 7) (ret := (some .int)) (by decide) rfl ?_
  intro p e s m args below meth c s₁ B hml hv
  obtain ⟨rfl, hP, hKX⟩ := hv
  have hx := B.exec
  have hb := B.bytes
  have hr := B.returns
  have hts := atoms_spec (ws := wsX4_badBoxes) B.pre
  have hown : s.vm.findClass RX4 = some m.cls := findClass_of_methodNamed B.named
  have hlocks := B.notSynchronized
  have hC : pz_C p s m ([.ref (q 0), .int (x1), .int (x2), .int (x3)] : List Value).toArray meth c cX4_badBoxes wsX4_badBoxes RX4 7 (some .int) := ⟨hx, hb, hml, hown, hts, hr, hlocks⟩
  have hK := hKX.1
  have hS : va_S (pz_A 19 q) s.heap s.heap [] := va_S.rf
  have hl := lv_entry [.ref (q 0), .int (x1), .int (x2), .int (x3)] (n := 7) (Nat.le_of_ble_eq_true rfl)
  rw [lg_entry_eq]
  generalize (lg_sl [.ref (q 0), .int (x1), .int (x2), .int (x3)] ++ List.replicate (7 - (lg_sl [.ref (q 0), .int (x1), .int (x2), .int (x3)]).length) Slot.unset).toArray = ls at hl ⊢
  have hl : lv_has ls 7 [(0, .ref (q 0)), (1, .int (x1)), (2, .int (x2)), (3, .int (x3))] := hl
  generalize hF : f_X4_badBoxes left right ps qs rs ruleThen heads shutBy around inner x1 x2 x3 = G
  replace hF := hF.symm
  unfold f_X4_badBoxes at hF
  refine lv_iload_n hx hb dX4_badBoxes_0 rfl (lv_at hl 2 rfl) ?_
  refine lv_iconst (v := 2) hx hb dX4_badBoxes_1 (by decide) ?_
  refine lv_icmp_ne (tgt := 19) hx hb dX4_badBoxes_2 (by decide) (fun c_1 => ?_) (fun c_1 => ?_)
  · have hF := hF.trans (if_neg c_1)
    refine lv_iload_n hx hb dX4_badBoxes_19 rfl (lv_at hl 2 rfl) ?_
    refine lv_bipush (v := 10) hx hb dX4_badBoxes_20 (by decide) ?_
    refine lv_icmp_ne (tgt := 36) hx hb dX4_badBoxes_22 (by decide) (fun c_2 => ?_) (fun c_2 => ?_)
    · have hF := hF.trans (if_neg c_2)
      refine lv_iload_n hx hb dX4_badBoxes_36 rfl (lv_at hl 2 rfl) ?_
      refine lv_bipush (v := 11) hx hb dX4_badBoxes_37 (by decide) ?_
      refine lv_icmp_ne (tgt := 69) hx hb dX4_badBoxes_39 (by decide) (fun c_3 => ?_) (fun c_3 => ?_)
      · have hF := hF.trans (if_neg c_3)
        refine lv_iload_n hx hb dX4_badBoxes_69 rfl (lv_at hl 2 rfl) ?_
        refine lv_bipush (v := 9) hx hb dX4_badBoxes_70 (by decide) ?_
        refine lv_icmp_eq (tgt := 77) hx hb dX4_badBoxes_72 (by decide) (fun c_4 => ?_) (fun c_4 => ?_)
        · have hF := hF.trans (if_pos c_4)
          refine lv_aload_n hx hb dX4_badBoxes_77 rfl (lv_at hl 0 rfl) ?_
          refine va_get (D := D) (ci := 4) (v := .ref (q 8)) (C := RX4) (T := TX4) (N := 25) hx hb hts in_X4_badBoxes_X4 hown hK hP 0 rfl rfl 8 (by decide) (hts _ fl_X4_badBoxes_32) (fun _ h9 => h9) rfl dX4_badBoxes_78 ?_
          refine lv_iload_n hx hb dX4_badBoxes_81 rfl (lv_at hl 1 rfl) ?_
          have hi_5 : vp_in x1 60 := hk
          refine va_iald hx hb hK hP 8 0 rfl rfl hi_5 dX4_badBoxes_82 ?_
          refine lv_istore (lv' := [(4, .int ((qs (x1).toNatClampNeg))), (0, .ref (q 0)), (1, .int (x1)), (2, .int (x2)), (3, .int (x3))]) hx hb dX4_badBoxes_83 hl (by decide) rfl (fun ls hl => ?_)
          refine lv_aload_n hx hb dX4_badBoxes_85 rfl (lv_at hl 1 rfl) ?_
          refine va_get (D := D) (ci := 4) (v := .ref (q 9)) (C := RX4) (T := TX4) (N := 25) hx hb hts in_X4_badBoxes_X4 hown hK hP 0 rfl rfl 9 (by decide) (hts _ fl_X4_badBoxes_35) (fun _ h9 => h9) rfl dX4_badBoxes_86 ?_
          refine lv_iload_n hx hb dX4_badBoxes_89 rfl (lv_at hl 2 rfl) ?_
          have hi_6 : vp_in x1 60 := hk
          refine va_iald hx hb hK hP 9 0 rfl rfl hi_6 dX4_badBoxes_90 ?_
          refine lv_istore (lv' := [(5, .int ((rs (x1).toNatClampNeg))), (4, .int ((qs (x1).toNatClampNeg))), (0, .ref (q 0)), (1, .int (x1)), (2, .int (x2)), (3, .int (x3))]) hx hb dX4_badBoxes_91 hl (by decide) rfl (fun ls hl => ?_)
          refine lv_aload_n hx hb dX4_badBoxes_93 rfl (lv_at hl 2 rfl) ?_
          refine lv_iload hx hb dX4_badBoxes_94 (lv_at hl 1 rfl) ?_
          refine pz_Vi (As := [.int ((qs (x1).toNatClampNeg))]) (rest := []) ⟨hx, hb, hml, hown, hts⟩ (c_X4_badBox l D q k formulas kind left right height laid rules ps qs rs fs checked stopped reason made opened ruleThen heads boxOf shutBy around inner truth turned pile (qs (x1).toNatClampNeg) (hq _ ‹_› (by decide)) har hsb) (cwV 1 hts gX4_badBoxes_X4_badBox rfl rfl rfl hdV_X4_badBox ⟨Nat.le_of_ble_eq_true rfl, Nat.le_of_ble_eq_true rfl⟩) pz_KM.call hKX.go (va_recv hK hP (ci := 4) (q0 := 0) rfl rfl) hP hS rfl hl.1 rfl (Nat.le_of_ble_eq_true rfl) dX4_badBoxes_96 ⟨Nat.zero_le _, Nat.zero_le _⟩ (fun r_7 u_7 H locs hF_7 hP hS => ?_)
          have hF := hF.trans (pz_be hF_7)
          refine lv_istore (lv' := [(6, .int (r_7)), (5, .int ((rs (x1).toNatClampNeg))), (4, .int ((qs (x1).toNatClampNeg))), (0, .ref (q 0)), (1, .int (x1)), (2, .int (x2)), (3, .int (x3))]) hx hb dX4_badBoxes_99 hl (by decide) rfl (fun ls hl => ?_)
          refine lv_iload hx hb dX4_badBoxes_101 (lv_at hl 0 rfl) ?_
          refine lv_if_ne (tgt := 115) hx hb dX4_badBoxes_103 (by decide) (fun c_8 => ?_) (fun c_8 => ?_)
          · have hF := hF.trans (if_neg c_8)
            refine lv_iload hx hb dX4_badBoxes_115 (lv_at hl 0 rfl) ?_
            refine lv_istore (lv' := [(6, .int (r_7)), (5, .int ((rs (x1).toNatClampNeg))), (4, .int ((qs (x1).toNatClampNeg))), (0, .ref (q 0)), (1, .int (x1)), (2, .int (x2)), (3, .int (x3))]) hx hb dX4_badBoxes_117 hl (by decide) rfl (fun ls hl => ?_)
            refine lv_iload hx hb dX4_badBoxes_119 (lv_at hl 0 rfl) ?_
            refine lv_if_eq (tgt := 127) hx hb dX4_badBoxes_121 (by decide) (fun c_9 => ?_) (fun c_9 => ?_)
            · have hF := hF.trans (if_pos c_9)
              refine lv_aload_n hx hb dX4_badBoxes_127 rfl (lv_at hl 3 rfl) ?_
              refine va_get (D := D) (ci := 4) (v := .ref (q 12)) (C := RX4) (T := TX4) (N := 25) hx hb hts in_X4_badBoxes_X4 hown hK hP 0 rfl rfl 17 (by decide) (hts _ fl_X4_badBoxes_44) (fun _ h9 => h9) rfl dX4_badBoxes_128 ?_
              refine lv_iload hx hb dX4_badBoxes_131 (lv_at hl 2 rfl) ?_
              have hi_10 : vp_in (qs (x1).toNatClampNeg) 60 := hq _ ‹_› (by decide)
              refine va_iald hx hb hK hP 12 0 rfl rfl hi_10 dX4_badBoxes_133 ?_
              refine lv_aload_n hx hb dX4_badBoxes_134 rfl (lv_at hl 3 rfl) ?_
              refine va_get (D := D) (ci := 4) (v := .ref (q 2)) (C := RX4) (T := TX4) (N := 25) hx hb hts in_X4_badBoxes_X4 hown hK hP 0 rfl rfl 2 (by decide) (hts _ fl_X4_badBoxes_13) (fun _ h9 => h9) rfl dX4_badBoxes_135 ?_
              refine lv_iload_n hx hb dX4_badBoxes_138 rfl (lv_at hl 6 rfl) ?_
              have hi_11 : vp_in x3 80 := hgb _ ‹_› (by decide)
              refine va_iald hx hb hK hP 2 0 rfl rfl hi_11 dX4_badBoxes_139 ?_
              refine lv_icmp_ne (tgt := 178) hx hb dX4_badBoxes_140 (by decide) (fun c_12 => ?_) (fun c_12 => ?_)
              · have hF := hF.trans (if_neg c_12)
                refine lv_bipush (v := 6) hx hb dX4_badBoxes_178 (by decide) ?_
                exact W.iret (v := 6) hx hb hr (fun t ht hW => ⟨⟨6, (), rfl, hF.symm, pz_hp ht hP⟩, hS.F ht⟩) hS.2.2 dX4_badBoxes_180 hlocks
              · have hF := hF.trans (if_pos c_12)
                refine lv_aload_n hx hb dX4_badBoxes_143 rfl (lv_at hl 3 rfl) ?_
                refine va_get (D := D) (ci := 4) (v := .ref (q 12)) (C := RX4) (T := TX4) (N := 25) hx hb hts in_X4_badBoxes_X4 hown hK hP 0 rfl rfl 17 (by decide) (hts _ fl_X4_badBoxes_44) (fun _ h9 => h9) rfl dX4_badBoxes_144 ?_
                refine lv_iload hx hb dX4_badBoxes_147 (lv_at hl 1 rfl) ?_
                have hi_13 : vp_in (rs (x1).toNatClampNeg) 60 := hr9 ‹_›
                refine va_iald hx hb hK hP 12 0 rfl rfl hi_13 dX4_badBoxes_149 ?_
                refine lv_aload_n hx hb dX4_badBoxes_150 rfl (lv_at hl 3 rfl) ?_
                refine va_get (D := D) (ci := 4) (v := .ref (q 3)) (C := RX4) (T := TX4) (N := 25) hx hb hts in_X4_badBoxes_X4 hown hK hP 0 rfl rfl 3 (by decide) (hts _ fl_X4_badBoxes_16) (fun _ h9 => h9) rfl dX4_badBoxes_151 ?_
                refine lv_iload_n hx hb dX4_badBoxes_154 rfl (lv_at hl 6 rfl) ?_
                have hi_14 : vp_in x3 80 := hgb _ ‹_› (by decide)
                refine va_iald hx hb hK hP 3 0 rfl rfl hi_14 dX4_badBoxes_155 ?_
                refine lv_icmp_ne (tgt := 178) hx hb dX4_badBoxes_156 (by decide) (fun c_15 => ?_) (fun c_15 => ?_)
                · have hF := hF.trans (if_neg c_15)
                  refine lv_bipush (v := 6) hx hb dX4_badBoxes_178 (by decide) ?_
                  exact W.iret (v := 6) hx hb hr (fun t ht hW => ⟨⟨6, (), rfl, hF.symm, pz_hp ht hP⟩, hS.F ht⟩) hS.2.2 dX4_badBoxes_180 hlocks
                · have hF := hF.trans (if_pos c_15)
                  refine lv_aload_n hx hb dX4_badBoxes_159 rfl (lv_at hl 3 rfl) ?_
                  refine lv_iload hx hb dX4_badBoxes_160 (lv_at hl 2 rfl) ?_
                  refine pz_Vi (As := [.int ((qs (x1).toNatClampNeg))]) (rest := []) ⟨hx, hb, hml, hown, hts⟩ (c_X4_endOf l D q k formulas kind left right height laid rules ps qs rs fs checked stopped reason made opened ruleThen heads boxOf shutBy around inner truth turned pile (qs (x1).toNatClampNeg) (hq _ ‹_› (by decide)) (pz_bb hsb (hq _ ‹_› (by decide)) ‹_› ‹_›).1) (cwV 1 hts gX4_badBoxes_X4_endOf rfl rfl rfl hdV_X4_endOf ⟨Nat.le_of_ble_eq_true rfl, Nat.le_of_ble_eq_true rfl⟩) pz_KM.call hKX.go (va_recv hK hP (ci := 4) (q0 := 0) rfl rfl) hP hS rfl hl.1 rfl (Nat.le_of_ble_eq_true rfl) dX4_badBoxes_162 ⟨Nat.zero_le _, Nat.zero_le _⟩ (fun r_16 u_16 H locs hF_16 hP hS => ?_)
                  have hF := hF.trans (pz_be hF_16)
                  refine lv_aload_n hx hb dX4_badBoxes_165 rfl (lv_at hl 3 rfl) ?_
                  refine lv_iload hx hb dX4_badBoxes_166 (lv_at hl 1 rfl) ?_
                  refine pz_Vi (As := [.int ((rs (x1).toNatClampNeg))]) (rest := [.int (r_16)]) ⟨hx, hb, hml, hown, hts⟩ (c_X4_endOf l D q k formulas kind left right height laid rules ps qs rs fs checked stopped reason made opened ruleThen heads boxOf shutBy around inner truth turned pile (rs (x1).toNatClampNeg) (hr9 ‹_›) (by first | exact (pz_bb hsb (hr9 ‹_›) ‹_› ‹_›).1 | contradiction)) (cwV 1 hts gX4_badBoxes_X4_endOf rfl rfl rfl hdV_X4_endOf ⟨Nat.le_of_ble_eq_true rfl, Nat.le_of_ble_eq_true rfl⟩) pz_KM.call hKX.go (va_recv hK hP (ci := 4) (q0 := 0) rfl rfl) hP hS rfl hl.1 rfl (Nat.le_of_ble_eq_true rfl) dX4_badBoxes_168 ⟨Nat.zero_le _, Nat.zero_le _⟩ (fun r_17 u_17 H locs hF_17 hP hS => ?_)
                  have hF := hF.trans (pz_be hF_17)
                  refine lv_icmp_ne (tgt := 178) hx hb dX4_badBoxes_171 (by decide) (fun c_18 => ?_) (fun c_18 => ?_)
                  · have hF := hF.trans (if_neg c_18)
                    refine lv_bipush (v := 6) hx hb dX4_badBoxes_178 (by decide) ?_
                    exact W.iret (v := 6) hx hb hr (fun t ht hW => ⟨⟨6, (), rfl, hF.symm, pz_hp ht hP⟩, hS.F ht⟩) hS.2.2 dX4_badBoxes_180 hlocks
                  · have hF := hF.trans (if_pos c_18)
                    refine lv_iconst (v := 0) hx hb dX4_badBoxes_174 (by decide) ?_
                    refine lv_goto (tgt := 180) hx hb dX4_badBoxes_175 (by decide) ?_
                    exact W.iret (v := 0) hx hb hr (fun t ht hW => ⟨⟨0, (), rfl, hF.symm, pz_hp ht hP⟩, hS.F ht⟩) hS.2.2 dX4_badBoxes_180 hlocks
            · have hF := hF.trans (if_neg c_9)
              refine lv_iload hx hb dX4_badBoxes_124 (lv_at hl 0 rfl) ?_
              exact W.iret (v := r_7) hx hb hr (fun t ht hW => ⟨⟨r_7, (), rfl, hF.symm, pz_hp ht hP⟩, hS.F ht⟩) hS.2.2 dX4_badBoxes_126 hlocks
          · have hF := hF.trans (if_pos c_8)
            refine lv_aload_n hx hb dX4_badBoxes_106 rfl (lv_at hl 3 rfl) ?_
            refine lv_iload hx hb dX4_badBoxes_107 (lv_at hl 1 rfl) ?_
            refine pz_Vi (As := [.int ((rs (x1).toNatClampNeg))]) (rest := []) ⟨hx, hb, hml, hown, hts⟩ (c_X4_badBox l D q k formulas kind left right height laid rules ps qs rs fs checked stopped reason made opened ruleThen heads boxOf shutBy around inner truth turned pile (rs (x1).toNatClampNeg) (hr9 ‹_›) har hsb) (cwV 1 hts gX4_badBoxes_X4_badBox rfl rfl rfl hdV_X4_badBox ⟨Nat.le_of_ble_eq_true rfl, Nat.le_of_ble_eq_true rfl⟩) pz_KM.call hKX.go (va_recv hK hP (ci := 4) (q0 := 0) rfl rfl) hP hS rfl hl.1 rfl (Nat.le_of_ble_eq_true rfl) dX4_badBoxes_109 ⟨Nat.zero_le _, Nat.zero_le _⟩ (fun r_19 u_19 H locs hF_19 hP hS => ?_)
            have hF := hF.trans (pz_be hF_19)
            refine lv_goto (tgt := 117) hx hb dX4_badBoxes_112 (by decide) ?_
            refine lv_istore (lv' := [(6, .int (r_19)), (5, .int ((rs (x1).toNatClampNeg))), (4, .int ((qs (x1).toNatClampNeg))), (0, .ref (q 0)), (1, .int (x1)), (2, .int (x2)), (3, .int (x3))]) hx hb dX4_badBoxes_117 hl (by decide) rfl (fun ls hl => ?_)
            refine lv_iload hx hb dX4_badBoxes_119 (lv_at hl 0 rfl) ?_
            refine lv_if_eq (tgt := 127) hx hb dX4_badBoxes_121 (by decide) (fun c_20 => ?_) (fun c_20 => ?_)
            · have hF := hF.trans (if_pos c_20)
              refine lv_aload_n hx hb dX4_badBoxes_127 rfl (lv_at hl 3 rfl) ?_
              refine va_get (D := D) (ci := 4) (v := .ref (q 12)) (C := RX4) (T := TX4) (N := 25) hx hb hts in_X4_badBoxes_X4 hown hK hP 0 rfl rfl 17 (by decide) (hts _ fl_X4_badBoxes_44) (fun _ h9 => h9) rfl dX4_badBoxes_128 ?_
              refine lv_iload hx hb dX4_badBoxes_131 (lv_at hl 2 rfl) ?_
              have hi_21 : vp_in (qs (x1).toNatClampNeg) 60 := hq _ ‹_› (by decide)
              refine va_iald hx hb hK hP 12 0 rfl rfl hi_21 dX4_badBoxes_133 ?_
              refine lv_aload_n hx hb dX4_badBoxes_134 rfl (lv_at hl 3 rfl) ?_
              refine va_get (D := D) (ci := 4) (v := .ref (q 2)) (C := RX4) (T := TX4) (N := 25) hx hb hts in_X4_badBoxes_X4 hown hK hP 0 rfl rfl 2 (by decide) (hts _ fl_X4_badBoxes_13) (fun _ h9 => h9) rfl dX4_badBoxes_135 ?_
              refine lv_iload_n hx hb dX4_badBoxes_138 rfl (lv_at hl 6 rfl) ?_
              have hi_22 : vp_in x3 80 := hgb _ ‹_› (by decide)
              refine va_iald hx hb hK hP 2 0 rfl rfl hi_22 dX4_badBoxes_139 ?_
              refine lv_icmp_ne (tgt := 178) hx hb dX4_badBoxes_140 (by decide) (fun c_23 => ?_) (fun c_23 => ?_)
              · have hF := hF.trans (if_neg c_23)
                refine lv_bipush (v := 6) hx hb dX4_badBoxes_178 (by decide) ?_
                exact W.iret (v := 6) hx hb hr (fun t ht hW => ⟨⟨6, (), rfl, hF.symm, pz_hp ht hP⟩, hS.F ht⟩) hS.2.2 dX4_badBoxes_180 hlocks
              · have hF := hF.trans (if_pos c_23)
                refine lv_aload_n hx hb dX4_badBoxes_143 rfl (lv_at hl 3 rfl) ?_
                refine va_get (D := D) (ci := 4) (v := .ref (q 12)) (C := RX4) (T := TX4) (N := 25) hx hb hts in_X4_badBoxes_X4 hown hK hP 0 rfl rfl 17 (by decide) (hts _ fl_X4_badBoxes_44) (fun _ h9 => h9) rfl dX4_badBoxes_144 ?_
                refine lv_iload hx hb dX4_badBoxes_147 (lv_at hl 1 rfl) ?_
                have hi_24 : vp_in (rs (x1).toNatClampNeg) 60 := hr9 ‹_›
                refine va_iald hx hb hK hP 12 0 rfl rfl hi_24 dX4_badBoxes_149 ?_
                refine lv_aload_n hx hb dX4_badBoxes_150 rfl (lv_at hl 3 rfl) ?_
                refine va_get (D := D) (ci := 4) (v := .ref (q 3)) (C := RX4) (T := TX4) (N := 25) hx hb hts in_X4_badBoxes_X4 hown hK hP 0 rfl rfl 3 (by decide) (hts _ fl_X4_badBoxes_16) (fun _ h9 => h9) rfl dX4_badBoxes_151 ?_
                refine lv_iload_n hx hb dX4_badBoxes_154 rfl (lv_at hl 6 rfl) ?_
                have hi_25 : vp_in x3 80 := hgb _ ‹_› (by decide)
                refine va_iald hx hb hK hP 3 0 rfl rfl hi_25 dX4_badBoxes_155 ?_
                refine lv_icmp_ne (tgt := 178) hx hb dX4_badBoxes_156 (by decide) (fun c_26 => ?_) (fun c_26 => ?_)
                · have hF := hF.trans (if_neg c_26)
                  refine lv_bipush (v := 6) hx hb dX4_badBoxes_178 (by decide) ?_
                  exact W.iret (v := 6) hx hb hr (fun t ht hW => ⟨⟨6, (), rfl, hF.symm, pz_hp ht hP⟩, hS.F ht⟩) hS.2.2 dX4_badBoxes_180 hlocks
                · have hF := hF.trans (if_pos c_26)
                  refine lv_aload_n hx hb dX4_badBoxes_159 rfl (lv_at hl 3 rfl) ?_
                  refine lv_iload hx hb dX4_badBoxes_160 (lv_at hl 2 rfl) ?_
                  refine pz_Vi (As := [.int ((qs (x1).toNatClampNeg))]) (rest := []) ⟨hx, hb, hml, hown, hts⟩ (c_X4_endOf l D q k formulas kind left right height laid rules ps qs rs fs checked stopped reason made opened ruleThen heads boxOf shutBy around inner truth turned pile (qs (x1).toNatClampNeg) (hq _ ‹_› (by decide)) (pz_bb hsb (hq _ ‹_› (by decide)) ‹_› ‹_›).1) (cwV 1 hts gX4_badBoxes_X4_endOf rfl rfl rfl hdV_X4_endOf ⟨Nat.le_of_ble_eq_true rfl, Nat.le_of_ble_eq_true rfl⟩) pz_KM.call hKX.go (va_recv hK hP (ci := 4) (q0 := 0) rfl rfl) hP hS rfl hl.1 rfl (Nat.le_of_ble_eq_true rfl) dX4_badBoxes_162 ⟨Nat.zero_le _, Nat.zero_le _⟩ (fun r_27 u_27 H locs hF_27 hP hS => ?_)
                  have hF := hF.trans (pz_be hF_27)
                  refine lv_aload_n hx hb dX4_badBoxes_165 rfl (lv_at hl 3 rfl) ?_
                  refine lv_iload hx hb dX4_badBoxes_166 (lv_at hl 1 rfl) ?_
                  refine pz_Vi (As := [.int ((rs (x1).toNatClampNeg))]) (rest := [.int (r_27)]) ⟨hx, hb, hml, hown, hts⟩ (c_X4_endOf l D q k formulas kind left right height laid rules ps qs rs fs checked stopped reason made opened ruleThen heads boxOf shutBy around inner truth turned pile (rs (x1).toNatClampNeg) (hr9 ‹_›) (by first | exact (pz_bb hsb (hr9 ‹_›) ‹_› ‹_›).1 | contradiction)) (cwV 1 hts gX4_badBoxes_X4_endOf rfl rfl rfl hdV_X4_endOf ⟨Nat.le_of_ble_eq_true rfl, Nat.le_of_ble_eq_true rfl⟩) pz_KM.call hKX.go (va_recv hK hP (ci := 4) (q0 := 0) rfl rfl) hP hS rfl hl.1 rfl (Nat.le_of_ble_eq_true rfl) dX4_badBoxes_168 ⟨Nat.zero_le _, Nat.zero_le _⟩ (fun r_28 u_28 H locs hF_28 hP hS => ?_)
                  have hF := hF.trans (pz_be hF_28)
                  refine lv_icmp_ne (tgt := 178) hx hb dX4_badBoxes_171 (by decide) (fun c_29 => ?_) (fun c_29 => ?_)
                  · have hF := hF.trans (if_neg c_29)
                    refine lv_bipush (v := 6) hx hb dX4_badBoxes_178 (by decide) ?_
                    exact W.iret (v := 6) hx hb hr (fun t ht hW => ⟨⟨6, (), rfl, hF.symm, pz_hp ht hP⟩, hS.F ht⟩) hS.2.2 dX4_badBoxes_180 hlocks
                  · have hF := hF.trans (if_pos c_29)
                    refine lv_iconst (v := 0) hx hb dX4_badBoxes_174 (by decide) ?_
                    refine lv_goto (tgt := 180) hx hb dX4_badBoxes_175 (by decide) ?_
                    exact W.iret (v := 0) hx hb hr (fun t ht hW => ⟨⟨0, (), rfl, hF.symm, pz_hp ht hP⟩, hS.F ht⟩) hS.2.2 dX4_badBoxes_180 hlocks
            · have hF := hF.trans (if_neg c_20)
              refine lv_iload hx hb dX4_badBoxes_124 (lv_at hl 0 rfl) ?_
              exact W.iret (v := r_19) hx hb hr (fun t ht hW => ⟨⟨r_19, (), rfl, hF.symm, pz_hp ht hP⟩, hS.F ht⟩) hS.2.2 dX4_badBoxes_126 hlocks
        · have hF := hF.trans (if_neg c_4)
          refine lv_iconst (v := 0) hx hb dX4_badBoxes_75 (by decide) ?_
          exact W.iret (v := 0) hx hb hr (fun t ht hW => ⟨⟨0, (), rfl, hF.symm, pz_hp ht hP⟩, hS.F ht⟩) hS.2.2 dX4_badBoxes_76 hlocks
      · have hF := hF.trans (if_pos c_3)
        refine lv_aload_n hx hb dX4_badBoxes_42 rfl (lv_at hl 0 rfl) ?_
        refine va_get (D := D) (ci := 4) (v := .ref (q 12)) (C := RX4) (T := TX4) (N := 25) hx hb hts in_X4_badBoxes_X4 hown hK hP 0 rfl rfl 17 (by decide) (hts _ fl_X4_badBoxes_44) (fun _ h9 => h9) rfl dX4_badBoxes_43 ?_
        refine lv_aload_n hx hb dX4_badBoxes_46 rfl (lv_at hl 0 rfl) ?_
        refine va_get (D := D) (ci := 4) (v := .ref (q 8)) (C := RX4) (T := TX4) (N := 25) hx hb hts in_X4_badBoxes_X4 hown hK hP 0 rfl rfl 8 (by decide) (hts _ fl_X4_badBoxes_32) (fun _ h9 => h9) rfl dX4_badBoxes_47 ?_
        refine lv_iload_n hx hb dX4_badBoxes_50 rfl (lv_at hl 1 rfl) ?_
        have hi_30 : vp_in x1 60 := hk
        refine va_iald hx hb hK hP 8 0 rfl rfl hi_30 dX4_badBoxes_51 ?_
        have hi_31 : vp_in (qs (x1).toNatClampNeg) 60 := hq _ ‹_› (by decide)
        refine va_iald hx hb hK hP 12 0 rfl rfl hi_31 dX4_badBoxes_52 ?_
        refine lv_aload_n hx hb dX4_badBoxes_53 rfl (lv_at hl 0 rfl) ?_
        refine va_get (D := D) (ci := 4) (v := .ref (q 2)) (C := RX4) (T := TX4) (N := 25) hx hb hts in_X4_badBoxes_X4 hown hK hP 0 rfl rfl 2 (by decide) (hts _ fl_X4_badBoxes_13) (fun _ h9 => h9) rfl dX4_badBoxes_54 ?_
        refine lv_iload_n hx hb dX4_badBoxes_57 rfl (lv_at hl 3 rfl) ?_
        have hi_32 : vp_in x3 80 := hgb _ ‹_› (by decide)
        refine va_iald hx hb hK hP 2 0 rfl rfl hi_32 dX4_badBoxes_58 ?_
        refine lv_icmp_ne (tgt := 66) hx hb dX4_badBoxes_59 (by decide) (fun c_33 => ?_) (fun c_33 => ?_)
        · have hF := hF.trans (if_neg c_33)
          refine lv_bipush (v := 6) hx hb dX4_badBoxes_66 (by decide) ?_
          exact W.iret (v := 6) hx hb hr (fun t ht hW => ⟨⟨6, (), rfl, hF.symm, pz_hp ht hP⟩, hS.F ht⟩) hS.2.2 dX4_badBoxes_68 hlocks
        · have hF := hF.trans (if_pos c_33)
          refine lv_iconst (v := 0) hx hb dX4_badBoxes_62 (by decide) ?_
          refine lv_goto (tgt := 68) hx hb dX4_badBoxes_63 (by decide) ?_
          exact W.iret (v := 0) hx hb hr (fun t ht hW => ⟨⟨0, (), rfl, hF.symm, pz_hp ht hP⟩, hS.F ht⟩) hS.2.2 dX4_badBoxes_68 hlocks
    · have hF := hF.trans (if_pos c_2)
      refine lv_aload_n hx hb dX4_badBoxes_25 rfl (lv_at hl 0 rfl) ?_
      refine lv_aload_n hx hb dX4_badBoxes_26 rfl (lv_at hl 0 rfl) ?_
      refine va_get (D := D) (ci := 4) (v := .ref (q 7)) (C := RX4) (T := TX4) (N := 25) hx hb hts in_X4_badBoxes_X4 hown hK hP 0 rfl rfl 7 (by decide) (hts _ fl_X4_badBoxes_29) (fun _ h9 => h9) rfl dX4_badBoxes_27 ?_
      refine lv_iload_n hx hb dX4_badBoxes_30 rfl (lv_at hl 1 rfl) ?_
      have hi_34 : vp_in x1 60 := hk
      refine va_iald hx hb hK hP 7 0 rfl rfl hi_34 dX4_badBoxes_31 ?_
      refine pz_Vi (As := [.int ((ps (x1).toNatClampNeg))]) (rest := []) ⟨hx, hb, hml, hown, hts⟩ (c_X4_badBox l D q k formulas kind left right height laid rules ps qs rs fs checked stopped reason made opened ruleThen heads boxOf shutBy around inner truth turned pile (ps (x1).toNatClampNeg) (hp ‹_›) har hsb) (cwV 1 hts gX4_badBoxes_X4_badBox rfl rfl rfl hdV_X4_badBox ⟨Nat.le_of_ble_eq_true rfl, Nat.le_of_ble_eq_true rfl⟩) pz_KM.call hKX.go (va_recv hK hP (ci := 4) (q0 := 0) rfl rfl) hP hS rfl hl.1 rfl (Nat.le_of_ble_eq_true rfl) dX4_badBoxes_32 ⟨Nat.zero_le _, Nat.zero_le _⟩ (fun r_35 u_35 H locs hF_35 hP hS => ?_)
      have hF := hF.trans (pz_be hF_35)
      exact W.iret (v := r_35) hx hb hr (fun t ht hW => ⟨⟨r_35, (), rfl, hF.symm, pz_hp ht hP⟩, hS.F ht⟩) hS.2.2 dX4_badBoxes_35 hlocks
  · have hF := hF.trans (if_pos c_1)
    refine lv_aload_n hx hb dX4_badBoxes_5 rfl (lv_at hl 0 rfl) ?_
    refine va_get (D := D) (ci := 4) (v := .int (inner)) (C := RX4) (T := TX4) (N := 25) hx hb hts in_X4_badBoxes_X4 hown hK hP 0 rfl rfl 21 (by decide) (hts _ fl_X4_badBoxes_102) (fun _ h9 => h9) rfl dX4_badBoxes_6 ?_
    refine lv_iconst (v := (-1)) hx hb dX4_badBoxes_9 (by decide) ?_
    refine lv_icmp_ne (tgt := 17) hx hb dX4_badBoxes_10 (by decide) (fun c_36 => ?_) (fun c_36 => ?_)
    · have hF := hF.trans (if_neg c_36)
      refine lv_iconst (v := 0) hx hb dX4_badBoxes_17 (by decide) ?_
      exact W.iret (v := 0) hx hb hr (fun t ht hW => ⟨⟨0, (), rfl, hF.symm, pz_hp ht hP⟩, hS.F ht⟩) hS.2.2 dX4_badBoxes_18 hlocks
    · have hF := hF.trans (if_pos c_36)
      refine lv_iconst (v := 5) hx hb dX4_badBoxes_13 (by decide) ?_
      refine lv_goto (tgt := 18) hx hb dX4_badBoxes_14 (by decide) ?_
      exact W.iret (v := 5) hx hb hr (fun t ht hW => ⟨⟨5, (), rfl, hF.symm, pz_hp ht hP⟩, hS.F ht⟩) hS.2.2 dX4_badBoxes_18 hlocks

-- == X4_headOf
def f_X4_headOf (formulas : Int32) (kind : Nat → Int32) (left : Nat → Int32) (right : Nat → Int32) (height : Nat → Int32) (ps : Nat → Int32) (qs : Nat → Int32) (fs : Nat → Int32) (heads : Nat → Int32) (shutBy : Nat → Int32) (x1 : Int32) (x2 : Int32) (x3 : Int32) : Int32 × (Int32) × (Nat → Int32) × (Nat → Int32) × (Nat → Int32) × (Nat → Int32) := if x2 = 3 then ((x3, formulas, kind, left, right, height)) else (if x2 = 4 then (pz_bnd (f_X4_make formulas kind left right height 2 x3 (heads ((qs (x1).toNatClampNeg)).toNatClampNeg)) (fun z_5 => (z_5.1, z_5.2.1, z_5.2.2.1, z_5.2.2.2.1, z_5.2.2.2.2.1, z_5.2.2.2.2.2))) else (if x2 = 5 then (((left (x3).toNatClampNeg), formulas, kind, left, right, height)) else (if x2 = 6 then (((right (x3).toNatClampNeg), formulas, kind, left, right, height)) else (if x2 = 7 then (pz_bnd (f_X4_make formulas kind left right height 3 x3 (fs (x1).toNatClampNeg)) (fun z_12 => (z_12.1, z_12.2.1, z_12.2.2.1, z_12.2.2.2.1, z_12.2.2.2.2.1, z_12.2.2.2.2.2))) else (if x2 = 8 then (pz_bnd (f_X4_make formulas kind left right height 3 (fs (x1).toNatClampNeg) x3) (fun z_15 => (z_15.1, z_15.2.1, z_15.2.2.1, z_15.2.2.2.1, z_15.2.2.2.2.1, z_15.2.2.2.2.2))) else (if x2 = 9 then (pz_bnd (f_X4_endOf heads shutBy (qs (x1).toNatClampNeg)) (fun z_18 => (z_18, formulas, kind, left, right, height))) else (if x2 = 10 then (pz_bnd (f_X4_endOf heads shutBy (ps (x1).toNatClampNeg)) (fun z_23 => pz_bnd (f_X4_make formulas kind left right height 4 (heads ((ps (x1).toNatClampNeg)).toNatClampNeg) z_23) (fun z_24 => (z_24.1, z_24.2.1, z_24.2.2.1, z_24.2.2.2.1, z_24.2.2.2.2.1, z_24.2.2.2.2.2)))) else (if x2 = 11 then (((right (x3).toNatClampNeg), formulas, kind, left, right, height)) else (if x2 = 13 then (((left ((left (x3).toNatClampNeg)).toNatClampNeg), formulas, kind, left, right, height)) else (((fs (x1).toNatClampNeg), formulas, kind, left, right, height)))))))))))
theorem fl_X4_headOf_13 : Cond.fieldLink RX4 13 "BoxProofsModel" "left" "[I" ∈ wsX4_headOf := by decide +kernel
theorem fl_X4_headOf_16 : Cond.fieldLink RX4 16 "BoxProofsModel" "right" "[I" ∈ wsX4_headOf := by decide +kernel
theorem fl_X4_headOf_29 : Cond.fieldLink RX4 29 "BoxProofsModel" "ps" "[I" ∈ wsX4_headOf := by decide +kernel
theorem fl_X4_headOf_32 : Cond.fieldLink RX4 32 "BoxProofsModel" "qs" "[I" ∈ wsX4_headOf := by decide +kernel
theorem fl_X4_headOf_38 : Cond.fieldLink RX4 38 "BoxProofsModel" "fs" "[I" ∈ wsX4_headOf := by decide +kernel
theorem fl_X4_headOf_44 : Cond.fieldLink RX4 44 "BoxProofsModel" "heads" "[I" ∈ wsX4_headOf := by decide +kernel
theorem in_X4_headOf_X4 : ∀ w ∈ wsX40, w ∈ wsX4_headOf := by decide +kernel
set_option maxHeartbeats 4000000 in
set_option maxRecDepth 100000 in
theorem c_X4_headOf (l : Launch) (D : va_G) (q : Nat → Nat) (k : Nat → ClassId) (formulas : Int32) (kind : Nat → Int32) (left : Nat → Int32) (right : Nat → Int32) (height : Nat → Int32) (laid : Nat → Int32) (rules : Nat → Int32) (ps : Nat → Int32) (qs : Nat → Int32) (rs : Nat → Int32) (fs : Nat → Int32) (checked : Int32) (stopped : Int32) (reason : Int32) (made : Int32) (opened : Int32) (ruleThen : Nat → Int32) (heads : Nat → Int32) (boxOf : Nat → Int32) (shutBy : Nat → Int32) (around : Nat → Int32) (inner : Int32) (truth : Nat → Int32) (turned : Nat → Int32) (pile : Nat → Int32) (x1 : Int32) (x2 : Int32) (x3 : Int32) (hc : pz_c formulas) (hk : vp_in x1 60) (ha4 : x2 = 4 → vp_in x3 80 ∧ vp_in (qs x1.toNatClampNeg) 60 ∧ vp_in (heads (qs x1.toNatClampNeg).toNatClampNeg) 80) (hag : ∀ n : Int32, x2 = n → n = 5 ∨ n = 6 ∨ n = 11 → vp_in x3 80) (ha7 : ∀ n : Int32, x2 = n → n = 7 ∨ n = 8 → vp_in x3 80 ∧ vp_in (fs x1.toNatClampNeg) 80) (ha9 : x2 = 9 → vp_in (qs x1.toNatClampNeg) 60 ∧ vp_in (shutBy (qs x1.toNatClampNeg).toNatClampNeg - 1) 60) (ha10 : x2 = 10 → vp_in (ps x1.toNatClampNeg) 60 ∧ vp_in (shutBy (ps x1.toNatClampNeg).toNatClampNeg - 1) 60 ∧ vp_in (heads (ps x1.toNatClampNeg).toNatClampNeg) 80 ∧ vp_in (heads (shutBy (ps x1.toNatClampNeg).toNatClampNeg - 1).toNatClampNeg) 80) (ha13 : x2 = 13 → vp_in x3 80 ∧ vp_in (left x3.toNatClampNeg) 80) : Met l yX4_headOf wsX4_headOf ({ frames := 1, cells := 0, slots := 0, locals := 26 }) (va_Pc [.ref (q 0), .int (x1), .int (x2), .int (x3)] (fun U => va_P D vwCl (pz_M q k formulas kind left right height laid rules ps qs rs fs checked stopped reason made opened ruleThen heads boxOf shutBy around inner truth turned pile) U.heap ∧ pz_KM D q k U)) (va_Qi (fun r (u : (Int32) × (Nat → Int32) × (Nat → Int32) × (Nat → Int32) × (Nat → Int32)) => (r, u) = (f_X4_headOf formulas kind left right height ps qs fs heads shutBy x1 x2 x3)) (fun u t => va_P D vwCl (pz_M q k u.1 u.2.1 u.2.2.1 u.2.2.2.1 u.2.2.2.2 laid rules ps qs rs fs checked stopped reason made opened ruleThen heads boxOf shutBy around inner truth turned pile) t.heap) (pz_A 19 q)) 0 0 (pz_A 19 q) := by
  refine Met.ofW (cc := cX4_headOf) (maxL := 4) (ret := (some .int)) (by decide) rfl ?_
  intro p e s m args below meth c s₁ B hml hv
  obtain ⟨rfl, hP, hKX⟩ := hv
  have hx := B.exec
  have hb := B.bytes
  have hr := B.returns
  have hts := atoms_spec (ws := wsX4_headOf) B.pre
  have hown : s.vm.findClass RX4 = some m.cls := findClass_of_methodNamed B.named
  have hlocks := B.notSynchronized
  have hC : pz_C p s m ([.ref (q 0), .int (x1), .int (x2), .int (x3)] : List Value).toArray meth c cX4_headOf wsX4_headOf RX4 4 (some .int) := ⟨hx, hb, hml, hown, hts, hr, hlocks⟩
  have hK := hKX.1
  have hS : va_S (pz_A 19 q) s.heap s.heap [] := va_S.rf
  have hl := lv_entry [.ref (q 0), .int (x1), .int (x2), .int (x3)] (n := 4) (Nat.le_of_ble_eq_true rfl)
  rw [lg_entry_eq]
  generalize (lg_sl [.ref (q 0), .int (x1), .int (x2), .int (x3)] ++ List.replicate (4 - (lg_sl [.ref (q 0), .int (x1), .int (x2), .int (x3)]).length) Slot.unset).toArray = ls at hl ⊢
  have hl : lv_has ls 4 [(0, .ref (q 0)), (1, .int (x1)), (2, .int (x2)), (3, .int (x3))] := hl
  generalize hF : f_X4_headOf formulas kind left right height ps qs fs heads shutBy x1 x2 x3 = G
  replace hF := hF.symm
  unfold f_X4_headOf at hF
  refine lv_iload_n hx hb dX4_headOf_0 rfl (lv_at hl 2 rfl) ?_
  refine pz_cases (P := x2 = 3) (fun c_1 => ?_) (fun c_1 => ?_)
  · have hF := hF.trans (if_pos c_1)
    refine pz_table (tgt := 60) (off := 59) hx hb dX4_headOf_1 rfl (by rw [c_1]; rfl) (by decide) ?_
    refine lv_iload_n hx hb dX4_headOf_60 rfl (lv_at hl 3 rfl) ?_
    exact W.iret (v := x3) hx hb hr (fun t ht hW => ⟨⟨x3, (formulas, kind, left, right, height), rfl, hF.symm, pz_hp ht hP⟩, hS.F ht⟩) hS.2.2 dX4_headOf_61 hlocks
  · have hF := hF.trans (if_neg c_1)
    refine pz_cases (P := x2 = 4) (fun c_2 => ?_) (fun c_2 => ?_)
    · have hF := hF.trans (if_pos c_2)
      refine pz_table (tgt := 62) (off := 61) hx hb dX4_headOf_1 rfl (by rw [c_2]; rfl) (by decide) ?_
      refine lv_aload_n hx hb dX4_headOf_62 rfl (lv_at hl 0 rfl) ?_
      refine lv_iconst (v := 2) hx hb dX4_headOf_63 (by decide) ?_
      refine lv_iload_n hx hb dX4_headOf_64 rfl (lv_at hl 3 rfl) ?_
      refine lv_aload_n hx hb dX4_headOf_65 rfl (lv_at hl 0 rfl) ?_
      refine va_get (D := D) (ci := 4) (v := .ref (q 12)) (C := RX4) (T := TX4) (N := 25) hx hb hts in_X4_headOf_X4 hown hK hP 0 rfl rfl 17 (by decide) (hts _ fl_X4_headOf_44) (fun _ h9 => h9) rfl dX4_headOf_66 ?_
      refine lv_aload_n hx hb dX4_headOf_69 rfl (lv_at hl 0 rfl) ?_
      refine va_get (D := D) (ci := 4) (v := .ref (q 8)) (C := RX4) (T := TX4) (N := 25) hx hb hts in_X4_headOf_X4 hown hK hP 0 rfl rfl 8 (by decide) (hts _ fl_X4_headOf_32) (fun _ h9 => h9) rfl dX4_headOf_70 ?_
      refine lv_iload_n hx hb dX4_headOf_73 rfl (lv_at hl 1 rfl) ?_
      have hi_3 : vp_in x1 60 := hk
      refine va_iald hx hb hK hP 8 0 rfl rfl hi_3 dX4_headOf_74 ?_
      have hi_4 : vp_in (qs (x1).toNatClampNeg) 60 := (ha4 ‹_›).2.1
      refine va_iald hx hb hK hP 12 0 rfl rfl hi_4 dX4_headOf_75 ?_
      refine pz_Vi (As := [.int (2), .int (x3), .int ((heads ((qs (x1).toNatClampNeg)).toNatClampNeg))]) (rest := []) ⟨hx, hb, hml, hown, hts⟩ (c_X4_make l D q k formulas kind left right height laid rules ps qs rs fs checked stopped reason made opened ruleThen heads boxOf shutBy around inner truth turned pile 2 x3 (heads ((qs (x1).toNatClampNeg)).toNatClampNeg) hc (fun _ => ⟨(ha4 ‹_›).1, (ha4 ‹_›).2.2⟩)) (cwV 3 hts gX4_headOf_X4_make rfl rfl rfl hdV_X4_make ⟨Nat.le_of_ble_eq_true rfl, Nat.le_of_ble_eq_true rfl⟩) pz_KM.call hKX.go (va_recv hK hP (ci := 4) (q0 := 0) rfl rfl) hP hS rfl hl.1 rfl (Nat.le_of_ble_eq_true rfl) dX4_headOf_76 ⟨Nat.zero_le _, Nat.zero_le _⟩ (fun r_5 u_5 H locs hF_5 hP hS => ?_)
      obtain ⟨w_5_formulas, w_5_kind, w_5_left, w_5_right, w_5_height⟩ := u_5
      have hP : va_P D vwCl (pz_M q k w_5_formulas w_5_kind w_5_left w_5_right w_5_height laid rules ps qs rs fs checked stopped reason made opened ruleThen heads boxOf shutBy around inner truth turned pile) H := hP
      have hF := hF.trans (pz_be hF_5)
      try dsimp only at hF
      exact W.iret (v := r_5) hx hb hr (fun t ht hW => ⟨⟨r_5, (w_5_formulas, w_5_kind, w_5_left, w_5_right, w_5_height), rfl, hF.symm, pz_hp ht hP⟩, hS.F ht⟩) hS.2.2 dX4_headOf_79 hlocks
    · have hF := hF.trans (if_neg c_2)
      refine pz_cases (P := x2 = 5) (fun c_6 => ?_) (fun c_6 => ?_)
      · have hF := hF.trans (if_pos c_6)
        refine pz_table (tgt := 80) (off := 79) hx hb dX4_headOf_1 rfl (by rw [c_6]; rfl) (by decide) ?_
        refine lv_aload_n hx hb dX4_headOf_80 rfl (lv_at hl 0 rfl) ?_
        refine va_get (D := D) (ci := 4) (v := .ref (q 2)) (C := RX4) (T := TX4) (N := 25) hx hb hts in_X4_headOf_X4 hown hK hP 0 rfl rfl 2 (by decide) (hts _ fl_X4_headOf_13) (fun _ h9 => h9) rfl dX4_headOf_81 ?_
        refine lv_iload_n hx hb dX4_headOf_84 rfl (lv_at hl 3 rfl) ?_
        have hi_7 : vp_in x3 80 := hag _ ‹_› (by decide)
        refine va_iald hx hb hK hP 2 0 rfl rfl hi_7 dX4_headOf_85 ?_
        exact W.iret (v := (left (x3).toNatClampNeg)) hx hb hr (fun t ht hW => ⟨⟨(left (x3).toNatClampNeg), (formulas, kind, left, right, height), rfl, hF.symm, pz_hp ht hP⟩, hS.F ht⟩) hS.2.2 dX4_headOf_86 hlocks
      · have hF := hF.trans (if_neg c_6)
        refine pz_cases (P := x2 = 6) (fun c_8 => ?_) (fun c_8 => ?_)
        · have hF := hF.trans (if_pos c_8)
          refine pz_table (tgt := 87) (off := 86) hx hb dX4_headOf_1 rfl (by rw [c_8]; rfl) (by decide) ?_
          refine lv_aload_n hx hb dX4_headOf_87 rfl (lv_at hl 0 rfl) ?_
          refine va_get (D := D) (ci := 4) (v := .ref (q 3)) (C := RX4) (T := TX4) (N := 25) hx hb hts in_X4_headOf_X4 hown hK hP 0 rfl rfl 3 (by decide) (hts _ fl_X4_headOf_16) (fun _ h9 => h9) rfl dX4_headOf_88 ?_
          refine lv_iload_n hx hb dX4_headOf_91 rfl (lv_at hl 3 rfl) ?_
          have hi_9 : vp_in x3 80 := hag _ ‹_› (by decide)
          refine va_iald hx hb hK hP 3 0 rfl rfl hi_9 dX4_headOf_92 ?_
          exact W.iret (v := (right (x3).toNatClampNeg)) hx hb hr (fun t ht hW => ⟨⟨(right (x3).toNatClampNeg), (formulas, kind, left, right, height), rfl, hF.symm, pz_hp ht hP⟩, hS.F ht⟩) hS.2.2 dX4_headOf_93 hlocks
        · have hF := hF.trans (if_neg c_8)
          refine pz_cases (P := x2 = 7) (fun c_10 => ?_) (fun c_10 => ?_)
          · have hF := hF.trans (if_pos c_10)
            refine pz_table (tgt := 94) (off := 93) hx hb dX4_headOf_1 rfl (by rw [c_10]; rfl) (by decide) ?_
            refine lv_aload_n hx hb dX4_headOf_94 rfl (lv_at hl 0 rfl) ?_
            refine lv_iconst (v := 3) hx hb dX4_headOf_95 (by decide) ?_
            refine lv_iload_n hx hb dX4_headOf_96 rfl (lv_at hl 3 rfl) ?_
            refine lv_aload_n hx hb dX4_headOf_97 rfl (lv_at hl 0 rfl) ?_
            refine va_get (D := D) (ci := 4) (v := .ref (q 10)) (C := RX4) (T := TX4) (N := 25) hx hb hts in_X4_headOf_X4 hown hK hP 0 rfl rfl 10 (by decide) (hts _ fl_X4_headOf_38) (fun _ h9 => h9) rfl dX4_headOf_98 ?_
            refine lv_iload_n hx hb dX4_headOf_101 rfl (lv_at hl 1 rfl) ?_
            have hi_11 : vp_in x1 60 := hk
            refine va_iald hx hb hK hP 10 0 rfl rfl hi_11 dX4_headOf_102 ?_
            refine pz_Vi (As := [.int (3), .int (x3), .int ((fs (x1).toNatClampNeg))]) (rest := []) ⟨hx, hb, hml, hown, hts⟩ (c_X4_make l D q k formulas kind left right height laid rules ps qs rs fs checked stopped reason made opened ruleThen heads boxOf shutBy around inner truth turned pile 3 x3 (fs (x1).toNatClampNeg) hc (fun _ => ha7 _ ‹_› (by decide))) (cwV 3 hts gX4_headOf_X4_make rfl rfl rfl hdV_X4_make ⟨Nat.le_of_ble_eq_true rfl, Nat.le_of_ble_eq_true rfl⟩) pz_KM.call hKX.go (va_recv hK hP (ci := 4) (q0 := 0) rfl rfl) hP hS rfl hl.1 rfl (Nat.le_of_ble_eq_true rfl) dX4_headOf_103 ⟨Nat.zero_le _, Nat.zero_le _⟩ (fun r_12 u_12 H locs hF_12 hP hS => ?_)
            obtain ⟨w_12_formulas, w_12_kind, w_12_left, w_12_right, w_12_height⟩ := u_12
            have hP : va_P D vwCl (pz_M q k w_12_formulas w_12_kind w_12_left w_12_right w_12_height laid rules ps qs rs fs checked stopped reason made opened ruleThen heads boxOf shutBy around inner truth turned pile) H := hP
            have hF := hF.trans (pz_be hF_12)
            try dsimp only at hF
            exact W.iret (v := r_12) hx hb hr (fun t ht hW => ⟨⟨r_12, (w_12_formulas, w_12_kind, w_12_left, w_12_right, w_12_height), rfl, hF.symm, pz_hp ht hP⟩, hS.F ht⟩) hS.2.2 dX4_headOf_106 hlocks
          · have hF := hF.trans (if_neg c_10)
            refine pz_cases (P := x2 = 8) (fun c_13 => ?_) (fun c_13 => ?_)
            · have hF := hF.trans (if_pos c_13)
              refine pz_table (tgt := 107) (off := 106) hx hb dX4_headOf_1 rfl (by rw [c_13]; rfl) (by decide) ?_
              refine lv_aload_n hx hb dX4_headOf_107 rfl (lv_at hl 0 rfl) ?_
              refine lv_iconst (v := 3) hx hb dX4_headOf_108 (by decide) ?_
              refine lv_aload_n hx hb dX4_headOf_109 rfl (lv_at hl 0 rfl) ?_
              refine va_get (D := D) (ci := 4) (v := .ref (q 10)) (C := RX4) (T := TX4) (N := 25) hx hb hts in_X4_headOf_X4 hown hK hP 0 rfl rfl 10 (by decide) (hts _ fl_X4_headOf_38) (fun _ h9 => h9) rfl dX4_headOf_110 ?_
              refine lv_iload_n hx hb dX4_headOf_113 rfl (lv_at hl 1 rfl) ?_
              have hi_14 : vp_in x1 60 := hk
              refine va_iald hx hb hK hP 10 0 rfl rfl hi_14 dX4_headOf_114 ?_
              refine lv_iload_n hx hb dX4_headOf_115 rfl (lv_at hl 3 rfl) ?_
              refine pz_Vi (As := [.int (3), .int ((fs (x1).toNatClampNeg)), .int (x3)]) (rest := []) ⟨hx, hb, hml, hown, hts⟩ (c_X4_make l D q k formulas kind left right height laid rules ps qs rs fs checked stopped reason made opened ruleThen heads boxOf shutBy around inner truth turned pile 3 (fs (x1).toNatClampNeg) x3 hc (fun _ => ⟨(ha7 _ ‹_› (by decide)).2, (ha7 _ ‹_› (by decide)).1⟩)) (cwV 3 hts gX4_headOf_X4_make rfl rfl rfl hdV_X4_make ⟨Nat.le_of_ble_eq_true rfl, Nat.le_of_ble_eq_true rfl⟩) pz_KM.call hKX.go (va_recv hK hP (ci := 4) (q0 := 0) rfl rfl) hP hS rfl hl.1 rfl (Nat.le_of_ble_eq_true rfl) dX4_headOf_116 ⟨Nat.zero_le _, Nat.zero_le _⟩ (fun r_15 u_15 H locs hF_15 hP hS => ?_)
              obtain ⟨w_15_formulas, w_15_kind, w_15_left, w_15_right, w_15_height⟩ := u_15
              have hP : va_P D vwCl (pz_M q k w_15_formulas w_15_kind w_15_left w_15_right w_15_height laid rules ps qs rs fs checked stopped reason made opened ruleThen heads boxOf shutBy around inner truth turned pile) H := hP
              have hF := hF.trans (pz_be hF_15)
              try dsimp only at hF
              exact W.iret (v := r_15) hx hb hr (fun t ht hW => ⟨⟨r_15, (w_15_formulas, w_15_kind, w_15_left, w_15_right, w_15_height), rfl, hF.symm, pz_hp ht hP⟩, hS.F ht⟩) hS.2.2 dX4_headOf_119 hlocks
            · have hF := hF.trans (if_neg c_13)
              refine pz_cases (P := x2 = 9) (fun c_16 => ?_) (fun c_16 => ?_)
              · have hF := hF.trans (if_pos c_16)
                refine pz_table (tgt := 120) (off := 119) hx hb dX4_headOf_1 rfl (by rw [c_16]; rfl) (by decide) ?_
                refine lv_aload_n hx hb dX4_headOf_120 rfl (lv_at hl 0 rfl) ?_
                refine lv_aload_n hx hb dX4_headOf_121 rfl (lv_at hl 0 rfl) ?_
                refine va_get (D := D) (ci := 4) (v := .ref (q 8)) (C := RX4) (T := TX4) (N := 25) hx hb hts in_X4_headOf_X4 hown hK hP 0 rfl rfl 8 (by decide) (hts _ fl_X4_headOf_32) (fun _ h9 => h9) rfl dX4_headOf_122 ?_
                refine lv_iload_n hx hb dX4_headOf_125 rfl (lv_at hl 1 rfl) ?_
                have hi_17 : vp_in x1 60 := hk
                refine va_iald hx hb hK hP 8 0 rfl rfl hi_17 dX4_headOf_126 ?_
                refine pz_Vi (As := [.int ((qs (x1).toNatClampNeg))]) (rest := []) ⟨hx, hb, hml, hown, hts⟩ (c_X4_endOf l D q k formulas kind left right height laid rules ps qs rs fs checked stopped reason made opened ruleThen heads boxOf shutBy around inner truth turned pile (qs (x1).toNatClampNeg) (ha9 ‹_›).1 (ha9 ‹_›).2) (cwV 1 hts gX4_headOf_X4_endOf rfl rfl rfl hdV_X4_endOf ⟨Nat.le_of_ble_eq_true rfl, Nat.le_of_ble_eq_true rfl⟩) pz_KM.call hKX.go (va_recv hK hP (ci := 4) (q0 := 0) rfl rfl) hP hS rfl hl.1 rfl (Nat.le_of_ble_eq_true rfl) dX4_headOf_127 ⟨Nat.zero_le _, Nat.zero_le _⟩ (fun r_18 u_18 H locs hF_18 hP hS => ?_)
                have hF := hF.trans (pz_be hF_18)
                exact W.iret (v := r_18) hx hb hr (fun t ht hW => ⟨⟨r_18, (formulas, kind, left, right, height), rfl, hF.symm, pz_hp ht hP⟩, hS.F ht⟩) hS.2.2 dX4_headOf_130 hlocks
              · have hF := hF.trans (if_neg c_16)
                refine pz_cases (P := x2 = 10) (fun c_19 => ?_) (fun c_19 => ?_)
                · have hF := hF.trans (if_pos c_19)
                  refine pz_table (tgt := 131) (off := 130) hx hb dX4_headOf_1 rfl (by rw [c_19]; rfl) (by decide) ?_
                  refine lv_aload_n hx hb dX4_headOf_131 rfl (lv_at hl 0 rfl) ?_
                  refine lv_iconst (v := 4) hx hb dX4_headOf_132 (by decide) ?_
                  refine lv_aload_n hx hb dX4_headOf_133 rfl (lv_at hl 0 rfl) ?_
                  refine va_get (D := D) (ci := 4) (v := .ref (q 12)) (C := RX4) (T := TX4) (N := 25) hx hb hts in_X4_headOf_X4 hown hK hP 0 rfl rfl 17 (by decide) (hts _ fl_X4_headOf_44) (fun _ h9 => h9) rfl dX4_headOf_134 ?_
                  refine lv_aload_n hx hb dX4_headOf_137 rfl (lv_at hl 0 rfl) ?_
                  refine va_get (D := D) (ci := 4) (v := .ref (q 7)) (C := RX4) (T := TX4) (N := 25) hx hb hts in_X4_headOf_X4 hown hK hP 0 rfl rfl 7 (by decide) (hts _ fl_X4_headOf_29) (fun _ h9 => h9) rfl dX4_headOf_138 ?_
                  refine lv_iload_n hx hb dX4_headOf_141 rfl (lv_at hl 1 rfl) ?_
                  have hi_20 : vp_in x1 60 := hk
                  refine va_iald hx hb hK hP 7 0 rfl rfl hi_20 dX4_headOf_142 ?_
                  have hi_21 : vp_in (ps (x1).toNatClampNeg) 60 := (ha10 ‹_›).1
                  refine va_iald hx hb hK hP 12 0 rfl rfl hi_21 dX4_headOf_143 ?_
                  refine lv_aload_n hx hb dX4_headOf_144 rfl (lv_at hl 0 rfl) ?_
                  refine lv_aload_n hx hb dX4_headOf_145 rfl (lv_at hl 0 rfl) ?_
                  refine va_get (D := D) (ci := 4) (v := .ref (q 7)) (C := RX4) (T := TX4) (N := 25) hx hb hts in_X4_headOf_X4 hown hK hP 0 rfl rfl 7 (by decide) (hts _ fl_X4_headOf_29) (fun _ h9 => h9) rfl dX4_headOf_146 ?_
                  refine lv_iload_n hx hb dX4_headOf_149 rfl (lv_at hl 1 rfl) ?_
                  have hi_22 : vp_in x1 60 := hk
                  refine va_iald hx hb hK hP 7 0 rfl rfl hi_22 dX4_headOf_150 ?_
                  refine pz_Vi (As := [.int ((ps (x1).toNatClampNeg))]) (rest := [.int ((heads ((ps (x1).toNatClampNeg)).toNatClampNeg)), .int (4), .ref (q 0)]) ⟨hx, hb, hml, hown, hts⟩ (c_X4_endOf l D q k formulas kind left right height laid rules ps qs rs fs checked stopped reason made opened ruleThen heads boxOf shutBy around inner truth turned pile (ps (x1).toNatClampNeg) (ha10 ‹_›).1 (ha10 ‹_›).2.1) (cwV 1 hts gX4_headOf_X4_endOf rfl rfl rfl hdV_X4_endOf ⟨Nat.le_of_ble_eq_true rfl, Nat.le_of_ble_eq_true rfl⟩) pz_KM.call hKX.go (va_recv hK hP (ci := 4) (q0 := 0) rfl rfl) hP hS rfl hl.1 rfl (Nat.le_of_ble_eq_true rfl) dX4_headOf_151 ⟨Nat.zero_le _, Nat.zero_le _⟩ (fun r_23 u_23 H locs hF_23 hP hS => ?_)
                  have hF := hF.trans (pz_be hF_23)
                  refine pz_Vi (As := [.int (4), .int ((heads ((ps (x1).toNatClampNeg)).toNatClampNeg)), .int (r_23)]) (rest := []) ⟨hx, hb, hml, hown, hts⟩ (c_X4_make l D q k formulas kind left right height laid rules ps qs rs fs checked stopped reason made opened ruleThen heads boxOf shutBy around inner truth turned pile 4 (heads ((ps (x1).toNatClampNeg)).toNatClampNeg) r_23 hc (fun _ => ⟨(ha10 ‹_›).2.2.1, pz_endv ‹_› (ha10 ‹_›).2.2.2⟩)) (cwV 3 hts gX4_headOf_X4_make rfl rfl rfl hdV_X4_make ⟨Nat.le_of_ble_eq_true rfl, Nat.le_of_ble_eq_true rfl⟩) pz_KM.call hKX.go (va_recv hK hP (ci := 4) (q0 := 0) rfl rfl) hP hS rfl hl.1 rfl (Nat.le_of_ble_eq_true rfl) dX4_headOf_154 ⟨Nat.zero_le _, Nat.zero_le _⟩ (fun r_24 u_24 H locs hF_24 hP hS => ?_)
                  obtain ⟨w_24_formulas, w_24_kind, w_24_left, w_24_right, w_24_height⟩ := u_24
                  have hP : va_P D vwCl (pz_M q k w_24_formulas w_24_kind w_24_left w_24_right w_24_height laid rules ps qs rs fs checked stopped reason made opened ruleThen heads boxOf shutBy around inner truth turned pile) H := hP
                  have hF := hF.trans (pz_be hF_24)
                  try dsimp only at hF
                  exact W.iret (v := r_24) hx hb hr (fun t ht hW => ⟨⟨r_24, (w_24_formulas, w_24_kind, w_24_left, w_24_right, w_24_height), rfl, hF.symm, pz_hp ht hP⟩, hS.F ht⟩) hS.2.2 dX4_headOf_157 hlocks
                · have hF := hF.trans (if_neg c_19)
                  refine pz_cases (P := x2 = 11) (fun c_25 => ?_) (fun c_25 => ?_)
                  · have hF := hF.trans (if_pos c_25)
                    refine pz_table (tgt := 87) (off := 86) hx hb dX4_headOf_1 rfl (by rw [c_25]; rfl) (by decide) ?_
                    refine lv_aload_n hx hb dX4_headOf_87 rfl (lv_at hl 0 rfl) ?_
                    refine va_get (D := D) (ci := 4) (v := .ref (q 3)) (C := RX4) (T := TX4) (N := 25) hx hb hts in_X4_headOf_X4 hown hK hP 0 rfl rfl 3 (by decide) (hts _ fl_X4_headOf_16) (fun _ h9 => h9) rfl dX4_headOf_88 ?_
                    refine lv_iload_n hx hb dX4_headOf_91 rfl (lv_at hl 3 rfl) ?_
                    have hi_26 : vp_in x3 80 := hag _ ‹_› (by decide)
                    refine va_iald hx hb hK hP 3 0 rfl rfl hi_26 dX4_headOf_92 ?_
                    exact W.iret (v := (right (x3).toNatClampNeg)) hx hb hr (fun t ht hW => ⟨⟨(right (x3).toNatClampNeg), (formulas, kind, left, right, height), rfl, hF.symm, pz_hp ht hP⟩, hS.F ht⟩) hS.2.2 dX4_headOf_93 hlocks
                  · have hF := hF.trans (if_neg c_25)
                    refine pz_cases (P := x2 = 13) (fun c_27 => ?_) (fun c_27 => ?_)
                    · have hF := hF.trans (if_pos c_27)
                      refine pz_table (tgt := 158) (off := 157) hx hb dX4_headOf_1 rfl (by rw [c_27]; rfl) (by decide) ?_
                      refine lv_aload_n hx hb dX4_headOf_158 rfl (lv_at hl 0 rfl) ?_
                      refine va_get (D := D) (ci := 4) (v := .ref (q 2)) (C := RX4) (T := TX4) (N := 25) hx hb hts in_X4_headOf_X4 hown hK hP 0 rfl rfl 2 (by decide) (hts _ fl_X4_headOf_13) (fun _ h9 => h9) rfl dX4_headOf_159 ?_
                      refine lv_aload_n hx hb dX4_headOf_162 rfl (lv_at hl 0 rfl) ?_
                      refine va_get (D := D) (ci := 4) (v := .ref (q 2)) (C := RX4) (T := TX4) (N := 25) hx hb hts in_X4_headOf_X4 hown hK hP 0 rfl rfl 2 (by decide) (hts _ fl_X4_headOf_13) (fun _ h9 => h9) rfl dX4_headOf_163 ?_
                      refine lv_iload_n hx hb dX4_headOf_166 rfl (lv_at hl 3 rfl) ?_
                      have hi_28 : vp_in x3 80 := (ha13 ‹_›).1
                      refine va_iald hx hb hK hP 2 0 rfl rfl hi_28 dX4_headOf_167 ?_
                      have hi_29 : vp_in (left (x3).toNatClampNeg) 80 := (ha13 ‹_›).2
                      refine va_iald hx hb hK hP 2 0 rfl rfl hi_29 dX4_headOf_168 ?_
                      exact W.iret (v := (left ((left (x3).toNatClampNeg)).toNatClampNeg)) hx hb hr (fun t ht hW => ⟨⟨(left ((left (x3).toNatClampNeg)).toNatClampNeg), (formulas, kind, left, right, height), rfl, hF.symm, pz_hp ht hP⟩, hS.F ht⟩) hS.2.2 dX4_headOf_169 hlocks
                    · have hF := hF.trans (if_neg c_27)
                      have ho : pz_off (169) (3) (13) #[59, 61, 79, 86, 93, 106, 119, 130, 86, 169, 157] x2 = 169 := by
                        unfold pz_off
                        split
                        · rfl
                        · have hz : (x2).toInt = 3 ∨ (x2).toInt = 4 ∨ (x2).toInt = 5 ∨ (x2).toInt = 6 ∨ (x2).toInt = 7 ∨ (x2).toInt = 8 ∨ (x2).toInt = 9 ∨ (x2).toInt = 10 ∨ (x2).toInt = 11 ∨ (x2).toInt = 12 ∨ (x2).toInt = 13 := by omega
                          rcases hz with hz | hz | hz | hz | hz | hz | hz | hz | hz | hz | hz
                          · exact absurd (Int32.toInt_inj.mp (hz.trans (show (3 : Int) = (3 : Int32).toInt from rfl))) c_1
                          · exact absurd (Int32.toInt_inj.mp (hz.trans (show (4 : Int) = (4 : Int32).toInt from rfl))) c_2
                          · exact absurd (Int32.toInt_inj.mp (hz.trans (show (5 : Int) = (5 : Int32).toInt from rfl))) c_6
                          · exact absurd (Int32.toInt_inj.mp (hz.trans (show (6 : Int) = (6 : Int32).toInt from rfl))) c_8
                          · exact absurd (Int32.toInt_inj.mp (hz.trans (show (7 : Int) = (7 : Int32).toInt from rfl))) c_10
                          · exact absurd (Int32.toInt_inj.mp (hz.trans (show (8 : Int) = (8 : Int32).toInt from rfl))) c_13
                          · exact absurd (Int32.toInt_inj.mp (hz.trans (show (9 : Int) = (9 : Int32).toInt from rfl))) c_16
                          · exact absurd (Int32.toInt_inj.mp (hz.trans (show (10 : Int) = (10 : Int32).toInt from rfl))) c_19
                          · exact absurd (Int32.toInt_inj.mp (hz.trans (show (11 : Int) = (11 : Int32).toInt from rfl))) c_25
                          · rw [hz]; rfl
                          · exact absurd (Int32.toInt_inj.mp (hz.trans (show (13 : Int) = (13 : Int32).toInt from rfl))) c_27
                      refine pz_table (tgt := 170) hx hb dX4_headOf_1 rfl ho (by decide) ?_
                      refine lv_aload_n hx hb dX4_headOf_170 rfl (lv_at hl 0 rfl) ?_
                      refine va_get (D := D) (ci := 4) (v := .ref (q 10)) (C := RX4) (T := TX4) (N := 25) hx hb hts in_X4_headOf_X4 hown hK hP 0 rfl rfl 10 (by decide) (hts _ fl_X4_headOf_38) (fun _ h9 => h9) rfl dX4_headOf_171 ?_
                      refine lv_iload_n hx hb dX4_headOf_174 rfl (lv_at hl 1 rfl) ?_
                      have hi_30 : vp_in x1 60 := hk
                      refine va_iald hx hb hK hP 10 0 rfl rfl hi_30 dX4_headOf_175 ?_
                      exact W.iret (v := (fs (x1).toNatClampNeg)) hx hb hr (fun t ht hW => ⟨⟨(fs (x1).toNatClampNeg), (formulas, kind, left, right, height), rfl, hF.symm, pz_hp ht hP⟩, hS.F ht⟩) hS.2.2 dX4_headOf_176 hlocks

