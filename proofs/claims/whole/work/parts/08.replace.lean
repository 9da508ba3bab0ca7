theorem pz_make_c {cnt : Int32} {kinds firsts seconds heights : Nat → Int32} {tables : Nat → Int64} {x1 x2 x3 : Int32} (hc : pz_c cnt) : pz_c (f_X1_make cnt kinds firsts seconds heights tables x1 x2 x3).2.1 := by
  have key : ∀ x4 x5, pz_c (F_X1_make_44 cnt kinds firsts seconds heights tables x1 x2 x3 x4 x5).2.1 := by
    intro x4 x5
    unfold F_X1_make_44
    by_cases h : (80 : Int32) ≤ cnt
    · rw [if_pos h]; exact hc
    · rw [if_neg h]
      by_cases h2 : x5 ≤ 12
      · rw [if_pos h2]
        have a := pz_nle h
        have e : (80 : Int32).toInt = 80 := rfl
        show pz_c (cnt + 1)
        have b := hc.1
        have i := pz_inc (x := cnt) (by omega)
        exact ⟨by omega, by omega⟩
      · rw [if_neg h2]; exact hc
  unfold f_X1_make
  simp only [pz_bnd]
  split
  · split
    · exact key _ _
    · exact key _ _
  · exact hc

-- == J7_fill_53178
def F_J7_fill_53178_5 : Nat → (Nat → Int32) → (Int32) → (Int32) → (Int32) → (Nat → Int32)
  | 0, replaced, x1, x2, x3 => replaced
  | n + 1, replaced, x1, x2, x3 => if x3 ≤ x2 then (replaced) else (F_J7_fill_53178_5 n (upd replaced (x2).toNatClampNeg x1) x1 (x2 + 1) x3)
def f_J7_fill_53178 (replaced : Nat → Int32) (x1 : Int32) : (Nat → Int32) := F_J7_fill_53178_5 81 replaced x1 0 80
set_option maxHeartbeats 4000000 in
set_option maxRecDepth 100000 in
theorem k_J7_fill_53178_5 {p : Program} {l : Launch} {e : Env} {s : State} {m : MethodId} {args : Array Value} {below : List Frame} {meth : Method} {c : Code} {D : va_G} {q : Nat → Nat} {k : Nat → ClassId} {t : Nat → Nat} (hC : pz_C p s m args meth c cJ7_fill_53178 wsJ7_fill_53178 RJ7 4 none) (hKX : pz_KX D q k t s) (cnt : Int32) (kinds : Nat → Int32) (firsts : Nat → Int32) (seconds : Nat → Int32) (heights : Nat → Int32) (tables : Nat → Int64) (laid : Nat → Int32) (rules : Nat → Int32) (ps : Nat → Int32) (qs : Nat → Int32) (rs : Nat → Int32) (fs : Nat → Int32) (frules : Nat → Int32) (heads : Nat → Int32) (ends : Nat → Int32) (inforce : Nat → Int32) (usable : Nat → Int32) (summ : Nat → Int32) {G : (Nat → Int32)} :
    ∀ (n : Nat) (replaced : Nat → Int32) (x1 : Int32) (x2 : Int32) (x3 : Int32) (h3 : x3 = 80) (h0 : 0 ≤ x2.toInt) (h1 : x2.toInt ≤ 80) (hn : 81 ≤ x2.toInt + n)  (H : Heap) (locs : List Loc) (ls : Array Slot), G = F_J7_fill_53178_5 n replaced x1 x2 x3 → va_P D vwCl (pz_X q k cnt kinds firsts seconds heights tables replaced laid rules ps qs rs fs frules heads ends inforce usable summ) H → va_S (pz_A 22 q) s.heap H locs → lv_has ls 4 [(0, .ref (q 9)), (1, .int (x1)), (2, .int (x2)), (3, .int (x3))] → W p l e (headSpec wsJ7_fill_53178 { frames := 0, cells := 0, slots := 0, locals := 0 }).room s m args below meth c H locs 0 0 (MQ below (va_Qv (fun (u : (Nat → Int32)) => u = G) (fun u t => va_P D vwCl (pz_X q k cnt kinds firsts seconds heights tables u laid rules ps qs rs fs frules heads ends inforce usable summ) t.heap) (pz_A 22 q)) args s 0 0 (pz_A 22 q)) (F0 m 5 ls []) := by
  obtain ⟨hx, hb, hml, hown, hts, hr, hlocks⟩ := hC
  have hC : pz_C p s m args meth c cJ7_fill_53178 wsJ7_fill_53178 RJ7 4 none := ⟨hx, hb, hml, hown, hts, hr, hlocks⟩
  have hK := hKX.1
  intro n
  induction n with
  | zero =>
    intro replaced x1 x2 x3 h3 h0 h1 hn H locs ls hF hP hS hl
    exact absurd hn (by omega)
  | succ n ih =>
    intro replaced x1 x2 x3 h3 h0 h1 hn H locs ls hF hP hS hl
    unfold F_J7_fill_53178_5 at hF
    refine lv_iload_n hx hb dJ7_fill_53178_5 rfl (lv_at hl 2 rfl) ?_
    refine lv_iload_n hx hb dJ7_fill_53178_6 rfl (lv_at hl 3 rfl) ?_
    refine lv_icmp_ge (tgt := 20) hx hb dJ7_fill_53178_7 (by decide) (fun c_1 => ?_) (fun c_1 => ?_)
    · have hF := hF.trans (if_pos c_1)
      exact W.vret hx hb hr (fun t ht hW => ⟨⟨replaced, rfl, hF.symm, pz_hp ht hP⟩, hS.F ht⟩) hS.2.2 dJ7_fill_53178_20 hlocks
    · have hF := hF.trans (if_neg c_1)
      refine lv_aload_n hx hb dJ7_fill_53178_10 rfl (lv_at hl 0 rfl) ?_
      refine lv_iload_n hx hb dJ7_fill_53178_11 rfl (lv_at hl 2 rfl) ?_
      refine lv_iload_n hx hb dJ7_fill_53178_12 rfl (lv_at hl 1 rfl) ?_
      have hi_2 : vp_in x2 80 := pz_inI h0 (by have a := pz_nle ‹¬ x3 ≤ x2›; rw [h3] at a; exact a)
      refine va_iast hx hb hK hP (pz_D hKX.2.2.2.2.2.2.2.2 rfl) hS 9 0 rfl rfl hi_2 dJ7_fill_53178_13 (fun H locs hP _ hS => ?_)
      have hP : va_P D vwCl (pz_X q k cnt kinds firsts seconds heights tables (upd replaced (x2).toNatClampNeg x1) laid rules ps qs rs fs frules heads ends inforce usable summ) H := hP
      refine lv_iinc (v := (x2 + 1)) (lv' := [(2, .int ((x2 + 1))), (0, .ref (q 9)), (1, .int (x1)), (3, .int (x3))]) hx hb dJ7_fill_53178_14 hl (k := 2) rfl rfl (by decide) rfl (fun ls hl => ?_)
      refine lv_goto (tgt := 5) hx hb dJ7_fill_53178_17 (by decide) ?_
      exact ih (upd replaced (x2).toNatClampNeg x1) x1 (x2 + 1) x3 h3 (by have a := pz_nle ‹¬ x3 ≤ x2›; rw [h3] at a; have e : (80 : Int32).toInt = 80 := rfl; have i := pz_inc (x := x2) (by omega); omega) (by have a := pz_nle ‹¬ x3 ≤ x2›; rw [h3] at a; have e : (80 : Int32).toInt = 80 := rfl; have i := pz_inc (x := x2) (by omega); omega) (by have a := pz_nle ‹¬ x3 ≤ x2›; rw [h3] at a; have e : (80 : Int32).toInt = 80 := rfl; have i := pz_inc (x := x2) (by omega); omega) _ _ _ hF hP hS (lv_sub hl [1, 2, 0, 3] rfl)
set_option maxHeartbeats 4000000 in
set_option maxRecDepth 100000 in
theorem c_J7_fill_53178 (l : Launch) (D : va_G) (q : Nat → Nat) (k : Nat → ClassId) (t : Nat → Nat) (cnt : Int32) (kinds : Nat → Int32) (firsts : Nat → Int32) (seconds : Nat → Int32) (heights : Nat → Int32) (tables : Nat → Int64) (replaced : Nat → Int32) (laid : Nat → Int32) (rules : Nat → Int32) (ps : Nat → Int32) (qs : Nat → Int32) (rs : Nat → Int32) (fs : Nat → Int32) (frules : Nat → Int32) (heads : Nat → Int32) (ends : Nat → Int32) (inforce : Nat → Int32) (usable : Nat → Int32) (summ : Nat → Int32) (x1 : Int32)  : Met l yJ7_fill_53178 wsJ7_fill_53178 ({ frames := 0, cells := 0, slots := 0, locals := 0 }) (va_Pc [.ref (q 9), .int (x1)] (fun U => va_P D vwCl (pz_X q k cnt kinds firsts seconds heights tables replaced laid rules ps qs rs fs frules heads ends inforce usable summ) U.heap ∧ pz_KX D q k t U)) (va_Qv (fun (u : (Nat → Int32)) => u = (f_J7_fill_53178 replaced x1)) (fun u t => va_P D vwCl (pz_X q k cnt kinds firsts seconds heights tables u laid rules ps qs rs fs frules heads ends inforce usable summ) t.heap) (pz_A 22 q)) 0 0 (pz_A 22 q) := by
  refine Met.ofW (cc := cJ7_fill_53178) (maxL := 4) (ret := none) (by decide) rfl ?_
  intro p e s m args below meth c s₁ B hml hv
  obtain ⟨rfl, hP, hKX⟩ := hv
  have hx := B.exec
  have hb := B.bytes
  have hr := B.returns
  have hts := atoms_spec (ws := wsJ7_fill_53178) B.pre
  have hown : s.vm.findClass RJ7 = some m.cls := findClass_of_methodNamed B.named
  have hlocks := B.notSynchronized
  have hC : pz_C p s m ([.ref (q 9), .int (x1)] : List Value).toArray meth c cJ7_fill_53178 wsJ7_fill_53178 RJ7 4 none := ⟨hx, hb, hml, hown, hts, hr, hlocks⟩
  have hK := hKX.1
  have hS : va_S (pz_A 22 q) s.heap s.heap [] := va_S.rf
  have hl := lv_entry [.ref (q 9), .int (x1)] (n := 4) (Nat.le_of_ble_eq_true rfl)
  rw [lg_entry_eq]
  generalize (lg_sl [.ref (q 9), .int (x1)] ++ List.replicate (4 - (lg_sl [.ref (q 9), .int (x1)]).length) Slot.unset).toArray = ls at hl ⊢
  have hl : lv_has ls 4 [(0, .ref (q 9)), (1, .int (x1))] := hl
  generalize hF : f_J7_fill_53178 replaced x1 = G
  replace hF := hF.symm
  unfold f_J7_fill_53178 at hF
  refine lv_iconst (v := 0) hx hb dJ7_fill_53178_0 (by decide) ?_
  refine lv_istore_n (lv' := [(2, .int (0)), (0, .ref (q 9)), (1, .int (x1))]) hx hb dJ7_fill_53178_1 rfl hl (by decide) rfl (fun ls hl => ?_)
  refine lv_aload_n hx hb dJ7_fill_53178_2 rfl (lv_at hl 1 rfl) ?_
  refine va_alen hx hb hK hP 9 0 rfl rfl (v := 80) rfl dJ7_fill_53178_3 ?_
  refine lv_istore_n (lv' := [(3, .int (80)), (2, .int (0)), (0, .ref (q 9)), (1, .int (x1))]) hx hb dJ7_fill_53178_4 rfl hl (by decide) rfl (fun ls hl => ?_)
  exact k_J7_fill_53178_5 hC hKX cnt kinds firsts seconds heights tables laid rules ps qs rs fs frules heads ends inforce usable summ 81 replaced x1 0 80 rfl (by decide) (by decide) (by decide) _ _ _ hF hP hS (lv_sub hl [2, 3, 1, 0] rfl)

-- == X1_replaceIn
def f_X1_replaceIn : Nat → (Int32) → (Nat → Int32) → (Nat → Int32) → (Nat → Int32) → (Nat → Int32) → (Nat → Int64) → (Nat → Int32) → (Int32) → (Int32) → (Int32) → (Int32) → Int32 × (Int32) × (Nat → Int32) × (Nat → Int32) × (Nat → Int32) × (Nat → Int32) × (Nat → Int64) × (Nat → Int32)
  | 0, cnt, kinds, firsts, seconds, heights, tables, replaced, x1, x2, x3, x4 => ((-4), cnt, kinds, firsts, seconds, heights, tables, replaced)
  | n + 1, cnt, kinds, firsts, seconds, heights, tables, replaced, x1, x2, x3, x4 => if 12 < x4 then (((-4), cnt, kinds, firsts, seconds, heights, tables, replaced)) else (pz_bnd (f_X1_has cnt x1) (fun z_2 => if z_2 = 0 then (((-4), cnt, kinds, firsts, seconds, heights, tables, replaced)) else (if 2 ≤ (kinds (x1).toNatClampNeg) then (if (replaced (x1).toNatClampNeg) = (-1) then (pz_bnd (f_X1_replaceIn n cnt kinds firsts seconds heights tables replaced (firsts (x1).toNatClampNeg) x2 x3 (x4 + 1)) (fun z_9 => if z_9.1 = (-4) then (((-4), z_9.2.1, z_9.2.2.1, z_9.2.2.2.1, z_9.2.2.2.2.1, z_9.2.2.2.2.2.1, z_9.2.2.2.2.2.2.1, z_9.2.2.2.2.2.2.2)) else (pz_bnd (f_X1_replaceIn n z_9.2.1 z_9.2.2.1 z_9.2.2.2.1 z_9.2.2.2.2.1 z_9.2.2.2.2.2.1 z_9.2.2.2.2.2.2.1 z_9.2.2.2.2.2.2.2 (z_9.2.2.2.2.1 (x1).toNatClampNeg) x2 x3 (x4 + 1)) (fun z_12 => if z_12.1 = (-4) then (((-4), z_12.2.1, z_12.2.2.1, z_12.2.2.2.1, z_12.2.2.2.2.1, z_12.2.2.2.2.2.1, z_12.2.2.2.2.2.2.1, z_12.2.2.2.2.2.2.2)) else (pz_bnd (f_X1_make z_12.2.1 z_12.2.2.1 z_12.2.2.2.1 z_12.2.2.2.2.1 z_12.2.2.2.2.2.1 z_12.2.2.2.2.2.2.1 (z_12.2.2.1 (x1).toNatClampNeg) z_9.1 z_12.1) (fun z_15 => (((upd z_12.2.2.2.2.2.2.2 (x1).toNatClampNeg z_15.1) (x1).toNatClampNeg), z_15.2.1, z_15.2.2.1, z_15.2.2.2.1, z_15.2.2.2.2.1, z_15.2.2.2.2.2.1, z_15.2.2.2.2.2.2, (upd z_12.2.2.2.2.2.2.2 (x1).toNatClampNeg z_15.1)))))))) else (((replaced (x1).toNatClampNeg), cnt, kinds, firsts, seconds, heights, tables, replaced))) else (if (kinds (x1).toNatClampNeg) = 1 then (if (firsts (x1).toNatClampNeg) = x2 then ((x3, cnt, kinds, firsts, seconds, heights, tables, replaced)) else ((x1, cnt, kinds, firsts, seconds, heights, tables, replaced))) else ((x1, cnt, kinds, firsts, seconds, heights, tables, replaced))))))
def pz_P7 (z : Int32 × Int32 × (Nat → Int32) × (Nat → Int32) × (Nat → Int32) × (Nat → Int32) × (Nat → Int64) × (Nat → Int32)) : Prop := pz_c z.2.1
theorem pz_replaceIn_c : ∀ (n : Nat) (cnt : Int32) (kinds firsts seconds heights : Nat → Int32) (tables : Nat → Int64) (replaced : Nat → Int32) (x1 x2 x3 x4 : Int32), pz_c cnt → pz_c (f_X1_replaceIn n cnt kinds firsts seconds heights tables replaced x1 x2 x3 x4).2.1 := by
  intro n
  induction n with
  | zero =>
    intro cnt kinds firsts seconds heights tables replaced x1 x2 x3 x4 hc
    exact hc
  | succ n ih =>
    intro cnt kinds firsts seconds heights tables replaced x1 x2 x3 x4 hc
    unfold f_X1_replaceIn
    show pz_P7 _
    refine pz_it (fun _ => hc) (fun _ => ?_)
    refine pz_bi (fun z1 _ => ?_)
    refine pz_it (fun _ => hc) (fun _ => ?_)
    refine pz_it (fun _ => ?_) (fun _ => ?_)
    · refine pz_it (fun _ => ?_) (fun _ => hc)
      refine pz_bi (fun z2 h2 => ?_)
      have hc2 : pz_c z2.2.1 := by rw [h2]; exact ih _ _ _ _ _ _ _ _ _ _ _ hc
      refine pz_it (fun _ => hc2) (fun _ => ?_)
      refine pz_bi (fun z3 h3 => ?_)
      have hc3 : pz_c z3.2.1 := by rw [h3]; exact ih _ _ _ _ _ _ _ _ _ _ _ hc2
      refine pz_it (fun _ => hc3) (fun _ => ?_)
      refine pz_bi (fun z4 h4 => ?_)
      have hc4 : pz_c z4.2.1 := by rw [h4]; exact pz_make_c hc3
      exact hc4
    · refine pz_it (fun _ => ?_) (fun _ => hc)
      exact pz_it (fun _ => hc) (fun _ => hc)
theorem fl_X1_replaceIn_15 : Cond.fieldLink RX1 15 "BoxProofs$Formulas" "firsts" "[I" ∈ wsX1_replaceIn := by decide +kernel
theorem fl_X1_replaceIn_18 : Cond.fieldLink RX1 18 "BoxProofs$Formulas" "seconds" "[I" ∈ wsX1_replaceIn := by decide +kernel
theorem fl_X1_replaceIn_28 : Cond.fieldLink RX1 28 "BoxProofs$Formulas" "replaced" "[I" ∈ wsX1_replaceIn := by decide +kernel
theorem fl_X1_replaceIn_9 : Cond.fieldLink RX1 9 "BoxProofs$Formulas" "kinds" "[I" ∈ wsX1_replaceIn := by decide +kernel
theorem hdV_X1_make : yX1_make.cls = RX1 ∧ yX1_make.cls ≠ "java/lang/invoke/MethodHandle" ∧ yX1_make.cls ≠ "java/lang/invoke/VarHandle" ∧ (parseMethodDescriptor yX1_make.desc).map (fun d => d.parameters.length) = some 3 := by decide +kernel
theorem hdV_X1_replaceIn : yX1_replaceIn.cls = RX1 ∧ yX1_replaceIn.cls ≠ "java/lang/invoke/MethodHandle" ∧ yX1_replaceIn.cls ≠ "java/lang/invoke/VarHandle" ∧ (parseMethodDescriptor yX1_replaceIn.desc).map (fun d => d.parameters.length) = some 4 := by decide +kernel
theorem in_X1_replaceIn_X1 : ∀ w ∈ wsX10, w ∈ wsX1_replaceIn := by decide +kernel
set_option maxHeartbeats 4000000 in
set_option maxRecDepth 100000 in
theorem c_X1_replaceIn (l : Launch) (D : va_G) (q : Nat → Nat) (k : Nat → ClassId) (t : Nat → Nat) : ∀ (n : Nat) (cnt : Int32) (kinds : Nat → Int32) (firsts : Nat → Int32) (seconds : Nat → Int32) (heights : Nat → Int32) (tables : Nat → Int64) (replaced : Nat → Int32) (laid : Nat → Int32) (rules : Nat → Int32) (ps : Nat → Int32) (qs : Nat → Int32) (rs : Nat → Int32) (fs : Nat → Int32) (frules : Nat → Int32) (heads : Nat → Int32) (ends : Nat → Int32) (inforce : Nat → Int32) (usable : Nat → Int32) (summ : Nat → Int32) (x1 : Int32) (x2 : Int32) (x3 : Int32) (x4 : Int32) (dp : Nat) (hdp : x4 = nI dp) (hn : 13 ≤ dp + n) (hd : dp ≤ 13) (hc : pz_c cnt), Met l yX1_replaceIn wsX1_replaceIn ({ frames := 5 + n, cells := 0, slots := 0, locals := 90 + 26 * n }) (va_Pc [.ref (q 1), .int (x1), .int (x2), .int (x3), .int (x4)] (fun U => va_P D vwCl (pz_X q k cnt kinds firsts seconds heights tables replaced laid rules ps qs rs fs frules heads ends inforce usable summ) U.heap ∧ pz_KX D q k t U)) (va_Qi (fun r (u : (Int32) × (Nat → Int32) × (Nat → Int32) × (Nat → Int32) × (Nat → Int32) × (Nat → Int64) × (Nat → Int32)) => (r, u) = (f_X1_replaceIn n cnt kinds firsts seconds heights tables replaced x1 x2 x3 x4)) (fun u t => va_P D vwCl (pz_X q k u.1 u.2.1 u.2.2.1 u.2.2.2.1 u.2.2.2.2.1 u.2.2.2.2.2.1 u.2.2.2.2.2.2 laid rules ps qs rs fs frules heads ends inforce usable summ) t.heap) (pz_A 22 q)) 0 0 (pz_A 22 q) := by
  intro n
  induction n with
  | zero =>
    intro cnt kinds firsts seconds heights tables replaced laid rules ps qs rs fs frules heads ends inforce usable summ x1 x2 x3 x4 dp hdp hn hd hc
    refine Met.ofW (cc := cX1_replaceIn) (maxL := 7) (ret := (some .int)) (by decide) rfl ?_
    intro p e s m args below meth c s₁ B hml hv
    obtain ⟨rfl, hP, hKX⟩ := hv
    have hx := B.exec
    have hb := B.bytes
    have hr := B.returns
    have hts := atoms_spec (ws := wsX1_replaceIn) B.pre
    have hown : s.vm.findClass RX1 = some m.cls := findClass_of_methodNamed B.named
    have hlocks := B.notSynchronized
    have hC : pz_C p s m ([.ref (q 1), .int (x1), .int (x2), .int (x3), .int (x4)] : List Value).toArray meth c cX1_replaceIn wsX1_replaceIn RX1 7 (some .int) := ⟨hx, hb, hml, hown, hts, hr, hlocks⟩
    have hK := hKX.1
    have hS : va_S (pz_A 22 q) s.heap s.heap [] := va_S.rf
    have hl := lv_entry [.ref (q 1), .int (x1), .int (x2), .int (x3), .int (x4)] (n := 7) (Nat.le_of_ble_eq_true rfl)
    rw [lg_entry_eq]
    generalize (lg_sl [.ref (q 1), .int (x1), .int (x2), .int (x3), .int (x4)] ++ List.replicate (7 - (lg_sl [.ref (q 1), .int (x1), .int (x2), .int (x3), .int (x4)]).length) Slot.unset).toArray = ls at hl ⊢
    have hl : lv_has ls 7 [(0, .ref (q 1)), (1, .int (x1)), (2, .int (x2)), (3, .int (x3)), (4, .int (x4))] := hl
    generalize hF : f_X1_replaceIn 0 cnt kinds firsts seconds heights tables replaced x1 x2 x3 x4 = G
    replace hF := hF.symm
    unfold f_X1_replaceIn at hF
    refine lv_iload hx hb dX1_replaceIn_0 (lv_at hl 4 rfl) ?_
    refine lv_bipush (v := 12) hx hb dX1_replaceIn_2 (by decide) ?_
    refine lv_icmp_gt (tgt := 15) hx hb dX1_replaceIn_4 (by decide) (fun c_1 => ?_) (fun c_1 => ?_)
    · refine lv_bipush (v := (-4)) hx hb dX1_replaceIn_15 (by decide) ?_
      exact W.iret (v := (-4)) hx hb hr (fun t ht hW => ⟨⟨(-4), (cnt, kinds, firsts, seconds, heights, tables, replaced), rfl, hF.symm, pz_hp ht hP⟩, hS.F ht⟩) hS.2.2 dX1_replaceIn_17 hlocks
    · exact absurd (show (12 : Int32) < x4 by rw [hdp]; exact nI_lt (a := 12) (by omega) (by omega)) c_1
  | succ n ih =>
    intro cnt kinds firsts seconds heights tables replaced laid rules ps qs rs fs frules heads ends inforce usable summ x1 x2 x3 x4 dp hdp hn hd hc
    refine Met.ofW (cc := cX1_replaceIn) (maxL := 7) (ret := (some .int)) (by decide) rfl ?_
    intro p e s m args below meth c s₁ B hml hv
    obtain ⟨rfl, hP, hKX⟩ := hv
    have hx := B.exec
    have hb := B.bytes
    have hr := B.returns
    have hts := atoms_spec (ws := wsX1_replaceIn) B.pre
    have hown : s.vm.findClass RX1 = some m.cls := findClass_of_methodNamed B.named
    have hlocks := B.notSynchronized
    have hC : pz_C p s m ([.ref (q 1), .int (x1), .int (x2), .int (x3), .int (x4)] : List Value).toArray meth c cX1_replaceIn wsX1_replaceIn RX1 7 (some .int) := ⟨hx, hb, hml, hown, hts, hr, hlocks⟩
    have hK := hKX.1
    have hS : va_S (pz_A 22 q) s.heap s.heap [] := va_S.rf
    have hl := lv_entry [.ref (q 1), .int (x1), .int (x2), .int (x3), .int (x4)] (n := 7) (Nat.le_of_ble_eq_true rfl)
    rw [lg_entry_eq]
    generalize (lg_sl [.ref (q 1), .int (x1), .int (x2), .int (x3), .int (x4)] ++ List.replicate (7 - (lg_sl [.ref (q 1), .int (x1), .int (x2), .int (x3), .int (x4)]).length) Slot.unset).toArray = ls at hl ⊢
    have hl : lv_has ls 7 [(0, .ref (q 1)), (1, .int (x1)), (2, .int (x2)), (3, .int (x3)), (4, .int (x4))] := hl
    generalize hF : f_X1_replaceIn (n + 1) cnt kinds firsts seconds heights tables replaced x1 x2 x3 x4 = G
    replace hF := hF.symm
    unfold f_X1_replaceIn at hF
    refine lv_iload hx hb dX1_replaceIn_0 (lv_at hl 4 rfl) ?_
    refine lv_bipush (v := 12) hx hb dX1_replaceIn_2 (by decide) ?_
    refine lv_icmp_gt (tgt := 15) hx hb dX1_replaceIn_4 (by decide) (fun c_1 => ?_) (fun c_1 => ?_)
    · have hF := hF.trans (if_pos c_1)
      refine lv_bipush (v := (-4)) hx hb dX1_replaceIn_15 (by decide) ?_
      exact W.iret (v := (-4)) hx hb hr (fun t ht hW => ⟨⟨(-4), (cnt, kinds, firsts, seconds, heights, tables, replaced), rfl, hF.symm, pz_hp ht hP⟩, hS.F ht⟩) hS.2.2 dX1_replaceIn_17 hlocks
    · have hF := hF.trans (if_neg c_1)
      refine lv_aload_n hx hb dX1_replaceIn_7 rfl (lv_at hl 0 rfl) ?_
      refine lv_iload_n hx hb dX1_replaceIn_8 rfl (lv_at hl 1 rfl) ?_
      refine pz_Vi (As := [.int (x1)]) (rest := []) ⟨hx, hb, hml, hown, hts⟩ (c_X1_has l D q k t cnt kinds firsts seconds heights tables replaced laid rules ps qs rs fs frules heads ends inforce usable summ x1) (cwV 1 hts gX1_replaceIn_X1_has rfl rfl rfl hdV_X1_has ⟨(show 0 + 1 ≤ 5 + (n + 1) by omega), (show 8 + (2 + 11) + 0 ≤ 90 + 26 * (n + 1) by omega)⟩) pz_KX.call (hKX.go hS) (va_recv hK hP (ci := 1) (q0 := 1) rfl rfl) hP hS rfl hl.1 rfl (Nat.le_of_ble_eq_true rfl) dX1_replaceIn_9 ⟨Nat.zero_le _, Nat.zero_le _⟩ (fun r_2 u_2 H locs hF_2 hP hS => ?_)
      have hF := hF.trans (pz_be hF_2)
      refine lv_if_ne (tgt := 18) hx hb dX1_replaceIn_12 (by decide) (fun c_3 => ?_) (fun c_3 => ?_)
      · have hF := hF.trans (if_neg c_3)
        refine lv_aload_n hx hb dX1_replaceIn_18 rfl (lv_at hl 0 rfl) ?_
        refine va_get (D := D) (ci := 1) (v := .ref (q 4)) (C := RX1) (T := TX1) (N := 7) hx hb hts in_X1_replaceIn_X1 hown hK hP 1 rfl rfl 0 (by decide) (hts _ fl_X1_replaceIn_9) (fun _ h9 => h9) rfl dX1_replaceIn_19 ?_
        refine lv_iload_n hx hb dX1_replaceIn_22 rfl (lv_at hl 1 rfl) ?_
        have hi_4 : vp_in x1 80 := by first | exact pz_has hc ‹_› ‹_› | assumption
        refine va_iald hx hb hK hP 4 0 rfl rfl hi_4 dX1_replaceIn_23 ?_
        refine lv_iconst (v := 2) hx hb dX1_replaceIn_24 (by decide) ?_
        refine lv_icmp_ge (tgt := 54) hx hb dX1_replaceIn_25 (by decide) (fun c_5 => ?_) (fun c_5 => ?_)
        · have hF := hF.trans (if_pos c_5)
          refine lv_aload_n hx hb dX1_replaceIn_54 rfl (lv_at hl 0 rfl) ?_
          refine va_get (D := D) (ci := 1) (v := .ref (q 9)) (C := RX1) (T := TX1) (N := 7) hx hb hts in_X1_replaceIn_X1 hown hK hP 1 rfl rfl 5 (by decide) (hts _ fl_X1_replaceIn_28) (fun _ h9 => h9) rfl dX1_replaceIn_55 ?_
          refine lv_iload_n hx hb dX1_replaceIn_58 rfl (lv_at hl 1 rfl) ?_
          have hi_6 : vp_in x1 80 := by first | exact pz_has hc ‹_› ‹_› | assumption
          refine va_iald hx hb hK hP 9 0 rfl rfl hi_6 dX1_replaceIn_59 ?_
          refine lv_iconst (v := (-1)) hx hb dX1_replaceIn_60 (by decide) ?_
          refine lv_icmp_eq (tgt := 71) hx hb dX1_replaceIn_61 (by decide) (fun c_7 => ?_) (fun c_7 => ?_)
          · have hF := hF.trans (if_pos c_7)
            refine lv_aload_n hx hb dX1_replaceIn_71 rfl (lv_at hl 0 rfl) ?_
            refine lv_aload_n hx hb dX1_replaceIn_72 rfl (lv_at hl 0 rfl) ?_
            refine va_get (D := D) (ci := 1) (v := .ref (q 5)) (C := RX1) (T := TX1) (N := 7) hx hb hts in_X1_replaceIn_X1 hown hK hP 1 rfl rfl 1 (by decide) (hts _ fl_X1_replaceIn_15) (fun _ h9 => h9) rfl dX1_replaceIn_73 ?_
            refine lv_iload_n hx hb dX1_replaceIn_76 rfl (lv_at hl 1 rfl) ?_
            have hi_8 : vp_in x1 80 := by first | exact pz_has hc ‹_› ‹_› | assumption
            refine va_iald hx hb hK hP 5 0 rfl rfl hi_8 dX1_replaceIn_77 ?_
            refine lv_iload_n hx hb dX1_replaceIn_78 rfl (lv_at hl 2 rfl) ?_
            refine lv_iload_n hx hb dX1_replaceIn_79 rfl (lv_at hl 3 rfl) ?_
            refine lv_iload hx hb dX1_replaceIn_80 (lv_at hl 4 rfl) ?_
            refine lv_iconst (v := 1) hx hb dX1_replaceIn_82 (by decide) ?_
            refine lv_iadd hx hb dX1_replaceIn_83 ?_
            refine pz_Vi (As := [.int ((firsts (x1).toNatClampNeg)), .int (x2), .int (x3), .int ((x4 + 1))]) (rest := []) ⟨hx, hb, hml, hown, hts⟩ (ih cnt kinds firsts seconds heights tables replaced laid rules ps qs rs fs frules heads ends inforce usable summ (firsts (x1).toNatClampNeg) x2 x3 (x4 + 1) (dp + 1) (by rw [hdp]; exact nI_1 dp) (by omega) (by have a := pz_nlt ‹¬ (12 : Int32) < x4›; rw [hdp, nI_toInt (by omega)] at a; have e : (12 : Int32).toInt = 12 := rfl; omega) hc) (cwV 4 hts gX1_replaceIn_X1_replaceIn rfl rfl rfl hdV_X1_replaceIn ⟨(show 5 + n + 1 ≤ 5 + (n + 1) by omega), (show 8 + (7 + 11) + (90 + 26 * n) ≤ 90 + 26 * (n + 1) by omega)⟩) pz_KX.call (hKX.go hS) (va_recv hK hP (ci := 1) (q0 := 1) rfl rfl) hP hS rfl hl.1 rfl (Nat.le_of_ble_eq_true rfl) dX1_replaceIn_84 ⟨Nat.zero_le _, Nat.zero_le _⟩ (fun r_9 u_9 H locs hF_9 hP hS => ?_)
            obtain ⟨w_9_cnt, w_9_kinds, w_9_firsts, w_9_seconds, w_9_heights, w_9_tables, w_9_replaced⟩ := u_9
            have hP : va_P D vwCl (pz_X q k w_9_cnt w_9_kinds w_9_firsts w_9_seconds w_9_heights w_9_tables w_9_replaced laid rules ps qs rs fs frules heads ends inforce usable summ) H := hP
            have hF := hF.trans (pz_be hF_9)
            try dsimp only at hF
            have hc : pz_c w_9_cnt := by
              have hz : w_9_cnt = _ := congrArg (fun z => z.2.1) hF_9
              rw [hz]
              exact pz_replaceIn_c n _ _ _ _ _ _ _ _ _ _ _ hc
            refine lv_istore (lv' := [(5, .int (r_9)), (0, .ref (q 1)), (1, .int (x1)), (2, .int (x2)), (3, .int (x3)), (4, .int (x4))]) hx hb dX1_replaceIn_87 hl (by decide) rfl (fun ls hl => ?_)
            refine lv_iload hx hb dX1_replaceIn_89 (lv_at hl 0 rfl) ?_
            refine lv_bipush (v := (-4)) hx hb dX1_replaceIn_91 (by decide) ?_
            refine lv_icmp_ne (tgt := 99) hx hb dX1_replaceIn_93 (by decide) (fun c_10 => ?_) (fun c_10 => ?_)
            · have hF := hF.trans (if_neg c_10)
              refine lv_aload_n hx hb dX1_replaceIn_99 rfl (lv_at hl 1 rfl) ?_
              refine lv_aload_n hx hb dX1_replaceIn_100 rfl (lv_at hl 1 rfl) ?_
              refine va_get (D := D) (ci := 1) (v := .ref (q 6)) (C := RX1) (T := TX1) (N := 7) hx hb hts in_X1_replaceIn_X1 hown hK hP 1 rfl rfl 2 (by decide) (hts _ fl_X1_replaceIn_18) (fun _ h9 => h9) rfl dX1_replaceIn_101 ?_
              refine lv_iload_n hx hb dX1_replaceIn_104 rfl (lv_at hl 2 rfl) ?_
              have hi_11 : vp_in x1 80 := by first | exact pz_has hc ‹_› ‹_› | assumption
              refine va_iald hx hb hK hP 6 0 rfl rfl hi_11 dX1_replaceIn_105 ?_
              refine lv_iload_n hx hb dX1_replaceIn_106 rfl (lv_at hl 3 rfl) ?_
              refine lv_iload_n hx hb dX1_replaceIn_107 rfl (lv_at hl 4 rfl) ?_
              refine lv_iload hx hb dX1_replaceIn_108 (lv_at hl 5 rfl) ?_
              refine lv_iconst (v := 1) hx hb dX1_replaceIn_110 (by decide) ?_
              refine lv_iadd hx hb dX1_replaceIn_111 ?_
              refine pz_Vi (As := [.int ((w_9_seconds (x1).toNatClampNeg)), .int (x2), .int (x3), .int ((x4 + 1))]) (rest := []) ⟨hx, hb, hml, hown, hts⟩ (ih w_9_cnt w_9_kinds w_9_firsts w_9_seconds w_9_heights w_9_tables w_9_replaced laid rules ps qs rs fs frules heads ends inforce usable summ (w_9_seconds (x1).toNatClampNeg) x2 x3 (x4 + 1) (dp + 1) (by rw [hdp]; exact nI_1 dp) (by omega) (by have a := pz_nlt ‹¬ (12 : Int32) < x4›; rw [hdp, nI_toInt (by omega)] at a; have e : (12 : Int32).toInt = 12 := rfl; omega) hc) (cwV 4 hts gX1_replaceIn_X1_replaceIn rfl rfl rfl hdV_X1_replaceIn ⟨(show 5 + n + 1 ≤ 5 + (n + 1) by omega), (show 8 + (7 + 11) + (90 + 26 * n) ≤ 90 + 26 * (n + 1) by omega)⟩) pz_KX.call (hKX.go hS) (va_recv hK hP (ci := 1) (q0 := 1) rfl rfl) hP hS rfl hl.1 rfl (Nat.le_of_ble_eq_true rfl) dX1_replaceIn_112 ⟨Nat.zero_le _, Nat.zero_le _⟩ (fun r_12 u_12 H locs hF_12 hP hS => ?_)
              obtain ⟨w_12_cnt, w_12_kinds, w_12_firsts, w_12_seconds, w_12_heights, w_12_tables, w_12_replaced⟩ := u_12
              have hP : va_P D vwCl (pz_X q k w_12_cnt w_12_kinds w_12_firsts w_12_seconds w_12_heights w_12_tables w_12_replaced laid rules ps qs rs fs frules heads ends inforce usable summ) H := hP
              have hF := hF.trans (pz_be hF_12)
              try dsimp only at hF
              have hc : pz_c w_12_cnt := by
                have hz : w_12_cnt = _ := congrArg (fun z => z.2.1) hF_12
                rw [hz]
                exact pz_replaceIn_c n _ _ _ _ _ _ _ _ _ _ _ hc
              refine lv_istore (lv' := [(6, .int (r_12)), (5, .int (r_9)), (0, .ref (q 1)), (1, .int (x1)), (2, .int (x2)), (3, .int (x3)), (4, .int (x4))]) hx hb dX1_replaceIn_115 hl (by decide) rfl (fun ls hl => ?_)
              refine lv_iload hx hb dX1_replaceIn_117 (lv_at hl 0 rfl) ?_
              refine lv_bipush (v := (-4)) hx hb dX1_replaceIn_119 (by decide) ?_
              refine lv_icmp_ne (tgt := 127) hx hb dX1_replaceIn_121 (by decide) (fun c_13 => ?_) (fun c_13 => ?_)
              · have hF := hF.trans (if_neg c_13)
                refine lv_aload_n hx hb dX1_replaceIn_127 rfl (lv_at hl 2 rfl) ?_
                refine va_get (D := D) (ci := 1) (v := .ref (q 9)) (C := RX1) (T := TX1) (N := 7) hx hb hts in_X1_replaceIn_X1 hown hK hP 1 rfl rfl 5 (by decide) (hts _ fl_X1_replaceIn_28) (fun _ h9 => h9) rfl dX1_replaceIn_128 ?_
                refine lv_iload_n hx hb dX1_replaceIn_131 rfl (lv_at hl 3 rfl) ?_
                refine lv_aload_n hx hb dX1_replaceIn_132 rfl (lv_at hl 2 rfl) ?_
                refine lv_aload_n hx hb dX1_replaceIn_133 rfl (lv_at hl 2 rfl) ?_
                refine va_get (D := D) (ci := 1) (v := .ref (q 4)) (C := RX1) (T := TX1) (N := 7) hx hb hts in_X1_replaceIn_X1 hown hK hP 1 rfl rfl 0 (by decide) (hts _ fl_X1_replaceIn_9) (fun _ h9 => h9) rfl dX1_replaceIn_134 ?_
                refine lv_iload_n hx hb dX1_replaceIn_137 rfl (lv_at hl 3 rfl) ?_
                have hi_14 : vp_in x1 80 := by first | exact pz_has hc ‹_› ‹_› | assumption
                refine va_iald hx hb hK hP 4 0 rfl rfl hi_14 dX1_replaceIn_138 ?_
                refine lv_iload hx hb dX1_replaceIn_139 (lv_at hl 1 rfl) ?_
                refine lv_iload hx hb dX1_replaceIn_141 (lv_at hl 0 rfl) ?_
                refine pz_Vi (As := [.int ((w_12_kinds (x1).toNatClampNeg)), .int (r_9), .int (r_12)]) (rest := [.int (x1), .ref (q 9)]) ⟨hx, hb, hml, hown, hts⟩ (c_X1_make l D q k t w_12_cnt w_12_kinds w_12_firsts w_12_seconds w_12_heights w_12_tables w_12_replaced laid rules ps qs rs fs frules heads ends inforce usable summ (w_12_kinds (x1).toNatClampNeg) r_9 r_12 hc) (cwV 3 hts gX1_replaceIn_X1_make rfl rfl rfl hdV_X1_make ⟨(show 3 + 1 ≤ 5 + (n + 1) by omega), (show 8 + (6 + 11) + 65 ≤ 90 + 26 * (n + 1) by omega)⟩) pz_KX.call (hKX.go hS) (va_recv hK hP (ci := 1) (q0 := 1) rfl rfl) hP hS rfl hl.1 rfl (Nat.le_of_ble_eq_true rfl) dX1_replaceIn_143 ⟨Nat.zero_le _, Nat.zero_le _⟩ (fun r_15 u_15 H locs hF_15 hP hS => ?_)
                obtain ⟨w_15_cnt, w_15_kinds, w_15_firsts, w_15_seconds, w_15_heights, w_15_tables⟩ := u_15
                have hP : va_P D vwCl (pz_X q k w_15_cnt w_15_kinds w_15_firsts w_15_seconds w_15_heights w_15_tables w_12_replaced laid rules ps qs rs fs frules heads ends inforce usable summ) H := hP
                have hF := hF.trans (pz_be hF_15)
                try dsimp only at hF
                have hc : pz_c w_15_cnt := by
                  have hz : w_15_cnt = _ := congrArg (fun z => z.2.1) hF_15
                  rw [hz]
                  exact pz_make_c hc
                have hi_16 : vp_in x1 80 := by first | exact pz_has hc ‹_› ‹_› | assumption
                refine va_iast hx hb hK hP (pz_D hKX.2.2.2.2.2.2.2.2 rfl) hS 9 0 rfl rfl hi_16 dX1_replaceIn_146 (fun H locs hP _ hS => ?_)
                have hP : va_P D vwCl (pz_X q k w_15_cnt w_15_kinds w_15_firsts w_15_seconds w_15_heights w_15_tables (upd w_12_replaced (x1).toNatClampNeg r_15) laid rules ps qs rs fs frules heads ends inforce usable summ) H := hP
                refine lv_aload_n hx hb dX1_replaceIn_147 rfl (lv_at hl 2 rfl) ?_
                refine va_get (D := D) (ci := 1) (v := .ref (q 9)) (C := RX1) (T := TX1) (N := 7) hx hb hts in_X1_replaceIn_X1 hown hK hP 1 rfl rfl 5 (by decide) (hts _ fl_X1_replaceIn_28) (fun _ h9 => h9) rfl dX1_replaceIn_148 ?_
                refine lv_iload_n hx hb dX1_replaceIn_151 rfl (lv_at hl 3 rfl) ?_
                have hi_17 : vp_in x1 80 := by first | exact pz_has hc ‹_› ‹_› | assumption
                refine va_iald hx hb hK hP 9 0 rfl rfl hi_17 dX1_replaceIn_152 ?_
                exact W.iret (v := ((upd w_12_replaced (x1).toNatClampNeg r_15) (x1).toNatClampNeg)) hx hb hr (fun t ht hW => ⟨⟨((upd w_12_replaced (x1).toNatClampNeg r_15) (x1).toNatClampNeg), (w_15_cnt, w_15_kinds, w_15_firsts, w_15_seconds, w_15_heights, w_15_tables, (upd w_12_replaced (x1).toNatClampNeg r_15)), rfl, hF.symm, pz_hp ht hP⟩, hS.F ht⟩) hS.2.2 dX1_replaceIn_153 hlocks
              · have hF := hF.trans (if_pos c_13)
                refine lv_bipush (v := (-4)) hx hb dX1_replaceIn_124 (by decide) ?_
                exact W.iret (v := (-4)) hx hb hr (fun t ht hW => ⟨⟨(-4), (w_12_cnt, w_12_kinds, w_12_firsts, w_12_seconds, w_12_heights, w_12_tables, w_12_replaced), rfl, hF.symm, pz_hp ht hP⟩, hS.F ht⟩) hS.2.2 dX1_replaceIn_126 hlocks
            · have hF := hF.trans (if_pos c_10)
              refine lv_bipush (v := (-4)) hx hb dX1_replaceIn_96 (by decide) ?_
              exact W.iret (v := (-4)) hx hb hr (fun t ht hW => ⟨⟨(-4), (w_9_cnt, w_9_kinds, w_9_firsts, w_9_seconds, w_9_heights, w_9_tables, w_9_replaced), rfl, hF.symm, pz_hp ht hP⟩, hS.F ht⟩) hS.2.2 dX1_replaceIn_98 hlocks
          · have hF := hF.trans (if_neg c_7)
            refine lv_aload_n hx hb dX1_replaceIn_64 rfl (lv_at hl 0 rfl) ?_
            refine va_get (D := D) (ci := 1) (v := .ref (q 9)) (C := RX1) (T := TX1) (N := 7) hx hb hts in_X1_replaceIn_X1 hown hK hP 1 rfl rfl 5 (by decide) (hts _ fl_X1_replaceIn_28) (fun _ h9 => h9) rfl dX1_replaceIn_65 ?_
            refine lv_iload_n hx hb dX1_replaceIn_68 rfl (lv_at hl 1 rfl) ?_
            have hi_18 : vp_in x1 80 := by first | exact pz_has hc ‹_› ‹_› | assumption
            refine va_iald hx hb hK hP 9 0 rfl rfl hi_18 dX1_replaceIn_69 ?_
            exact W.iret (v := (replaced (x1).toNatClampNeg)) hx hb hr (fun t ht hW => ⟨⟨(replaced (x1).toNatClampNeg), (cnt, kinds, firsts, seconds, heights, tables, replaced), rfl, hF.symm, pz_hp ht hP⟩, hS.F ht⟩) hS.2.2 dX1_replaceIn_70 hlocks
        · have hF := hF.trans (if_neg c_5)
          refine lv_aload_n hx hb dX1_replaceIn_28 rfl (lv_at hl 0 rfl) ?_
          refine va_get (D := D) (ci := 1) (v := .ref (q 4)) (C := RX1) (T := TX1) (N := 7) hx hb hts in_X1_replaceIn_X1 hown hK hP 1 rfl rfl 0 (by decide) (hts _ fl_X1_replaceIn_9) (fun _ h9 => h9) rfl dX1_replaceIn_29 ?_
          refine lv_iload_n hx hb dX1_replaceIn_32 rfl (lv_at hl 1 rfl) ?_
          have hi_19 : vp_in x1 80 := by first | exact pz_has hc ‹_› ‹_› | assumption
          refine va_iald hx hb hK hP 4 0 rfl rfl hi_19 dX1_replaceIn_33 ?_
          refine lv_iconst (v := 1) hx hb dX1_replaceIn_34 (by decide) ?_
          refine lv_icmp_ne (tgt := 52) hx hb dX1_replaceIn_35 (by decide) (fun c_20 => ?_) (fun c_20 => ?_)
          · have hF := hF.trans (if_neg c_20)
            refine lv_iload_n hx hb dX1_replaceIn_52 rfl (lv_at hl 1 rfl) ?_
            exact W.iret (v := x1) hx hb hr (fun t ht hW => ⟨⟨x1, (cnt, kinds, firsts, seconds, heights, tables, replaced), rfl, hF.symm, pz_hp ht hP⟩, hS.F ht⟩) hS.2.2 dX1_replaceIn_53 hlocks
          · have hF := hF.trans (if_pos c_20)
            refine lv_aload_n hx hb dX1_replaceIn_38 rfl (lv_at hl 0 rfl) ?_
            refine va_get (D := D) (ci := 1) (v := .ref (q 5)) (C := RX1) (T := TX1) (N := 7) hx hb hts in_X1_replaceIn_X1 hown hK hP 1 rfl rfl 1 (by decide) (hts _ fl_X1_replaceIn_15) (fun _ h9 => h9) rfl dX1_replaceIn_39 ?_
            refine lv_iload_n hx hb dX1_replaceIn_42 rfl (lv_at hl 1 rfl) ?_
            have hi_21 : vp_in x1 80 := by first | exact pz_has hc ‹_› ‹_› | assumption
            refine va_iald hx hb hK hP 5 0 rfl rfl hi_21 dX1_replaceIn_43 ?_
            refine lv_iload_n hx hb dX1_replaceIn_44 rfl (lv_at hl 2 rfl) ?_
            refine lv_icmp_ne (tgt := 52) hx hb dX1_replaceIn_45 (by decide) (fun c_22 => ?_) (fun c_22 => ?_)
            · have hF := hF.trans (if_neg c_22)
              refine lv_iload_n hx hb dX1_replaceIn_52 rfl (lv_at hl 1 rfl) ?_
              exact W.iret (v := x1) hx hb hr (fun t ht hW => ⟨⟨x1, (cnt, kinds, firsts, seconds, heights, tables, replaced), rfl, hF.symm, pz_hp ht hP⟩, hS.F ht⟩) hS.2.2 dX1_replaceIn_53 hlocks
            · have hF := hF.trans (if_pos c_22)
              refine lv_iload_n hx hb dX1_replaceIn_48 rfl (lv_at hl 3 rfl) ?_
              refine lv_goto (tgt := 53) hx hb dX1_replaceIn_49 (by decide) ?_
              exact W.iret (v := x3) hx hb hr (fun t ht hW => ⟨⟨x3, (cnt, kinds, firsts, seconds, heights, tables, replaced), rfl, hF.symm, pz_hp ht hP⟩, hS.F ht⟩) hS.2.2 dX1_replaceIn_53 hlocks
      · have hF := hF.trans (if_pos c_3)
        refine lv_bipush (v := (-4)) hx hb dX1_replaceIn_15 (by decide) ?_
        exact W.iret (v := (-4)) hx hb hr (fun t ht hW => ⟨⟨(-4), (cnt, kinds, firsts, seconds, heights, tables, replaced), rfl, hF.symm, pz_hp ht hP⟩, hS.F ht⟩) hS.2.2 dX1_replaceIn_17 hlocks

-- == X1_replace
def f_X1_replace (cnt : Int32) (kinds : Nat → Int32) (firsts : Nat → Int32) (seconds : Nat → Int32) (heights : Nat → Int32) (tables : Nat → Int64) (replaced : Nat → Int32) (x1 : Int32) (x2 : Int32) (x3 : Int32) : Int32 × (Int32) × (Nat → Int32) × (Nat → Int32) × (Nat → Int32) × (Nat → Int32) × (Nat → Int64) × (Nat → Int32) := pz_bnd (f_J7_fill_53178 replaced (-1)) (fun z_1 => pz_bnd (f_X1_replaceIn 12 cnt kinds firsts seconds heights tables z_1 x1 x2 x3 1) (fun z_2 => (z_2.1, z_2.2.1, z_2.2.2.1, z_2.2.2.2.1, z_2.2.2.2.2.1, z_2.2.2.2.2.2.1, z_2.2.2.2.2.2.2.1, z_2.2.2.2.2.2.2.2)))
theorem fl_X1_replace_28 : Cond.fieldLink RX1 28 "BoxProofs$Formulas" "replaced" "[I" ∈ wsX1_replace := by decide +kernel
theorem hdS_J7_fill_53178 : yJ7_fill_53178.cls ≠ "java/lang/invoke/MethodHandle" ∧ yJ7_fill_53178.cls ≠ "java/lang/invoke/VarHandle" ∧ (parseMethodDescriptor yJ7_fill_53178.desc).map (fun d => d.parameters.length) = some 2 := by decide +kernel
theorem in_X1_replace_X1 : ∀ w ∈ wsX10, w ∈ wsX1_replace := by decide +kernel
set_option maxHeartbeats 4000000 in
set_option maxRecDepth 100000 in
theorem c_X1_replace (l : Launch) (D : va_G) (q : Nat → Nat) (k : Nat → ClassId) (t : Nat → Nat) (cnt : Int32) (kinds : Nat → Int32) (firsts : Nat → Int32) (seconds : Nat → Int32) (heights : Nat → Int32) (tables : Nat → Int64) (replaced : Nat → Int32) (laid : Nat → Int32) (rules : Nat → Int32) (ps : Nat → Int32) (qs : Nat → Int32) (rs : Nat → Int32) (fs : Nat → Int32) (frules : Nat → Int32) (heads : Nat → Int32) (ends : Nat → Int32) (inforce : Nat → Int32) (usable : Nat → Int32) (summ : Nat → Int32) (x1 : Int32) (x2 : Int32) (x3 : Int32) (hc : pz_c cnt) : Met l yX1_replace wsX1_replace ({ frames := 18, cells := 0, slots := 0, locals := 428 }) (va_Pc [.ref (q 1), .int (x1), .int (x2), .int (x3)] (fun U => va_P D vwCl (pz_X q k cnt kinds firsts seconds heights tables replaced laid rules ps qs rs fs frules heads ends inforce usable summ) U.heap ∧ pz_KX D q k t U)) (va_Qi (fun r (u : (Int32) × (Nat → Int32) × (Nat → Int32) × (Nat → Int32) × (Nat → Int32) × (Nat → Int64) × (Nat → Int32)) => (r, u) = (f_X1_replace cnt kinds firsts seconds heights tables replaced x1 x2 x3)) (fun u t => va_P D vwCl (pz_X q k u.1 u.2.1 u.2.2.1 u.2.2.2.1 u.2.2.2.2.1 u.2.2.2.2.2.1 u.2.2.2.2.2.2 laid rules ps qs rs fs frules heads ends inforce usable summ) t.heap) (pz_A 22 q)) 0 0 (pz_A 22 q) := by
  refine Met.ofW (cc := cX1_replace) (maxL := 4) (ret := (some .int)) (by decide) rfl ?_
  intro p e s m args below meth c s₁ B hml hv
  obtain ⟨rfl, hP, hKX⟩ := hv
  have hx := B.exec
  have hb := B.bytes
  have hr := B.returns
  have hts := atoms_spec (ws := wsX1_replace) B.pre
  have hown : s.vm.findClass RX1 = some m.cls := findClass_of_methodNamed B.named
  have hlocks := B.notSynchronized
  have hC : pz_C p s m ([.ref (q 1), .int (x1), .int (x2), .int (x3)] : List Value).toArray meth c cX1_replace wsX1_replace RX1 4 (some .int) := ⟨hx, hb, hml, hown, hts, hr, hlocks⟩
  have hK := hKX.1
  have hS : va_S (pz_A 22 q) s.heap s.heap [] := va_S.rf
  have hl := lv_entry [.ref (q 1), .int (x1), .int (x2), .int (x3)] (n := 4) (Nat.le_of_ble_eq_true rfl)
  rw [lg_entry_eq]
  generalize (lg_sl [.ref (q 1), .int (x1), .int (x2), .int (x3)] ++ List.replicate (4 - (lg_sl [.ref (q 1), .int (x1), .int (x2), .int (x3)]).length) Slot.unset).toArray = ls at hl ⊢
  have hl : lv_has ls 4 [(0, .ref (q 1)), (1, .int (x1)), (2, .int (x2)), (3, .int (x3))] := hl
  generalize hF : f_X1_replace cnt kinds firsts seconds heights tables replaced x1 x2 x3 = G
  replace hF := hF.symm
  unfold f_X1_replace at hF
  refine lv_aload_n hx hb dX1_replace_0 rfl (lv_at hl 0 rfl) ?_
  refine va_get (D := D) (ci := 1) (v := .ref (q 9)) (C := RX1) (T := TX1) (N := 7) hx hb hts in_X1_replace_X1 hown hK hP 1 rfl rfl 5 (by decide) (hts _ fl_X1_replace_28) (fun _ h9 => h9) rfl dX1_replace_1 ?_
  refine lv_iconst (v := (-1)) hx hb dX1_replace_4 (by decide) ?_
  refine pz_SWv (As := [.ref (q 9), .int ((-1))]) (rest := []) ⟨hx, hb, hml, hown, hts⟩ (c_J7_fill_53178 l D q k t cnt kinds firsts seconds heights tables replaced laid rules ps qs rs fs frules heads ends inforce usable summ (-1)) (va_cwS 2 hts gX1_replace_J7_fill_53178 rfl rfl rfl hdS_J7_fill_53178 ⟨Nat.le_of_ble_eq_true rfl, Nat.le_of_ble_eq_true rfl⟩) pz_KX.call (hKX.go hS) hP hS rfl hl.1 rfl (Nat.le_of_ble_eq_true rfl) dX1_replace_5 ⟨Nat.zero_le _, Nat.zero_le _⟩ (fun u_1 H locs hF_1 hP hS => ?_)
  obtain ⟨w_1_replaced, rfl⟩ : ∃ z, z = u_1 := ⟨_, rfl⟩
  have hP : va_P D vwCl (pz_X q k cnt kinds firsts seconds heights tables w_1_replaced laid rules ps qs rs fs frules heads ends inforce usable summ) H := hP
  have hF := hF.trans (pz_be hF_1)
  try dsimp only at hF
  refine lv_aload_n hx hb dX1_replace_8 rfl (lv_at hl 0 rfl) ?_
  refine lv_iload_n hx hb dX1_replace_9 rfl (lv_at hl 1 rfl) ?_
  refine lv_iload_n hx hb dX1_replace_10 rfl (lv_at hl 2 rfl) ?_
  refine lv_iload_n hx hb dX1_replace_11 rfl (lv_at hl 3 rfl) ?_
  refine lv_iconst (v := 1) hx hb dX1_replace_12 (by decide) ?_
  refine pz_Vi (As := [.int (x1), .int (x2), .int (x3), .int (1)]) (rest := []) ⟨hx, hb, hml, hown, hts⟩ (c_X1_replaceIn l D q k t 12 cnt kinds firsts seconds heights tables w_1_replaced laid rules ps qs rs fs frules heads ends inforce usable summ x1 x2 x3 1 1 rfl (by omega) (by omega) hc) (cwV 4 hts gX1_replace_X1_replaceIn rfl rfl rfl hdV_X1_replaceIn ⟨Nat.le_of_ble_eq_true rfl, Nat.le_of_ble_eq_true rfl⟩) pz_KX.call (hKX.go hS) (va_recv hK hP (ci := 1) (q0 := 1) rfl rfl) hP hS rfl hl.1 rfl (Nat.le_of_ble_eq_true rfl) dX1_replace_13 ⟨Nat.zero_le _, Nat.zero_le _⟩ (fun r_2 u_2 H locs hF_2 hP hS => ?_)
  obtain ⟨w_2_cnt, w_2_kinds, w_2_firsts, w_2_seconds, w_2_heights, w_2_tables, w_2_replaced⟩ := u_2
  have hP : va_P D vwCl (pz_X q k w_2_cnt w_2_kinds w_2_firsts w_2_seconds w_2_heights w_2_tables w_2_replaced laid rules ps qs rs fs frules heads ends inforce usable summ) H := hP
  have hF := hF.trans (pz_be hF_2)
  try dsimp only at hF
  exact W.iret (v := r_2) hx hb hr (fun t ht hW => ⟨⟨r_2, (w_2_cnt, w_2_kinds, w_2_firsts, w_2_seconds, w_2_heights, w_2_tables, w_2_replaced), rfl, hF.symm, pz_hp ht hP⟩, hS.F ht⟩) hS.2.2 dX1_replace_16 hlocks

