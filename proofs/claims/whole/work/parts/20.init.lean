/-! constructors -/
def pz_FN (q : Nat → Nat) (k : Nat → ClassId) (frules heads ends inforce usable summ : Nat → Int32) : va_W :=
  [(q 0, .inr (0, [.ref (q 1), .ref (q 2), .ref (q 3), .ref (q 4), .ref (q 5), .ref (q 6)])), (q 1, .inl (k 0, 60, .inl frules)), (q 2, .inl (k 0, 60, .inl heads)), (q 3, .inl (k 0, 60, .inl ends)), (q 4, .inl (k 2, 60, .inl inforce)), (q 5, .inl (k 2, 60, .inl usable)), (q 6, .inl (k 0, 4, .inl summ))]
def pz_KF (D : va_G) (q : Nat → Nat) (k : Nat → ClassId) (U : State) : Prop := va_K D vwCl (pz_ty k) U ∧ pz_I 7 q
theorem pz_KF.go {D : va_G} {q : Nat → Nat} {k : Nat → ClassId} {s : State} (h : pz_KF D q k s) {H : Heap} (U : State) (_ : U.heap = H) (hW : s.WarmedH U.vm) : pz_KF D q k U := ⟨h.1.moved hW.alike, h.2⟩
theorem pz_KF.call {D : va_G} {q : Nat → Nat} {k : Nat → ClassId} (U : State) (g : JFrame) (mk : MethodId) (a : Array Value) (h : pz_KF D q k U) : pz_KF D q k (U.calling g mk a) := ⟨va_K.moved (u := U) (Vm.Alike.refl U.vm) h.1, h.2⟩
section PzNew
variable {p : Program} {l : Launch} {e : Env} {R : Room} {s : State} {m : MethodId} {args : Array Value} {below : List Frame} {meth : Method} {c : Code} {H : Heap} {locs : List Loc} {cells slots : Nat} {Q : State → Prop}
variable {cc : ByteArray} {pc : Nat} {ls : Array Slot} {rest : List Value} {D : va_G} {A : Nat → Prop} {ws : va_W} {H0 : Heap} {k : Nat → ClassId}
theorem pz_newI (hexec : p.tables.exec = Jvm.exec) (hb : c.code = cc) (harr : (Cond.arrayClass .int).before args s = true) (hK : va_K D vwCl (pz_ty k) s) (hP : va_P D vwCl ws H) (hD : va_D A ws) (hS : va_S A H0 H locs) (hA : ∀ q, H0.size ≤ q → A q) {n : Int32} {N : Nat} (hn : ¬ n < 0) (hN : n.toNatClampNeg = N) (hbytes : N * componentBytes .int ≤ 536870912) (hcells : cells + 1 ≤ R.cells) (hslots : slots + N ≤ R.slots) (hdg : decode cc pc = .ok (.newarray .int, 2))
    (kk : ∀ (q : Nat) (H1 : Heap), va_P D vwCl (ws ++ [(q, .inl (k 0, N, .inl (fun _ => 0)))]) H1 → va_D A (ws ++ [(q, .inl (k 0, N, .inl (fun _ => 0)))]) → va_S A H0 H1 locs → W p l e R s m args below meth c H1 locs (cells + 1) (slots + N) Q (F0 m (pc + 2) ls (.ref q :: rest))) : W p l e R s m args below meth c H locs cells slots Q (F0 m pc ls (.int n :: rest)) :=
  va_newa (atype := .int) hexec hb harr rfl hK hP hD hS hA (a0 := (N, .inl (fun _ => 0))) (fun cA => vp_cell_i cA N _) hn hN hbytes hcells hslots hdg (fun q cA H1 hK1 hP1 hD1 hS1 => by
    have e1 := (hK1.2 3 (cA, .int) rfl).2
    have e0 := (hK.2 0 (k 0, .int) rfl).2
    have he : cA = k 0 := Option.some.inj (e1.symm.trans e0)
    subst he
    exact kk q H1 hP1 hD1 hS1)
theorem pz_newZ (hexec : p.tables.exec = Jvm.exec) (hb : c.code = cc) (harr : (Cond.arrayClass .boolean).before args s = true) (hK : va_K D vwCl (pz_ty k) s) (hP : va_P D vwCl ws H) (hD : va_D A ws) (hS : va_S A H0 H locs) (hA : ∀ q, H0.size ≤ q → A q) {n : Int32} {N : Nat} (hn : ¬ n < 0) (hN : n.toNatClampNeg = N) (hbytes : N * componentBytes .boolean ≤ 536870912) (hcells : cells + 1 ≤ R.cells) (hslots : slots + N ≤ R.slots) (hdg : decode cc pc = .ok (.newarray .boolean, 2))
    (kk : ∀ (q : Nat) (H1 : Heap), va_P D vwCl (ws ++ [(q, .inl (k 2, N, .inl (fun _ => 0)))]) H1 → va_D A (ws ++ [(q, .inl (k 2, N, .inl (fun _ => 0)))]) → va_S A H0 H1 locs → W p l e R s m args below meth c H1 locs (cells + 1) (slots + N) Q (F0 m (pc + 2) ls (.ref q :: rest))) : W p l e R s m args below meth c H locs cells slots Q (F0 m pc ls (.int n :: rest)) :=
  va_newa (atype := .boolean) hexec hb harr rfl hK hP hD hS hA (a0 := (N, .inl (fun _ => 0))) (fun cA => vp_cell_i cA N _) hn hN hbytes hcells hslots hdg (fun q cA H1 hK1 hP1 hD1 hS1 => by
    have e1 := (hK1.2 3 (cA, .boolean) rfl).2
    have e0 := (hK.2 2 (k 2, .boolean) rfl).2
    have he : cA = k 2 := Option.some.inj (e1.symm.trans e0)
    subst he
    exact kk q H1 hP1 hD1 hS1)
theorem pz_newJ (hexec : p.tables.exec = Jvm.exec) (hb : c.code = cc) (harr : (Cond.arrayClass .long).before args s = true) (hK : va_K D vwCl (pz_ty k) s) (hP : va_P D vwCl ws H) (hD : va_D A ws) (hS : va_S A H0 H locs) (hA : ∀ q, H0.size ≤ q → A q) {n : Int32} {N : Nat} (hn : ¬ n < 0) (hN : n.toNatClampNeg = N) (hbytes : N * componentBytes .long ≤ 536870912) (hcells : cells + 1 ≤ R.cells) (hslots : slots + N ≤ R.slots) (hdg : decode cc pc = .ok (.newarray .long, 2))
    (kk : ∀ (q : Nat) (H1 : Heap), va_P D vwCl (ws ++ [(q, .inl (k 1, N, .inr (.inl (fun _ => 0))))]) H1 → va_D A (ws ++ [(q, .inl (k 1, N, .inr (.inl (fun _ => 0))))]) → va_S A H0 H1 locs → W p l e R s m args below meth c H1 locs (cells + 1) (slots + N) Q (F0 m (pc + 2) ls (.ref q :: rest))) : W p l e R s m args below meth c H locs cells slots Q (F0 m pc ls (.int n :: rest)) :=
  va_newa (atype := .long) hexec hb harr rfl hK hP hD hS hA (a0 := (N, .inr (.inl (fun _ => 0)))) (fun cA => vp_cell_l cA N _) hn hN hbytes hcells hslots hdg (fun q cA H1 hK1 hP1 hD1 hS1 => by
    have e1 := (hK1.2 3 (cA, .long) rfl).2
    have e0 := (hK.2 1 (k 1, .long) rfl).2
    have he : cA = k 1 := Option.some.inj (e1.symm.trans e0)
    subst he
    exact kk q H1 hP1 hD1 hS1)
end PzNew

set_option maxHeartbeats 4000000 in
set_option maxRecDepth 100000 in
theorem k_Y0_forget_2 {p : Program} {l : Launch} {e : Env} {s : State} {m : MethodId} {args : Array Value} {below : List Frame} {meth : Method} {c : Code} {D : va_G} {q : Nat → Nat} {k : Nat → ClassId} (hC : pz_C p s m args meth c cX0_forget wsX0_forget RX0 2 none) (hKX : pz_KF D q k s) (summ : Nat → Int32) {G : (Nat → Int32) × (Nat → Int32) × (Nat → Int32) × (Nat → Int32) × (Nat → Int32)} :
    ∀ (n : Nat) (frules : Nat → Int32) (heads : Nat → Int32) (ends : Nat → Int32) (inforce : Nat → Int32) (usable : Nat → Int32) (x1 : Int32) (h0 : 0 ≤ x1.toInt) (h1 : x1.toInt ≤ 60) (hn : 61 ≤ x1.toInt + n)  (H : Heap) (locs : List Loc) (ls : Array Slot), G = F_X0_forget_2 n frules heads ends inforce usable x1 → va_P D vwCl (pz_FN q k frules heads ends inforce usable summ) H → va_S (pz_A 7 q) s.heap H locs → lv_has ls 2 [(0, .ref (q 0)), (1, .int (x1))] → W p l e (headSpec wsX0_forget { frames := 0, cells := 0, slots := 0, locals := 0 }).room s m args below meth c H locs 0 0 (MQ below (va_Qv (fun (u : (Nat → Int32) × (Nat → Int32) × (Nat → Int32) × (Nat → Int32) × (Nat → Int32)) => u = G) (fun u t => va_P D vwCl (pz_FN q k u.1 u.2.1 u.2.2.1 u.2.2.2.1 u.2.2.2.2 summ) t.heap) (pz_A 7 q)) args s 0 0 (pz_A 7 q)) (F0 m 2 ls []) := by
  obtain ⟨hx, hb, hml, hown, hts, hr, hlocks⟩ := hC
  have hC : pz_C p s m args meth c cX0_forget wsX0_forget RX0 2 none := ⟨hx, hb, hml, hown, hts, hr, hlocks⟩
  have hK := hKX.1
  intro n
  induction n with
  | zero =>
    intro frules heads ends inforce usable x1 h0 h1 hn H locs ls hF hP hS hl
    exact absurd hn (by omega)
  | succ n ih =>
    intro frules heads ends inforce usable x1 h0 h1 hn H locs ls hF hP hS hl
    unfold F_X0_forget_2 at hF
    refine lv_iload_n hx hb dX0_forget_2 rfl (lv_at hl 1 rfl) ?_
    refine lv_bipush (v := 60) hx hb dX0_forget_3 (by decide) ?_
    refine lv_icmp_ge (tgt := 49) hx hb dX0_forget_5 (by decide) (fun c_1 => ?_) (fun c_1 => ?_)
    · have hF := hF.trans (if_pos c_1)
      exact W.vret hx hb hr (fun t ht hW => ⟨⟨(frules, heads, ends, inforce, usable), rfl, hF.symm, pz_hp ht hP⟩, hS.F ht⟩) hS.2.2 dX0_forget_49 hlocks
    · have hF := hF.trans (if_neg c_1)
      refine lv_aload_n hx hb dX0_forget_8 rfl (lv_at hl 0 rfl) ?_
      refine va_get (D := D) (ci := 0) (v := .ref (q 1)) (C := RX0) (T := TX0) (N := 6) hx hb hts in_X0_forget_X0 hown hK hP 0 rfl rfl 0 (by decide) (hts _ fl_X0_forget_9) (fun _ h9 => h9) rfl dX0_forget_9 ?_
      refine lv_iload_n hx hb dX0_forget_12 rfl (lv_at hl 1 rfl) ?_
      refine lv_iconst (v := (-1)) hx hb dX0_forget_13 (by decide) ?_
      have hi_2 : vp_in x1 60 := pz_inI h0 (pz_n60 ‹_›)
      refine va_iast hx hb hK hP (pz_D hKX.2 rfl) hS 1 0 rfl rfl hi_2 dX0_forget_14 (fun H locs hP _ hS => ?_)
      have hP : va_P D vwCl (pz_FN q k (upd frules (x1).toNatClampNeg (-1)) heads ends inforce usable summ) H := hP
      refine lv_aload_n hx hb dX0_forget_15 rfl (lv_at hl 0 rfl) ?_
      refine va_get (D := D) (ci := 0) (v := .ref (q 2)) (C := RX0) (T := TX0) (N := 6) hx hb hts in_X0_forget_X0 hown hK hP 0 rfl rfl 1 (by decide) (hts _ fl_X0_forget_15) (fun _ h9 => h9) rfl dX0_forget_16 ?_
      refine lv_iload_n hx hb dX0_forget_19 rfl (lv_at hl 1 rfl) ?_
      refine lv_iconst (v := (-1)) hx hb dX0_forget_20 (by decide) ?_
      have hi_3 : vp_in x1 60 := pz_inI h0 (pz_n60 ‹_›)
      refine va_iast hx hb hK hP (pz_D hKX.2 rfl) hS 2 0 rfl rfl hi_3 dX0_forget_21 (fun H locs hP _ hS => ?_)
      have hP : va_P D vwCl (pz_FN q k (upd frules (x1).toNatClampNeg (-1)) (upd heads (x1).toNatClampNeg (-1)) ends inforce usable summ) H := hP
      refine lv_aload_n hx hb dX0_forget_22 rfl (lv_at hl 0 rfl) ?_
      refine va_get (D := D) (ci := 0) (v := .ref (q 3)) (C := RX0) (T := TX0) (N := 6) hx hb hts in_X0_forget_X0 hown hK hP 0 rfl rfl 2 (by decide) (hts _ fl_X0_forget_18) (fun _ h9 => h9) rfl dX0_forget_23 ?_
      refine lv_iload_n hx hb dX0_forget_26 rfl (lv_at hl 1 rfl) ?_
      refine lv_iconst (v := (-1)) hx hb dX0_forget_27 (by decide) ?_
      have hi_4 : vp_in x1 60 := pz_inI h0 (pz_n60 ‹_›)
      refine va_iast hx hb hK hP (pz_D hKX.2 rfl) hS 3 0 rfl rfl hi_4 dX0_forget_28 (fun H locs hP _ hS => ?_)
      have hP : va_P D vwCl (pz_FN q k (upd frules (x1).toNatClampNeg (-1)) (upd heads (x1).toNatClampNeg (-1)) (upd ends (x1).toNatClampNeg (-1)) inforce usable summ) H := hP
      refine lv_aload_n hx hb dX0_forget_29 rfl (lv_at hl 0 rfl) ?_
      refine va_get (D := D) (ci := 0) (v := .ref (q 4)) (C := RX0) (T := TX0) (N := 6) hx hb hts in_X0_forget_X0 hown hK hP 0 rfl rfl 3 (by decide) (hts _ fl_X0_forget_21) (fun _ h9 => h9) rfl dX0_forget_30 ?_
      refine lv_iload_n hx hb dX0_forget_33 rfl (lv_at hl 1 rfl) ?_
      refine lv_iconst (v := 0) hx hb dX0_forget_34 (by decide) ?_
      have hi_5 : vp_in x1 60 := pz_inI h0 (pz_n60 ‹_›)
      refine va_zast hx hb hK hP (pz_D hKX.2 rfl) hS 4 2 rfl rfl hi_5 dX0_forget_35 (fun H locs hP _ hS => ?_)
      have hP : va_P D vwCl (pz_FN q k (upd frules (x1).toNatClampNeg (-1)) (upd heads (x1).toNatClampNeg (-1)) (upd ends (x1).toNatClampNeg (-1)) (upd inforce (x1).toNatClampNeg 0) usable summ) H := hP
      refine lv_aload_n hx hb dX0_forget_36 rfl (lv_at hl 0 rfl) ?_
      refine va_get (D := D) (ci := 0) (v := .ref (q 5)) (C := RX0) (T := TX0) (N := 6) hx hb hts in_X0_forget_X0 hown hK hP 0 rfl rfl 4 (by decide) (hts _ fl_X0_forget_25) (fun _ h9 => h9) rfl dX0_forget_37 ?_
      refine lv_iload_n hx hb dX0_forget_40 rfl (lv_at hl 1 rfl) ?_
      refine lv_iconst (v := 0) hx hb dX0_forget_41 (by decide) ?_
      have hi_6 : vp_in x1 60 := pz_inI h0 (pz_n60 ‹_›)
      refine va_zast hx hb hK hP (pz_D hKX.2 rfl) hS 5 2 rfl rfl hi_6 dX0_forget_42 (fun H locs hP _ hS => ?_)
      have hP : va_P D vwCl (pz_FN q k (upd frules (x1).toNatClampNeg (-1)) (upd heads (x1).toNatClampNeg (-1)) (upd ends (x1).toNatClampNeg (-1)) (upd inforce (x1).toNatClampNeg 0) (upd usable (x1).toNatClampNeg 0) summ) H := hP
      refine lv_iinc (v := (x1 + 1)) (lv' := [(1, .int ((x1 + 1))), (0, .ref (q 0))]) hx hb dX0_forget_43 hl (k := 1) rfl rfl (by decide) rfl (fun ls hl => ?_)
      refine lv_goto (tgt := 2) hx hb dX0_forget_46 (by decide) ?_
      exact ih (upd frules (x1).toNatClampNeg (-1)) (upd heads (x1).toNatClampNeg (-1)) (upd ends (x1).toNatClampNeg (-1)) (upd inforce (x1).toNatClampNeg 0) (upd usable (x1).toNatClampNeg 0) (x1 + 1) (by have e := pz_up60 ‹¬ (60 : Int32) ≤ x1›; omega) (by have e := pz_up60 ‹¬ (60 : Int32) ≤ x1›; omega) (by have e := pz_up60 ‹¬ (60 : Int32) ≤ x1›; omega) _ _ _ hF hP hS (lv_sub hl [1, 0] rfl)
set_option maxHeartbeats 4000000 in
set_option maxRecDepth 100000 in
theorem c_Y0_forget (l : Launch) (D : va_G) (q : Nat → Nat) (k : Nat → ClassId) (frules : Nat → Int32) (heads : Nat → Int32) (ends : Nat → Int32) (inforce : Nat → Int32) (usable : Nat → Int32) (summ : Nat → Int32)   : Met l yX0_forget wsX0_forget ({ frames := 0, cells := 0, slots := 0, locals := 0 }) (va_Pc [.ref (q 0)] (fun U => va_P D vwCl (pz_FN q k frules heads ends inforce usable summ) U.heap ∧ pz_KF D q k U)) (va_Qv (fun (u : (Nat → Int32) × (Nat → Int32) × (Nat → Int32) × (Nat → Int32) × (Nat → Int32)) => u = (f_X0_forget frules heads ends inforce usable)) (fun u t => va_P D vwCl (pz_FN q k u.1 u.2.1 u.2.2.1 u.2.2.2.1 u.2.2.2.2 summ) t.heap) (pz_A 7 q)) 0 0 (pz_A 7 q) := by
  refine Met.ofW (cc := cX0_forget) (maxL := 2) (ret := none) (by decide) rfl ?_
  intro p e s m args below meth c s₁ B hml hv
  obtain ⟨rfl, hP, hKX⟩ := hv
  have hx := B.exec
  have hb := B.bytes
  have hr := B.returns
  have hts := atoms_spec (ws := wsX0_forget) B.pre
  have hown : s.vm.findClass RX0 = some m.cls := findClass_of_methodNamed B.named
  have hlocks := B.notSynchronized
  have hC : pz_C p s m ([.ref (q 0)] : List Value).toArray meth c cX0_forget wsX0_forget RX0 2 none := ⟨hx, hb, hml, hown, hts, hr, hlocks⟩
  have hK := hKX.1
  have hS : va_S (pz_A 7 q) s.heap s.heap [] := va_S.rf
  have hl := lv_entry [.ref (q 0)] (n := 2) (Nat.le_of_ble_eq_true rfl)
  rw [lg_entry_eq]
  generalize (lg_sl [.ref (q 0)] ++ List.replicate (2 - (lg_sl [.ref (q 0)]).length) Slot.unset).toArray = ls at hl ⊢
  have hl : lv_has ls 2 [(0, .ref (q 0))] := hl
  generalize hF : f_X0_forget frules heads ends inforce usable = G
  replace hF := hF.symm
  unfold f_X0_forget at hF
  refine lv_iconst (v := 0) hx hb dX0_forget_0 (by decide) ?_
  refine lv_istore_n (lv' := [(1, .int (0)), (0, .ref (q 0))]) hx hb dX0_forget_1 rfl hl (by decide) rfl (fun ls hl => ?_)
  exact k_Y0_forget_2 hC hKX summ 61 frules heads ends inforce usable 0 (by decide) (by decide) (by decide) _ _ _ hF hP hS (lv_sub hl [1, 0] rfl)

def pz_N1 (h0 : Nat) (k : Nat → ClassId) (a : Nat → Nat) : va_W := [(h0, .inr (1, [.ref (a 0), .ref (a 1), .ref (a 2), .ref (a 3), .ref (a 4), .ref (a 5), .int 0])), (a 0, .inl (k 0, 80, .inl (fun _ => 0))), (a 1, .inl (k 0, 80, .inl (fun _ => 0))), (a 2, .inl (k 0, 80, .inl (fun _ => 0))), (a 3, .inl (k 0, 80, .inl (fun _ => 0))), (a 4, .inl (k 1, 80, .inr (.inl (fun _ => 0)))), (a 5, .inl (k 0, 80, .inl (fun _ => 0)))]
theorem fl_X1_init_15 : Cond.fieldLink RX1 15 "BoxProofs$Formulas" "firsts" "[I" ∈ wsX1_init := by decide +kernel
theorem fl_X1_init_18 : Cond.fieldLink RX1 18 "BoxProofs$Formulas" "seconds" "[I" ∈ wsX1_init := by decide +kernel
theorem fl_X1_init_21 : Cond.fieldLink RX1 21 "BoxProofs$Formulas" "heights" "[I" ∈ wsX1_init := by decide +kernel
theorem fl_X1_init_24 : Cond.fieldLink RX1 24 "BoxProofs$Formulas" "tables" "[J" ∈ wsX1_init := by decide +kernel
theorem fl_X1_init_28 : Cond.fieldLink RX1 28 "BoxProofs$Formulas" "replaced" "[I" ∈ wsX1_init := by decide +kernel
theorem fl_X1_init_31 : Cond.fieldLink RX1 31 "BoxProofs$Formulas" "count" "I" ∈ wsX1_init := by decide +kernel
theorem fl_X1_init_9 : Cond.fieldLink RX1 9 "BoxProofs$Formulas" "kinds" "[I" ∈ wsX1_init := by decide +kernel
theorem in_X1_init_X1 : ∀ w ∈ wsX10, w ∈ wsX1_init := by decide +kernel
set_option maxHeartbeats 4000000 in
set_option maxRecDepth 100000 in
theorem c_X1_init (l : Launch) (D : va_G) (k : Nat → ClassId) (h0 sz : Nat) : Met l yX1_init wsX1_init ({ frames := 1, cells := 6, slots := 480, locals := 12 }) (va_Pc [.ref h0] (fun U => U.heap.size = sz ∧ va_P D vwCl [(h0, .inr (1, [.null, .null, .null, .null, .null, .null, .int 0]))] U.heap ∧ va_K D vwCl (pz_ty k) U ∧ va_D (fun _ => True) [(h0, .inr (1, [.null, .null, .null, .null, .null, .null, .int 0]))])) (va_Qv (fun _ : Nat → Nat => True) (fun a t => va_P D vwCl (pz_N1 h0 k a) t.heap ∧ va_D (va_A [(h0, .inr (1, [.null, .null, .null, .null, .null, .null, .int 0]))] sz) (pz_N1 h0 k a)) (va_A [(h0, .inr (1, [.null, .null, .null, .null, .null, .null, .int 0]))] sz)) 6 480 (va_A [(h0, .inr (1, [.null, .null, .null, .null, .null, .null, .int 0]))] sz) := by
  refine Met.ofW (cc := cX1_init) (maxL := 1) (ret := none) (by decide) rfl ?_
  intro p e s m args below meth c s₁ B hml hv
  obtain ⟨rfl, hsz, hP, hK, hD0⟩ := hv
  have hx := B.exec
  have hb := B.bytes
  have hr := B.returns
  have hts := atoms_spec (ws := wsX1_init) B.pre
  have hown : s.vm.findClass RX1 = some m.cls := findClass_of_methodNamed B.named
  have hlocks := B.notSynchronized
  have hin : meth.name = "<init>" := (name_of_methodNamed B.named B.method).1
  subst hsz
  have hD := hD0.self (sz := s.heap.size)
  generalize hAe : va_A [(h0, .inr (1, [.null, .null, .null, .null, .null, .null, .int 0]))] s.heap.size = A at hD ⊢
  have hA : ∀ q : Nat, s.heap.size ≤ q → A q := fun q h => by rw [← hAe]; exact Or.inr h
  have hS : va_S A s.heap s.heap [] := va_S.rf
  have hl := lv_entry [.ref h0] (n := 1) (Nat.le_of_ble_eq_true rfl)
  rw [lg_entry_eq]
  generalize (lg_sl [.ref h0] ++ List.replicate (1 - (lg_sl [.ref h0]).length) Slot.unset).toArray = ls at hl ⊢
  have hl : lv_has ls 1 [(0, .ref h0)] := hl
  refine lv_aload_n hx hb dX1_init_0 rfl (lv_at hl 0 rfl) ?_
  refine W.objInit hx hb hown (hts (.methodLink RX1 3 objectInit) (by decide +kernel)) (hts (.instanceMethod objectInit) (by decide +kernel)) (hts _ (List.mem_of_getElem? (i := 3) rfl)) rfl (by rw [hml]; exact hl.1) rfl dX1_init_1 (Nat.le_of_ble_eq_true rfl) (Nat.le_of_ble_eq_true rfl) ?_
  refine W.eq (g2 := F0 m 4 ls []) rfl ?_
  refine lv_aload_n hx hb dX1_init_4 rfl (lv_at hl 0 rfl) ?_
  refine lv_bipush (v := 80) hx hb dX1_init_5 (by decide) ?_
  refine pz_newI hx hb (hts (.arrayClass .int) (by decide +kernel)) hK hP hD hS hA (N := 80) (by decide) (by decide) (by decide) (Nat.le_of_ble_eq_true rfl) (Nat.le_of_ble_eq_true rfl) dX1_init_7 (fun a1 H hP hD hS => ?_)
  have hP : va_P D vwCl [(h0, .inr (1, [.null, .null, .null, .null, .null, .null, .int 0])), (a1, .inl (k 0, 80, .inl (fun _ => 0)))] H := hP
  have hD : va_D A [(h0, .inr (1, [.null, .null, .null, .null, .null, .null, .int 0])), (a1, .inl (k 0, 80, .inl (fun _ => 0)))] := hD
  refine va_putF (D := D) (ci := 1) (v := .ref a1) (ty := .array .int) (C := RX1) (T := TX1) (N := 7) hx hb hts in_X1_init_X1 tyX1 tyX1_ok nmX1 hown hK hP hD hS 0 rfl rfl 0 (by decide) (hts _ fl_X1_init_9) (fun _ h9 => h9) rfl hin rfl (by decide +kernel) rfl rfl (Nat.le_of_ble_eq_true rfl) dX1_init_9 (fun H locs hP hD hS => ?_)
  have hP : va_P D vwCl [(h0, .inr (1, [.ref a1, .null, .null, .null, .null, .null, .int 0])), (a1, .inl (k 0, 80, .inl (fun _ => 0)))] H := hP
  have hD : va_D A [(h0, .inr (1, [.ref a1, .null, .null, .null, .null, .null, .int 0])), (a1, .inl (k 0, 80, .inl (fun _ => 0)))] := hD
  refine lv_aload_n hx hb dX1_init_12 rfl (lv_at hl 0 rfl) ?_
  refine lv_bipush (v := 80) hx hb dX1_init_13 (by decide) ?_
  refine pz_newI hx hb (hts (.arrayClass .int) (by decide +kernel)) hK hP hD hS hA (N := 80) (by decide) (by decide) (by decide) (Nat.le_of_ble_eq_true rfl) (Nat.le_of_ble_eq_true rfl) dX1_init_15 (fun a2 H hP hD hS => ?_)
  have hP : va_P D vwCl [(h0, .inr (1, [.ref a1, .null, .null, .null, .null, .null, .int 0])), (a1, .inl (k 0, 80, .inl (fun _ => 0))), (a2, .inl (k 0, 80, .inl (fun _ => 0)))] H := hP
  have hD : va_D A [(h0, .inr (1, [.ref a1, .null, .null, .null, .null, .null, .int 0])), (a1, .inl (k 0, 80, .inl (fun _ => 0))), (a2, .inl (k 0, 80, .inl (fun _ => 0)))] := hD
  refine va_putF (D := D) (ci := 1) (v := .ref a2) (ty := .array .int) (C := RX1) (T := TX1) (N := 7) hx hb hts in_X1_init_X1 tyX1 tyX1_ok nmX1 hown hK hP hD hS 0 rfl rfl 1 (by decide) (hts _ fl_X1_init_15) (fun _ h9 => h9) rfl hin rfl (by decide +kernel) rfl rfl (Nat.le_of_ble_eq_true rfl) dX1_init_17 (fun H locs hP hD hS => ?_)
  have hP : va_P D vwCl [(h0, .inr (1, [.ref a1, .ref a2, .null, .null, .null, .null, .int 0])), (a1, .inl (k 0, 80, .inl (fun _ => 0))), (a2, .inl (k 0, 80, .inl (fun _ => 0)))] H := hP
  have hD : va_D A [(h0, .inr (1, [.ref a1, .ref a2, .null, .null, .null, .null, .int 0])), (a1, .inl (k 0, 80, .inl (fun _ => 0))), (a2, .inl (k 0, 80, .inl (fun _ => 0)))] := hD
  refine lv_aload_n hx hb dX1_init_20 rfl (lv_at hl 0 rfl) ?_
  refine lv_bipush (v := 80) hx hb dX1_init_21 (by decide) ?_
  refine pz_newI hx hb (hts (.arrayClass .int) (by decide +kernel)) hK hP hD hS hA (N := 80) (by decide) (by decide) (by decide) (Nat.le_of_ble_eq_true rfl) (Nat.le_of_ble_eq_true rfl) dX1_init_23 (fun a3 H hP hD hS => ?_)
  have hP : va_P D vwCl [(h0, .inr (1, [.ref a1, .ref a2, .null, .null, .null, .null, .int 0])), (a1, .inl (k 0, 80, .inl (fun _ => 0))), (a2, .inl (k 0, 80, .inl (fun _ => 0))), (a3, .inl (k 0, 80, .inl (fun _ => 0)))] H := hP
  have hD : va_D A [(h0, .inr (1, [.ref a1, .ref a2, .null, .null, .null, .null, .int 0])), (a1, .inl (k 0, 80, .inl (fun _ => 0))), (a2, .inl (k 0, 80, .inl (fun _ => 0))), (a3, .inl (k 0, 80, .inl (fun _ => 0)))] := hD
  refine va_putF (D := D) (ci := 1) (v := .ref a3) (ty := .array .int) (C := RX1) (T := TX1) (N := 7) hx hb hts in_X1_init_X1 tyX1 tyX1_ok nmX1 hown hK hP hD hS 0 rfl rfl 2 (by decide) (hts _ fl_X1_init_18) (fun _ h9 => h9) rfl hin rfl (by decide +kernel) rfl rfl (Nat.le_of_ble_eq_true rfl) dX1_init_25 (fun H locs hP hD hS => ?_)
  have hP : va_P D vwCl [(h0, .inr (1, [.ref a1, .ref a2, .ref a3, .null, .null, .null, .int 0])), (a1, .inl (k 0, 80, .inl (fun _ => 0))), (a2, .inl (k 0, 80, .inl (fun _ => 0))), (a3, .inl (k 0, 80, .inl (fun _ => 0)))] H := hP
  have hD : va_D A [(h0, .inr (1, [.ref a1, .ref a2, .ref a3, .null, .null, .null, .int 0])), (a1, .inl (k 0, 80, .inl (fun _ => 0))), (a2, .inl (k 0, 80, .inl (fun _ => 0))), (a3, .inl (k 0, 80, .inl (fun _ => 0)))] := hD
  refine lv_aload_n hx hb dX1_init_28 rfl (lv_at hl 0 rfl) ?_
  refine lv_bipush (v := 80) hx hb dX1_init_29 (by decide) ?_
  refine pz_newI hx hb (hts (.arrayClass .int) (by decide +kernel)) hK hP hD hS hA (N := 80) (by decide) (by decide) (by decide) (Nat.le_of_ble_eq_true rfl) (Nat.le_of_ble_eq_true rfl) dX1_init_31 (fun a4 H hP hD hS => ?_)
  have hP : va_P D vwCl [(h0, .inr (1, [.ref a1, .ref a2, .ref a3, .null, .null, .null, .int 0])), (a1, .inl (k 0, 80, .inl (fun _ => 0))), (a2, .inl (k 0, 80, .inl (fun _ => 0))), (a3, .inl (k 0, 80, .inl (fun _ => 0))), (a4, .inl (k 0, 80, .inl (fun _ => 0)))] H := hP
  have hD : va_D A [(h0, .inr (1, [.ref a1, .ref a2, .ref a3, .null, .null, .null, .int 0])), (a1, .inl (k 0, 80, .inl (fun _ => 0))), (a2, .inl (k 0, 80, .inl (fun _ => 0))), (a3, .inl (k 0, 80, .inl (fun _ => 0))), (a4, .inl (k 0, 80, .inl (fun _ => 0)))] := hD
  refine va_putF (D := D) (ci := 1) (v := .ref a4) (ty := .array .int) (C := RX1) (T := TX1) (N := 7) hx hb hts in_X1_init_X1 tyX1 tyX1_ok nmX1 hown hK hP hD hS 0 rfl rfl 3 (by decide) (hts _ fl_X1_init_21) (fun _ h9 => h9) rfl hin rfl (by decide +kernel) rfl rfl (Nat.le_of_ble_eq_true rfl) dX1_init_33 (fun H locs hP hD hS => ?_)
  have hP : va_P D vwCl [(h0, .inr (1, [.ref a1, .ref a2, .ref a3, .ref a4, .null, .null, .int 0])), (a1, .inl (k 0, 80, .inl (fun _ => 0))), (a2, .inl (k 0, 80, .inl (fun _ => 0))), (a3, .inl (k 0, 80, .inl (fun _ => 0))), (a4, .inl (k 0, 80, .inl (fun _ => 0)))] H := hP
  have hD : va_D A [(h0, .inr (1, [.ref a1, .ref a2, .ref a3, .ref a4, .null, .null, .int 0])), (a1, .inl (k 0, 80, .inl (fun _ => 0))), (a2, .inl (k 0, 80, .inl (fun _ => 0))), (a3, .inl (k 0, 80, .inl (fun _ => 0))), (a4, .inl (k 0, 80, .inl (fun _ => 0)))] := hD
  refine lv_aload_n hx hb dX1_init_36 rfl (lv_at hl 0 rfl) ?_
  refine lv_bipush (v := 80) hx hb dX1_init_37 (by decide) ?_
  refine pz_newJ hx hb (hts (.arrayClass .long) (by decide +kernel)) hK hP hD hS hA (N := 80) (by decide) (by decide) (by decide) (Nat.le_of_ble_eq_true rfl) (Nat.le_of_ble_eq_true rfl) dX1_init_39 (fun a5 H hP hD hS => ?_)
  have hP : va_P D vwCl [(h0, .inr (1, [.ref a1, .ref a2, .ref a3, .ref a4, .null, .null, .int 0])), (a1, .inl (k 0, 80, .inl (fun _ => 0))), (a2, .inl (k 0, 80, .inl (fun _ => 0))), (a3, .inl (k 0, 80, .inl (fun _ => 0))), (a4, .inl (k 0, 80, .inl (fun _ => 0))), (a5, .inl (k 1, 80, .inr (.inl (fun _ => 0))))] H := hP
  have hD : va_D A [(h0, .inr (1, [.ref a1, .ref a2, .ref a3, .ref a4, .null, .null, .int 0])), (a1, .inl (k 0, 80, .inl (fun _ => 0))), (a2, .inl (k 0, 80, .inl (fun _ => 0))), (a3, .inl (k 0, 80, .inl (fun _ => 0))), (a4, .inl (k 0, 80, .inl (fun _ => 0))), (a5, .inl (k 1, 80, .inr (.inl (fun _ => 0))))] := hD
  refine va_putF (D := D) (ci := 1) (v := .ref a5) (ty := .array .long) (C := RX1) (T := TX1) (N := 7) hx hb hts in_X1_init_X1 tyX1 tyX1_ok nmX1 hown hK hP hD hS 0 rfl rfl 4 (by decide) (hts _ fl_X1_init_24) (fun _ h9 => h9) rfl hin rfl (by decide +kernel) rfl rfl (Nat.le_of_ble_eq_true rfl) dX1_init_41 (fun H locs hP hD hS => ?_)
  have hP : va_P D vwCl [(h0, .inr (1, [.ref a1, .ref a2, .ref a3, .ref a4, .ref a5, .null, .int 0])), (a1, .inl (k 0, 80, .inl (fun _ => 0))), (a2, .inl (k 0, 80, .inl (fun _ => 0))), (a3, .inl (k 0, 80, .inl (fun _ => 0))), (a4, .inl (k 0, 80, .inl (fun _ => 0))), (a5, .inl (k 1, 80, .inr (.inl (fun _ => 0))))] H := hP
  have hD : va_D A [(h0, .inr (1, [.ref a1, .ref a2, .ref a3, .ref a4, .ref a5, .null, .int 0])), (a1, .inl (k 0, 80, .inl (fun _ => 0))), (a2, .inl (k 0, 80, .inl (fun _ => 0))), (a3, .inl (k 0, 80, .inl (fun _ => 0))), (a4, .inl (k 0, 80, .inl (fun _ => 0))), (a5, .inl (k 1, 80, .inr (.inl (fun _ => 0))))] := hD
  refine lv_aload_n hx hb dX1_init_44 rfl (lv_at hl 0 rfl) ?_
  refine lv_bipush (v := 80) hx hb dX1_init_45 (by decide) ?_
  refine pz_newI hx hb (hts (.arrayClass .int) (by decide +kernel)) hK hP hD hS hA (N := 80) (by decide) (by decide) (by decide) (Nat.le_of_ble_eq_true rfl) (Nat.le_of_ble_eq_true rfl) dX1_init_47 (fun a6 H hP hD hS => ?_)
  have hP : va_P D vwCl [(h0, .inr (1, [.ref a1, .ref a2, .ref a3, .ref a4, .ref a5, .null, .int 0])), (a1, .inl (k 0, 80, .inl (fun _ => 0))), (a2, .inl (k 0, 80, .inl (fun _ => 0))), (a3, .inl (k 0, 80, .inl (fun _ => 0))), (a4, .inl (k 0, 80, .inl (fun _ => 0))), (a5, .inl (k 1, 80, .inr (.inl (fun _ => 0)))), (a6, .inl (k 0, 80, .inl (fun _ => 0)))] H := hP
  have hD : va_D A [(h0, .inr (1, [.ref a1, .ref a2, .ref a3, .ref a4, .ref a5, .null, .int 0])), (a1, .inl (k 0, 80, .inl (fun _ => 0))), (a2, .inl (k 0, 80, .inl (fun _ => 0))), (a3, .inl (k 0, 80, .inl (fun _ => 0))), (a4, .inl (k 0, 80, .inl (fun _ => 0))), (a5, .inl (k 1, 80, .inr (.inl (fun _ => 0)))), (a6, .inl (k 0, 80, .inl (fun _ => 0)))] := hD
  refine va_putF (D := D) (ci := 1) (v := .ref a6) (ty := .array .int) (C := RX1) (T := TX1) (N := 7) hx hb hts in_X1_init_X1 tyX1 tyX1_ok nmX1 hown hK hP hD hS 0 rfl rfl 5 (by decide) (hts _ fl_X1_init_28) (fun _ h9 => h9) rfl hin rfl (by decide +kernel) rfl rfl (Nat.le_of_ble_eq_true rfl) dX1_init_49 (fun H locs hP hD hS => ?_)
  have hP : va_P D vwCl [(h0, .inr (1, [.ref a1, .ref a2, .ref a3, .ref a4, .ref a5, .ref a6, .int 0])), (a1, .inl (k 0, 80, .inl (fun _ => 0))), (a2, .inl (k 0, 80, .inl (fun _ => 0))), (a3, .inl (k 0, 80, .inl (fun _ => 0))), (a4, .inl (k 0, 80, .inl (fun _ => 0))), (a5, .inl (k 1, 80, .inr (.inl (fun _ => 0)))), (a6, .inl (k 0, 80, .inl (fun _ => 0)))] H := hP
  have hD : va_D A [(h0, .inr (1, [.ref a1, .ref a2, .ref a3, .ref a4, .ref a5, .ref a6, .int 0])), (a1, .inl (k 0, 80, .inl (fun _ => 0))), (a2, .inl (k 0, 80, .inl (fun _ => 0))), (a3, .inl (k 0, 80, .inl (fun _ => 0))), (a4, .inl (k 0, 80, .inl (fun _ => 0))), (a5, .inl (k 1, 80, .inr (.inl (fun _ => 0)))), (a6, .inl (k 0, 80, .inl (fun _ => 0)))] := hD
  refine lv_aload_n hx hb dX1_init_52 rfl (lv_at hl 0 rfl) ?_
  refine lv_iconst (v := 0) hx hb dX1_init_53 (by decide) ?_
  refine va_put (D := D) (ci := 1) (v := .int 0) (ty := .int) (C := RX1) (T := TX1) (N := 7) hx hb hts in_X1_init_X1 tyX1 tyX1_ok nmX1 hown hK hP hD hS 0 rfl rfl 6 (by decide) (hts _ fl_X1_init_31) (fun _ h9 => h9) rfl (by decide +kernel) rfl rfl (Nat.le_of_ble_eq_true rfl) dX1_init_54 (fun H locs hP hD hS => ?_)
  have hP : va_P D vwCl [(h0, .inr (1, [.ref a1, .ref a2, .ref a3, .ref a4, .ref a5, .ref a6, .int 0])), (a1, .inl (k 0, 80, .inl (fun _ => 0))), (a2, .inl (k 0, 80, .inl (fun _ => 0))), (a3, .inl (k 0, 80, .inl (fun _ => 0))), (a4, .inl (k 0, 80, .inl (fun _ => 0))), (a5, .inl (k 1, 80, .inr (.inl (fun _ => 0)))), (a6, .inl (k 0, 80, .inl (fun _ => 0)))] H := hP
  have hD : va_D A [(h0, .inr (1, [.ref a1, .ref a2, .ref a3, .ref a4, .ref a5, .ref a6, .int 0])), (a1, .inl (k 0, 80, .inl (fun _ => 0))), (a2, .inl (k 0, 80, .inl (fun _ => 0))), (a3, .inl (k 0, 80, .inl (fun _ => 0))), (a4, .inl (k 0, 80, .inl (fun _ => 0))), (a5, .inl (k 1, 80, .inr (.inl (fun _ => 0)))), (a6, .inl (k 0, 80, .inl (fun _ => 0)))] := hD
  exact W.vret hx hb hr (fun t ht hW => ⟨⟨(fun i => ([a1, a2, a3, a4, a5, a6] : List Nat).getD i 0), rfl, trivial, pz_hp ht (hP.sub [0, 1, 2, 3, 4, 5, 6] rfl), hD.sub [0, 1, 2, 3, 4, 5, 6] (by decide) rfl⟩, hS.F ht⟩) hS.2.2 dX1_init_57 hlocks

def pz_N2 (h0 : Nat) (k : Nat → ClassId) (a : Nat → Nat) : va_W := [(h0, .inr (2, [.ref (a 0), .ref (a 1), .ref (a 2), .ref (a 3), .ref (a 4), .ref (a 5)])), (a 0, .inl (k 2, 60, .inl (fun _ => 0))), (a 1, .inl (k 0, 60, .inl (fun _ => 0))), (a 2, .inl (k 0, 60, .inl (fun _ => 0))), (a 3, .inl (k 0, 60, .inl (fun _ => 0))), (a 4, .inl (k 0, 60, .inl (fun _ => 0))), (a 5, .inl (k 0, 60, .inl (fun _ => 0)))]
theorem fl_X2_init_15 : Cond.fieldLink RX2 15 "BoxProofs$Lines" "rules" "[I" ∈ wsX2_init := by decide +kernel
theorem fl_X2_init_19 : Cond.fieldLink RX2 19 "BoxProofs$Lines" "ps" "[I" ∈ wsX2_init := by decide +kernel
theorem fl_X2_init_22 : Cond.fieldLink RX2 22 "BoxProofs$Lines" "qs" "[I" ∈ wsX2_init := by decide +kernel
theorem fl_X2_init_25 : Cond.fieldLink RX2 25 "BoxProofs$Lines" "rs" "[I" ∈ wsX2_init := by decide +kernel
theorem fl_X2_init_28 : Cond.fieldLink RX2 28 "BoxProofs$Lines" "fs" "[I" ∈ wsX2_init := by decide +kernel
theorem fl_X2_init_9 : Cond.fieldLink RX2 9 "BoxProofs$Lines" "laid" "[Z" ∈ wsX2_init := by decide +kernel
theorem in_X2_init_X2 : ∀ w ∈ wsX20, w ∈ wsX2_init := by decide +kernel
set_option maxHeartbeats 4000000 in
set_option maxRecDepth 100000 in
theorem c_X2_init (l : Launch) (D : va_G) (k : Nat → ClassId) (h0 sz : Nat) : Met l yX2_init wsX2_init ({ frames := 1, cells := 6, slots := 360, locals := 12 }) (va_Pc [.ref h0] (fun U => U.heap.size = sz ∧ va_P D vwCl [(h0, .inr (2, [.null, .null, .null, .null, .null, .null]))] U.heap ∧ va_K D vwCl (pz_ty k) U ∧ va_D (fun _ => True) [(h0, .inr (2, [.null, .null, .null, .null, .null, .null]))])) (va_Qv (fun _ : Nat → Nat => True) (fun a t => va_P D vwCl (pz_N2 h0 k a) t.heap ∧ va_D (va_A [(h0, .inr (2, [.null, .null, .null, .null, .null, .null]))] sz) (pz_N2 h0 k a)) (va_A [(h0, .inr (2, [.null, .null, .null, .null, .null, .null]))] sz)) 6 360 (va_A [(h0, .inr (2, [.null, .null, .null, .null, .null, .null]))] sz) := by
  refine Met.ofW (cc := cX2_init) (maxL := 1) (ret := none) (by decide) rfl ?_
  intro p e s m args below meth c s₁ B hml hv
  obtain ⟨rfl, hsz, hP, hK, hD0⟩ := hv
  have hx := B.exec
  have hb := B.bytes
  have hr := B.returns
  have hts := atoms_spec (ws := wsX2_init) B.pre
  have hown : s.vm.findClass RX2 = some m.cls := findClass_of_methodNamed B.named
  have hlocks := B.notSynchronized
  have hin : meth.name = "<init>" := (name_of_methodNamed B.named B.method).1
  subst hsz
  have hD := hD0.self (sz := s.heap.size)
  generalize hAe : va_A [(h0, .inr (2, [.null, .null, .null, .null, .null, .null]))] s.heap.size = A at hD ⊢
  have hA : ∀ q : Nat, s.heap.size ≤ q → A q := fun q h => by rw [← hAe]; exact Or.inr h
  have hS : va_S A s.heap s.heap [] := va_S.rf
  have hl := lv_entry [.ref h0] (n := 1) (Nat.le_of_ble_eq_true rfl)
  rw [lg_entry_eq]
  generalize (lg_sl [.ref h0] ++ List.replicate (1 - (lg_sl [.ref h0]).length) Slot.unset).toArray = ls at hl ⊢
  have hl : lv_has ls 1 [(0, .ref h0)] := hl
  refine lv_aload_n hx hb dX2_init_0 rfl (lv_at hl 0 rfl) ?_
  refine W.objInit hx hb hown (hts (.methodLink RX2 3 objectInit) (by decide +kernel)) (hts (.instanceMethod objectInit) (by decide +kernel)) (hts _ (List.mem_of_getElem? (i := 3) rfl)) rfl (by rw [hml]; exact hl.1) rfl dX2_init_1 (Nat.le_of_ble_eq_true rfl) (Nat.le_of_ble_eq_true rfl) ?_
  refine W.eq (g2 := F0 m 4 ls []) rfl ?_
  refine lv_aload_n hx hb dX2_init_4 rfl (lv_at hl 0 rfl) ?_
  refine lv_bipush (v := 60) hx hb dX2_init_5 (by decide) ?_
  refine pz_newZ hx hb (hts (.arrayClass .boolean) (by decide +kernel)) hK hP hD hS hA (N := 60) (by decide) (by decide) (by decide) (Nat.le_of_ble_eq_true rfl) (Nat.le_of_ble_eq_true rfl) dX2_init_7 (fun a1 H hP hD hS => ?_)
  have hP : va_P D vwCl [(h0, .inr (2, [.null, .null, .null, .null, .null, .null])), (a1, .inl (k 2, 60, .inl (fun _ => 0)))] H := hP
  have hD : va_D A [(h0, .inr (2, [.null, .null, .null, .null, .null, .null])), (a1, .inl (k 2, 60, .inl (fun _ => 0)))] := hD
  refine va_putF (D := D) (ci := 2) (v := .ref a1) (ty := .array .boolean) (C := RX2) (T := TX2) (N := 6) hx hb hts in_X2_init_X2 tyX2 tyX2_ok nmX2 hown hK hP hD hS 0 rfl rfl 0 (by decide) (hts _ fl_X2_init_9) (fun _ h9 => h9) rfl hin rfl (by decide +kernel) rfl rfl (Nat.le_of_ble_eq_true rfl) dX2_init_9 (fun H locs hP hD hS => ?_)
  have hP : va_P D vwCl [(h0, .inr (2, [.ref a1, .null, .null, .null, .null, .null])), (a1, .inl (k 2, 60, .inl (fun _ => 0)))] H := hP
  have hD : va_D A [(h0, .inr (2, [.ref a1, .null, .null, .null, .null, .null])), (a1, .inl (k 2, 60, .inl (fun _ => 0)))] := hD
  refine lv_aload_n hx hb dX2_init_12 rfl (lv_at hl 0 rfl) ?_
  refine lv_bipush (v := 60) hx hb dX2_init_13 (by decide) ?_
  refine pz_newI hx hb (hts (.arrayClass .int) (by decide +kernel)) hK hP hD hS hA (N := 60) (by decide) (by decide) (by decide) (Nat.le_of_ble_eq_true rfl) (Nat.le_of_ble_eq_true rfl) dX2_init_15 (fun a2 H hP hD hS => ?_)
  have hP : va_P D vwCl [(h0, .inr (2, [.ref a1, .null, .null, .null, .null, .null])), (a1, .inl (k 2, 60, .inl (fun _ => 0))), (a2, .inl (k 0, 60, .inl (fun _ => 0)))] H := hP
  have hD : va_D A [(h0, .inr (2, [.ref a1, .null, .null, .null, .null, .null])), (a1, .inl (k 2, 60, .inl (fun _ => 0))), (a2, .inl (k 0, 60, .inl (fun _ => 0)))] := hD
  refine va_putF (D := D) (ci := 2) (v := .ref a2) (ty := .array .int) (C := RX2) (T := TX2) (N := 6) hx hb hts in_X2_init_X2 tyX2 tyX2_ok nmX2 hown hK hP hD hS 0 rfl rfl 1 (by decide) (hts _ fl_X2_init_15) (fun _ h9 => h9) rfl hin rfl (by decide +kernel) rfl rfl (Nat.le_of_ble_eq_true rfl) dX2_init_17 (fun H locs hP hD hS => ?_)
  have hP : va_P D vwCl [(h0, .inr (2, [.ref a1, .ref a2, .null, .null, .null, .null])), (a1, .inl (k 2, 60, .inl (fun _ => 0))), (a2, .inl (k 0, 60, .inl (fun _ => 0)))] H := hP
  have hD : va_D A [(h0, .inr (2, [.ref a1, .ref a2, .null, .null, .null, .null])), (a1, .inl (k 2, 60, .inl (fun _ => 0))), (a2, .inl (k 0, 60, .inl (fun _ => 0)))] := hD
  refine lv_aload_n hx hb dX2_init_20 rfl (lv_at hl 0 rfl) ?_
  refine lv_bipush (v := 60) hx hb dX2_init_21 (by decide) ?_
  refine pz_newI hx hb (hts (.arrayClass .int) (by decide +kernel)) hK hP hD hS hA (N := 60) (by decide) (by decide) (by decide) (Nat.le_of_ble_eq_true rfl) (Nat.le_of_ble_eq_true rfl) dX2_init_23 (fun a3 H hP hD hS => ?_)
  have hP : va_P D vwCl [(h0, .inr (2, [.ref a1, .ref a2, .null, .null, .null, .null])), (a1, .inl (k 2, 60, .inl (fun _ => 0))), (a2, .inl (k 0, 60, .inl (fun _ => 0))), (a3, .inl (k 0, 60, .inl (fun _ => 0)))] H := hP
  have hD : va_D A [(h0, .inr (2, [.ref a1, .ref a2, .null, .null, .null, .null])), (a1, .inl (k 2, 60, .inl (fun _ => 0))), (a2, .inl (k 0, 60, .inl (fun _ => 0))), (a3, .inl (k 0, 60, .inl (fun _ => 0)))] := hD
  refine va_putF (D := D) (ci := 2) (v := .ref a3) (ty := .array .int) (C := RX2) (T := TX2) (N := 6) hx hb hts in_X2_init_X2 tyX2 tyX2_ok nmX2 hown hK hP hD hS 0 rfl rfl 2 (by decide) (hts _ fl_X2_init_19) (fun _ h9 => h9) rfl hin rfl (by decide +kernel) rfl rfl (Nat.le_of_ble_eq_true rfl) dX2_init_25 (fun H locs hP hD hS => ?_)
  have hP : va_P D vwCl [(h0, .inr (2, [.ref a1, .ref a2, .ref a3, .null, .null, .null])), (a1, .inl (k 2, 60, .inl (fun _ => 0))), (a2, .inl (k 0, 60, .inl (fun _ => 0))), (a3, .inl (k 0, 60, .inl (fun _ => 0)))] H := hP
  have hD : va_D A [(h0, .inr (2, [.ref a1, .ref a2, .ref a3, .null, .null, .null])), (a1, .inl (k 2, 60, .inl (fun _ => 0))), (a2, .inl (k 0, 60, .inl (fun _ => 0))), (a3, .inl (k 0, 60, .inl (fun _ => 0)))] := hD
  refine lv_aload_n hx hb dX2_init_28 rfl (lv_at hl 0 rfl) ?_
  refine lv_bipush (v := 60) hx hb dX2_init_29 (by decide) ?_
  refine pz_newI hx hb (hts (.arrayClass .int) (by decide +kernel)) hK hP hD hS hA (N := 60) (by decide) (by decide) (by decide) (Nat.le_of_ble_eq_true rfl) (Nat.le_of_ble_eq_true rfl) dX2_init_31 (fun a4 H hP hD hS => ?_)
  have hP : va_P D vwCl [(h0, .inr (2, [.ref a1, .ref a2, .ref a3, .null, .null, .null])), (a1, .inl (k 2, 60, .inl (fun _ => 0))), (a2, .inl (k 0, 60, .inl (fun _ => 0))), (a3, .inl (k 0, 60, .inl (fun _ => 0))), (a4, .inl (k 0, 60, .inl (fun _ => 0)))] H := hP
  have hD : va_D A [(h0, .inr (2, [.ref a1, .ref a2, .ref a3, .null, .null, .null])), (a1, .inl (k 2, 60, .inl (fun _ => 0))), (a2, .inl (k 0, 60, .inl (fun _ => 0))), (a3, .inl (k 0, 60, .inl (fun _ => 0))), (a4, .inl (k 0, 60, .inl (fun _ => 0)))] := hD
  refine va_putF (D := D) (ci := 2) (v := .ref a4) (ty := .array .int) (C := RX2) (T := TX2) (N := 6) hx hb hts in_X2_init_X2 tyX2 tyX2_ok nmX2 hown hK hP hD hS 0 rfl rfl 3 (by decide) (hts _ fl_X2_init_22) (fun _ h9 => h9) rfl hin rfl (by decide +kernel) rfl rfl (Nat.le_of_ble_eq_true rfl) dX2_init_33 (fun H locs hP hD hS => ?_)
  have hP : va_P D vwCl [(h0, .inr (2, [.ref a1, .ref a2, .ref a3, .ref a4, .null, .null])), (a1, .inl (k 2, 60, .inl (fun _ => 0))), (a2, .inl (k 0, 60, .inl (fun _ => 0))), (a3, .inl (k 0, 60, .inl (fun _ => 0))), (a4, .inl (k 0, 60, .inl (fun _ => 0)))] H := hP
  have hD : va_D A [(h0, .inr (2, [.ref a1, .ref a2, .ref a3, .ref a4, .null, .null])), (a1, .inl (k 2, 60, .inl (fun _ => 0))), (a2, .inl (k 0, 60, .inl (fun _ => 0))), (a3, .inl (k 0, 60, .inl (fun _ => 0))), (a4, .inl (k 0, 60, .inl (fun _ => 0)))] := hD
  refine lv_aload_n hx hb dX2_init_36 rfl (lv_at hl 0 rfl) ?_
  refine lv_bipush (v := 60) hx hb dX2_init_37 (by decide) ?_
  refine pz_newI hx hb (hts (.arrayClass .int) (by decide +kernel)) hK hP hD hS hA (N := 60) (by decide) (by decide) (by decide) (Nat.le_of_ble_eq_true rfl) (Nat.le_of_ble_eq_true rfl) dX2_init_39 (fun a5 H hP hD hS => ?_)
  have hP : va_P D vwCl [(h0, .inr (2, [.ref a1, .ref a2, .ref a3, .ref a4, .null, .null])), (a1, .inl (k 2, 60, .inl (fun _ => 0))), (a2, .inl (k 0, 60, .inl (fun _ => 0))), (a3, .inl (k 0, 60, .inl (fun _ => 0))), (a4, .inl (k 0, 60, .inl (fun _ => 0))), (a5, .inl (k 0, 60, .inl (fun _ => 0)))] H := hP
  have hD : va_D A [(h0, .inr (2, [.ref a1, .ref a2, .ref a3, .ref a4, .null, .null])), (a1, .inl (k 2, 60, .inl (fun _ => 0))), (a2, .inl (k 0, 60, .inl (fun _ => 0))), (a3, .inl (k 0, 60, .inl (fun _ => 0))), (a4, .inl (k 0, 60, .inl (fun _ => 0))), (a5, .inl (k 0, 60, .inl (fun _ => 0)))] := hD
  refine va_putF (D := D) (ci := 2) (v := .ref a5) (ty := .array .int) (C := RX2) (T := TX2) (N := 6) hx hb hts in_X2_init_X2 tyX2 tyX2_ok nmX2 hown hK hP hD hS 0 rfl rfl 4 (by decide) (hts _ fl_X2_init_25) (fun _ h9 => h9) rfl hin rfl (by decide +kernel) rfl rfl (Nat.le_of_ble_eq_true rfl) dX2_init_41 (fun H locs hP hD hS => ?_)
  have hP : va_P D vwCl [(h0, .inr (2, [.ref a1, .ref a2, .ref a3, .ref a4, .ref a5, .null])), (a1, .inl (k 2, 60, .inl (fun _ => 0))), (a2, .inl (k 0, 60, .inl (fun _ => 0))), (a3, .inl (k 0, 60, .inl (fun _ => 0))), (a4, .inl (k 0, 60, .inl (fun _ => 0))), (a5, .inl (k 0, 60, .inl (fun _ => 0)))] H := hP
  have hD : va_D A [(h0, .inr (2, [.ref a1, .ref a2, .ref a3, .ref a4, .ref a5, .null])), (a1, .inl (k 2, 60, .inl (fun _ => 0))), (a2, .inl (k 0, 60, .inl (fun _ => 0))), (a3, .inl (k 0, 60, .inl (fun _ => 0))), (a4, .inl (k 0, 60, .inl (fun _ => 0))), (a5, .inl (k 0, 60, .inl (fun _ => 0)))] := hD
  refine lv_aload_n hx hb dX2_init_44 rfl (lv_at hl 0 rfl) ?_
  refine lv_bipush (v := 60) hx hb dX2_init_45 (by decide) ?_
  refine pz_newI hx hb (hts (.arrayClass .int) (by decide +kernel)) hK hP hD hS hA (N := 60) (by decide) (by decide) (by decide) (Nat.le_of_ble_eq_true rfl) (Nat.le_of_ble_eq_true rfl) dX2_init_47 (fun a6 H hP hD hS => ?_)
  have hP : va_P D vwCl [(h0, .inr (2, [.ref a1, .ref a2, .ref a3, .ref a4, .ref a5, .null])), (a1, .inl (k 2, 60, .inl (fun _ => 0))), (a2, .inl (k 0, 60, .inl (fun _ => 0))), (a3, .inl (k 0, 60, .inl (fun _ => 0))), (a4, .inl (k 0, 60, .inl (fun _ => 0))), (a5, .inl (k 0, 60, .inl (fun _ => 0))), (a6, .inl (k 0, 60, .inl (fun _ => 0)))] H := hP
  have hD : va_D A [(h0, .inr (2, [.ref a1, .ref a2, .ref a3, .ref a4, .ref a5, .null])), (a1, .inl (k 2, 60, .inl (fun _ => 0))), (a2, .inl (k 0, 60, .inl (fun _ => 0))), (a3, .inl (k 0, 60, .inl (fun _ => 0))), (a4, .inl (k 0, 60, .inl (fun _ => 0))), (a5, .inl (k 0, 60, .inl (fun _ => 0))), (a6, .inl (k 0, 60, .inl (fun _ => 0)))] := hD
  refine va_putF (D := D) (ci := 2) (v := .ref a6) (ty := .array .int) (C := RX2) (T := TX2) (N := 6) hx hb hts in_X2_init_X2 tyX2 tyX2_ok nmX2 hown hK hP hD hS 0 rfl rfl 5 (by decide) (hts _ fl_X2_init_28) (fun _ h9 => h9) rfl hin rfl (by decide +kernel) rfl rfl (Nat.le_of_ble_eq_true rfl) dX2_init_49 (fun H locs hP hD hS => ?_)
  have hP : va_P D vwCl [(h0, .inr (2, [.ref a1, .ref a2, .ref a3, .ref a4, .ref a5, .ref a6])), (a1, .inl (k 2, 60, .inl (fun _ => 0))), (a2, .inl (k 0, 60, .inl (fun _ => 0))), (a3, .inl (k 0, 60, .inl (fun _ => 0))), (a4, .inl (k 0, 60, .inl (fun _ => 0))), (a5, .inl (k 0, 60, .inl (fun _ => 0))), (a6, .inl (k 0, 60, .inl (fun _ => 0)))] H := hP
  have hD : va_D A [(h0, .inr (2, [.ref a1, .ref a2, .ref a3, .ref a4, .ref a5, .ref a6])), (a1, .inl (k 2, 60, .inl (fun _ => 0))), (a2, .inl (k 0, 60, .inl (fun _ => 0))), (a3, .inl (k 0, 60, .inl (fun _ => 0))), (a4, .inl (k 0, 60, .inl (fun _ => 0))), (a5, .inl (k 0, 60, .inl (fun _ => 0))), (a6, .inl (k 0, 60, .inl (fun _ => 0)))] := hD
  exact W.vret hx hb hr (fun t ht hW => ⟨⟨(fun i => ([a1, a2, a3, a4, a5, a6] : List Nat).getD i 0), rfl, trivial, pz_hp ht (hP.sub [0, 1, 2, 3, 4, 5, 6] rfl), hD.sub [0, 1, 2, 3, 4, 5, 6] (by decide) rfl⟩, hS.F ht⟩) hS.2.2 dX2_init_52 hlocks

