theorem pz_at2 {q : Nat → Nat} {n : Nat} {ws : va_W} (hm : ws.map Prod.fst = (List.range n).map q) {i : Nat} (hi : i < n) : ∃ e, ws[i]? = some e ∧ e.1 = q i := by
  have hl : ws.length = n := by
    have := congrArg List.length hm
    simpa using this
  have h1 : i < ws.length := by omega
  refine ⟨ws[i], List.getElem?_eq_getElem h1, ?_⟩
  exact (pz_at hm (List.getElem?_eq_getElem h1)).2
theorem pz_Iof {q : Nat → Nat} {n : Nat} {ws : va_W} {A : Nat → Prop} (hD : va_D A ws) (hm : ws.map Prod.fst = (List.range n).map q) : pz_I n q := by
  intro i j hi hj hq
  obtain ⟨a, ha, ea⟩ := pz_at2 hm hi
  obtain ⟨b, hb, eb⟩ := pz_at2 hm hj
  exact hD.1 i j a b ha hb (by rw [ea, eb]; exact hq)
theorem pz_Aof {q : Nat → Nat} {n : Nat} {ws : va_W} {A : Nat → Prop} (hD : va_D A ws) (hm : ws.map Prod.fst = (List.range n).map q) : ∀ x, pz_A n q x → A x := by
  intro x hx
  obtain ⟨i, hi, rfl⟩ := hx
  obtain ⟨a, ha, ea⟩ := pz_at2 hm hi
  rw [← ea]; exact hD.2 i a ha
theorem pz_Dm {q : Nat → Nat} {n : Nat} {ws ws' : va_W} {A : Nat → Prop} (hD : va_D A ws) (hm : ws.map Prod.fst = (List.range n).map q) (hm' : ws'.map Prod.fst = (List.range n).map q) : va_D A ws' := by
  refine ⟨fun i j a b ha hb hab => ?_, fun i a ha => ?_⟩
  · obtain ⟨h1, e1⟩ := pz_at hm' ha
    obtain ⟨h2, e2⟩ := pz_at hm' hb
    exact pz_Iof hD hm i j h1 h2 (by rw [← e1, ← e2]; exact hab)
  · obtain ⟨h1, e1⟩ := pz_at hm' ha
    rw [e1]; exact pz_Aof hD hm _ ⟨i, h1, rfl⟩
def pz_KA (A : Nat → Prop) (D : va_G) (q : Nat → Nat) (k : Nat → ClassId) (U : State) : Prop := va_K D vwCl (pz_ty k) U ∧ ∀ ws : va_W, ws.map Prod.fst = (List.range 19).map q → va_D A ws

def pz_N0 (h0 : Nat) (k : Nat → ClassId) (a : Nat → Nat) : va_W := [(h0, .inr (0, [.ref (a 0), .ref (a 1), .ref (a 2), .ref (a 3), .ref (a 4), .ref (a 5)])), (a 0, .inl (k 0, 60, .inl (f_X0_forget (fun _ => 0) (fun _ => 0) (fun _ => 0) (fun _ => 0) (fun _ => 0)).1)), (a 1, .inl (k 0, 60, .inl (f_X0_forget (fun _ => 0) (fun _ => 0) (fun _ => 0) (fun _ => 0) (fun _ => 0)).2.1)), (a 2, .inl (k 0, 60, .inl (f_X0_forget (fun _ => 0) (fun _ => 0) (fun _ => 0) (fun _ => 0) (fun _ => 0)).2.2.1)), (a 3, .inl (k 2, 60, .inl (f_X0_forget (fun _ => 0) (fun _ => 0) (fun _ => 0) (fun _ => 0) (fun _ => 0)).2.2.2.1)), (a 4, .inl (k 2, 60, .inl (f_X0_forget (fun _ => 0) (fun _ => 0) (fun _ => 0) (fun _ => 0) (fun _ => 0)).2.2.2.2)), (a 5, .inl (k 0, 4, .inl (upd (upd (upd (upd (fun _ => 0) (0 : Int32).toNatClampNeg (-1)) (1 : Int32).toNatClampNeg (-1)) (2 : Int32).toNatClampNeg (-1)) (3 : Int32).toNatClampNeg (-1))))]
theorem fl_X0_init_15 : Cond.fieldLink RX0 15 "BoxProofs$Findings" "heads" "[I" ∈ wsX0_init := by decide +kernel
theorem fl_X0_init_18 : Cond.fieldLink RX0 18 "BoxProofs$Findings" "ends" "[I" ∈ wsX0_init := by decide +kernel
theorem fl_X0_init_21 : Cond.fieldLink RX0 21 "BoxProofs$Findings" "inForce" "[Z" ∈ wsX0_init := by decide +kernel
theorem fl_X0_init_25 : Cond.fieldLink RX0 25 "BoxProofs$Findings" "usable" "[Z" ∈ wsX0_init := by decide +kernel
theorem fl_X0_init_28 : Cond.fieldLink RX0 28 "BoxProofs$Findings" "summary" "[I" ∈ wsX0_init := by decide +kernel
theorem fl_X0_init_9 : Cond.fieldLink RX0 9 "BoxProofs$Findings" "rules" "[I" ∈ wsX0_init := by decide +kernel
theorem in_X0_init_X0 : ∀ w ∈ wsX00, w ∈ wsX0_init := by decide +kernel
set_option maxHeartbeats 4000000 in
set_option maxRecDepth 100000 in
theorem c_X0_init (l : Launch) (D : va_G) (k : Nat → ClassId) (h0 sz : Nat) : Met l yX0_init wsX0_init ({ frames := 1, cells := 6, slots := 304, locals := 21 }) (va_Pc [.ref h0] (fun U => U.heap.size = sz ∧ va_P D vwCl [(h0, .inr (0, [.null, .null, .null, .null, .null, .null]))] U.heap ∧ va_K D vwCl (pz_ty k) U ∧ va_D (fun _ => True) [(h0, .inr (0, [.null, .null, .null, .null, .null, .null]))])) (va_Qv (fun _ : Nat → Nat => True) (fun a t => va_P D vwCl (pz_N0 h0 k a) t.heap ∧ va_D (va_A [(h0, .inr (0, [.null, .null, .null, .null, .null, .null]))] sz) (pz_N0 h0 k a)) (va_A [(h0, .inr (0, [.null, .null, .null, .null, .null, .null]))] sz)) 6 304 (va_A [(h0, .inr (0, [.null, .null, .null, .null, .null, .null]))] sz) := by
  refine Met.ofW (cc := cX0_init) (maxL := 1) (ret := none) (by decide) rfl ?_
  intro p e s m args below meth c s₁ B hml hv
  obtain ⟨rfl, hsz, hP, hK, hD0⟩ := hv
  have hx := B.exec
  have hb := B.bytes
  have hr := B.returns
  have hts := atoms_spec (ws := wsX0_init) B.pre
  have hown : s.vm.findClass RX0 = some m.cls := findClass_of_methodNamed B.named
  have hlocks := B.notSynchronized
  have hin : meth.name = "<init>" := (name_of_methodNamed B.named B.method).1
  subst hsz
  have hD := hD0.self (sz := s.heap.size)
  generalize hAe : va_A [(h0, .inr (0, [.null, .null, .null, .null, .null, .null]))] s.heap.size = A at hD ⊢
  have hA : ∀ q : Nat, s.heap.size ≤ q → A q := fun q h => by rw [← hAe]; exact Or.inr h
  have hS : va_S A s.heap s.heap [] := va_S.rf
  have hl := lv_entry [.ref h0] (n := 1) (Nat.le_of_ble_eq_true rfl)
  rw [lg_entry_eq]
  generalize (lg_sl [.ref h0] ++ List.replicate (1 - (lg_sl [.ref h0]).length) Slot.unset).toArray = ls at hl ⊢
  have hl : lv_has ls 1 [(0, .ref h0)] := hl
  refine lv_aload_n hx hb dX0_init_0 rfl (lv_at hl 0 rfl) ?_
  refine W.objInit hx hb hown (hts (.methodLink RX0 3 objectInit) (by decide +kernel)) (hts (.instanceMethod objectInit) (by decide +kernel)) (hts _ (List.mem_of_getElem? (i := 3) rfl)) rfl (by rw [hml]; exact hl.1) rfl dX0_init_1 (Nat.le_of_ble_eq_true rfl) (Nat.le_of_ble_eq_true rfl) ?_
  refine W.eq (g2 := F0 m 4 ls []) rfl ?_
  refine lv_aload_n hx hb dX0_init_4 rfl (lv_at hl 0 rfl) ?_
  refine lv_bipush (v := 60) hx hb dX0_init_5 (by decide) ?_
  refine pz_newI hx hb (hts (.arrayClass .int) (by decide +kernel)) hK hP hD hS hA (N := 60) (by decide) (by decide) (by decide) (Nat.le_of_ble_eq_true rfl) (Nat.le_of_ble_eq_true rfl) dX0_init_7 (fun a1 H hP hD hS => ?_)
  have hP : va_P D vwCl [(h0, .inr (0, [.null, .null, .null, .null, .null, .null])), (a1, .inl (k 0, 60, .inl (fun _ => 0)))] H := hP
  have hD : va_D A [(h0, .inr (0, [.null, .null, .null, .null, .null, .null])), (a1, .inl (k 0, 60, .inl (fun _ => 0)))] := hD
  refine va_putF (D := D) (ci := 0) (v := .ref a1) (ty := .array .int) (C := RX0) (T := TX0) (N := 6) hx hb hts in_X0_init_X0 tyX0 tyX0_ok nmX0 hown hK hP hD hS 0 rfl rfl 0 (by decide) (hts _ fl_X0_init_9) (fun _ h9 => h9) rfl hin rfl (by decide +kernel) rfl rfl (Nat.le_of_ble_eq_true rfl) dX0_init_9 (fun H locs hP hD hS => ?_)
  have hP : va_P D vwCl [(h0, .inr (0, [.ref a1, .null, .null, .null, .null, .null])), (a1, .inl (k 0, 60, .inl (fun _ => 0)))] H := hP
  have hD : va_D A [(h0, .inr (0, [.ref a1, .null, .null, .null, .null, .null])), (a1, .inl (k 0, 60, .inl (fun _ => 0)))] := hD
  refine lv_aload_n hx hb dX0_init_12 rfl (lv_at hl 0 rfl) ?_
  refine lv_bipush (v := 60) hx hb dX0_init_13 (by decide) ?_
  refine pz_newI hx hb (hts (.arrayClass .int) (by decide +kernel)) hK hP hD hS hA (N := 60) (by decide) (by decide) (by decide) (Nat.le_of_ble_eq_true rfl) (Nat.le_of_ble_eq_true rfl) dX0_init_15 (fun a2 H hP hD hS => ?_)
  have hP : va_P D vwCl [(h0, .inr (0, [.ref a1, .null, .null, .null, .null, .null])), (a1, .inl (k 0, 60, .inl (fun _ => 0))), (a2, .inl (k 0, 60, .inl (fun _ => 0)))] H := hP
  have hD : va_D A [(h0, .inr (0, [.ref a1, .null, .null, .null, .null, .null])), (a1, .inl (k 0, 60, .inl (fun _ => 0))), (a2, .inl (k 0, 60, .inl (fun _ => 0)))] := hD
  refine va_putF (D := D) (ci := 0) (v := .ref a2) (ty := .array .int) (C := RX0) (T := TX0) (N := 6) hx hb hts in_X0_init_X0 tyX0 tyX0_ok nmX0 hown hK hP hD hS 0 rfl rfl 1 (by decide) (hts _ fl_X0_init_15) (fun _ h9 => h9) rfl hin rfl (by decide +kernel) rfl rfl (Nat.le_of_ble_eq_true rfl) dX0_init_17 (fun H locs hP hD hS => ?_)
  have hP : va_P D vwCl [(h0, .inr (0, [.ref a1, .ref a2, .null, .null, .null, .null])), (a1, .inl (k 0, 60, .inl (fun _ => 0))), (a2, .inl (k 0, 60, .inl (fun _ => 0)))] H := hP
  have hD : va_D A [(h0, .inr (0, [.ref a1, .ref a2, .null, .null, .null, .null])), (a1, .inl (k 0, 60, .inl (fun _ => 0))), (a2, .inl (k 0, 60, .inl (fun _ => 0)))] := hD
  refine lv_aload_n hx hb dX0_init_20 rfl (lv_at hl 0 rfl) ?_
  refine lv_bipush (v := 60) hx hb dX0_init_21 (by decide) ?_
  refine pz_newI hx hb (hts (.arrayClass .int) (by decide +kernel)) hK hP hD hS hA (N := 60) (by decide) (by decide) (by decide) (Nat.le_of_ble_eq_true rfl) (Nat.le_of_ble_eq_true rfl) dX0_init_23 (fun a3 H hP hD hS => ?_)
  have hP : va_P D vwCl [(h0, .inr (0, [.ref a1, .ref a2, .null, .null, .null, .null])), (a1, .inl (k 0, 60, .inl (fun _ => 0))), (a2, .inl (k 0, 60, .inl (fun _ => 0))), (a3, .inl (k 0, 60, .inl (fun _ => 0)))] H := hP
  have hD : va_D A [(h0, .inr (0, [.ref a1, .ref a2, .null, .null, .null, .null])), (a1, .inl (k 0, 60, .inl (fun _ => 0))), (a2, .inl (k 0, 60, .inl (fun _ => 0))), (a3, .inl (k 0, 60, .inl (fun _ => 0)))] := hD
  refine va_putF (D := D) (ci := 0) (v := .ref a3) (ty := .array .int) (C := RX0) (T := TX0) (N := 6) hx hb hts in_X0_init_X0 tyX0 tyX0_ok nmX0 hown hK hP hD hS 0 rfl rfl 2 (by decide) (hts _ fl_X0_init_18) (fun _ h9 => h9) rfl hin rfl (by decide +kernel) rfl rfl (Nat.le_of_ble_eq_true rfl) dX0_init_25 (fun H locs hP hD hS => ?_)
  have hP : va_P D vwCl [(h0, .inr (0, [.ref a1, .ref a2, .ref a3, .null, .null, .null])), (a1, .inl (k 0, 60, .inl (fun _ => 0))), (a2, .inl (k 0, 60, .inl (fun _ => 0))), (a3, .inl (k 0, 60, .inl (fun _ => 0)))] H := hP
  have hD : va_D A [(h0, .inr (0, [.ref a1, .ref a2, .ref a3, .null, .null, .null])), (a1, .inl (k 0, 60, .inl (fun _ => 0))), (a2, .inl (k 0, 60, .inl (fun _ => 0))), (a3, .inl (k 0, 60, .inl (fun _ => 0)))] := hD
  refine lv_aload_n hx hb dX0_init_28 rfl (lv_at hl 0 rfl) ?_
  refine lv_bipush (v := 60) hx hb dX0_init_29 (by decide) ?_
  refine pz_newZ hx hb (hts (.arrayClass .boolean) (by decide +kernel)) hK hP hD hS hA (N := 60) (by decide) (by decide) (by decide) (Nat.le_of_ble_eq_true rfl) (Nat.le_of_ble_eq_true rfl) dX0_init_31 (fun a4 H hP hD hS => ?_)
  have hP : va_P D vwCl [(h0, .inr (0, [.ref a1, .ref a2, .ref a3, .null, .null, .null])), (a1, .inl (k 0, 60, .inl (fun _ => 0))), (a2, .inl (k 0, 60, .inl (fun _ => 0))), (a3, .inl (k 0, 60, .inl (fun _ => 0))), (a4, .inl (k 2, 60, .inl (fun _ => 0)))] H := hP
  have hD : va_D A [(h0, .inr (0, [.ref a1, .ref a2, .ref a3, .null, .null, .null])), (a1, .inl (k 0, 60, .inl (fun _ => 0))), (a2, .inl (k 0, 60, .inl (fun _ => 0))), (a3, .inl (k 0, 60, .inl (fun _ => 0))), (a4, .inl (k 2, 60, .inl (fun _ => 0)))] := hD
  refine va_putF (D := D) (ci := 0) (v := .ref a4) (ty := .array .boolean) (C := RX0) (T := TX0) (N := 6) hx hb hts in_X0_init_X0 tyX0 tyX0_ok nmX0 hown hK hP hD hS 0 rfl rfl 3 (by decide) (hts _ fl_X0_init_21) (fun _ h9 => h9) rfl hin rfl (by decide +kernel) rfl rfl (Nat.le_of_ble_eq_true rfl) dX0_init_33 (fun H locs hP hD hS => ?_)
  have hP : va_P D vwCl [(h0, .inr (0, [.ref a1, .ref a2, .ref a3, .ref a4, .null, .null])), (a1, .inl (k 0, 60, .inl (fun _ => 0))), (a2, .inl (k 0, 60, .inl (fun _ => 0))), (a3, .inl (k 0, 60, .inl (fun _ => 0))), (a4, .inl (k 2, 60, .inl (fun _ => 0)))] H := hP
  have hD : va_D A [(h0, .inr (0, [.ref a1, .ref a2, .ref a3, .ref a4, .null, .null])), (a1, .inl (k 0, 60, .inl (fun _ => 0))), (a2, .inl (k 0, 60, .inl (fun _ => 0))), (a3, .inl (k 0, 60, .inl (fun _ => 0))), (a4, .inl (k 2, 60, .inl (fun _ => 0)))] := hD
  refine lv_aload_n hx hb dX0_init_36 rfl (lv_at hl 0 rfl) ?_
  refine lv_bipush (v := 60) hx hb dX0_init_37 (by decide) ?_
  refine pz_newZ hx hb (hts (.arrayClass .boolean) (by decide +kernel)) hK hP hD hS hA (N := 60) (by decide) (by decide) (by decide) (Nat.le_of_ble_eq_true rfl) (Nat.le_of_ble_eq_true rfl) dX0_init_39 (fun a5 H hP hD hS => ?_)
  have hP : va_P D vwCl [(h0, .inr (0, [.ref a1, .ref a2, .ref a3, .ref a4, .null, .null])), (a1, .inl (k 0, 60, .inl (fun _ => 0))), (a2, .inl (k 0, 60, .inl (fun _ => 0))), (a3, .inl (k 0, 60, .inl (fun _ => 0))), (a4, .inl (k 2, 60, .inl (fun _ => 0))), (a5, .inl (k 2, 60, .inl (fun _ => 0)))] H := hP
  have hD : va_D A [(h0, .inr (0, [.ref a1, .ref a2, .ref a3, .ref a4, .null, .null])), (a1, .inl (k 0, 60, .inl (fun _ => 0))), (a2, .inl (k 0, 60, .inl (fun _ => 0))), (a3, .inl (k 0, 60, .inl (fun _ => 0))), (a4, .inl (k 2, 60, .inl (fun _ => 0))), (a5, .inl (k 2, 60, .inl (fun _ => 0)))] := hD
  refine va_putF (D := D) (ci := 0) (v := .ref a5) (ty := .array .boolean) (C := RX0) (T := TX0) (N := 6) hx hb hts in_X0_init_X0 tyX0 tyX0_ok nmX0 hown hK hP hD hS 0 rfl rfl 4 (by decide) (hts _ fl_X0_init_25) (fun _ h9 => h9) rfl hin rfl (by decide +kernel) rfl rfl (Nat.le_of_ble_eq_true rfl) dX0_init_41 (fun H locs hP hD hS => ?_)
  have hP : va_P D vwCl [(h0, .inr (0, [.ref a1, .ref a2, .ref a3, .ref a4, .ref a5, .null])), (a1, .inl (k 0, 60, .inl (fun _ => 0))), (a2, .inl (k 0, 60, .inl (fun _ => 0))), (a3, .inl (k 0, 60, .inl (fun _ => 0))), (a4, .inl (k 2, 60, .inl (fun _ => 0))), (a5, .inl (k 2, 60, .inl (fun _ => 0)))] H := hP
  have hD : va_D A [(h0, .inr (0, [.ref a1, .ref a2, .ref a3, .ref a4, .ref a5, .null])), (a1, .inl (k 0, 60, .inl (fun _ => 0))), (a2, .inl (k 0, 60, .inl (fun _ => 0))), (a3, .inl (k 0, 60, .inl (fun _ => 0))), (a4, .inl (k 2, 60, .inl (fun _ => 0))), (a5, .inl (k 2, 60, .inl (fun _ => 0)))] := hD
  refine lv_aload_n hx hb dX0_init_44 rfl (lv_at hl 0 rfl) ?_
  refine lv_iconst (v := 4) hx hb dX0_init_45 (by decide) ?_
  refine pz_newI hx hb (hts (.arrayClass .int) (by decide +kernel)) hK hP hD hS hA (N := 4) (by decide) (by decide) (by decide) (Nat.le_of_ble_eq_true rfl) (Nat.le_of_ble_eq_true rfl) dX0_init_46 (fun a6 H hP hD hS => ?_)
  have hP : va_P D vwCl [(h0, .inr (0, [.ref a1, .ref a2, .ref a3, .ref a4, .ref a5, .null])), (a1, .inl (k 0, 60, .inl (fun _ => 0))), (a2, .inl (k 0, 60, .inl (fun _ => 0))), (a3, .inl (k 0, 60, .inl (fun _ => 0))), (a4, .inl (k 2, 60, .inl (fun _ => 0))), (a5, .inl (k 2, 60, .inl (fun _ => 0))), (a6, .inl (k 0, 4, .inl (fun _ => 0)))] H := hP
  have hD : va_D A [(h0, .inr (0, [.ref a1, .ref a2, .ref a3, .ref a4, .ref a5, .null])), (a1, .inl (k 0, 60, .inl (fun _ => 0))), (a2, .inl (k 0, 60, .inl (fun _ => 0))), (a3, .inl (k 0, 60, .inl (fun _ => 0))), (a4, .inl (k 2, 60, .inl (fun _ => 0))), (a5, .inl (k 2, 60, .inl (fun _ => 0))), (a6, .inl (k 0, 4, .inl (fun _ => 0)))] := hD
  refine lv_dup hx hb dX0_init_48 rfl ?_
  refine lv_iconst (v := 0) hx hb dX0_init_49 (by decide) ?_
  refine lv_iconst (v := (-1)) hx hb dX0_init_50 (by decide) ?_
  refine va_iast hx hb hK hP hD hS 6 0 rfl rfl (pz_inI (by decide) (by decide)) dX0_init_51 (fun H locs hP hD hS => ?_)
  have hP : va_P D vwCl [(h0, .inr (0, [.ref a1, .ref a2, .ref a3, .ref a4, .ref a5, .null])), (a1, .inl (k 0, 60, .inl (fun _ => 0))), (a2, .inl (k 0, 60, .inl (fun _ => 0))), (a3, .inl (k 0, 60, .inl (fun _ => 0))), (a4, .inl (k 2, 60, .inl (fun _ => 0))), (a5, .inl (k 2, 60, .inl (fun _ => 0))), (a6, .inl (k 0, 4, .inl (upd (fun _ => 0) (0 : Int32).toNatClampNeg (-1))))] H := hP
  have hD : va_D A [(h0, .inr (0, [.ref a1, .ref a2, .ref a3, .ref a4, .ref a5, .null])), (a1, .inl (k 0, 60, .inl (fun _ => 0))), (a2, .inl (k 0, 60, .inl (fun _ => 0))), (a3, .inl (k 0, 60, .inl (fun _ => 0))), (a4, .inl (k 2, 60, .inl (fun _ => 0))), (a5, .inl (k 2, 60, .inl (fun _ => 0))), (a6, .inl (k 0, 4, .inl (upd (fun _ => 0) (0 : Int32).toNatClampNeg (-1))))] := hD
  refine lv_dup hx hb dX0_init_52 rfl ?_
  refine lv_iconst (v := 1) hx hb dX0_init_53 (by decide) ?_
  refine lv_iconst (v := (-1)) hx hb dX0_init_54 (by decide) ?_
  refine va_iast hx hb hK hP hD hS 6 0 rfl rfl (pz_inI (by decide) (by decide)) dX0_init_55 (fun H locs hP hD hS => ?_)
  have hP : va_P D vwCl [(h0, .inr (0, [.ref a1, .ref a2, .ref a3, .ref a4, .ref a5, .null])), (a1, .inl (k 0, 60, .inl (fun _ => 0))), (a2, .inl (k 0, 60, .inl (fun _ => 0))), (a3, .inl (k 0, 60, .inl (fun _ => 0))), (a4, .inl (k 2, 60, .inl (fun _ => 0))), (a5, .inl (k 2, 60, .inl (fun _ => 0))), (a6, .inl (k 0, 4, .inl (upd (upd (fun _ => 0) (0 : Int32).toNatClampNeg (-1)) (1 : Int32).toNatClampNeg (-1))))] H := hP
  have hD : va_D A [(h0, .inr (0, [.ref a1, .ref a2, .ref a3, .ref a4, .ref a5, .null])), (a1, .inl (k 0, 60, .inl (fun _ => 0))), (a2, .inl (k 0, 60, .inl (fun _ => 0))), (a3, .inl (k 0, 60, .inl (fun _ => 0))), (a4, .inl (k 2, 60, .inl (fun _ => 0))), (a5, .inl (k 2, 60, .inl (fun _ => 0))), (a6, .inl (k 0, 4, .inl (upd (upd (fun _ => 0) (0 : Int32).toNatClampNeg (-1)) (1 : Int32).toNatClampNeg (-1))))] := hD
  refine lv_dup hx hb dX0_init_56 rfl ?_
  refine lv_iconst (v := 2) hx hb dX0_init_57 (by decide) ?_
  refine lv_iconst (v := (-1)) hx hb dX0_init_58 (by decide) ?_
  refine va_iast hx hb hK hP hD hS 6 0 rfl rfl (pz_inI (by decide) (by decide)) dX0_init_59 (fun H locs hP hD hS => ?_)
  have hP : va_P D vwCl [(h0, .inr (0, [.ref a1, .ref a2, .ref a3, .ref a4, .ref a5, .null])), (a1, .inl (k 0, 60, .inl (fun _ => 0))), (a2, .inl (k 0, 60, .inl (fun _ => 0))), (a3, .inl (k 0, 60, .inl (fun _ => 0))), (a4, .inl (k 2, 60, .inl (fun _ => 0))), (a5, .inl (k 2, 60, .inl (fun _ => 0))), (a6, .inl (k 0, 4, .inl (upd (upd (upd (fun _ => 0) (0 : Int32).toNatClampNeg (-1)) (1 : Int32).toNatClampNeg (-1)) (2 : Int32).toNatClampNeg (-1))))] H := hP
  have hD : va_D A [(h0, .inr (0, [.ref a1, .ref a2, .ref a3, .ref a4, .ref a5, .null])), (a1, .inl (k 0, 60, .inl (fun _ => 0))), (a2, .inl (k 0, 60, .inl (fun _ => 0))), (a3, .inl (k 0, 60, .inl (fun _ => 0))), (a4, .inl (k 2, 60, .inl (fun _ => 0))), (a5, .inl (k 2, 60, .inl (fun _ => 0))), (a6, .inl (k 0, 4, .inl (upd (upd (upd (fun _ => 0) (0 : Int32).toNatClampNeg (-1)) (1 : Int32).toNatClampNeg (-1)) (2 : Int32).toNatClampNeg (-1))))] := hD
  refine lv_dup hx hb dX0_init_60 rfl ?_
  refine lv_iconst (v := 3) hx hb dX0_init_61 (by decide) ?_
  refine lv_iconst (v := (-1)) hx hb dX0_init_62 (by decide) ?_
  refine va_iast hx hb hK hP hD hS 6 0 rfl rfl (pz_inI (by decide) (by decide)) dX0_init_63 (fun H locs hP hD hS => ?_)
  have hP : va_P D vwCl [(h0, .inr (0, [.ref a1, .ref a2, .ref a3, .ref a4, .ref a5, .null])), (a1, .inl (k 0, 60, .inl (fun _ => 0))), (a2, .inl (k 0, 60, .inl (fun _ => 0))), (a3, .inl (k 0, 60, .inl (fun _ => 0))), (a4, .inl (k 2, 60, .inl (fun _ => 0))), (a5, .inl (k 2, 60, .inl (fun _ => 0))), (a6, .inl (k 0, 4, .inl (upd (upd (upd (upd (fun _ => 0) (0 : Int32).toNatClampNeg (-1)) (1 : Int32).toNatClampNeg (-1)) (2 : Int32).toNatClampNeg (-1)) (3 : Int32).toNatClampNeg (-1))))] H := hP
  have hD : va_D A [(h0, .inr (0, [.ref a1, .ref a2, .ref a3, .ref a4, .ref a5, .null])), (a1, .inl (k 0, 60, .inl (fun _ => 0))), (a2, .inl (k 0, 60, .inl (fun _ => 0))), (a3, .inl (k 0, 60, .inl (fun _ => 0))), (a4, .inl (k 2, 60, .inl (fun _ => 0))), (a5, .inl (k 2, 60, .inl (fun _ => 0))), (a6, .inl (k 0, 4, .inl (upd (upd (upd (upd (fun _ => 0) (0 : Int32).toNatClampNeg (-1)) (1 : Int32).toNatClampNeg (-1)) (2 : Int32).toNatClampNeg (-1)) (3 : Int32).toNatClampNeg (-1))))] := hD
  refine va_putF (D := D) (ci := 0) (v := .ref a6) (ty := .array .int) (C := RX0) (T := TX0) (N := 6) hx hb hts in_X0_init_X0 tyX0 tyX0_ok nmX0 hown hK hP hD hS 0 rfl rfl 5 (by decide) (hts _ fl_X0_init_28) (fun _ h9 => h9) rfl hin rfl (by decide +kernel) rfl rfl (Nat.le_of_ble_eq_true rfl) dX0_init_64 (fun H locs hP hD hS => ?_)
  have hP : va_P D vwCl [(h0, .inr (0, [.ref a1, .ref a2, .ref a3, .ref a4, .ref a5, .ref a6])), (a1, .inl (k 0, 60, .inl (fun _ => 0))), (a2, .inl (k 0, 60, .inl (fun _ => 0))), (a3, .inl (k 0, 60, .inl (fun _ => 0))), (a4, .inl (k 2, 60, .inl (fun _ => 0))), (a5, .inl (k 2, 60, .inl (fun _ => 0))), (a6, .inl (k 0, 4, .inl (upd (upd (upd (upd (fun _ => 0) (0 : Int32).toNatClampNeg (-1)) (1 : Int32).toNatClampNeg (-1)) (2 : Int32).toNatClampNeg (-1)) (3 : Int32).toNatClampNeg (-1))))] H := hP
  have hD : va_D A [(h0, .inr (0, [.ref a1, .ref a2, .ref a3, .ref a4, .ref a5, .ref a6])), (a1, .inl (k 0, 60, .inl (fun _ => 0))), (a2, .inl (k 0, 60, .inl (fun _ => 0))), (a3, .inl (k 0, 60, .inl (fun _ => 0))), (a4, .inl (k 2, 60, .inl (fun _ => 0))), (a5, .inl (k 2, 60, .inl (fun _ => 0))), (a6, .inl (k 0, 4, .inl (upd (upd (upd (upd (fun _ => 0) (0 : Int32).toNatClampNeg (-1)) (1 : Int32).toNatClampNeg (-1)) (2 : Int32).toNatClampNeg (-1)) (3 : Int32).toNatClampNeg (-1))))] := hD
  refine lv_aload_n hx hb dX0_init_67 rfl (lv_at hl 0 rfl) ?_
  have hm : ([(h0, .inr (0, [.ref a1, .ref a2, .ref a3, .ref a4, .ref a5, .ref a6])), (a1, .inl (k 0, 60, .inl (fun _ => 0))), (a2, .inl (k 0, 60, .inl (fun _ => 0))), (a3, .inl (k 0, 60, .inl (fun _ => 0))), (a4, .inl (k 2, 60, .inl (fun _ => 0))), (a5, .inl (k 2, 60, .inl (fun _ => 0))), (a6, .inl (k 0, 4, .inl (upd (upd (upd (upd (fun _ => 0) (0 : Int32).toNatClampNeg (-1)) (1 : Int32).toNatClampNeg (-1)) (2 : Int32).toNatClampNeg (-1)) (3 : Int32).toNatClampNeg (-1))))] : va_W).map Prod.fst = (List.range 7).map (fun i => ([h0, a1, a2, a3, a4, a5, a6] : List Nat).getD i 0) := rfl
  have hI := pz_Iof hD hm
  have hAf := pz_Aof hD hm
  refine va_callv (va_runV (As := []) (rest := []) ⟨hx, hb, hml, hown, hts⟩ (c_Y0_forget l D (fun i => ([h0, a1, a2, a3, a4, a5, a6] : List Nat).getD i 0) k (fun _ => 0) (fun _ => 0) (fun _ => 0) (fun _ => 0) (fun _ => 0) (upd (upd (upd (upd (fun _ => 0) (0 : Int32).toNatClampNeg (-1)) (1 : Int32).toNatClampNeg (-1)) (2 : Int32).toNatClampNeg (-1)) (3 : Int32).toNatClampNeg (-1))) (cwV 0 hts gX0_init_X0_forget rfl rfl rfl hdV_X0_forget ⟨Nat.le_of_ble_eq_true rfl, Nat.le_of_ble_eq_true rfl⟩) ⟨fun a U g mk q => ⟨q.1, q.2.1, pz_KF.call U g mk a q.2.2⟩, va_recv hK hP (ci := 0) (q0 := 0) rfl rfl, fun U hU hW => ⟨rfl, by rw [hU]; exact hP, ⟨hK.moved hW.alike, hI⟩⟩⟩ rfl rfl hl.1 rfl (lv_room (Nat.le_of_ble_eq_true rfl)) dX0_init_68 ⟨Nat.le_of_ble_eq_true rfl, Nat.le_of_ble_eq_true rfl⟩) hS (fun q _ h => hAf q h) hAf (fun u t H locs ht hvm hw hB hz1 hk1 hS => ?_)
  subst hw
  rw [ht] at hB
  have hD2 := pz_Dm hD hm (ws' := pz_N0 h0 k (fun i => ([a1, a2, a3, a4, a5, a6] : List Nat).getD i 0)) rfl
  exact W.vret hx hb hr (fun t ht hW => ⟨⟨(fun i => ([a1, a2, a3, a4, a5, a6] : List Nat).getD i 0), rfl, trivial, pz_hp ht hB, hD2⟩, hS.F ht⟩) hS.2.2 dX0_init_71 hlocks

