/-! THE BASE: binding, indices, the two worlds, the rows of calls -/
def pz_bnd {α β : Type} (x : α) (f : α → β) : β := f x
theorem pz_be {α β : Type} {x y : α} {f : α → β} (h : y = x) : pz_bnd x f = f y := by rw [h]; rfl
theorem pz_zero : (0 : Int32).toInt = 0 := rfl
theorem pz_in {f c : Int32} {n : Nat} (h0 : ¬ f < 0) (h1 : f < c) (hc : c.toInt ≤ n) : vp_in f n := by
  rw [Int32.lt_iff_toInt_lt] at h0 h1
  rw [pz_zero] at h0
  rw [vp_in_iff]; omega
theorem pz_inI {f : Int32} {n : Nat} (h0 : 0 ≤ f.toInt) (h1 : f.toInt < n) : vp_in f n := vp_in_iff.mpr ⟨h0, h1⟩
theorem pz_ne {x y : Int32} (h : ¬ x = y) : x.toInt ≠ y.toInt := fun q => h (Int32.toInt_inj.mp q)
/-- the cells of a world: those at q 0, .., q (n - 1) -/
def pz_A (n : Nat) (q : Nat → Nat) : Nat → Prop := fun a => ∃ i, i < n ∧ a = q i
def pz_I (n : Nat) (q : Nat → Nat) : Prop := ∀ i j, i < n → j < n → q i = q j → i = j
theorem pz_at {q : Nat → Nat} {n : Nat} {ws : va_W} (hm : ws.map Prod.fst = (List.range n).map q) {k : Nat} {e : Nat × va_E} (h : ws[k]? = some e) : k < n ∧ e.1 = q k := by
  have h1 : (ws.map Prod.fst)[k]? = some e.1 := by rw [List.getElem?_map, h]; rfl
  rw [hm, List.getElem?_map] at h1
  cases hr : (List.range n)[k]? with
  | none => rw [hr] at h1; cases h1
  | some i =>
    rw [hr] at h1
    obtain ⟨hk, he⟩ := List.getElem?_eq_some_iff.mp hr
    rw [List.getElem_range] at he
    subst he
    exact ⟨by simpa using hk, (Option.some.inj h1).symm⟩
theorem pz_D {q : Nat → Nat} {n : Nat} (hq : pz_I n q) {ws : va_W} (hm : ws.map Prod.fst = (List.range n).map q) : va_D (pz_A n q) ws := by
  refine ⟨fun i j a b ha hb hab => ?_, fun k a ha => ?_⟩
  · obtain ⟨h1, e1⟩ := pz_at hm ha
    obtain ⟨h2, e2⟩ := pz_at hm hb
    exact hq i j h1 h2 (by rw [← e1, ← e2]; exact hab)
  · obtain ⟨h1, e1⟩ := pz_at hm ha
    exact ⟨k, h1, e1⟩
/-- what a switch does -/
def pz_off (dflt lo hi : Int) (offs : Array Int) (x : Int32) : Int := if x.toInt < lo ∨ hi < x.toInt then dflt else (offs[(x.toInt - lo).toNat]?).getD dflt
section PzSwitch
variable {p : Program} {l : Launch} {e : Env} {R : Room} {s : State} {m : MethodId} {args : Array Value} {below : List Frame} {meth : Method} {c : Code} {H : Heap} {locs : List Loc} {cells slots : Nat} {Q : State → Prop} {cc : ByteArray} {pc : Nat} {ls : Array Slot} {rest : List Value}
theorem pz_table (hexec : p.tables.exec = Jvm.exec) (hb : c.code = cc) {dflt lo hi : Int} {offs : Array Int} {len : Nat} {x : Int32} {off : Int} {tgt : Nat} (hdg : decode cc pc = .ok (.tableswitch dflt lo hi offs, len)) (hz : offs.size = (hi - lo + 1).toNat) (ho : pz_off dflt lo hi offs x = off) (ht : (pc : Int) + off = (tgt : Int))
    (k : W p l e R s m args below meth c H locs cells slots Q (F0 m tgt ls rest)) : W p l e R s m args below meth c H locs cells slots Q (F0 m pc ls (.int x :: rest)) := by
  unfold pz_off at ho
  by_cases hr : x.toInt < lo ∨ hi < x.toInt
  · rw [if_pos hr] at ho
    subst ho
    exact lv_tableOut hexec hb hdg hr ht k
  · rw [if_neg hr] at ho
    have hlt : (x.toInt - lo).toNat < offs.size := by rw [hz]; omega
    rw [Array.getElem?_eq_getElem hlt, Option.getD_some] at ho
    exact lv_tableIn hexec hb hdg (fun h => hr (Or.inl h)) (fun h => hr (Or.inr h)) ((Array.getElem?_eq_getElem hlt).trans (congrArg some ho)) ht k
theorem pz_cases {P : Prop} {G : Prop} (a : P → G) (b : ¬ P → G) : G := (Classical.em P).elim a b
end PzSwitch
section PzCalls
variable {p : Program} {l : Launch} {e : Env} {R : Room} {s : State} {m : MethodId} {args : Array Value} {below : List Frame} {meth : Method} {c : Code} {H : Heap} {locs : List Loc} {cells slots : Nat} {Q : State → Prop}
variable {y : MethodName} {bytes cc : ByteArray} {maxL nL n index pc : Nat} {ret : Option FieldType} {ws : List Cond} {rm : Room} {Ts : List Cond} {own C host : String} {b : Addr} {As rest st0 : List Value} {ls : Array Slot}
variable {S : Type} {Wf : S → va_W} {W0 : va_W} {K : State → Prop} {A : Nat → Prop} {D : va_G}
theorem pz_Vi {post : Int32 → S → Prop} (hX : CallFix p m c cc nL s args Ts own) (hM : Met l y ws rm (va_Pc (.ref b :: As) (fun U => va_P D vwCl W0 U.heap ∧ K U)) (va_Qi post (fun u t => va_P D vwCl (Wf u) t.heap) A) 0 0 A) (cw : CallW R s args own C index y bytes maxL ret ws rm 0 0 n) (hKc : ∀ U g mk a, K U → K (U.calling g mk a)) (hKg : ∀ U : State, U.heap = H → s.WarmedH U.vm → K U) (hrecv : ∃ cell : Cell, H[b]? = some cell ∧ cell.vm.isStatics = false ∧ s.vm.findClass C = some cell.cls) (hP : va_P D vwCl W0 H) (hS : va_S A s.heap H locs) (hn : As.length = n) (hsz : ls.size = nL) (hst : st0 = As.reverse ++ .ref b :: rest) (hrm : (rest.map fun v => v.category).sum ≤ 8) (hdg : decode cc pc = .ok (.invokevirtual index, 3)) (hf : cells ≤ R.cells ∧ slots ≤ R.slots)
    (kk : ∀ (r : Int32) (u : S) (H1 : Heap) (locs1 : List Loc), post r u → va_P D vwCl (Wf u) H1 → va_S A s.heap H1 locs1 → W p l e R s m args below meth c H1 locs1 cells slots Q (F0 m (pc + 3) ls (.int r :: rest))) : W p l e R s m args below meth c H locs cells slots Q (F0 m pc ls st0) :=
  va_calli (va_runV hX hM cw ⟨fun a U g mk q => ⟨q.1, q.2.1, hKc U g mk a q.2.2⟩, hrecv, fun U hU hW => ⟨rfl, by rw [hU]; exact hP, hKg U hU hW⟩⟩ rfl hn hsz hst (lv_room hrm) hdg hf) hS (fun q _ h => h) (fun q h => h) (fun r u t H1 locs1 ht hvm hp hB _ _ hS1 => kk r u H1 locs1 hp (by rw [← ht]; exact hB) hS1)
theorem pz_Vl {post : Int64 → S → Prop} (hX : CallFix p m c cc nL s args Ts own) (hM : Met l y ws rm (va_Pc (.ref b :: As) (fun U => va_P D vwCl W0 U.heap ∧ K U)) (va_Ql post (fun u t => va_P D vwCl (Wf u) t.heap) A) 0 0 A) (cw : CallW R s args own C index y bytes maxL ret ws rm 0 0 n) (hKc : ∀ U g mk a, K U → K (U.calling g mk a)) (hKg : ∀ U : State, U.heap = H → s.WarmedH U.vm → K U) (hrecv : ∃ cell : Cell, H[b]? = some cell ∧ cell.vm.isStatics = false ∧ s.vm.findClass C = some cell.cls) (hP : va_P D vwCl W0 H) (hS : va_S A s.heap H locs) (hn : As.length = n) (hsz : ls.size = nL) (hst : st0 = As.reverse ++ .ref b :: rest) (hrm : (rest.map fun v => v.category).sum ≤ 8) (hdg : decode cc pc = .ok (.invokevirtual index, 3)) (hf : cells ≤ R.cells ∧ slots ≤ R.slots)
    (kk : ∀ (r : Int64) (u : S) (H1 : Heap) (locs1 : List Loc), post r u → va_P D vwCl (Wf u) H1 → va_S A s.heap H1 locs1 → W p l e R s m args below meth c H1 locs1 cells slots Q (F0 m (pc + 3) ls (.long r :: rest))) : W p l e R s m args below meth c H locs cells slots Q (F0 m pc ls st0) :=
  va_calll (va_runV hX hM cw ⟨fun a U g mk q => ⟨q.1, q.2.1, hKc U g mk a q.2.2⟩, hrecv, fun U hU hW => ⟨rfl, by rw [hU]; exact hP, hKg U hU hW⟩⟩ rfl hn hsz hst (lv_room hrm) hdg hf) hS (fun q _ h => h) (fun q h => h) (fun r u t H1 locs1 ht hvm hp hB _ _ hS1 => kk r u H1 locs1 hp (by rw [← ht]; exact hB) hS1)
theorem pz_Vv {post : S → Prop} (hX : CallFix p m c cc nL s args Ts own) (hM : Met l y ws rm (va_Pc (.ref b :: As) (fun U => va_P D vwCl W0 U.heap ∧ K U)) (va_Qv post (fun u t => va_P D vwCl (Wf u) t.heap) A) 0 0 A) (cw : CallW R s args own C index y bytes maxL ret ws rm 0 0 n) (hKc : ∀ U g mk a, K U → K (U.calling g mk a)) (hKg : ∀ U : State, U.heap = H → s.WarmedH U.vm → K U) (hrecv : ∃ cell : Cell, H[b]? = some cell ∧ cell.vm.isStatics = false ∧ s.vm.findClass C = some cell.cls) (hP : va_P D vwCl W0 H) (hS : va_S A s.heap H locs) (hn : As.length = n) (hsz : ls.size = nL) (hst : st0 = As.reverse ++ .ref b :: rest) (hrm : (rest.map fun v => v.category).sum ≤ 8) (hdg : decode cc pc = .ok (.invokevirtual index, 3)) (hf : cells ≤ R.cells ∧ slots ≤ R.slots)
    (kk : ∀ (u : S) (H1 : Heap) (locs1 : List Loc), post u → va_P D vwCl (Wf u) H1 → va_S A s.heap H1 locs1 → W p l e R s m args below meth c H1 locs1 cells slots Q (F0 m (pc + 3) ls rest)) : W p l e R s m args below meth c H locs cells slots Q (F0 m pc ls st0) :=
  va_callv (va_runV hX hM cw ⟨fun a U g mk q => ⟨q.1, q.2.1, hKc U g mk a q.2.2⟩, hrecv, fun U hU hW => ⟨rfl, by rw [hU]; exact hP, hKg U hU hW⟩⟩ rfl hn hsz hst (lv_room hrm) hdg hf) hS (fun q _ h => h) (fun q h => h) (fun u t H1 locs1 ht hvm hp hB _ _ hS1 => kk u H1 locs1 hp (by rw [← ht]; exact hB) hS1)
/-- static calls: the heap stays as it is, the answer is that of a function -/
theorem pz_Si {post : Int32 → Unit → Prop} (hX : CallFix p m c cc nL s args Ts own) (hM : Met l y ws rm (va_Pc As (fun _ => True)) (va_Qi post (fun _ _ => True) (fun _ => False)) 0 0 (fun _ => False)) (cw : CallB R s args own index y bytes maxL ret ws rm 0 0 n ∧ (Cond.static y).before args s = true) (hP : va_P D vwCl W0 H) (hS : va_S A s.heap H locs) (hn : As.length = n) (hsz : ls.size = nL) (hst : st0 = As.reverse ++ rest) (hrm : (rest.map fun v => v.category).sum ≤ 8) (hdg : decode cc pc = .ok (.invokestatic index, 3)) (hf : cells ≤ R.cells ∧ slots ≤ R.slots)
    (kk : ∀ (r : Int32) (H1 : Heap) (locs1 : List Loc), post r () → va_P D vwCl W0 H1 → va_S A s.heap H1 locs1 → W p l e R s m args below meth c H1 locs1 cells slots Q (F0 m (pc + 3) ls (.int r :: rest))) : W p l e R s m args below meth c H locs cells slots Q (F0 m pc ls st0) :=
  va_calli (va_runS hX hM cw ⟨fun a U g mk q => ⟨q.1, trivial⟩, fun U hU hW => ⟨rfl, trivial⟩⟩ rfl hn hsz hst (lv_room hrm) hdg hf) hS (fun q _ h => h.elim) (fun q h => h.elim) (fun r u t H1 locs1 ht hvm hp hB _ hk hS1 => kk r H1 locs1 hp (hP.kept (fun i a ha => hk a.1 (hP i a ha).lt (fun h => h))) hS1)
theorem pz_SNi {post : Int32 → Unit → Prop} (hX : CallFix p m c cc nL s args Ts own) (hM : Met l y ws rm (va_Pc As (fun _ => True)) (va_Qi post (fun _ _ => True) (fun _ => False)) 0 0 (fun _ => False)) (cw : va_CN R s args own index y host bytes maxL ret ws rm 0 0 n ∧ (Cond.static y).before args s = true ∧ True) (hP : va_P D vwCl W0 H) (hS : va_S A s.heap H locs) (hn : As.length = n) (hsz : ls.size = nL) (hst : st0 = As.reverse ++ rest) (hrm : (rest.map fun v => v.category).sum ≤ 8) (hdg : decode cc pc = .ok (.invokestatic index, 3)) (hf : cells ≤ R.cells ∧ slots ≤ R.slots)
    (kk : ∀ (r : Int32) (H1 : Heap) (locs1 : List Loc), post r () → va_P D vwCl W0 H1 → va_S A s.heap H1 locs1 → W p l e R s m args below meth c H1 locs1 cells slots Q (F0 m (pc + 3) ls (.int r :: rest))) : W p l e R s m args below meth c H locs cells slots Q (F0 m pc ls st0) :=
  va_calli (va_runSN hX hM cw ⟨fun a U g mk q => ⟨q.1, trivial⟩, fun U hU hW => ⟨rfl, trivial⟩⟩ rfl hn hsz hst (lv_room hrm) hdg hf) hS (fun q _ h => h.elim) (fun q h => h.elim) (fun r u t H1 locs1 ht hvm hp hB _ hk hS1 => kk r H1 locs1 hp (hP.kept (fun i a ha => hk a.1 (hP i a ha).lt (fun h => h))) hS1)
end PzCalls
/-! the world of the class -/
def pz_LT (j : Nat) : Int32 := ([0, 0, 0, 1, 2, 1, 1, 1, 1, 3, 1, 2, 1, 1] : List Int32).getD j 0
def pz_LB (j : Nat) : Int64 := ([-6148914691236517206, -3689348814741910324, -1085102592571150096, -71777214294589696, -281470681808896, -4294967296] : List Int64).getD j 0
def pz_X (q : Nat → Nat) (k : Nat → ClassId) (cnt : Int32) (kinds firsts seconds heights : Nat → Int32) (tables : Nat → Int64) (replaced laid rules ps qs rs fs frules heads ends inforce usable summ : Nat → Int32) : va_W :=
  [(q 0, .inr (3, [.ref (q 1), .ref (q 2), .ref (q 3)])), (q 1, .inr (1, [.ref (q 4), .ref (q 5), .ref (q 6), .ref (q 7), .ref (q 8), .ref (q 9), .int cnt])), (q 2, .inr (2, [.ref (q 10), .ref (q 11), .ref (q 12), .ref (q 13), .ref (q 14), .ref (q 15)])), (q 3, .inr (0, [.ref (q 16), .ref (q 17), .ref (q 18), .ref (q 19), .ref (q 20), .ref (q 21)])),
   (q 4, .inl (k 0, 80, .inl kinds)), (q 5, .inl (k 0, 80, .inl firsts)), (q 6, .inl (k 0, 80, .inl seconds)), (q 7, .inl (k 0, 80, .inl heights)), (q 8, .inl (k 1, 80, .inr (.inl tables))), (q 9, .inl (k 0, 80, .inl replaced)),
   (q 10, .inl (k 2, 60, .inl laid)), (q 11, .inl (k 0, 60, .inl rules)), (q 12, .inl (k 0, 60, .inl ps)), (q 13, .inl (k 0, 60, .inl qs)), (q 14, .inl (k 0, 60, .inl rs)), (q 15, .inl (k 0, 60, .inl fs)),
   (q 16, .inl (k 0, 60, .inl frules)), (q 17, .inl (k 0, 60, .inl heads)), (q 18, .inl (k 0, 60, .inl ends)), (q 19, .inl (k 2, 60, .inl inforce)), (q 20, .inl (k 2, 60, .inl usable)), (q 21, .inl (k 0, 4, .inl summ))]
def pz_M (q : Nat → Nat) (k : Nat → ClassId) (formulas : Int32) (kind left right height laid rules ps qs rs fs : Nat → Int32) (checked stopped reason made opened : Int32) (ruleThen heads boxOf shutBy around : Nat → Int32) (inner : Int32) (truth turned pile : Nat → Int32) : va_W :=
  [(q 0, .inr (4, [.int formulas, .ref (q 1), .ref (q 2), .ref (q 3), .ref (q 4), .ref (q 5), .ref (q 6), .ref (q 7), .ref (q 8), .ref (q 9), .ref (q 10), .int checked, .int stopped, .int reason, .int made, .int opened, .ref (q 11), .ref (q 12), .ref (q 13), .ref (q 14), .ref (q 15), .int inner, .ref (q 16), .ref (q 17), .ref (q 18)])),
   (q 1, .inl (k 0, 80, .inl kind)), (q 2, .inl (k 0, 80, .inl left)), (q 3, .inl (k 0, 80, .inl right)), (q 4, .inl (k 0, 80, .inl height)), (q 5, .inl (k 2, 60, .inl laid)), (q 6, .inl (k 0, 60, .inl rules)), (q 7, .inl (k 0, 60, .inl ps)), (q 8, .inl (k 0, 60, .inl qs)), (q 9, .inl (k 0, 60, .inl rs)), (q 10, .inl (k 0, 60, .inl fs)),
   (q 11, .inl (k 0, 60, .inl ruleThen)), (q 12, .inl (k 0, 60, .inl heads)), (q 13, .inl (k 0, 60, .inl boxOf)), (q 14, .inl (k 0, 60, .inl shutBy)), (q 15, .inl (k 0, 60, .inl around)), (q 16, .inl (k 2, 80, .inl truth)), (q 17, .inl (k 0, 80, .inl turned)), (q 18, .inl (k 0, 200, .inl pile))]
def pz_ty (k : Nat → ClassId) : List (ClassId × FieldType) := [(k 0, .int), (k 1, .long), (k 2, .boolean)]
/-- what stays: the classes, the links between nest mates, the static arrays (at t 0, t 1), the cells apart -/
def pz_KX (D : va_G) (q : Nat → Nat) (k : Nat → ClassId) (t : Nat → Nat) (U : State) : Prop :=
  va_K D vwCl (pz_ty k) U ∧ va_Nw (.methodLinkNest RX0 38 yX3_isLine "BoxProofs") U ∧ va_Nw (.methodLinkNest RX1 57 yX3_isLetter "BoxProofs") U ∧ va_Nw (.methodLinkNest RX2 31 yX3_isLine "BoxProofs") U ∧ va_Z RX3 "LINES_TAKEN" "[I" (.ref (t 0)) (pz_A 22 q) U U.heap ∧ va_T .int (t 0) 14 (fun j => .int (pz_LT j)) (pz_A 22 q) U U.heap ∧ va_Z RX1 "LETTER_TABLES" "[J" (.ref (t 1)) (pz_A 22 q) U U.heap ∧ va_T .long (t 1) 6 (fun j => .long (pz_LB j)) (pz_A 22 q) U U.heap ∧ pz_I 22 q
theorem pz_KX.go {D : va_G} {q : Nat → Nat} {k : Nat → ClassId} {t : Nat → Nat} {s : State} (h : pz_KX D q k t s) {H : Heap} {locs : List Loc} (hS : va_S (pz_A 22 q) s.heap H locs) (U : State) (hU : U.heap = H) (hW : s.WarmedH U.vm) : pz_KX D q k t U := by
  obtain ⟨h1, h2, h3, h4, h5, h6, h7, h8, h9⟩ := h
  have hk : ∀ a : Nat, a < s.heap.size → ¬ pz_A 22 q a → U.heap[a]? = s.heap[a]? := fun a ha hn => by rw [hU]; exact hS.2.1 a ha hn
  exact ⟨h1.moved hW.alike, h2.warmM hW, h3.warmM hW, h4.warmM hW, (h5.moved hW.alike).kept hk, (h6.moved hW.alike).kept hk, (h7.moved hW.alike).kept hk, (h8.moved hW.alike).kept hk, h9⟩
theorem pz_KX.call {D : va_G} {q : Nat → Nat} {k : Nat → ClassId} {t : Nat → Nat} (U : State) (g : JFrame) (mk : MethodId) (a : Array Value) (h : pz_KX D q k t U) : pz_KX D q k t (U.calling g mk a) := by
  obtain ⟨h1, h2, h3, h4, h5, h6, h7, h8, h9⟩ := h
  exact ⟨va_K.moved (u := U) (Vm.Alike.refl U.vm) h1, va_Nw.same rfl (u := U) rfl h2, va_Nw.same rfl (u := U) rfl h3, va_Nw.same rfl (u := U) rfl h4, va_Z.moved (u := U) (Vm.Alike.refl U.vm) h5, va_T.moved (u := U) (Vm.Alike.refl U.vm) h6, va_Z.moved (u := U) (Vm.Alike.refl U.vm) h7, va_T.moved (u := U) (Vm.Alike.refl U.vm) h8, h9⟩
def pz_KM (D : va_G) (q : Nat → Nat) (k : Nat → ClassId) (U : State) : Prop := va_K D vwCl (pz_ty k) U ∧ pz_I 19 q
theorem pz_KM.go {D : va_G} {q : Nat → Nat} {k : Nat → ClassId} {s : State} (h : pz_KM D q k s) {H : Heap} (U : State) (_ : U.heap = H) (hW : s.WarmedH U.vm) : pz_KM D q k U := ⟨h.1.moved hW.alike, h.2⟩
theorem pz_KM.call {D : va_G} {q : Nat → Nat} {k : Nat → ClassId} (U : State) (g : JFrame) (mk : MethodId) (a : Array Value) (h : pz_KM D q k U) : pz_KM D q k (U.calling g mk a) := ⟨va_K.moved (u := U) (Vm.Alike.refl U.vm) h.1, h.2⟩
/-- what a walk of a method stands on -/
def pz_C (p : Program) (s : State) (m : MethodId) (args : Array Value) (meth : Method) (c : Code) (cc : ByteArray) (ws : List Cond) (own : String) (nL : Nat) (ret : Option FieldType) : Prop :=
  p.tables.exec = Jvm.exec ∧ c.code = cc ∧ c.maxLocals = nL ∧ s.vm.findClass own = some m.cls ∧ (∀ w ∈ ws, w.before args s = true) ∧ meth.sig.returnType = ret ∧ meth.locks = false
/-- how many formulas there are: in their bounds -/
def pz_c (cnt : Int32) : Prop := 0 ≤ cnt.toInt ∧ cnt.toInt ≤ 80
theorem pz_hp {D : va_G} {cl : List vw_C} {ws : va_W} {t : State} {H : Heap} (ht : t.heap = H) (h : va_P D cl ws H) : va_P D cl ws t.heap := by rw [ht]; exact h
theorem pz_nle {x y : Int32} (h : ¬ y ≤ x) : x.toInt < y.toInt := by rw [Int32.le_iff_toInt_le] at h; omega
theorem pz_nlt {x y : Int32} (h : ¬ x < y) : y.toInt ≤ x.toInt := by rw [Int32.lt_iff_toInt_lt] at h; omega
theorem pz_inc {x : Int32} (h : x.toInt < 2147483647) : (x + 1).toInt = x.toInt + 1 := by
  have h0 := Int32.le_toInt x
  rw [Int32.toInt_add]
  have e : (1 : Int32).toInt = 1 := rfl
  rw [e, Int.bmod_eq_of_le (by omega) (by omega)]
theorem pz_dec {x : Int32} (h : -2147483648 < x.toInt) : (x + (-1)).toInt = x.toInt - 1 := by
  have h0 := Int32.toInt_lt x
  rw [Int32.toInt_add]
  have e : (-1 : Int32).toInt = -1 := rfl
  rw [e, Int.bmod_eq_of_le (by omega) (by omega)]
  omega
theorem pz_incf {cnt x : Int32} (hc : pz_c cnt) (h : ¬ cnt ≤ x) : (x + 1).toInt = x.toInt + 1 ∧ x.toInt < 80 := by
  have a := pz_nle h
  have b := hc.2
  exact ⟨pz_inc (by omega), by omega⟩
theorem pz_cin {cnt : Int32} (hc : pz_c cnt) (h : ¬ (80 : Int32) ≤ cnt) : vp_in cnt 80 := by
  have a := pz_nle h
  have e : (80 : Int32).toInt = 80 := rfl
  rw [e] at a
  exact pz_inI hc.1 a
section PzCalls2
variable {p : Program} {l : Launch} {e : Env} {R : Room} {s : State} {m : MethodId} {args : Array Value} {below : List Frame} {meth : Method} {c : Code} {H : Heap} {locs : List Loc} {cells slots : Nat} {Q : State → Prop}
variable {y : MethodName} {bytes cc : ByteArray} {maxL nL n index pc : Nat} {ret : Option FieldType} {ws : List Cond} {rm : Room} {Ts : List Cond} {own C host : String} {b : Addr} {As rest st0 : List Value} {ls : Array Slot}
variable {S : Type} {Wf : S → va_W} {W0 : va_W} {K : State → Prop} {A : Nat → Prop} {D : va_G}
theorem pz_SWv {post : S → Prop} (hX : CallFix p m c cc nL s args Ts own) (hM : Met l y ws rm (va_Pc As (fun U => va_P D vwCl W0 U.heap ∧ K U)) (va_Qv post (fun u t => va_P D vwCl (Wf u) t.heap) A) 0 0 A) (cw : CallB R s args own index y bytes maxL ret ws rm 0 0 n ∧ (Cond.static y).before args s = true) (hKc : ∀ U g mk a, K U → K (U.calling g mk a)) (hKg : ∀ U : State, U.heap = H → s.WarmedH U.vm → K U) (hP : va_P D vwCl W0 H) (hS : va_S A s.heap H locs) (hn : As.length = n) (hsz : ls.size = nL) (hst : st0 = As.reverse ++ rest) (hrm : (rest.map fun v => v.category).sum ≤ 8) (hdg : decode cc pc = .ok (.invokestatic index, 3)) (hf : cells ≤ R.cells ∧ slots ≤ R.slots)
    (kk : ∀ (u : S) (H1 : Heap) (locs1 : List Loc), post u → va_P D vwCl (Wf u) H1 → va_S A s.heap H1 locs1 → W p l e R s m args below meth c H1 locs1 cells slots Q (F0 m (pc + 3) ls rest)) : W p l e R s m args below meth c H locs cells slots Q (F0 m pc ls st0) :=
  va_callv (va_runS hX hM cw ⟨fun a U g mk q => ⟨q.1, q.2.1, hKc U g mk a q.2.2⟩, fun U hU hW => ⟨rfl, by rw [hU]; exact hP, hKg U hU hW⟩⟩ rfl hn hsz hst (lv_room hrm) hdg hf) hS (fun q _ h => h) (fun q h => h) (fun u t H1 locs1 ht hvm hp hB _ _ hS1 => kk u H1 locs1 hp (by rw [← ht]; exact hB) hS1)
end PzCalls2
theorem pz_n60 {x : Int32} (h : ¬ (60 : Int32) ≤ x) : x.toInt < 60 := by
  have a := pz_nle h
  have e : (60 : Int32).toInt = 60 := rfl
  rwa [e] at a
theorem pz_n0 {x : Int32} (h : ¬ x < 0) : 0 ≤ x.toInt := by
  have a := pz_nlt h
  rwa [pz_zero] at a
theorem pz_up60 {x : Int32} (h : ¬ (60 : Int32) ≤ x) : (x + 1).toInt = x.toInt + 1 ∧ x.toInt < 60 := ⟨pz_inc (by have := pz_n60 h; omega), pz_n60 h⟩
theorem pz_bi {α β : Type} {P : β → Prop} {x : α} {f : α → β} (h : ∀ y, y = x → P (f y)) : P (pz_bnd x f) := h x rfl
theorem pz_it {β : Type} {P : β → Prop} {c : Prop} [Decidable c] {t e : β} (a : c → P t) (b : ¬ c → P e) : P (if c then t else e) := by
  by_cases h : c
  · rw [if_pos h]; exact a h
  · rw [if_neg h]; exact b h
theorem pz_n01 {r : Int32} (h : r = 0 ∨ r = 1) : narrow .boolean (.int r) = .int r := by
  rcases h with h | h <;> rw [h] <;> rfl
