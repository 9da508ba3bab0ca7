/-! THE CLAIM OUT OF ONE WALK OF THE LAW'S BODY. Your part is whole_start (and what it stands on); all else here is the same for every law, but numbers. -/
def R_law : String := "BoxProofsLaw"
def lw_P (b : Addr) (xs : List Int32) (args : Array Value) (s : State) : Prop := args = #[.ref b] ∧ s.IntsAt b xs ∧ xs.length ≤ 3584 ∧ (Jvm.Cond.and given_1 narrow_1).before args s = true
def lw_Q (_ : Array Value) (s : State) (o : Outcome) (t : State) : Prop := o = .returned (some (.int 1)) ∧ Framed s o t [] 600000 7302250
def lw_Z (below : List Frame) (a : Array Value) (s : State) : State → Prop := fun t => ∃ o, t.status = .running ∧ Ended t below o ∧ lw_Q a s o t
/-- the law's own end, with 1 on the stack, nothing written that was there before, its room as the claim has it -/
theorem lw_ret {p : Program} {l : Launch} {e : Env} {s : State} {m : MethodId} {below : List Frame} {meth : Method} {c : Code} {b : Nat} (hx : p.tables.exec = Jvm.exec) (hb : c.code = code) (hr : meth.sig.returnType = ret) (hlocks : meth.locks = false) {pc : Nat} {H : Heap} {ls : Array Slot} (hdg : decode code pc = .ok (.ireturn, 1)) : W p l e room_1 s m #[Value.ref b] below meth c H [] 600000 7302250 (lw_Z below #[Value.ref b] s) (F0 m pc ls [.int 1]) := by
  intro T hT X
  obtain ⟨fs, hret, hrun, hended, hW, hframe⟩ := X.leave (v := some (.int 1)) (hlocks := hlocks) (fun h => by rw [hr] at h; cases h)
  have hmeth' : T.vm.method? m = some meth := X.method'
  refine ⟨T.setFrames fs, ?_, .returned (some (.int 1)), hrun, hended, rfl, ⟨_, rfl⟩, hW, hframe⟩
  jvm_step X.here [X.here.top, hx, hb, hdg, hmeth', hr, ret, narrow_b1]
  (try refine ⟨rfl, ?_⟩); (try refine ⟨rfl, ?_⟩)
  first | (intro acts; rw [hret _ acts rfl rfl rfl]) | rw [hret _ _ rfl rfl rfl]
  exact Steps.refl _
/-- what holds at the law's entry: the machine, the code, the tables' words (any of lw_tbl by 'hts w (by decide +kernel)'), the script of L ints xs at the cell b, what the Statement gives of the start (any of its parts by flat_of_before) -/
def lw_At (p : Program) (s : State) (m : MethodId) (meth : Method) (c : Code) (b L : Nat) (xs : Nat → Int32) : Prop :=
  p.tables.exec = Jvm.exec ∧ c.code = code ∧ meth.sig.returnType = ret ∧ c.maxLocals = 4 ∧ s.vm.findClass R_law = some m.cls ∧ (∀ w ∈ lw_tbl, w.before #[Value.ref b] s = true) ∧ va_X b L xs s s.heap ∧ b < s.heap.size ∧ meth.locks = false ∧ (Jvm.Cond.and given_1 narrow_1).before #[Value.ref b] s = true
section PzLaw
variable {p : Program} {l : Launch} {e : Env} {R : Room} {s : State} {m : MethodId} {args : Array Value} {below : List Frame} {meth : Method} {c : Code} {H : Heap} {locs : List Loc} {cells slots : Nat} {Q : State → Prop}
variable {y : MethodName} {bytes cc : ByteArray} {maxL nL n index pc : Nat} {ret : Option FieldType} {ws : List Cond} {rm : Room} {Ts : List Cond} {own C : String} {b : Addr} {As rest st0 : List Value} {ls : Array Slot}
variable {S : Type} {Wf : S → va_W} {W0 : va_W} {K : State → Prop} {A1 A0 : Nat → Prop} {D : va_G} {H0 : Heap}
theorem pz_Li {post : Int32 → S → Prop} (hX : CallFix p m c cc nL s args Ts own) (hM : Met l y ws rm (va_Pc (.ref b :: As) (fun U => va_P D vwCl W0 U.heap ∧ K U)) (va_Qi post (fun u t => va_P D vwCl (Wf u) t.heap) A1) 0 0 A1) (cw : CallW R s args own C index y bytes maxL ret ws rm 0 0 n) (hKc : ∀ U g mk a, K U → K (U.calling g mk a)) (hKg : ∀ U : State, U.heap = H → s.WarmedH U.vm → K U) (hrecv : ∃ cell : Cell, H[b]? = some cell ∧ cell.vm.isStatics = false ∧ s.vm.findClass C = some cell.cls) (hP : va_P D vwCl W0 H) (hS : va_S A0 H0 H locs) (h10 : ∀ x, A1 x → A0 x) (hn : As.length = n) (hsz : ls.size = nL) (hst : st0 = As.reverse ++ .ref b :: rest) (hrm : (rest.map fun v => v.category).sum ≤ 8) (hdg : decode cc pc = .ok (.invokevirtual index, 3)) (hf : cells ≤ R.cells ∧ slots ≤ R.slots)
    (kk : ∀ (r : Int32) (u : S) (H1 : Heap) (locs1 : List Loc), post r u → va_P D vwCl (Wf u) H1 → (∀ q : Nat, q < H.size → ¬ A1 q → H1[q]? = H[q]?) → va_S A0 H0 H1 locs1 → W p l e R s m args below meth c H1 locs1 cells slots Q (F0 m (pc + 3) ls (.int r :: rest))) : W p l e R s m args below meth c H locs cells slots Q (F0 m pc ls st0) :=
  va_calli (va_runV hX hM cw ⟨fun a U g mk q => ⟨q.1, q.2.1, hKc U g mk a q.2.2⟩, hrecv, fun U hU hW => ⟨rfl, by rw [hU]; exact hP, hKg U hU hW⟩⟩ rfl hn hsz hst (lv_room hrm) hdg hf) hS (fun q _ h => h10 q h) (fun q h => h10 q h) (fun r u t H1 locs1 ht hvm hp hB _ hk hS1 => kk r u H1 locs1 hp (by rw [← ht]; exact hB) hk hS1)
end PzLaw
theorem pz_other {q q2 : Nat → Nat} {n n2 : Nat} {D : va_G} {ws : va_W} {H H1 : Heap} (hap : ∀ i j, i < n → j < n2 → q i ≠ q2 j) (hm : ws.map Prod.fst = (List.range n2).map q2) (hP : va_P D vwCl ws H) (hk : ∀ x : Nat, x < H.size → ¬ pz_A n q x → H1[x]? = H[x]?) : va_P D vwCl ws H1 := by
  refine hP.kept (fun i a ha => hk a.1 (hP i a ha).lt (fun h => ?_))
  obtain ⟨j, hj, e⟩ := h
  obtain ⟨h1, e1⟩ := pz_at hm ha
  exact hap j i hj h1 (by rw [← e, e1])
/-- a place of the script -/
theorem pz_si {x3 : Int32} {L : Nat} (h0 : 0 ≤ x3.toInt) (hL : L ≤ 3584) (c : ¬ Int32.ofNat L - 7 < x3) : x3.toInt + 7 ≤ L ∧ ∀ j : Int32, 0 ≤ j.toInt → j.toInt ≤ 7 → (x3 + j).toInt = x3.toInt + j.toInt := by
  have a := pz_nlt c
  have e : (Int32.ofNat L).toInt = L := nI_toInt (n := L) (by omega)
  have e7 : (7 : Int32).toInt = 7 := rfl
  have e2 : (Int32.ofNat L - 7).toInt = L - 7 := by
    rw [Int32.toInt_sub, e, e7, Int.bmod_eq_of_le (by omega) (by omega)]
  rw [e2] at a
  refine ⟨by omega, fun j hj hj7 => ?_⟩
  rw [Int32.toInt_add, Int.bmod_eq_of_le (by omega) (by omega)]
theorem pz_sj {x3 j : Int32} {L : Nat} (h0 : 0 ≤ x3.toInt) (hL : L ≤ 3584) (c : ¬ Int32.ofNat L - 7 < x3) (hj : 0 ≤ j.toInt) (hj6 : j.toInt ≤ 6) : vp_in (x3 + j) L := by
  have a := pz_si h0 hL c
  have b := a.2 j hj (by omega)
  exact pz_inI (by omega) (by omega)
theorem pz_s0 {x3 : Int32} {L : Nat} (h0 : 0 ≤ x3.toInt) (hL : L ≤ 3584) (c : ¬ Int32.ofNat L - 7 < x3) : vp_in x3 L := by
  have a := pz_si h0 hL c
  exact pz_inI (by omega) (by omega)

theorem hdV_X3_about : yX3_about.cls = RX3 ∧ yX3_about.cls ≠ "java/lang/invoke/MethodHandle" ∧ yX3_about.cls ≠ "java/lang/invoke/VarHandle" ∧ (parseMethodDescriptor yX3_about.desc).map (fun d => d.parameters.length) = some 2 := by decide +kernel
theorem hdV_X3_check : yX3_check.cls = RX3 ∧ yX3_check.cls ≠ "java/lang/invoke/MethodHandle" ∧ yX3_check.cls ≠ "java/lang/invoke/VarHandle" ∧ (parseMethodDescriptor yX3_check.desc).map (fun d => d.parameters.length) = some 0 := by decide +kernel
theorem hdV_X3_force : yX3_force.cls = RX3 ∧ yX3_force.cls ≠ "java/lang/invoke/MethodHandle" ∧ yX3_force.cls ≠ "java/lang/invoke/VarHandle" ∧ (parseMethodDescriptor yX3_force.desc).map (fun d => d.parameters.length) = some 1 := by decide +kernel
theorem hdV_X3_formula : yX3_formula.cls = RX3 ∧ yX3_formula.cls ≠ "java/lang/invoke/MethodHandle" ∧ yX3_formula.cls ≠ "java/lang/invoke/VarHandle" ∧ (parseMethodDescriptor yX3_formula.desc).map (fun d => d.parameters.length) = some 3 := by decide +kernel
theorem hdV_X3_formulas : yX3_formulas.cls = RX3 ∧ yX3_formulas.cls ≠ "java/lang/invoke/MethodHandle" ∧ yX3_formulas.cls ≠ "java/lang/invoke/VarHandle" ∧ (parseMethodDescriptor yX3_formulas.desc).map (fun d => d.parameters.length) = some 0 := by decide +kernel
theorem hdV_X3_hangs : yX3_hangs.cls = RX3 ∧ yX3_hangs.cls ≠ "java/lang/invoke/MethodHandle" ∧ yX3_hangs.cls ≠ "java/lang/invoke/VarHandle" ∧ (parseMethodDescriptor yX3_hangs.desc).map (fun d => d.parameters.length) = some 2 := by decide +kernel
theorem hdV_X3_head : yX3_head.cls = RX3 ∧ yX3_head.cls ≠ "java/lang/invoke/MethodHandle" ∧ yX3_head.cls ≠ "java/lang/invoke/VarHandle" ∧ (parseMethodDescriptor yX3_head.desc).map (fun d => d.parameters.length) = some 1 := by decide +kernel
theorem hdV_X3_instead : yX3_instead.cls = RX3 ∧ yX3_instead.cls ≠ "java/lang/invoke/MethodHandle" ∧ yX3_instead.cls ≠ "java/lang/invoke/VarHandle" ∧ (parseMethodDescriptor yX3_instead.desc).map (fun d => d.parameters.length) = some 3 := by decide +kernel
theorem hdV_X3_lay : yX3_lay.cls = RX3 ∧ yX3_lay.cls ≠ "java/lang/invoke/MethodHandle" ∧ yX3_lay.cls ≠ "java/lang/invoke/VarHandle" ∧ (parseMethodDescriptor yX3_lay.desc).map (fun d => d.parameters.length) = some 6 := by decide +kernel
theorem hdV_X3_sound : yX3_sound.cls = RX3 ∧ yX3_sound.cls ≠ "java/lang/invoke/MethodHandle" ∧ yX3_sound.cls ≠ "java/lang/invoke/VarHandle" ∧ (parseMethodDescriptor yX3_sound.desc).map (fun d => d.parameters.length) = some 1 := by decide +kernel
theorem hdV_X3_take : yX3_take.cls = RX3 ∧ yX3_take.cls ≠ "java/lang/invoke/MethodHandle" ∧ yX3_take.cls ≠ "java/lang/invoke/VarHandle" ∧ (parseMethodDescriptor yX3_take.desc).map (fun d => d.parameters.length) = some 1 := by decide +kernel
theorem hdV_X3_told : yX3_told.cls = RX3 ∧ yX3_told.cls ≠ "java/lang/invoke/MethodHandle" ∧ yX3_told.cls ≠ "java/lang/invoke/VarHandle" ∧ (parseMethodDescriptor yX3_told.desc).map (fun d => d.parameters.length) = some 1 := by decide +kernel
theorem hdV_X3_truths : yX3_truths.cls = RX3 ∧ yX3_truths.cls ≠ "java/lang/invoke/MethodHandle" ∧ yX3_truths.cls ≠ "java/lang/invoke/VarHandle" ∧ (parseMethodDescriptor yX3_truths.desc).map (fun d => d.parameters.length) = some 1 := by decide +kernel
theorem hdV_X3_value : yX3_value.cls = RX3 ∧ yX3_value.cls ≠ "java/lang/invoke/MethodHandle" ∧ yX3_value.cls ≠ "java/lang/invoke/VarHandle" ∧ (parseMethodDescriptor yX3_value.desc).map (fun d => d.parameters.length) = some 2 := by decide +kernel
theorem hdV_X4_about : yX4_about.cls = RX4 ∧ yX4_about.cls ≠ "java/lang/invoke/MethodHandle" ∧ yX4_about.cls ≠ "java/lang/invoke/VarHandle" ∧ (parseMethodDescriptor yX4_about.desc).map (fun d => d.parameters.length) = some 2 := by decide +kernel
theorem hdV_X4_check : yX4_check.cls = RX4 ∧ yX4_check.cls ≠ "java/lang/invoke/MethodHandle" ∧ yX4_check.cls ≠ "java/lang/invoke/VarHandle" ∧ (parseMethodDescriptor yX4_check.desc).map (fun d => d.parameters.length) = some 0 := by decide +kernel
theorem hdV_X4_force : yX4_force.cls = RX4 ∧ yX4_force.cls ≠ "java/lang/invoke/MethodHandle" ∧ yX4_force.cls ≠ "java/lang/invoke/VarHandle" ∧ (parseMethodDescriptor yX4_force.desc).map (fun d => d.parameters.length) = some 1 := by decide +kernel
theorem hdV_X4_formula : yX4_formula.cls = RX4 ∧ yX4_formula.cls ≠ "java/lang/invoke/MethodHandle" ∧ yX4_formula.cls ≠ "java/lang/invoke/VarHandle" ∧ (parseMethodDescriptor yX4_formula.desc).map (fun d => d.parameters.length) = some 3 := by decide +kernel
theorem hdV_X4_formulas : yX4_formulas.cls = RX4 ∧ yX4_formulas.cls ≠ "java/lang/invoke/MethodHandle" ∧ yX4_formulas.cls ≠ "java/lang/invoke/VarHandle" ∧ (parseMethodDescriptor yX4_formulas.desc).map (fun d => d.parameters.length) = some 0 := by decide +kernel
theorem hdV_X4_hangs : yX4_hangs.cls = RX4 ∧ yX4_hangs.cls ≠ "java/lang/invoke/MethodHandle" ∧ yX4_hangs.cls ≠ "java/lang/invoke/VarHandle" ∧ (parseMethodDescriptor yX4_hangs.desc).map (fun d => d.parameters.length) = some 2 := by decide +kernel
theorem hdV_X4_head : yX4_head.cls = RX4 ∧ yX4_head.cls ≠ "java/lang/invoke/MethodHandle" ∧ yX4_head.cls ≠ "java/lang/invoke/VarHandle" ∧ (parseMethodDescriptor yX4_head.desc).map (fun d => d.parameters.length) = some 1 := by decide +kernel
theorem hdV_X4_instead : yX4_instead.cls = RX4 ∧ yX4_instead.cls ≠ "java/lang/invoke/MethodHandle" ∧ yX4_instead.cls ≠ "java/lang/invoke/VarHandle" ∧ (parseMethodDescriptor yX4_instead.desc).map (fun d => d.parameters.length) = some 3 := by decide +kernel
theorem hdV_X4_lay : yX4_lay.cls = RX4 ∧ yX4_lay.cls ≠ "java/lang/invoke/MethodHandle" ∧ yX4_lay.cls ≠ "java/lang/invoke/VarHandle" ∧ (parseMethodDescriptor yX4_lay.desc).map (fun d => d.parameters.length) = some 6 := by decide +kernel
theorem hdV_X4_sound : yX4_sound.cls = RX4 ∧ yX4_sound.cls ≠ "java/lang/invoke/MethodHandle" ∧ yX4_sound.cls ≠ "java/lang/invoke/VarHandle" ∧ (parseMethodDescriptor yX4_sound.desc).map (fun d => d.parameters.length) = some 1 := by decide +kernel
theorem hdV_X4_take : yX4_take.cls = RX4 ∧ yX4_take.cls ≠ "java/lang/invoke/MethodHandle" ∧ yX4_take.cls ≠ "java/lang/invoke/VarHandle" ∧ (parseMethodDescriptor yX4_take.desc).map (fun d => d.parameters.length) = some 1 := by decide +kernel
theorem hdV_X4_told : yX4_told.cls = RX4 ∧ yX4_told.cls ≠ "java/lang/invoke/MethodHandle" ∧ yX4_told.cls ≠ "java/lang/invoke/VarHandle" ∧ (parseMethodDescriptor yX4_told.desc).map (fun d => d.parameters.length) = some 1 := by decide +kernel
theorem hdV_X4_truths : yX4_truths.cls = RX4 ∧ yX4_truths.cls ≠ "java/lang/invoke/MethodHandle" ∧ yX4_truths.cls ≠ "java/lang/invoke/VarHandle" ∧ (parseMethodDescriptor yX4_truths.desc).map (fun d => d.parameters.length) = some 1 := by decide +kernel
theorem hdV_X4_value : yX4_value.cls = RX4 ∧ yX4_value.cls ≠ "java/lang/invoke/MethodHandle" ∧ yX4_value.cls ≠ "java/lang/invoke/VarHandle" ∧ (parseMethodDescriptor yX4_value.desc).map (fun d => d.parameters.length) = some 2 := by decide +kernel
set_option maxHeartbeats 8000000 in
set_option maxRecDepth 100000 in
theorem pz_law_loop {p : Program} {l : Launch} {e : Env} {s : State} {m : MethodId} {below : List Frame} {meth : Method} {c : Code} {D : va_G} {qx qm : Nat → Nat} {k : Nat → ClassId} {t : Nat → Nat} {b L : Nat} {xs : Nat → Int32} (hL : L ≤ 3584) (C0 : lw_At p s m meth c b L xs) (hK : va_K D vwCl (pz_ty k) s) (hKX : ∀ (H : Heap) (locs : List Loc), va_S (fun q : Nat => s.heap.size ≤ q) s.heap H locs → ∀ U : State, U.heap = H → s.WarmedH U.vm → pz_KX D qx k t U) (hKM : ∀ U : State, s.WarmedH U.vm → pz_KM D qm k U) (hIx : ∀ x, pz_A 22 qx x → s.heap.size ≤ x) (hIm : ∀ x, pz_A 19 qm x → s.heap.size ≤ x) (hap : ∀ i j, i < 22 → j < 19 → qx i ≠ qm j) :
    ∀ (n : Nat) (x3 : Int32) (h0 : 0 ≤ x3.toInt) (h1 : x3.toInt ≤ L) (hn : (L : Int) + 1 ≤ x3.toInt + n) (cnt : Int32) (kinds : Nat → Int32) (firsts : Nat → Int32) (seconds : Nat → Int32) (heights : Nat → Int32) (tables : Nat → Int64) (replaced : Nat → Int32) (laid : Nat → Int32) (rules : Nat → Int32) (ps : Nat → Int32) (qs : Nat → Int32) (rs : Nat → Int32) (fs : Nat → Int32) (frules : Nat → Int32) (heads : Nat → Int32) (ends : Nat → Int32) (inforce : Nat → Int32) (usable : Nat → Int32) (summ : Nat → Int32) (checked : Int32) (stopped : Int32) (reason : Int32) (made : Int32) (opened : Int32) (rt : Nat → Int32) (hm : Nat → Int32) (boxOf : Nat → Int32) (shutBy : Nat → Int32) (around : Nat → Int32) (inner : Int32) (truth : Nat → Int32) (turned : Nat → Int32) (pile : Nat → Int32) (hR : pz_R cnt kinds firsts seconds heights tables frules heads ends inforce usable summ checked stopped reason made opened rt hm boxOf shutBy around) (H : Heap) (locs : List Loc) (ls : Array Slot), va_P D vwCl (pz_X qx k cnt kinds firsts seconds heights tables replaced laid rules ps qs rs fs frules heads ends inforce usable summ) H → va_P D vwCl (pz_M qm k cnt kinds firsts seconds heights laid rules ps qs rs fs checked stopped reason made opened rt hm boxOf shutBy around inner truth turned pile) H → va_S (fun q : Nat => s.heap.size ≤ q) s.heap H locs → lv_has ls 4 [(0, .ref b), (1, .ref (qx 0)), (2, .ref (qm 0)), (3, .int x3)] → W p l e room_1 s m #[Value.ref b] below meth c H locs 41 2531 (lw_Z below #[Value.ref b] s) (F0 m 18 ls []) := by
  obtain ⟨hx, hb, hr, hml, hown, hts0, hXs, hbl, hlocks, hgv⟩ := C0
  have hts : ∀ w ∈ wsL_law, w.before #[Value.ref b] s = true := fun w h => hts0 w (wsL_law_in w h)
  have hown : s.vm.findClass RL = some m.cls := hown
  have hbA : ¬ (fun q : Nat => s.heap.size ≤ q) b := Nat.not_le.mpr hbl
  intro n
  induction n with
  | zero =>
    intro x3 h0 h1 hn
    exact absurd hn (by omega)
  | succ n ih =>
    intro x3 h0 h1 hn cnt kinds firsts seconds heights tables replaced laid rules ps qs rs fs frules heads ends inforce usable summ checked stopped reason made opened rt hm boxOf shutBy around inner truth turned pile hR H locs ls hPx hPm hS hl
    refine lv_iload_n hx hb dL_law_18 rfl (lv_at hl 3 rfl) ?_
    refine lv_aload_n hx hb dL_law_19 rfl (lv_at hl 0 rfl) ?_
    refine va_slen hx hb hXs hbl hbA hS dL_law_20 ?_
    refine lv_bipush (v := 7) hx hb dL_law_21 (by decide) ?_
    refine lv_isub hx hb dL_law_23 ?_
    refine lv_icmp_gt (tgt := 534) hx hb dL_law_24 (by decide) (fun cL => ?_) (fun cL => ?_)
    · refine lv_iconst (v := 1) hx hb dL_law_534 (by decide) ?_
      refine va_forget (fun q hq => hS.2.2 q hq) ?_
      refine W.widen (k := 600000) (n := 7302250) (by decide) (by decide) ?_
      exact lw_ret hx hb hr hlocks dL_law_535
    · have hs7 := pz_si h0 hL cL
      have e7 : (7 : Int32).toInt = 7 := rfl
      have h7 := hs7.2 7 (by decide) (by decide)
      rw [e7] at h7
      refine lv_aload_n hx hb dL_law_27 rfl (lv_at hl 0 rfl) ?_
      refine lv_iload_n hx hb dL_law_28 rfl (lv_at hl 3 rfl) ?_
      refine va_sld hx hb hXs hbl hbA hS (pz_s0 h0 hL cL) dL_law_29 ?_
      refine lv_bipush (v := 15) hx hb dL_law_30 (by decide) ?_
      refine lv_iand hx hb dL_law_32 ?_
      generalize xs (x3 : Int32).toNatClampNeg &&& 15 = sw
      refine pz_cases (P := sw = 0) (fun cs_0 => ?_) (fun cs_0 => ?_)
      · refine pz_table (tgt := 104) (off := 71) hx hb dL_law_33 rfl (by rw [cs_0]; rfl) (by decide) ?_
        refine lv_aload_n hx hb dL_law_104 rfl (lv_at hl 1 rfl) ?_
        refine lv_aload_n hx hb dL_law_105 rfl (lv_at hl 0 rfl) ?_
        refine lv_iload_n hx hb dL_law_106 rfl (lv_at hl 3 rfl) ?_
        refine lv_iconst (v := 1) hx hb dL_law_107 (by decide) ?_
        refine lv_iadd hx hb dL_law_108 ?_
        refine va_sld hx hb hXs hbl hbA hS (pz_sj h0 hL cL (by decide) (by decide)) dL_law_109 ?_
        refine lv_aload_n hx hb dL_law_110 rfl (lv_at hl 0 rfl) ?_
        refine lv_iload_n hx hb dL_law_111 rfl (lv_at hl 3 rfl) ?_
        refine lv_iconst (v := 2) hx hb dL_law_112 (by decide) ?_
        refine lv_iadd hx hb dL_law_113 ?_
        refine va_sld hx hb hXs hbl hbA hS (pz_sj h0 hL cL (by decide) (by decide)) dL_law_114 ?_
        refine lv_aload_n hx hb dL_law_115 rfl (lv_at hl 0 rfl) ?_
        refine lv_iload_n hx hb dL_law_116 rfl (lv_at hl 3 rfl) ?_
        refine lv_iconst (v := 3) hx hb dL_law_117 (by decide) ?_
        refine lv_iadd hx hb dL_law_118 ?_
        refine va_sld hx hb hXs hbl hbA hS (pz_sj h0 hL cL (by decide) (by decide)) dL_law_119 ?_
        refine pz_Li (As := [.int ((xs ((x3 + 1) : Int32).toNatClampNeg)), .int ((xs ((x3 + 2) : Int32).toNatClampNeg)), .int ((xs ((x3 + 3) : Int32).toNatClampNeg))]) (rest := []) ⟨hx, hb, hml, hown, hts⟩ (c_X3_formula l D qx k t cnt kinds firsts seconds heights tables replaced laid rules ps qs rs fs frules heads ends inforce usable summ (xs ((x3 + 1) : Int32).toNatClampNeg) (xs ((x3 + 2) : Int32).toNatClampNeg) (xs ((x3 + 3) : Int32).toNatClampNeg) hR.1.1.1) (cwV 3 hts gL_law_X3_formula rfl rfl rfl hdV_X3_formula ⟨Nat.le_of_ble_eq_true rfl, Nat.le_of_ble_eq_true rfl⟩) pz_KX.call (hKX _ _ hS) (va_recv hK hPx (ci := 3) (q0 := 0) rfl rfl) hPx hS hIx rfl hl.1 rfl (Nat.le_of_ble_eq_true rfl) dL_law_120 ⟨Nat.le_of_ble_eq_true rfl, Nat.le_of_ble_eq_true rfl⟩ (fun r_1 u_1 H1 locs hF_1 hPx hk_1 hS => ?_)
        obtain ⟨Xcnt_1, Xkinds_1, Xfirsts_1, Xseconds_1, Xheights_1, Xtables_1⟩ := u_1
        have hPm := pz_other hap rfl hPm hk_1
        have hPx : va_P D vwCl (pz_X qx k Xcnt_1 Xkinds_1 Xfirsts_1 Xseconds_1 Xheights_1 Xtables_1 replaced laid rules ps qs rs fs frules heads ends inforce usable summ) H1 := hPx
        generalize H1 = H at hPx hPm hS ⊢
        refine lv_aload_n hx hb dL_law_123 rfl (lv_at hl 2 rfl) ?_
        refine lv_aload_n hx hb dL_law_124 rfl (lv_at hl 0 rfl) ?_
        refine lv_iload_n hx hb dL_law_125 rfl (lv_at hl 3 rfl) ?_
        refine lv_iconst (v := 1) hx hb dL_law_126 (by decide) ?_
        refine lv_iadd hx hb dL_law_127 ?_
        refine va_sld hx hb hXs hbl hbA hS (pz_sj h0 hL cL (by decide) (by decide)) dL_law_128 ?_
        refine lv_aload_n hx hb dL_law_129 rfl (lv_at hl 0 rfl) ?_
        refine lv_iload_n hx hb dL_law_130 rfl (lv_at hl 3 rfl) ?_
        refine lv_iconst (v := 2) hx hb dL_law_131 (by decide) ?_
        refine lv_iadd hx hb dL_law_132 ?_
        refine va_sld hx hb hXs hbl hbA hS (pz_sj h0 hL cL (by decide) (by decide)) dL_law_133 ?_
        refine lv_aload_n hx hb dL_law_134 rfl (lv_at hl 0 rfl) ?_
        refine lv_iload_n hx hb dL_law_135 rfl (lv_at hl 3 rfl) ?_
        refine lv_iconst (v := 3) hx hb dL_law_136 (by decide) ?_
        refine lv_iadd hx hb dL_law_137 ?_
        refine va_sld hx hb hXs hbl hbA hS (pz_sj h0 hL cL (by decide) (by decide)) dL_law_138 ?_
        refine pz_Li (As := [.int ((xs ((x3 + 1) : Int32).toNatClampNeg)), .int ((xs ((x3 + 2) : Int32).toNatClampNeg)), .int ((xs ((x3 + 3) : Int32).toNatClampNeg))]) (rest := [.int (r_1)]) ⟨hx, hb, hml, hown, hts⟩ (c_X4_formula l D qm k cnt kinds firsts seconds heights laid rules ps qs rs fs checked stopped reason made opened rt hm boxOf shutBy around inner truth turned pile (xs ((x3 + 1) : Int32).toNatClampNeg) (xs ((x3 + 2) : Int32).toNatClampNeg) (xs ((x3 + 3) : Int32).toNatClampNeg) hR.1.1.1) (cwV 3 hts gL_law_X4_formula rfl rfl rfl hdV_X4_formula ⟨Nat.le_of_ble_eq_true rfl, Nat.le_of_ble_eq_true rfl⟩) pz_KM.call (fun U _ hW => hKM U hW) (va_recv hK hPm (ci := 4) (q0 := 0) rfl rfl) hPm hS hIm rfl hl.1 rfl (Nat.le_of_ble_eq_true rfl) dL_law_139 ⟨Nat.le_of_ble_eq_true rfl, Nat.le_of_ble_eq_true rfl⟩ (fun r_2 u_2 H1 locs hF_2 hPm hk_2 hS => ?_)
        obtain ⟨Mcnt_2, Mkinds_2, Mfirsts_2, Mseconds_2, Mheights_2⟩ := u_2
        have hPx := pz_other (fun i j hi hj e9 => hap j i hj hi e9.symm) rfl hPx hk_2
        have hPm : va_P D vwCl (pz_M qm k Mcnt_2 Mkinds_2 Mfirsts_2 Mseconds_2 Mheights_2 laid rules ps qs rs fs checked stopped reason made opened rt hm boxOf shutBy around inner truth turned pile) H1 := hPm
        generalize H1 = H at hPx hPm hS ⊢
        obtain ⟨hre, e_cnt, e_kinds, e_firsts, e_seconds, e_heights, hR2⟩ := pz_eq_formula hR hF_1 hF_2
        subst e_cnt
        subst e_kinds
        subst e_firsts
        subst e_seconds
        subst e_heights
        refine lv_icmp_eq (tgt := 528) hx hb dL_law_142 (by decide) (fun c_9 => ?_) (fun c_9 => absurd hre c_9)
        refine lv_iinc (v := (x3 + 7)) (lv' := [(3, .int (x3 + 7)), (0, .ref b), (1, .ref (qx 0)), (2, .ref (qm 0))]) hx hb dL_law_528 hl (k := 3) rfl rfl (by decide) rfl (fun ls hl => ?_)
        refine lv_goto (tgt := 18) hx hb dL_law_531 (by decide) ?_
        exact ih (x3 + 7) (by omega) (by omega) (by omega) Xcnt_1 Xkinds_1 Xfirsts_1 Xseconds_1 Xheights_1 Xtables_1 replaced laid rules ps qs rs fs frules heads ends inforce usable summ checked stopped reason made opened rt hm boxOf shutBy around inner truth turned pile hR2 _ _ _ hPx hPm hS (lv_sub hl [1, 2, 3, 0] rfl)
      · refine pz_cases (P := sw = 1) (fun cs_1 => ?_) (fun cs_1 => ?_)
        · refine pz_table (tgt := 147) (off := 114) hx hb dL_law_33 rfl (by rw [cs_1]; rfl) (by decide) ?_
          refine lv_aload_n hx hb dL_law_147 rfl (lv_at hl 1 rfl) ?_
          refine lv_aload_n hx hb dL_law_148 rfl (lv_at hl 0 rfl) ?_
          refine lv_iload_n hx hb dL_law_149 rfl (lv_at hl 3 rfl) ?_
          refine lv_iconst (v := 1) hx hb dL_law_150 (by decide) ?_
          refine lv_iadd hx hb dL_law_151 ?_
          refine va_sld hx hb hXs hbl hbA hS (pz_sj h0 hL cL (by decide) (by decide)) dL_law_152 ?_
          refine lv_aload_n hx hb dL_law_153 rfl (lv_at hl 0 rfl) ?_
          refine lv_iload_n hx hb dL_law_154 rfl (lv_at hl 3 rfl) ?_
          refine lv_iconst (v := 2) hx hb dL_law_155 (by decide) ?_
          refine lv_iadd hx hb dL_law_156 ?_
          refine va_sld hx hb hXs hbl hbA hS (pz_sj h0 hL cL (by decide) (by decide)) dL_law_157 ?_
          refine pz_Li (As := [.int ((xs ((x3 + 1) : Int32).toNatClampNeg)), .int ((xs ((x3 + 2) : Int32).toNatClampNeg))]) (rest := []) ⟨hx, hb, hml, hown, hts⟩ (c_X3_about l D qx k t cnt kinds firsts seconds heights tables replaced laid rules ps qs rs fs frules heads ends inforce usable summ (xs ((x3 + 1) : Int32).toNatClampNeg) (xs ((x3 + 2) : Int32).toNatClampNeg) hR.1.1.1) (cwV 2 hts gL_law_X3_about rfl rfl rfl hdV_X3_about ⟨Nat.le_of_ble_eq_true rfl, Nat.le_of_ble_eq_true rfl⟩) pz_KX.call (hKX _ _ hS) (va_recv hK hPx (ci := 3) (q0 := 0) rfl rfl) hPx hS hIx rfl hl.1 rfl (Nat.le_of_ble_eq_true rfl) dL_law_158 ⟨Nat.le_of_ble_eq_true rfl, Nat.le_of_ble_eq_true rfl⟩ (fun r_3 u_3 H1 locs hF_3 hPx hk_3 hS => ?_)
          have hPm := pz_other hap rfl hPm hk_3
          have hPx : va_P D vwCl (pz_X qx k cnt kinds firsts seconds heights tables replaced laid rules ps qs rs fs frules heads ends inforce usable summ) H1 := hPx
          generalize H1 = H at hPx hPm hS ⊢
          refine lv_aload_n hx hb dL_law_161 rfl (lv_at hl 2 rfl) ?_
          refine lv_aload_n hx hb dL_law_162 rfl (lv_at hl 0 rfl) ?_
          refine lv_iload_n hx hb dL_law_163 rfl (lv_at hl 3 rfl) ?_
          refine lv_iconst (v := 1) hx hb dL_law_164 (by decide) ?_
          refine lv_iadd hx hb dL_law_165 ?_
          refine va_sld hx hb hXs hbl hbA hS (pz_sj h0 hL cL (by decide) (by decide)) dL_law_166 ?_
          refine lv_aload_n hx hb dL_law_167 rfl (lv_at hl 0 rfl) ?_
          refine lv_iload_n hx hb dL_law_168 rfl (lv_at hl 3 rfl) ?_
          refine lv_iconst (v := 2) hx hb dL_law_169 (by decide) ?_
          refine lv_iadd hx hb dL_law_170 ?_
          refine va_sld hx hb hXs hbl hbA hS (pz_sj h0 hL cL (by decide) (by decide)) dL_law_171 ?_
          refine pz_Li (As := [.int ((xs ((x3 + 1) : Int32).toNatClampNeg)), .int ((xs ((x3 + 2) : Int32).toNatClampNeg))]) (rest := [.int (r_3)]) ⟨hx, hb, hml, hown, hts⟩ (c_X4_about l D qm k cnt kinds firsts seconds heights laid rules ps qs rs fs checked stopped reason made opened rt hm boxOf shutBy around inner truth turned pile (xs ((x3 + 1) : Int32).toNatClampNeg) (xs ((x3 + 2) : Int32).toNatClampNeg) hR.1.1.1) (cwV 2 hts gL_law_X4_about rfl rfl rfl hdV_X4_about ⟨Nat.le_of_ble_eq_true rfl, Nat.le_of_ble_eq_true rfl⟩) pz_KM.call (fun U _ hW => hKM U hW) (va_recv hK hPm (ci := 4) (q0 := 0) rfl rfl) hPm hS hIm rfl hl.1 rfl (Nat.le_of_ble_eq_true rfl) dL_law_172 ⟨Nat.le_of_ble_eq_true rfl, Nat.le_of_ble_eq_true rfl⟩ (fun r_4 u_4 H1 locs hF_4 hPm hk_4 hS => ?_)
          have hPx := pz_other (fun i j hi hj e9 => hap j i hj hi e9.symm) rfl hPx hk_4
          have hPm : va_P D vwCl (pz_M qm k cnt kinds firsts seconds heights laid rules ps qs rs fs checked stopped reason made opened rt hm boxOf shutBy around inner truth turned pile) H1 := hPm
          generalize H1 = H at hPx hPm hS ⊢
          obtain ⟨hre, hR2⟩ := pz_eq_about hR hF_3 hF_4
          refine lv_icmp_eq (tgt := 528) hx hb dL_law_175 (by decide) (fun c_9 => ?_) (fun c_9 => absurd hre c_9)
          refine lv_iinc (v := (x3 + 7)) (lv' := [(3, .int (x3 + 7)), (0, .ref b), (1, .ref (qx 0)), (2, .ref (qm 0))]) hx hb dL_law_528 hl (k := 3) rfl rfl (by decide) rfl (fun ls hl => ?_)
          refine lv_goto (tgt := 18) hx hb dL_law_531 (by decide) ?_
          exact ih (x3 + 7) (by omega) (by omega) (by omega) cnt kinds firsts seconds heights tables replaced laid rules ps qs rs fs frules heads ends inforce usable summ checked stopped reason made opened rt hm boxOf shutBy around inner truth turned pile hR2 _ _ _ hPx hPm hS (lv_sub hl [1, 2, 3, 0] rfl)
        · refine pz_cases (P := sw = 2) (fun cs_2 => ?_) (fun cs_2 => ?_)
          · refine pz_table (tgt := 180) (off := 147) hx hb dL_law_33 rfl (by rw [cs_2]; rfl) (by decide) ?_
            refine lv_aload_n hx hb dL_law_180 rfl (lv_at hl 1 rfl) ?_
            refine lv_aload_n hx hb dL_law_181 rfl (lv_at hl 0 rfl) ?_
            refine lv_iload_n hx hb dL_law_182 rfl (lv_at hl 3 rfl) ?_
            refine lv_iconst (v := 1) hx hb dL_law_183 (by decide) ?_
            refine lv_iadd hx hb dL_law_184 ?_
            refine va_sld hx hb hXs hbl hbA hS (pz_sj h0 hL cL (by decide) (by decide)) dL_law_185 ?_
            refine lv_aload_n hx hb dL_law_186 rfl (lv_at hl 0 rfl) ?_
            refine lv_iload_n hx hb dL_law_187 rfl (lv_at hl 3 rfl) ?_
            refine lv_iconst (v := 2) hx hb dL_law_188 (by decide) ?_
            refine lv_iadd hx hb dL_law_189 ?_
            refine va_sld hx hb hXs hbl hbA hS (pz_sj h0 hL cL (by decide) (by decide)) dL_law_190 ?_
            refine pz_Li (As := [.int ((xs ((x3 + 1) : Int32).toNatClampNeg)), .int ((xs ((x3 + 2) : Int32).toNatClampNeg))]) (rest := []) ⟨hx, hb, hml, hown, hts⟩ (c_X3_value l D qx k t cnt kinds firsts seconds heights tables replaced laid rules ps qs rs fs frules heads ends inforce usable summ (xs ((x3 + 1) : Int32).toNatClampNeg) (xs ((x3 + 2) : Int32).toNatClampNeg) hR.1.1.1) (cwV 2 hts gL_law_X3_value rfl rfl rfl hdV_X3_value ⟨Nat.le_of_ble_eq_true rfl, Nat.le_of_ble_eq_true rfl⟩) pz_KX.call (hKX _ _ hS) (va_recv hK hPx (ci := 3) (q0 := 0) rfl rfl) hPx hS hIx rfl hl.1 rfl (Nat.le_of_ble_eq_true rfl) dL_law_191 ⟨Nat.le_of_ble_eq_true rfl, Nat.le_of_ble_eq_true rfl⟩ (fun r_5 u_5 H1 locs hF_5 hPx hk_5 hS => ?_)
            have hPm := pz_other hap rfl hPm hk_5
            have hPx : va_P D vwCl (pz_X qx k cnt kinds firsts seconds heights tables replaced laid rules ps qs rs fs frules heads ends inforce usable summ) H1 := hPx
            generalize H1 = H at hPx hPm hS ⊢
            refine lv_aload_n hx hb dL_law_194 rfl (lv_at hl 2 rfl) ?_
            refine lv_aload_n hx hb dL_law_195 rfl (lv_at hl 0 rfl) ?_
            refine lv_iload_n hx hb dL_law_196 rfl (lv_at hl 3 rfl) ?_
            refine lv_iconst (v := 1) hx hb dL_law_197 (by decide) ?_
            refine lv_iadd hx hb dL_law_198 ?_
            refine va_sld hx hb hXs hbl hbA hS (pz_sj h0 hL cL (by decide) (by decide)) dL_law_199 ?_
            refine lv_aload_n hx hb dL_law_200 rfl (lv_at hl 0 rfl) ?_
            refine lv_iload_n hx hb dL_law_201 rfl (lv_at hl 3 rfl) ?_
            refine lv_iconst (v := 2) hx hb dL_law_202 (by decide) ?_
            refine lv_iadd hx hb dL_law_203 ?_
            refine va_sld hx hb hXs hbl hbA hS (pz_sj h0 hL cL (by decide) (by decide)) dL_law_204 ?_
            refine pz_Li (As := [.int ((xs ((x3 + 1) : Int32).toNatClampNeg)), .int ((xs ((x3 + 2) : Int32).toNatClampNeg))]) (rest := [.int (r_5)]) ⟨hx, hb, hml, hown, hts⟩ (c_X4_value l D qm k cnt kinds firsts seconds heights laid rules ps qs rs fs checked stopped reason made opened rt hm boxOf shutBy around inner truth turned pile (xs ((x3 + 1) : Int32).toNatClampNeg) (xs ((x3 + 2) : Int32).toNatClampNeg) hR.1.1) (cwV 2 hts gL_law_X4_value rfl rfl rfl hdV_X4_value ⟨Nat.le_of_ble_eq_true rfl, Nat.le_of_ble_eq_true rfl⟩) pz_KM.call (fun U _ hW => hKM U hW) (va_recv hK hPm (ci := 4) (q0 := 0) rfl rfl) hPm hS hIm rfl hl.1 rfl (Nat.le_of_ble_eq_true rfl) dL_law_205 ⟨Nat.le_of_ble_eq_true rfl, Nat.le_of_ble_eq_true rfl⟩ (fun r_6 u_6 H1 locs hF_6 hPm hk_6 hS => ?_)
            obtain ⟨Mtruth_6, rfl⟩ : ∃ z, z = u_6 := ⟨_, rfl⟩
            have hPx := pz_other (fun i j hi hj e9 => hap j i hj hi e9.symm) rfl hPx hk_6
            have hPm : va_P D vwCl (pz_M qm k cnt kinds firsts seconds heights laid rules ps qs rs fs checked stopped reason made opened rt hm boxOf shutBy around inner Mtruth_6 turned pile) H1 := hPm
            generalize H1 = H at hPx hPm hS ⊢
            obtain ⟨hre, hR2⟩ := pz_eq_value hR hF_5 hF_6
            refine lv_icmp_eq (tgt := 528) hx hb dL_law_208 (by decide) (fun c_9 => ?_) (fun c_9 => absurd hre c_9)
            refine lv_iinc (v := (x3 + 7)) (lv' := [(3, .int (x3 + 7)), (0, .ref b), (1, .ref (qx 0)), (2, .ref (qm 0))]) hx hb dL_law_528 hl (k := 3) rfl rfl (by decide) rfl (fun ls hl => ?_)
            refine lv_goto (tgt := 18) hx hb dL_law_531 (by decide) ?_
            exact ih (x3 + 7) (by omega) (by omega) (by omega) cnt kinds firsts seconds heights tables replaced laid rules ps qs rs fs frules heads ends inforce usable summ checked stopped reason made opened rt hm boxOf shutBy around inner Mtruth_6 turned pile hR2 _ _ _ hPx hPm hS (lv_sub hl [1, 2, 3, 0] rfl)
          · refine pz_cases (P := sw = 3) (fun cs_3 => ?_) (fun cs_3 => ?_)
            · refine pz_table (tgt := 213) (off := 180) hx hb dL_law_33 rfl (by rw [cs_3]; rfl) (by decide) ?_
              refine lv_aload_n hx hb dL_law_213 rfl (lv_at hl 1 rfl) ?_
              refine lv_aload_n hx hb dL_law_214 rfl (lv_at hl 0 rfl) ?_
              refine lv_iload_n hx hb dL_law_215 rfl (lv_at hl 3 rfl) ?_
              refine lv_iconst (v := 1) hx hb dL_law_216 (by decide) ?_
              refine lv_iadd hx hb dL_law_217 ?_
              refine va_sld hx hb hXs hbl hbA hS (pz_sj h0 hL cL (by decide) (by decide)) dL_law_218 ?_
              refine pz_Li (As := [.int ((xs ((x3 + 1) : Int32).toNatClampNeg))]) (rest := []) ⟨hx, hb, hml, hown, hts⟩ (c_X3_truths l D qx k t cnt kinds firsts seconds heights tables replaced laid rules ps qs rs fs frules heads ends inforce usable summ (xs ((x3 + 1) : Int32).toNatClampNeg) hR.1.1.1) (cwV 1 hts gL_law_X3_truths rfl rfl rfl hdV_X3_truths ⟨Nat.le_of_ble_eq_true rfl, Nat.le_of_ble_eq_true rfl⟩) pz_KX.call (hKX _ _ hS) (va_recv hK hPx (ci := 3) (q0 := 0) rfl rfl) hPx hS hIx rfl hl.1 rfl (Nat.le_of_ble_eq_true rfl) dL_law_219 ⟨Nat.le_of_ble_eq_true rfl, Nat.le_of_ble_eq_true rfl⟩ (fun r_7 u_7 H1 locs hF_7 hPx hk_7 hS => ?_)
              have hPm := pz_other hap rfl hPm hk_7
              have hPx : va_P D vwCl (pz_X qx k cnt kinds firsts seconds heights tables replaced laid rules ps qs rs fs frules heads ends inforce usable summ) H1 := hPx
              generalize H1 = H at hPx hPm hS ⊢
              refine lv_aload_n hx hb dL_law_222 rfl (lv_at hl 2 rfl) ?_
              refine lv_aload_n hx hb dL_law_223 rfl (lv_at hl 0 rfl) ?_
              refine lv_iload_n hx hb dL_law_224 rfl (lv_at hl 3 rfl) ?_
              refine lv_iconst (v := 1) hx hb dL_law_225 (by decide) ?_
              refine lv_iadd hx hb dL_law_226 ?_
              refine va_sld hx hb hXs hbl hbA hS (pz_sj h0 hL cL (by decide) (by decide)) dL_law_227 ?_
              refine pz_Li (As := [.int ((xs ((x3 + 1) : Int32).toNatClampNeg))]) (rest := [.int (r_7)]) ⟨hx, hb, hml, hown, hts⟩ (c_X4_truths l D qm k cnt kinds firsts seconds heights laid rules ps qs rs fs checked stopped reason made opened rt hm boxOf shutBy around inner truth turned pile (xs ((x3 + 1) : Int32).toNatClampNeg) hR.1.1) (cwV 1 hts gL_law_X4_truths rfl rfl rfl hdV_X4_truths ⟨Nat.le_of_ble_eq_true rfl, Nat.le_of_ble_eq_true rfl⟩) pz_KM.call (fun U _ hW => hKM U hW) (va_recv hK hPm (ci := 4) (q0 := 0) rfl rfl) hPm hS hIm rfl hl.1 rfl (Nat.le_of_ble_eq_true rfl) dL_law_228 ⟨Nat.le_of_ble_eq_true rfl, Nat.le_of_ble_eq_true rfl⟩ (fun r_8 u_8 H1 locs hF_8 hPm hk_8 hS => ?_)
              obtain ⟨Mtruth_8, rfl⟩ : ∃ z, z = u_8 := ⟨_, rfl⟩
              have hPx := pz_other (fun i j hi hj e9 => hap j i hj hi e9.symm) rfl hPx hk_8
              have hPm : va_P D vwCl (pz_M qm k cnt kinds firsts seconds heights laid rules ps qs rs fs checked stopped reason made opened rt hm boxOf shutBy around inner Mtruth_8 turned pile) H1 := hPm
              generalize H1 = H at hPx hPm hS ⊢
              obtain ⟨hre, hR2⟩ := pz_eq_truths hR hF_7 hF_8
              refine lv_icmp_eq (tgt := 528) hx hb dL_law_231 (by decide) (fun c_9 => ?_) (fun c_9 => absurd hre c_9)
              refine lv_iinc (v := (x3 + 7)) (lv' := [(3, .int (x3 + 7)), (0, .ref b), (1, .ref (qx 0)), (2, .ref (qm 0))]) hx hb dL_law_528 hl (k := 3) rfl rfl (by decide) rfl (fun ls hl => ?_)
              refine lv_goto (tgt := 18) hx hb dL_law_531 (by decide) ?_
              exact ih (x3 + 7) (by omega) (by omega) (by omega) cnt kinds firsts seconds heights tables replaced laid rules ps qs rs fs frules heads ends inforce usable summ checked stopped reason made opened rt hm boxOf shutBy around inner Mtruth_8 turned pile hR2 _ _ _ hPx hPm hS (lv_sub hl [1, 2, 3, 0] rfl)
            · refine pz_cases (P := sw = 4) (fun cs_4 => ?_) (fun cs_4 => ?_)
              · refine pz_table (tgt := 236) (off := 203) hx hb dL_law_33 rfl (by rw [cs_4]; rfl) (by decide) ?_
                refine lv_aload_n hx hb dL_law_236 rfl (lv_at hl 1 rfl) ?_
                refine lv_aload_n hx hb dL_law_237 rfl (lv_at hl 0 rfl) ?_
                refine lv_iload_n hx hb dL_law_238 rfl (lv_at hl 3 rfl) ?_
                refine lv_iconst (v := 1) hx hb dL_law_239 (by decide) ?_
                refine lv_iadd hx hb dL_law_240 ?_
                refine va_sld hx hb hXs hbl hbA hS (pz_sj h0 hL cL (by decide) (by decide)) dL_law_241 ?_
                refine lv_aload_n hx hb dL_law_242 rfl (lv_at hl 0 rfl) ?_
                refine lv_iload_n hx hb dL_law_243 rfl (lv_at hl 3 rfl) ?_
                refine lv_iconst (v := 2) hx hb dL_law_244 (by decide) ?_
                refine lv_iadd hx hb dL_law_245 ?_
                refine va_sld hx hb hXs hbl hbA hS (pz_sj h0 hL cL (by decide) (by decide)) dL_law_246 ?_
                refine lv_aload_n hx hb dL_law_247 rfl (lv_at hl 0 rfl) ?_
                refine lv_iload_n hx hb dL_law_248 rfl (lv_at hl 3 rfl) ?_
                refine lv_iconst (v := 3) hx hb dL_law_249 (by decide) ?_
                refine lv_iadd hx hb dL_law_250 ?_
                refine va_sld hx hb hXs hbl hbA hS (pz_sj h0 hL cL (by decide) (by decide)) dL_law_251 ?_
                refine pz_Li (As := [.int ((xs ((x3 + 1) : Int32).toNatClampNeg)), .int ((xs ((x3 + 2) : Int32).toNatClampNeg)), .int ((xs ((x3 + 3) : Int32).toNatClampNeg))]) (rest := []) ⟨hx, hb, hml, hown, hts⟩ (c_X3_instead l D qx k t cnt kinds firsts seconds heights tables replaced laid rules ps qs rs fs frules heads ends inforce usable summ (xs ((x3 + 1) : Int32).toNatClampNeg) (xs ((x3 + 2) : Int32).toNatClampNeg) (xs ((x3 + 3) : Int32).toNatClampNeg) hR.1.1.1) (cwV 3 hts gL_law_X3_instead rfl rfl rfl hdV_X3_instead ⟨Nat.le_of_ble_eq_true rfl, Nat.le_of_ble_eq_true rfl⟩) pz_KX.call (hKX _ _ hS) (va_recv hK hPx (ci := 3) (q0 := 0) rfl rfl) hPx hS hIx rfl hl.1 rfl (Nat.le_of_ble_eq_true rfl) dL_law_252 ⟨Nat.le_of_ble_eq_true rfl, Nat.le_of_ble_eq_true rfl⟩ (fun r_9 u_9 H1 locs hF_9 hPx hk_9 hS => ?_)
                obtain ⟨Xcnt_9, Xkinds_9, Xfirsts_9, Xseconds_9, Xheights_9, Xtables_9, Xreplaced_9⟩ := u_9
                have hPm := pz_other hap rfl hPm hk_9
                have hPx : va_P D vwCl (pz_X qx k Xcnt_9 Xkinds_9 Xfirsts_9 Xseconds_9 Xheights_9 Xtables_9 Xreplaced_9 laid rules ps qs rs fs frules heads ends inforce usable summ) H1 := hPx
                generalize H1 = H at hPx hPm hS ⊢
                refine lv_aload_n hx hb dL_law_255 rfl (lv_at hl 2 rfl) ?_
                refine lv_aload_n hx hb dL_law_256 rfl (lv_at hl 0 rfl) ?_
                refine lv_iload_n hx hb dL_law_257 rfl (lv_at hl 3 rfl) ?_
                refine lv_iconst (v := 1) hx hb dL_law_258 (by decide) ?_
                refine lv_iadd hx hb dL_law_259 ?_
                refine va_sld hx hb hXs hbl hbA hS (pz_sj h0 hL cL (by decide) (by decide)) dL_law_260 ?_
                refine lv_aload_n hx hb dL_law_261 rfl (lv_at hl 0 rfl) ?_
                refine lv_iload_n hx hb dL_law_262 rfl (lv_at hl 3 rfl) ?_
                refine lv_iconst (v := 2) hx hb dL_law_263 (by decide) ?_
                refine lv_iadd hx hb dL_law_264 ?_
                refine va_sld hx hb hXs hbl hbA hS (pz_sj h0 hL cL (by decide) (by decide)) dL_law_265 ?_
                refine lv_aload_n hx hb dL_law_266 rfl (lv_at hl 0 rfl) ?_
                refine lv_iload_n hx hb dL_law_267 rfl (lv_at hl 3 rfl) ?_
                refine lv_iconst (v := 3) hx hb dL_law_268 (by decide) ?_
                refine lv_iadd hx hb dL_law_269 ?_
                refine va_sld hx hb hXs hbl hbA hS (pz_sj h0 hL cL (by decide) (by decide)) dL_law_270 ?_
                refine pz_Li (As := [.int ((xs ((x3 + 1) : Int32).toNatClampNeg)), .int ((xs ((x3 + 2) : Int32).toNatClampNeg)), .int ((xs ((x3 + 3) : Int32).toNatClampNeg))]) (rest := [.int (r_9)]) ⟨hx, hb, hml, hown, hts⟩ (c_X4_instead l D qm k cnt kinds firsts seconds heights laid rules ps qs rs fs checked stopped reason made opened rt hm boxOf shutBy around inner truth turned pile (xs ((x3 + 1) : Int32).toNatClampNeg) (xs ((x3 + 2) : Int32).toNatClampNeg) (xs ((x3 + 3) : Int32).toNatClampNeg) hR.1.1 hR.1.kn) (cwV 3 hts gL_law_X4_instead rfl rfl rfl hdV_X4_instead ⟨Nat.le_of_ble_eq_true rfl, Nat.le_of_ble_eq_true rfl⟩) pz_KM.call (fun U _ hW => hKM U hW) (va_recv hK hPm (ci := 4) (q0 := 0) rfl rfl) hPm hS hIm rfl hl.1 rfl (Nat.le_of_ble_eq_true rfl) dL_law_271 ⟨Nat.le_of_ble_eq_true rfl, Nat.le_of_ble_eq_true rfl⟩ (fun r_10 u_10 H1 locs hF_10 hPm hk_10 hS => ?_)
                obtain ⟨Mcnt_10, Mkinds_10, Mfirsts_10, Mseconds_10, Mheights_10, Mturned_10, Mpile_10⟩ := u_10
                have hPx := pz_other (fun i j hi hj e9 => hap j i hj hi e9.symm) rfl hPx hk_10
                have hPm : va_P D vwCl (pz_M qm k Mcnt_10 Mkinds_10 Mfirsts_10 Mseconds_10 Mheights_10 laid rules ps qs rs fs checked stopped reason made opened rt hm boxOf shutBy around inner truth Mturned_10 Mpile_10) H1 := hPm
                generalize H1 = H at hPx hPm hS ⊢
                obtain ⟨hre, e_cnt, e_kinds, e_firsts, e_seconds, e_heights, hR2⟩ := pz_eq_instead hR hF_9 hF_10
                subst e_cnt
                subst e_kinds
                subst e_firsts
                subst e_seconds
                subst e_heights
                refine lv_icmp_eq (tgt := 528) hx hb dL_law_274 (by decide) (fun c_9 => ?_) (fun c_9 => absurd hre c_9)
                refine lv_iinc (v := (x3 + 7)) (lv' := [(3, .int (x3 + 7)), (0, .ref b), (1, .ref (qx 0)), (2, .ref (qm 0))]) hx hb dL_law_528 hl (k := 3) rfl rfl (by decide) rfl (fun ls hl => ?_)
                refine lv_goto (tgt := 18) hx hb dL_law_531 (by decide) ?_
                exact ih (x3 + 7) (by omega) (by omega) (by omega) Xcnt_9 Xkinds_9 Xfirsts_9 Xseconds_9 Xheights_9 Xtables_9 Xreplaced_9 laid rules ps qs rs fs frules heads ends inforce usable summ checked stopped reason made opened rt hm boxOf shutBy around inner truth Mturned_10 Mpile_10 hR2 _ _ _ hPx hPm hS (lv_sub hl [1, 2, 3, 0] rfl)
              · refine pz_cases (P := sw = 5) (fun cs_5 => ?_) (fun cs_5 => ?_)
                · refine pz_table (tgt := 279) (off := 246) hx hb dL_law_33 rfl (by rw [cs_5]; rfl) (by decide) ?_
                  refine lv_aload_n hx hb dL_law_279 rfl (lv_at hl 1 rfl) ?_
                  refine lv_aload_n hx hb dL_law_280 rfl (lv_at hl 0 rfl) ?_
                  refine lv_iload_n hx hb dL_law_281 rfl (lv_at hl 3 rfl) ?_
                  refine lv_iconst (v := 1) hx hb dL_law_282 (by decide) ?_
                  refine lv_iadd hx hb dL_law_283 ?_
                  refine va_sld hx hb hXs hbl hbA hS (pz_sj h0 hL cL (by decide) (by decide)) dL_law_284 ?_
                  refine lv_aload_n hx hb dL_law_285 rfl (lv_at hl 0 rfl) ?_
                  refine lv_iload_n hx hb dL_law_286 rfl (lv_at hl 3 rfl) ?_
                  refine lv_iconst (v := 2) hx hb dL_law_287 (by decide) ?_
                  refine lv_iadd hx hb dL_law_288 ?_
                  refine va_sld hx hb hXs hbl hbA hS (pz_sj h0 hL cL (by decide) (by decide)) dL_law_289 ?_
                  refine lv_aload_n hx hb dL_law_290 rfl (lv_at hl 0 rfl) ?_
                  refine lv_iload_n hx hb dL_law_291 rfl (lv_at hl 3 rfl) ?_
                  refine lv_iconst (v := 3) hx hb dL_law_292 (by decide) ?_
                  refine lv_iadd hx hb dL_law_293 ?_
                  refine va_sld hx hb hXs hbl hbA hS (pz_sj h0 hL cL (by decide) (by decide)) dL_law_294 ?_
                  refine lv_aload_n hx hb dL_law_295 rfl (lv_at hl 0 rfl) ?_
                  refine lv_iload_n hx hb dL_law_296 rfl (lv_at hl 3 rfl) ?_
                  refine lv_iconst (v := 4) hx hb dL_law_297 (by decide) ?_
                  refine lv_iadd hx hb dL_law_298 ?_
                  refine va_sld hx hb hXs hbl hbA hS (pz_sj h0 hL cL (by decide) (by decide)) dL_law_299 ?_
                  refine lv_aload_n hx hb dL_law_300 rfl (lv_at hl 0 rfl) ?_
                  refine lv_iload_n hx hb dL_law_301 rfl (lv_at hl 3 rfl) ?_
                  refine lv_iconst (v := 5) hx hb dL_law_302 (by decide) ?_
                  refine lv_iadd hx hb dL_law_303 ?_
                  refine va_sld hx hb hXs hbl hbA hS (pz_sj h0 hL cL (by decide) (by decide)) dL_law_304 ?_
                  refine lv_aload_n hx hb dL_law_305 rfl (lv_at hl 0 rfl) ?_
                  refine lv_iload_n hx hb dL_law_306 rfl (lv_at hl 3 rfl) ?_
                  refine lv_bipush (v := 6) hx hb dL_law_307 (by decide) ?_
                  refine lv_iadd hx hb dL_law_309 ?_
                  refine va_sld hx hb hXs hbl hbA hS (pz_sj h0 hL cL (by decide) (by decide)) dL_law_310 ?_
                  refine pz_Li (As := [.int ((xs ((x3 + 1) : Int32).toNatClampNeg)), .int ((xs ((x3 + 2) : Int32).toNatClampNeg)), .int ((xs ((x3 + 3) : Int32).toNatClampNeg)), .int ((xs ((x3 + 4) : Int32).toNatClampNeg)), .int ((xs ((x3 + 5) : Int32).toNatClampNeg)), .int ((xs ((x3 + 6) : Int32).toNatClampNeg))]) (rest := []) ⟨hx, hb, hml, hown, hts⟩ (c_X3_lay l D qx k t cnt kinds firsts seconds heights tables replaced laid rules ps qs rs fs frules heads ends inforce usable summ (xs ((x3 + 1) : Int32).toNatClampNeg) (xs ((x3 + 2) : Int32).toNatClampNeg) (xs ((x3 + 3) : Int32).toNatClampNeg) (xs ((x3 + 4) : Int32).toNatClampNeg) (xs ((x3 + 5) : Int32).toNatClampNeg) (xs ((x3 + 6) : Int32).toNatClampNeg)) (cwV 6 hts gL_law_X3_lay rfl rfl rfl hdV_X3_lay ⟨Nat.le_of_ble_eq_true rfl, Nat.le_of_ble_eq_true rfl⟩) pz_KX.call (hKX _ _ hS) (va_recv hK hPx (ci := 3) (q0 := 0) rfl rfl) hPx hS hIx rfl hl.1 rfl (Nat.le_of_ble_eq_true rfl) dL_law_311 ⟨Nat.le_of_ble_eq_true rfl, Nat.le_of_ble_eq_true rfl⟩ (fun r_11 u_11 H1 locs hF_11 hPx hk_11 hS => ?_)
                  obtain ⟨Xlaid_11, Xrules_11, Xps_11, Xqs_11, Xrs_11, Xfs_11⟩ := u_11
                  have hPm := pz_other hap rfl hPm hk_11
                  have hPx : va_P D vwCl (pz_X qx k cnt kinds firsts seconds heights tables replaced Xlaid_11 Xrules_11 Xps_11 Xqs_11 Xrs_11 Xfs_11 frules heads ends inforce usable summ) H1 := hPx
                  generalize H1 = H at hPx hPm hS ⊢
                  refine lv_aload_n hx hb dL_law_314 rfl (lv_at hl 2 rfl) ?_
                  refine lv_aload_n hx hb dL_law_315 rfl (lv_at hl 0 rfl) ?_
                  refine lv_iload_n hx hb dL_law_316 rfl (lv_at hl 3 rfl) ?_
                  refine lv_iconst (v := 1) hx hb dL_law_317 (by decide) ?_
                  refine lv_iadd hx hb dL_law_318 ?_
                  refine va_sld hx hb hXs hbl hbA hS (pz_sj h0 hL cL (by decide) (by decide)) dL_law_319 ?_
                  refine lv_aload_n hx hb dL_law_320 rfl (lv_at hl 0 rfl) ?_
                  refine lv_iload_n hx hb dL_law_321 rfl (lv_at hl 3 rfl) ?_
                  refine lv_iconst (v := 2) hx hb dL_law_322 (by decide) ?_
                  refine lv_iadd hx hb dL_law_323 ?_
                  refine va_sld hx hb hXs hbl hbA hS (pz_sj h0 hL cL (by decide) (by decide)) dL_law_324 ?_
                  refine lv_aload_n hx hb dL_law_325 rfl (lv_at hl 0 rfl) ?_
                  refine lv_iload_n hx hb dL_law_326 rfl (lv_at hl 3 rfl) ?_
                  refine lv_iconst (v := 3) hx hb dL_law_327 (by decide) ?_
                  refine lv_iadd hx hb dL_law_328 ?_
                  refine va_sld hx hb hXs hbl hbA hS (pz_sj h0 hL cL (by decide) (by decide)) dL_law_329 ?_
                  refine lv_aload_n hx hb dL_law_330 rfl (lv_at hl 0 rfl) ?_
                  refine lv_iload_n hx hb dL_law_331 rfl (lv_at hl 3 rfl) ?_
                  refine lv_iconst (v := 4) hx hb dL_law_332 (by decide) ?_
                  refine lv_iadd hx hb dL_law_333 ?_
                  refine va_sld hx hb hXs hbl hbA hS (pz_sj h0 hL cL (by decide) (by decide)) dL_law_334 ?_
                  refine lv_aload_n hx hb dL_law_335 rfl (lv_at hl 0 rfl) ?_
                  refine lv_iload_n hx hb dL_law_336 rfl (lv_at hl 3 rfl) ?_
                  refine lv_iconst (v := 5) hx hb dL_law_337 (by decide) ?_
                  refine lv_iadd hx hb dL_law_338 ?_
                  refine va_sld hx hb hXs hbl hbA hS (pz_sj h0 hL cL (by decide) (by decide)) dL_law_339 ?_
                  refine lv_aload_n hx hb dL_law_340 rfl (lv_at hl 0 rfl) ?_
                  refine lv_iload_n hx hb dL_law_341 rfl (lv_at hl 3 rfl) ?_
                  refine lv_bipush (v := 6) hx hb dL_law_342 (by decide) ?_
                  refine lv_iadd hx hb dL_law_344 ?_
                  refine va_sld hx hb hXs hbl hbA hS (pz_sj h0 hL cL (by decide) (by decide)) dL_law_345 ?_
                  refine pz_Li (As := [.int ((xs ((x3 + 1) : Int32).toNatClampNeg)), .int ((xs ((x3 + 2) : Int32).toNatClampNeg)), .int ((xs ((x3 + 3) : Int32).toNatClampNeg)), .int ((xs ((x3 + 4) : Int32).toNatClampNeg)), .int ((xs ((x3 + 5) : Int32).toNatClampNeg)), .int ((xs ((x3 + 6) : Int32).toNatClampNeg))]) (rest := [.int (r_11)]) ⟨hx, hb, hml, hown, hts⟩ (c_X4_lay l D qm k cnt kinds firsts seconds heights laid rules ps qs rs fs checked stopped reason made opened rt hm boxOf shutBy around inner truth turned pile (xs ((x3 + 1) : Int32).toNatClampNeg) (xs ((x3 + 2) : Int32).toNatClampNeg) (xs ((x3 + 3) : Int32).toNatClampNeg) (xs ((x3 + 4) : Int32).toNatClampNeg) (xs ((x3 + 5) : Int32).toNatClampNeg) (xs ((x3 + 6) : Int32).toNatClampNeg)) (cwV 6 hts gL_law_X4_lay rfl rfl rfl hdV_X4_lay ⟨Nat.le_of_ble_eq_true rfl, Nat.le_of_ble_eq_true rfl⟩) pz_KM.call (fun U _ hW => hKM U hW) (va_recv hK hPm (ci := 4) (q0 := 0) rfl rfl) hPm hS hIm rfl hl.1 rfl (Nat.le_of_ble_eq_true rfl) dL_law_346 ⟨Nat.le_of_ble_eq_true rfl, Nat.le_of_ble_eq_true rfl⟩ (fun r_12 u_12 H1 locs hF_12 hPm hk_12 hS => ?_)
                  obtain ⟨Mlaid_12, Mrules_12, Mps_12, Mqs_12, Mrs_12, Mfs_12⟩ := u_12
                  have hPx := pz_other (fun i j hi hj e9 => hap j i hj hi e9.symm) rfl hPx hk_12
                  have hPm : va_P D vwCl (pz_M qm k cnt kinds firsts seconds heights Mlaid_12 Mrules_12 Mps_12 Mqs_12 Mrs_12 Mfs_12 checked stopped reason made opened rt hm boxOf shutBy around inner truth turned pile) H1 := hPm
                  generalize H1 = H at hPx hPm hS ⊢
                  obtain ⟨hre, e_laid, e_rules, e_ps, e_qs, e_rs, e_fs, hR2⟩ := pz_eq_lay hR hF_11 hF_12
                  subst e_laid
                  subst e_rules
                  subst e_ps
                  subst e_qs
                  subst e_rs
                  subst e_fs
                  refine lv_icmp_eq (tgt := 528) hx hb dL_law_349 (by decide) (fun c_9 => ?_) (fun c_9 => absurd hre c_9)
                  refine lv_iinc (v := (x3 + 7)) (lv' := [(3, .int (x3 + 7)), (0, .ref b), (1, .ref (qx 0)), (2, .ref (qm 0))]) hx hb dL_law_528 hl (k := 3) rfl rfl (by decide) rfl (fun ls hl => ?_)
                  refine lv_goto (tgt := 18) hx hb dL_law_531 (by decide) ?_
                  exact ih (x3 + 7) (by omega) (by omega) (by omega) cnt kinds firsts seconds heights tables replaced Xlaid_11 Xrules_11 Xps_11 Xqs_11 Xrs_11 Xfs_11 frules heads ends inforce usable summ checked stopped reason made opened rt hm boxOf shutBy around inner truth turned pile hR2 _ _ _ hPx hPm hS (lv_sub hl [1, 2, 3, 0] rfl)
                · refine pz_cases (P := sw = 6) (fun cs_6 => ?_) (fun cs_6 => ?_)
                  · refine pz_table (tgt := 354) (off := 321) hx hb dL_law_33 rfl (by rw [cs_6]; rfl) (by decide) ?_
                    refine lv_aload_n hx hb dL_law_354 rfl (lv_at hl 1 rfl) ?_
                    refine lv_aload_n hx hb dL_law_355 rfl (lv_at hl 0 rfl) ?_
                    refine lv_iload_n hx hb dL_law_356 rfl (lv_at hl 3 rfl) ?_
                    refine lv_iconst (v := 1) hx hb dL_law_357 (by decide) ?_
                    refine lv_iadd hx hb dL_law_358 ?_
                    refine va_sld hx hb hXs hbl hbA hS (pz_sj h0 hL cL (by decide) (by decide)) dL_law_359 ?_
                    refine pz_Li (As := [.int ((xs ((x3 + 1) : Int32).toNatClampNeg))]) (rest := []) ⟨hx, hb, hml, hown, hts⟩ (c_X3_take l D qx k t cnt kinds firsts seconds heights tables replaced laid rules ps qs rs fs frules heads ends inforce usable summ (xs ((x3 + 1) : Int32).toNatClampNeg)) (cwV 1 hts gL_law_X3_take rfl rfl rfl hdV_X3_take ⟨Nat.le_of_ble_eq_true rfl, Nat.le_of_ble_eq_true rfl⟩) pz_KX.call (hKX _ _ hS) (va_recv hK hPx (ci := 3) (q0 := 0) rfl rfl) hPx hS hIx rfl hl.1 rfl (Nat.le_of_ble_eq_true rfl) dL_law_360 ⟨Nat.le_of_ble_eq_true rfl, Nat.le_of_ble_eq_true rfl⟩ (fun r_13 u_13 H1 locs hF_13 hPx hk_13 hS => ?_)
                    obtain ⟨Xlaid_13, rfl⟩ : ∃ z, z = u_13 := ⟨_, rfl⟩
                    have hPm := pz_other hap rfl hPm hk_13
                    have hPx : va_P D vwCl (pz_X qx k cnt kinds firsts seconds heights tables replaced Xlaid_13 rules ps qs rs fs frules heads ends inforce usable summ) H1 := hPx
                    generalize H1 = H at hPx hPm hS ⊢
                    refine lv_aload_n hx hb dL_law_363 rfl (lv_at hl 2 rfl) ?_
                    refine lv_aload_n hx hb dL_law_364 rfl (lv_at hl 0 rfl) ?_
                    refine lv_iload_n hx hb dL_law_365 rfl (lv_at hl 3 rfl) ?_
                    refine lv_iconst (v := 1) hx hb dL_law_366 (by decide) ?_
                    refine lv_iadd hx hb dL_law_367 ?_
                    refine va_sld hx hb hXs hbl hbA hS (pz_sj h0 hL cL (by decide) (by decide)) dL_law_368 ?_
                    refine pz_Li (As := [.int ((xs ((x3 + 1) : Int32).toNatClampNeg))]) (rest := [.int (r_13)]) ⟨hx, hb, hml, hown, hts⟩ (c_X4_take l D qm k cnt kinds firsts seconds heights laid rules ps qs rs fs checked stopped reason made opened rt hm boxOf shutBy around inner truth turned pile (xs ((x3 + 1) : Int32).toNatClampNeg)) (cwV 1 hts gL_law_X4_take rfl rfl rfl hdV_X4_take ⟨Nat.le_of_ble_eq_true rfl, Nat.le_of_ble_eq_true rfl⟩) pz_KM.call (fun U _ hW => hKM U hW) (va_recv hK hPm (ci := 4) (q0 := 0) rfl rfl) hPm hS hIm rfl hl.1 rfl (Nat.le_of_ble_eq_true rfl) dL_law_369 ⟨Nat.le_of_ble_eq_true rfl, Nat.le_of_ble_eq_true rfl⟩ (fun r_14 u_14 H1 locs hF_14 hPm hk_14 hS => ?_)
                    obtain ⟨Mlaid_14, rfl⟩ : ∃ z, z = u_14 := ⟨_, rfl⟩
                    have hPx := pz_other (fun i j hi hj e9 => hap j i hj hi e9.symm) rfl hPx hk_14
                    have hPm : va_P D vwCl (pz_M qm k cnt kinds firsts seconds heights Mlaid_14 rules ps qs rs fs checked stopped reason made opened rt hm boxOf shutBy around inner truth turned pile) H1 := hPm
                    generalize H1 = H at hPx hPm hS ⊢
                    obtain ⟨hre, e_laid, hR2⟩ := pz_eq_take hR hF_13 hF_14
                    subst e_laid
                    refine lv_icmp_eq (tgt := 528) hx hb dL_law_372 (by decide) (fun c_9 => ?_) (fun c_9 => absurd hre c_9)
                    refine lv_iinc (v := (x3 + 7)) (lv' := [(3, .int (x3 + 7)), (0, .ref b), (1, .ref (qx 0)), (2, .ref (qm 0))]) hx hb dL_law_528 hl (k := 3) rfl rfl (by decide) rfl (fun ls hl => ?_)
                    refine lv_goto (tgt := 18) hx hb dL_law_531 (by decide) ?_
                    exact ih (x3 + 7) (by omega) (by omega) (by omega) cnt kinds firsts seconds heights tables replaced Xlaid_13 rules ps qs rs fs frules heads ends inforce usable summ checked stopped reason made opened rt hm boxOf shutBy around inner truth turned pile hR2 _ _ _ hPx hPm hS (lv_sub hl [1, 2, 3, 0] rfl)
                  · refine pz_cases (P := sw = 7) (fun cs_7 => ?_) (fun cs_7 => ?_)
                    · refine pz_table (tgt := 377) (off := 344) hx hb dL_law_33 rfl (by rw [cs_7]; rfl) (by decide) ?_
                      refine lv_aload_n hx hb dL_law_377 rfl (lv_at hl 1 rfl) ?_
                      refine pz_Li (As := []) (rest := []) ⟨hx, hb, hml, hown, hts⟩ (c_X3_check l D qx k t cnt kinds firsts seconds heights tables replaced laid rules ps qs rs fs frules heads ends inforce usable summ hR.1.1.1) (cwV 0 hts gL_law_X3_check rfl rfl rfl hdV_X3_check ⟨Nat.le_of_ble_eq_true rfl, Nat.le_of_ble_eq_true rfl⟩) pz_KX.call (hKX _ _ hS) (va_recv hK hPx (ci := 3) (q0 := 0) rfl rfl) hPx hS hIx rfl hl.1 rfl (Nat.le_of_ble_eq_true rfl) dL_law_378 ⟨Nat.le_of_ble_eq_true rfl, Nat.le_of_ble_eq_true rfl⟩ (fun r_15 u_15 H1 locs hF_15 hPx hk_15 hS => ?_)
                      obtain ⟨Xcnt_15, Xkinds_15, Xfirsts_15, Xseconds_15, Xheights_15, Xtables_15, Xfrules_15, Xheads_15, Xends_15, Xinforce_15, Xusable_15, Xsumm_15⟩ := u_15
                      have hPm := pz_other hap rfl hPm hk_15
                      have hPx : va_P D vwCl (pz_X qx k Xcnt_15 Xkinds_15 Xfirsts_15 Xseconds_15 Xheights_15 Xtables_15 replaced laid rules ps qs rs fs Xfrules_15 Xheads_15 Xends_15 Xinforce_15 Xusable_15 Xsumm_15) H1 := hPx
                      generalize H1 = H at hPx hPm hS ⊢
                      refine lv_aload_n hx hb dL_law_381 rfl (lv_at hl 2 rfl) ?_
                      refine pz_Li (As := []) (rest := [.int (r_15)]) ⟨hx, hb, hml, hown, hts⟩ (c_X4_check l D qm k cnt kinds firsts seconds heights laid rules ps qs rs fs checked stopped reason made opened rt hm boxOf shutBy around inner truth turned pile hR.1.1) (cwV 0 hts gL_law_X4_check rfl rfl rfl hdV_X4_check ⟨Nat.le_of_ble_eq_true rfl, Nat.le_of_ble_eq_true rfl⟩) pz_KM.call (fun U _ hW => hKM U hW) (va_recv hK hPm (ci := 4) (q0 := 0) rfl rfl) hPm hS hIm rfl hl.1 rfl (Nat.le_of_ble_eq_true rfl) dL_law_382 ⟨Nat.le_of_ble_eq_true rfl, Nat.le_of_ble_eq_true rfl⟩ (fun r_16 u_16 H1 locs hF_16 hPm hk_16 hS => ?_)
                      obtain ⟨Mcnt_16, Mkinds_16, Mfirsts_16, Mseconds_16, Mheights_16, Mchecked_16, Mstopped_16, Mreason_16, Mmade_16, Mopened_16, Mrt_16, Mhm_16, MboxOf_16, MshutBy_16, Maround_16, Minner_16⟩ := u_16
                      have hPx := pz_other (fun i j hi hj e9 => hap j i hj hi e9.symm) rfl hPx hk_16
                      have hPm : va_P D vwCl (pz_M qm k Mcnt_16 Mkinds_16 Mfirsts_16 Mseconds_16 Mheights_16 laid rules ps qs rs fs Mchecked_16 Mstopped_16 Mreason_16 Mmade_16 Mopened_16 Mrt_16 Mhm_16 MboxOf_16 MshutBy_16 Maround_16 Minner_16 truth turned pile) H1 := hPm
                      generalize H1 = H at hPx hPm hS ⊢
                      obtain ⟨hre, e_cnt, e_kinds, e_firsts, e_seconds, e_heights, hR2⟩ := pz_eq_check hR hF_15 hF_16
                      subst e_cnt
                      subst e_kinds
                      subst e_firsts
                      subst e_seconds
                      subst e_heights
                      refine lv_icmp_eq (tgt := 528) hx hb dL_law_385 (by decide) (fun c_9 => ?_) (fun c_9 => absurd hre c_9)
                      refine lv_iinc (v := (x3 + 7)) (lv' := [(3, .int (x3 + 7)), (0, .ref b), (1, .ref (qx 0)), (2, .ref (qm 0))]) hx hb dL_law_528 hl (k := 3) rfl rfl (by decide) rfl (fun ls hl => ?_)
                      refine lv_goto (tgt := 18) hx hb dL_law_531 (by decide) ?_
                      exact ih (x3 + 7) (by omega) (by omega) (by omega) Xcnt_15 Xkinds_15 Xfirsts_15 Xseconds_15 Xheights_15 Xtables_15 replaced laid rules ps qs rs fs Xfrules_15 Xheads_15 Xends_15 Xinforce_15 Xusable_15 Xsumm_15 Mchecked_16 Mstopped_16 Mreason_16 Mmade_16 Mopened_16 Mrt_16 Mhm_16 MboxOf_16 MshutBy_16 Maround_16 Minner_16 truth turned pile hR2 _ _ _ hPx hPm hS (lv_sub hl [1, 2, 3, 0] rfl)
                    · refine pz_cases (P := sw = 8) (fun cs_8 => ?_) (fun cs_8 => ?_)
                      · refine pz_table (tgt := 390) (off := 357) hx hb dL_law_33 rfl (by rw [cs_8]; rfl) (by decide) ?_
                        refine lv_aload_n hx hb dL_law_390 rfl (lv_at hl 1 rfl) ?_
                        refine lv_aload_n hx hb dL_law_391 rfl (lv_at hl 0 rfl) ?_
                        refine lv_iload_n hx hb dL_law_392 rfl (lv_at hl 3 rfl) ?_
                        refine lv_iconst (v := 1) hx hb dL_law_393 (by decide) ?_
                        refine lv_iadd hx hb dL_law_394 ?_
                        refine va_sld hx hb hXs hbl hbA hS (pz_sj h0 hL cL (by decide) (by decide)) dL_law_395 ?_
                        refine pz_Li (As := [.int ((xs ((x3 + 1) : Int32).toNatClampNeg))]) (rest := []) ⟨hx, hb, hml, hown, hts⟩ (c_X3_told l D qx k t cnt kinds firsts seconds heights tables replaced laid rules ps qs rs fs frules heads ends inforce usable summ (xs ((x3 + 1) : Int32).toNatClampNeg)) (cwV 1 hts gL_law_X3_told rfl rfl rfl hdV_X3_told ⟨Nat.le_of_ble_eq_true rfl, Nat.le_of_ble_eq_true rfl⟩) pz_KX.call (hKX _ _ hS) (va_recv hK hPx (ci := 3) (q0 := 0) rfl rfl) hPx hS hIx rfl hl.1 rfl (Nat.le_of_ble_eq_true rfl) dL_law_396 ⟨Nat.le_of_ble_eq_true rfl, Nat.le_of_ble_eq_true rfl⟩ (fun r_17 u_17 H1 locs hF_17 hPx hk_17 hS => ?_)
                        have hPm := pz_other hap rfl hPm hk_17
                        have hPx : va_P D vwCl (pz_X qx k cnt kinds firsts seconds heights tables replaced laid rules ps qs rs fs frules heads ends inforce usable summ) H1 := hPx
                        generalize H1 = H at hPx hPm hS ⊢
                        refine lv_aload_n hx hb dL_law_399 rfl (lv_at hl 2 rfl) ?_
                        refine lv_aload_n hx hb dL_law_400 rfl (lv_at hl 0 rfl) ?_
                        refine lv_iload_n hx hb dL_law_401 rfl (lv_at hl 3 rfl) ?_
                        refine lv_iconst (v := 1) hx hb dL_law_402 (by decide) ?_
                        refine lv_iadd hx hb dL_law_403 ?_
                        refine va_sld hx hb hXs hbl hbA hS (pz_sj h0 hL cL (by decide) (by decide)) dL_law_404 ?_
                        refine pz_Li (As := [.int ((xs ((x3 + 1) : Int32).toNatClampNeg))]) (rest := [.int (r_17)]) ⟨hx, hb, hml, hown, hts⟩ (c_X4_told l D qm k cnt kinds firsts seconds heights laid rules ps qs rs fs checked stopped reason made opened rt hm boxOf shutBy around inner truth turned pile (xs ((x3 + 1) : Int32).toNatClampNeg)) (cwV 1 hts gL_law_X4_told rfl rfl rfl hdV_X4_told ⟨Nat.le_of_ble_eq_true rfl, Nat.le_of_ble_eq_true rfl⟩) pz_KM.call (fun U _ hW => hKM U hW) (va_recv hK hPm (ci := 4) (q0 := 0) rfl rfl) hPm hS hIm rfl hl.1 rfl (Nat.le_of_ble_eq_true rfl) dL_law_405 ⟨Nat.le_of_ble_eq_true rfl, Nat.le_of_ble_eq_true rfl⟩ (fun r_18 u_18 H1 locs hF_18 hPm hk_18 hS => ?_)
                        have hPx := pz_other (fun i j hi hj e9 => hap j i hj hi e9.symm) rfl hPx hk_18
                        have hPm : va_P D vwCl (pz_M qm k cnt kinds firsts seconds heights laid rules ps qs rs fs checked stopped reason made opened rt hm boxOf shutBy around inner truth turned pile) H1 := hPm
                        generalize H1 = H at hPx hPm hS ⊢
                        obtain ⟨hre, hR2⟩ := pz_eq_told hR hF_17 hF_18
                        refine lv_icmp_eq (tgt := 528) hx hb dL_law_408 (by decide) (fun c_9 => ?_) (fun c_9 => absurd hre c_9)
                        refine lv_iinc (v := (x3 + 7)) (lv' := [(3, .int (x3 + 7)), (0, .ref b), (1, .ref (qx 0)), (2, .ref (qm 0))]) hx hb dL_law_528 hl (k := 3) rfl rfl (by decide) rfl (fun ls hl => ?_)
                        refine lv_goto (tgt := 18) hx hb dL_law_531 (by decide) ?_
                        exact ih (x3 + 7) (by omega) (by omega) (by omega) cnt kinds firsts seconds heights tables replaced laid rules ps qs rs fs frules heads ends inforce usable summ checked stopped reason made opened rt hm boxOf shutBy around inner truth turned pile hR2 _ _ _ hPx hPm hS (lv_sub hl [1, 2, 3, 0] rfl)
                      · refine pz_cases (P := sw = 9) (fun cs_9 => ?_) (fun cs_9 => ?_)
                        · refine pz_table (tgt := 413) (off := 380) hx hb dL_law_33 rfl (by rw [cs_9]; rfl) (by decide) ?_
                          refine lv_aload_n hx hb dL_law_413 rfl (lv_at hl 1 rfl) ?_
                          refine lv_aload_n hx hb dL_law_414 rfl (lv_at hl 0 rfl) ?_
                          refine lv_iload_n hx hb dL_law_415 rfl (lv_at hl 3 rfl) ?_
                          refine lv_iconst (v := 1) hx hb dL_law_416 (by decide) ?_
                          refine lv_iadd hx hb dL_law_417 ?_
                          refine va_sld hx hb hXs hbl hbA hS (pz_sj h0 hL cL (by decide) (by decide)) dL_law_418 ?_
                          refine pz_Li (As := [.int ((xs ((x3 + 1) : Int32).toNatClampNeg))]) (rest := []) ⟨hx, hb, hml, hown, hts⟩ (c_X3_head l D qx k t cnt kinds firsts seconds heights tables replaced laid rules ps qs rs fs frules heads ends inforce usable summ (xs ((x3 + 1) : Int32).toNatClampNeg)) (cwV 1 hts gL_law_X3_head rfl rfl rfl hdV_X3_head ⟨Nat.le_of_ble_eq_true rfl, Nat.le_of_ble_eq_true rfl⟩) pz_KX.call (hKX _ _ hS) (va_recv hK hPx (ci := 3) (q0 := 0) rfl rfl) hPx hS hIx rfl hl.1 rfl (Nat.le_of_ble_eq_true rfl) dL_law_419 ⟨Nat.le_of_ble_eq_true rfl, Nat.le_of_ble_eq_true rfl⟩ (fun r_19 u_19 H1 locs hF_19 hPx hk_19 hS => ?_)
                          have hPm := pz_other hap rfl hPm hk_19
                          have hPx : va_P D vwCl (pz_X qx k cnt kinds firsts seconds heights tables replaced laid rules ps qs rs fs frules heads ends inforce usable summ) H1 := hPx
                          generalize H1 = H at hPx hPm hS ⊢
                          refine lv_aload_n hx hb dL_law_422 rfl (lv_at hl 2 rfl) ?_
                          refine lv_aload_n hx hb dL_law_423 rfl (lv_at hl 0 rfl) ?_
                          refine lv_iload_n hx hb dL_law_424 rfl (lv_at hl 3 rfl) ?_
                          refine lv_iconst (v := 1) hx hb dL_law_425 (by decide) ?_
                          refine lv_iadd hx hb dL_law_426 ?_
                          refine va_sld hx hb hXs hbl hbA hS (pz_sj h0 hL cL (by decide) (by decide)) dL_law_427 ?_
                          refine pz_Li (As := [.int ((xs ((x3 + 1) : Int32).toNatClampNeg))]) (rest := [.int (r_19)]) ⟨hx, hb, hml, hown, hts⟩ (c_X4_head l D qm k cnt kinds firsts seconds heights laid rules ps qs rs fs checked stopped reason made opened rt hm boxOf shutBy around inner truth turned pile (xs ((x3 + 1) : Int32).toNatClampNeg)) (cwV 1 hts gL_law_X4_head rfl rfl rfl hdV_X4_head ⟨Nat.le_of_ble_eq_true rfl, Nat.le_of_ble_eq_true rfl⟩) pz_KM.call (fun U _ hW => hKM U hW) (va_recv hK hPm (ci := 4) (q0 := 0) rfl rfl) hPm hS hIm rfl hl.1 rfl (Nat.le_of_ble_eq_true rfl) dL_law_428 ⟨Nat.le_of_ble_eq_true rfl, Nat.le_of_ble_eq_true rfl⟩ (fun r_20 u_20 H1 locs hF_20 hPm hk_20 hS => ?_)
                          have hPx := pz_other (fun i j hi hj e9 => hap j i hj hi e9.symm) rfl hPx hk_20
                          have hPm : va_P D vwCl (pz_M qm k cnt kinds firsts seconds heights laid rules ps qs rs fs checked stopped reason made opened rt hm boxOf shutBy around inner truth turned pile) H1 := hPm
                          generalize H1 = H at hPx hPm hS ⊢
                          obtain ⟨hre, hR2⟩ := pz_eq_head hR hF_19 hF_20
                          refine lv_icmp_eq (tgt := 528) hx hb dL_law_431 (by decide) (fun c_9 => ?_) (fun c_9 => absurd hre c_9)
                          refine lv_iinc (v := (x3 + 7)) (lv' := [(3, .int (x3 + 7)), (0, .ref b), (1, .ref (qx 0)), (2, .ref (qm 0))]) hx hb dL_law_528 hl (k := 3) rfl rfl (by decide) rfl (fun ls hl => ?_)
                          refine lv_goto (tgt := 18) hx hb dL_law_531 (by decide) ?_
                          exact ih (x3 + 7) (by omega) (by omega) (by omega) cnt kinds firsts seconds heights tables replaced laid rules ps qs rs fs frules heads ends inforce usable summ checked stopped reason made opened rt hm boxOf shutBy around inner truth turned pile hR2 _ _ _ hPx hPm hS (lv_sub hl [1, 2, 3, 0] rfl)
                        · refine pz_cases (P := sw = 10) (fun cs_10 => ?_) (fun cs_10 => ?_)
                          · refine pz_table (tgt := 436) (off := 403) hx hb dL_law_33 rfl (by rw [cs_10]; rfl) (by decide) ?_
                            refine lv_aload_n hx hb dL_law_436 rfl (lv_at hl 1 rfl) ?_
                            refine lv_aload_n hx hb dL_law_437 rfl (lv_at hl 0 rfl) ?_
                            refine lv_iload_n hx hb dL_law_438 rfl (lv_at hl 3 rfl) ?_
                            refine lv_iconst (v := 1) hx hb dL_law_439 (by decide) ?_
                            refine lv_iadd hx hb dL_law_440 ?_
                            refine va_sld hx hb hXs hbl hbA hS (pz_sj h0 hL cL (by decide) (by decide)) dL_law_441 ?_
                            refine pz_Li (As := [.int ((xs ((x3 + 1) : Int32).toNatClampNeg))]) (rest := []) ⟨hx, hb, hml, hown, hts⟩ (c_X3_force l D qx k t cnt kinds firsts seconds heights tables replaced laid rules ps qs rs fs frules heads ends inforce usable summ (xs ((x3 + 1) : Int32).toNatClampNeg)) (cwV 1 hts gL_law_X3_force rfl rfl rfl hdV_X3_force ⟨Nat.le_of_ble_eq_true rfl, Nat.le_of_ble_eq_true rfl⟩) pz_KX.call (hKX _ _ hS) (va_recv hK hPx (ci := 3) (q0 := 0) rfl rfl) hPx hS hIx rfl hl.1 rfl (Nat.le_of_ble_eq_true rfl) dL_law_442 ⟨Nat.le_of_ble_eq_true rfl, Nat.le_of_ble_eq_true rfl⟩ (fun r_21 u_21 H1 locs hF_21 hPx hk_21 hS => ?_)
                            have hPm := pz_other hap rfl hPm hk_21
                            have hPx : va_P D vwCl (pz_X qx k cnt kinds firsts seconds heights tables replaced laid rules ps qs rs fs frules heads ends inforce usable summ) H1 := hPx
                            generalize H1 = H at hPx hPm hS ⊢
                            refine lv_aload_n hx hb dL_law_445 rfl (lv_at hl 2 rfl) ?_
                            refine lv_aload_n hx hb dL_law_446 rfl (lv_at hl 0 rfl) ?_
                            refine lv_iload_n hx hb dL_law_447 rfl (lv_at hl 3 rfl) ?_
                            refine lv_iconst (v := 1) hx hb dL_law_448 (by decide) ?_
                            refine lv_iadd hx hb dL_law_449 ?_
                            refine va_sld hx hb hXs hbl hbA hS (pz_sj h0 hL cL (by decide) (by decide)) dL_law_450 ?_
                            refine pz_Li (As := [.int ((xs ((x3 + 1) : Int32).toNatClampNeg))]) (rest := [.int (r_21)]) ⟨hx, hb, hml, hown, hts⟩ (c_X4_force l D qm k cnt kinds firsts seconds heights laid rules ps qs rs fs checked stopped reason made opened rt hm boxOf shutBy around inner truth turned pile (xs ((x3 + 1) : Int32).toNatClampNeg) hR.2.1.1 hR.2.1.2.1) (cwV 1 hts gL_law_X4_force rfl rfl rfl hdV_X4_force ⟨Nat.le_of_ble_eq_true rfl, Nat.le_of_ble_eq_true rfl⟩) pz_KM.call (fun U _ hW => hKM U hW) (va_recv hK hPm (ci := 4) (q0 := 0) rfl rfl) hPm hS hIm rfl hl.1 rfl (Nat.le_of_ble_eq_true rfl) dL_law_451 ⟨Nat.le_of_ble_eq_true rfl, Nat.le_of_ble_eq_true rfl⟩ (fun r_22 u_22 H1 locs hF_22 hPm hk_22 hS => ?_)
                            have hPx := pz_other (fun i j hi hj e9 => hap j i hj hi e9.symm) rfl hPx hk_22
                            have hPm : va_P D vwCl (pz_M qm k cnt kinds firsts seconds heights laid rules ps qs rs fs checked stopped reason made opened rt hm boxOf shutBy around inner truth turned pile) H1 := hPm
                            generalize H1 = H at hPx hPm hS ⊢
                            obtain ⟨hre, hR2⟩ := pz_eq_force hR hF_21 hF_22
                            refine lv_icmp_eq (tgt := 528) hx hb dL_law_454 (by decide) (fun c_9 => ?_) (fun c_9 => absurd hre c_9)
                            refine lv_iinc (v := (x3 + 7)) (lv' := [(3, .int (x3 + 7)), (0, .ref b), (1, .ref (qx 0)), (2, .ref (qm 0))]) hx hb dL_law_528 hl (k := 3) rfl rfl (by decide) rfl (fun ls hl => ?_)
                            refine lv_goto (tgt := 18) hx hb dL_law_531 (by decide) ?_
                            exact ih (x3 + 7) (by omega) (by omega) (by omega) cnt kinds firsts seconds heights tables replaced laid rules ps qs rs fs frules heads ends inforce usable summ checked stopped reason made opened rt hm boxOf shutBy around inner truth turned pile hR2 _ _ _ hPx hPm hS (lv_sub hl [1, 2, 3, 0] rfl)
                          · refine pz_cases (P := sw = 11) (fun cs_11 => ?_) (fun cs_11 => ?_)
                            · refine pz_table (tgt := 459) (off := 426) hx hb dL_law_33 rfl (by rw [cs_11]; rfl) (by decide) ?_
                              refine lv_aload_n hx hb dL_law_459 rfl (lv_at hl 1 rfl) ?_
                              refine lv_aload_n hx hb dL_law_460 rfl (lv_at hl 0 rfl) ?_
                              refine lv_iload_n hx hb dL_law_461 rfl (lv_at hl 3 rfl) ?_
                              refine lv_iconst (v := 1) hx hb dL_law_462 (by decide) ?_
                              refine lv_iadd hx hb dL_law_463 ?_
                              refine va_sld hx hb hXs hbl hbA hS (pz_sj h0 hL cL (by decide) (by decide)) dL_law_464 ?_
                              refine lv_aload_n hx hb dL_law_465 rfl (lv_at hl 0 rfl) ?_
                              refine lv_iload_n hx hb dL_law_466 rfl (lv_at hl 3 rfl) ?_
                              refine lv_iconst (v := 2) hx hb dL_law_467 (by decide) ?_
                              refine lv_iadd hx hb dL_law_468 ?_
                              refine va_sld hx hb hXs hbl hbA hS (pz_sj h0 hL cL (by decide) (by decide)) dL_law_469 ?_
                              refine pz_Li (As := [.int ((xs ((x3 + 1) : Int32).toNatClampNeg)), .int ((xs ((x3 + 2) : Int32).toNatClampNeg))]) (rest := []) ⟨hx, hb, hml, hown, hts⟩ (c_X3_hangs l D qx k t cnt kinds firsts seconds heights tables replaced laid rules ps qs rs fs frules heads ends inforce usable summ (xs ((x3 + 1) : Int32).toNatClampNeg) (xs ((x3 + 2) : Int32).toNatClampNeg)) (cwV 2 hts gL_law_X3_hangs rfl rfl rfl hdV_X3_hangs ⟨Nat.le_of_ble_eq_true rfl, Nat.le_of_ble_eq_true rfl⟩) pz_KX.call (hKX _ _ hS) (va_recv hK hPx (ci := 3) (q0 := 0) rfl rfl) hPx hS hIx rfl hl.1 rfl (Nat.le_of_ble_eq_true rfl) dL_law_470 ⟨Nat.le_of_ble_eq_true rfl, Nat.le_of_ble_eq_true rfl⟩ (fun r_23 u_23 H1 locs hF_23 hPx hk_23 hS => ?_)
                              have hPm := pz_other hap rfl hPm hk_23
                              have hPx : va_P D vwCl (pz_X qx k cnt kinds firsts seconds heights tables replaced laid rules ps qs rs fs frules heads ends inforce usable summ) H1 := hPx
                              generalize H1 = H at hPx hPm hS ⊢
                              refine lv_aload_n hx hb dL_law_473 rfl (lv_at hl 2 rfl) ?_
                              refine lv_aload_n hx hb dL_law_474 rfl (lv_at hl 0 rfl) ?_
                              refine lv_iload_n hx hb dL_law_475 rfl (lv_at hl 3 rfl) ?_
                              refine lv_iconst (v := 1) hx hb dL_law_476 (by decide) ?_
                              refine lv_iadd hx hb dL_law_477 ?_
                              refine va_sld hx hb hXs hbl hbA hS (pz_sj h0 hL cL (by decide) (by decide)) dL_law_478 ?_
                              refine lv_aload_n hx hb dL_law_479 rfl (lv_at hl 0 rfl) ?_
                              refine lv_iload_n hx hb dL_law_480 rfl (lv_at hl 3 rfl) ?_
                              refine lv_iconst (v := 2) hx hb dL_law_481 (by decide) ?_
                              refine lv_iadd hx hb dL_law_482 ?_
                              refine va_sld hx hb hXs hbl hbA hS (pz_sj h0 hL cL (by decide) (by decide)) dL_law_483 ?_
                              refine pz_Li (As := [.int ((xs ((x3 + 1) : Int32).toNatClampNeg)), .int ((xs ((x3 + 2) : Int32).toNatClampNeg))]) (rest := [.int (r_23)]) ⟨hx, hb, hml, hown, hts⟩ (c_X4_hangs l D qm k cnt kinds firsts seconds heights laid rules ps qs rs fs checked stopped reason made opened rt hm boxOf shutBy around inner truth turned pile (xs ((x3 + 1) : Int32).toNatClampNeg) (xs ((x3 + 2) : Int32).toNatClampNeg) hR.2.1.1 hR.2.1.2.1) (cwV 2 hts gL_law_X4_hangs rfl rfl rfl hdV_X4_hangs ⟨Nat.le_of_ble_eq_true rfl, Nat.le_of_ble_eq_true rfl⟩) pz_KM.call (fun U _ hW => hKM U hW) (va_recv hK hPm (ci := 4) (q0 := 0) rfl rfl) hPm hS hIm rfl hl.1 rfl (Nat.le_of_ble_eq_true rfl) dL_law_484 ⟨Nat.le_of_ble_eq_true rfl, Nat.le_of_ble_eq_true rfl⟩ (fun r_24 u_24 H1 locs hF_24 hPm hk_24 hS => ?_)
                              have hPx := pz_other (fun i j hi hj e9 => hap j i hj hi e9.symm) rfl hPx hk_24
                              have hPm : va_P D vwCl (pz_M qm k cnt kinds firsts seconds heights laid rules ps qs rs fs checked stopped reason made opened rt hm boxOf shutBy around inner truth turned pile) H1 := hPm
                              generalize H1 = H at hPx hPm hS ⊢
                              obtain ⟨hre, hR2⟩ := pz_eq_hangs hR hF_23 hF_24
                              refine lv_icmp_eq (tgt := 528) hx hb dL_law_487 (by decide) (fun c_9 => ?_) (fun c_9 => absurd hre c_9)
                              refine lv_iinc (v := (x3 + 7)) (lv' := [(3, .int (x3 + 7)), (0, .ref b), (1, .ref (qx 0)), (2, .ref (qm 0))]) hx hb dL_law_528 hl (k := 3) rfl rfl (by decide) rfl (fun ls hl => ?_)
                              refine lv_goto (tgt := 18) hx hb dL_law_531 (by decide) ?_
                              exact ih (x3 + 7) (by omega) (by omega) (by omega) cnt kinds firsts seconds heights tables replaced laid rules ps qs rs fs frules heads ends inforce usable summ checked stopped reason made opened rt hm boxOf shutBy around inner truth turned pile hR2 _ _ _ hPx hPm hS (lv_sub hl [1, 2, 3, 0] rfl)
                            · refine pz_cases (P := sw = 12) (fun cs_12 => ?_) (fun cs_12 => ?_)
                              · refine pz_table (tgt := 492) (off := 459) hx hb dL_law_33 rfl (by rw [cs_12]; rfl) (by decide) ?_
                                refine lv_aload_n hx hb dL_law_492 rfl (lv_at hl 1 rfl) ?_
                                refine lv_aload_n hx hb dL_law_493 rfl (lv_at hl 0 rfl) ?_
                                refine lv_iload_n hx hb dL_law_494 rfl (lv_at hl 3 rfl) ?_
                                refine lv_iconst (v := 1) hx hb dL_law_495 (by decide) ?_
                                refine lv_iadd hx hb dL_law_496 ?_
                                refine va_sld hx hb hXs hbl hbA hS (pz_sj h0 hL cL (by decide) (by decide)) dL_law_497 ?_
                                refine pz_Li (As := [.int ((xs ((x3 + 1) : Int32).toNatClampNeg))]) (rest := []) ⟨hx, hb, hml, hown, hts⟩ (c_X3_sound l D qx k t cnt kinds firsts seconds heights tables replaced laid rules ps qs rs fs frules heads ends inforce usable summ (xs ((x3 + 1) : Int32).toNatClampNeg) hR.1.1.1) (cwV 1 hts gL_law_X3_sound rfl rfl rfl hdV_X3_sound ⟨Nat.le_of_ble_eq_true rfl, Nat.le_of_ble_eq_true rfl⟩) pz_KX.call (hKX _ _ hS) (va_recv hK hPx (ci := 3) (q0 := 0) rfl rfl) hPx hS hIx rfl hl.1 rfl (Nat.le_of_ble_eq_true rfl) dL_law_498 ⟨Nat.le_of_ble_eq_true rfl, Nat.le_of_ble_eq_true rfl⟩ (fun r_25 u_25 H1 locs hF_25 hPx hk_25 hS => ?_)
                                have hPm := pz_other hap rfl hPm hk_25
                                have hPx : va_P D vwCl (pz_X qx k cnt kinds firsts seconds heights tables replaced laid rules ps qs rs fs frules heads ends inforce usable summ) H1 := hPx
                                generalize H1 = H at hPx hPm hS ⊢
                                refine lv_aload_n hx hb dL_law_501 rfl (lv_at hl 2 rfl) ?_
                                refine lv_aload_n hx hb dL_law_502 rfl (lv_at hl 0 rfl) ?_
                                refine lv_iload_n hx hb dL_law_503 rfl (lv_at hl 3 rfl) ?_
                                refine lv_iconst (v := 1) hx hb dL_law_504 (by decide) ?_
                                refine lv_iadd hx hb dL_law_505 ?_
                                refine va_sld hx hb hXs hbl hbA hS (pz_sj h0 hL cL (by decide) (by decide)) dL_law_506 ?_
                                refine pz_Li (As := [.int ((xs ((x3 + 1) : Int32).toNatClampNeg))]) (rest := [.int (r_25)]) ⟨hx, hb, hml, hown, hts⟩ (c_X4_sound l D qm k cnt kinds firsts seconds heights laid rules ps qs rs fs checked stopped reason made opened rt hm boxOf shutBy around inner truth turned pile (xs ((x3 + 1) : Int32).toNatClampNeg) hR.1.1 hR.2.1.1 hR.2.1.2.1 (fun h n9 => hR.2.1.2.2 _ (pz_ixN h) n9)) (cwV 1 hts gL_law_X4_sound rfl rfl rfl hdV_X4_sound ⟨Nat.le_of_ble_eq_true rfl, Nat.le_of_ble_eq_true rfl⟩) pz_KM.call (fun U _ hW => hKM U hW) (va_recv hK hPm (ci := 4) (q0 := 0) rfl rfl) hPm hS hIm rfl hl.1 rfl (Nat.le_of_ble_eq_true rfl) dL_law_507 ⟨Nat.le_of_ble_eq_true rfl, Nat.le_of_ble_eq_true rfl⟩ (fun r_26 u_26 H1 locs hF_26 hPm hk_26 hS => ?_)
                                obtain ⟨Mtruth_26, rfl⟩ : ∃ z, z = u_26 := ⟨_, rfl⟩
                                have hPx := pz_other (fun i j hi hj e9 => hap j i hj hi e9.symm) rfl hPx hk_26
                                have hPm : va_P D vwCl (pz_M qm k cnt kinds firsts seconds heights laid rules ps qs rs fs checked stopped reason made opened rt hm boxOf shutBy around inner Mtruth_26 turned pile) H1 := hPm
                                generalize H1 = H at hPx hPm hS ⊢
                                obtain ⟨hre, hR2⟩ := pz_eq_sound hR hF_25 hF_26
                                refine lv_icmp_eq (tgt := 528) hx hb dL_law_510 (by decide) (fun c_9 => ?_) (fun c_9 => absurd hre c_9)
                                refine lv_iinc (v := (x3 + 7)) (lv' := [(3, .int (x3 + 7)), (0, .ref b), (1, .ref (qx 0)), (2, .ref (qm 0))]) hx hb dL_law_528 hl (k := 3) rfl rfl (by decide) rfl (fun ls hl => ?_)
                                refine lv_goto (tgt := 18) hx hb dL_law_531 (by decide) ?_
                                exact ih (x3 + 7) (by omega) (by omega) (by omega) cnt kinds firsts seconds heights tables replaced laid rules ps qs rs fs frules heads ends inforce usable summ checked stopped reason made opened rt hm boxOf shutBy around inner Mtruth_26 turned pile hR2 _ _ _ hPx hPm hS (lv_sub hl [1, 2, 3, 0] rfl)
                              · refine pz_cases (P := sw = 13) (fun cs_13 => ?_) (fun cs_13 => ?_)
                                · refine pz_table (tgt := 515) (off := 482) hx hb dL_law_33 rfl (by rw [cs_13]; rfl) (by decide) ?_
                                  refine lv_aload_n hx hb dL_law_515 rfl (lv_at hl 1 rfl) ?_
                                  refine pz_Li (As := []) (rest := []) ⟨hx, hb, hml, hown, hts⟩ (c_X3_formulas l D qx k t cnt kinds firsts seconds heights tables replaced laid rules ps qs rs fs frules heads ends inforce usable summ) (cwV 0 hts gL_law_X3_formulas rfl rfl rfl hdV_X3_formulas ⟨Nat.le_of_ble_eq_true rfl, Nat.le_of_ble_eq_true rfl⟩) pz_KX.call (hKX _ _ hS) (va_recv hK hPx (ci := 3) (q0 := 0) rfl rfl) hPx hS hIx rfl hl.1 rfl (Nat.le_of_ble_eq_true rfl) dL_law_516 ⟨Nat.le_of_ble_eq_true rfl, Nat.le_of_ble_eq_true rfl⟩ (fun r_27 u_27 H1 locs hF_27 hPx hk_27 hS => ?_)
                                  have hPm := pz_other hap rfl hPm hk_27
                                  have hPx : va_P D vwCl (pz_X qx k cnt kinds firsts seconds heights tables replaced laid rules ps qs rs fs frules heads ends inforce usable summ) H1 := hPx
                                  generalize H1 = H at hPx hPm hS ⊢
                                  refine lv_aload_n hx hb dL_law_519 rfl (lv_at hl 2 rfl) ?_
                                  refine pz_Li (As := []) (rest := [.int (r_27)]) ⟨hx, hb, hml, hown, hts⟩ (c_X4_formulas l D qm k cnt kinds firsts seconds heights laid rules ps qs rs fs checked stopped reason made opened rt hm boxOf shutBy around inner truth turned pile) (cwV 0 hts gL_law_X4_formulas rfl rfl rfl hdV_X4_formulas ⟨Nat.le_of_ble_eq_true rfl, Nat.le_of_ble_eq_true rfl⟩) pz_KM.call (fun U _ hW => hKM U hW) (va_recv hK hPm (ci := 4) (q0 := 0) rfl rfl) hPm hS hIm rfl hl.1 rfl (Nat.le_of_ble_eq_true rfl) dL_law_520 ⟨Nat.le_of_ble_eq_true rfl, Nat.le_of_ble_eq_true rfl⟩ (fun r_28 u_28 H1 locs hF_28 hPm hk_28 hS => ?_)
                                  have hPx := pz_other (fun i j hi hj e9 => hap j i hj hi e9.symm) rfl hPx hk_28
                                  have hPm : va_P D vwCl (pz_M qm k cnt kinds firsts seconds heights laid rules ps qs rs fs checked stopped reason made opened rt hm boxOf shutBy around inner truth turned pile) H1 := hPm
                                  generalize H1 = H at hPx hPm hS ⊢
                                  obtain ⟨hre, hR2⟩ := pz_eq_formulas hR hF_27 hF_28
                                  refine lv_icmp_eq (tgt := 528) hx hb dL_law_523 (by decide) (fun c_9 => ?_) (fun c_9 => absurd hre c_9)
                                  refine lv_iinc (v := (x3 + 7)) (lv' := [(3, .int (x3 + 7)), (0, .ref b), (1, .ref (qx 0)), (2, .ref (qm 0))]) hx hb dL_law_528 hl (k := 3) rfl rfl (by decide) rfl (fun ls hl => ?_)
                                  refine lv_goto (tgt := 18) hx hb dL_law_531 (by decide) ?_
                                  exact ih (x3 + 7) (by omega) (by omega) (by omega) cnt kinds firsts seconds heights tables replaced laid rules ps qs rs fs frules heads ends inforce usable summ checked stopped reason made opened rt hm boxOf shutBy around inner truth turned pile hR2 _ _ _ hPx hPm hS (lv_sub hl [1, 2, 3, 0] rfl)
                                · have ho : pz_off (495) (0) (13) #[71, 114, 147, 180, 203, 246, 321, 344, 357, 380, 403, 426, 459, 482] sw = 495 := by
                                    unfold pz_off
                                    split
                                    · rfl
                                    · have hz : sw.toInt = 0 ∨ sw.toInt = 1 ∨ sw.toInt = 2 ∨ sw.toInt = 3 ∨ sw.toInt = 4 ∨ sw.toInt = 5 ∨ sw.toInt = 6 ∨ sw.toInt = 7 ∨ sw.toInt = 8 ∨ sw.toInt = 9 ∨ sw.toInt = 10 ∨ sw.toInt = 11 ∨ sw.toInt = 12 ∨ sw.toInt = 13 := by omega
                                      rcases hz with hz | hz | hz | hz | hz | hz | hz | hz | hz | hz | hz | hz | hz | hz
                                      · exact absurd (Int32.toInt_inj.mp (hz.trans (show (0 : Int) = (0 : Int32).toInt from rfl))) cs_0
                                      · exact absurd (Int32.toInt_inj.mp (hz.trans (show (1 : Int) = (1 : Int32).toInt from rfl))) cs_1
                                      · exact absurd (Int32.toInt_inj.mp (hz.trans (show (2 : Int) = (2 : Int32).toInt from rfl))) cs_2
                                      · exact absurd (Int32.toInt_inj.mp (hz.trans (show (3 : Int) = (3 : Int32).toInt from rfl))) cs_3
                                      · exact absurd (Int32.toInt_inj.mp (hz.trans (show (4 : Int) = (4 : Int32).toInt from rfl))) cs_4
                                      · exact absurd (Int32.toInt_inj.mp (hz.trans (show (5 : Int) = (5 : Int32).toInt from rfl))) cs_5
                                      · exact absurd (Int32.toInt_inj.mp (hz.trans (show (6 : Int) = (6 : Int32).toInt from rfl))) cs_6
                                      · exact absurd (Int32.toInt_inj.mp (hz.trans (show (7 : Int) = (7 : Int32).toInt from rfl))) cs_7
                                      · exact absurd (Int32.toInt_inj.mp (hz.trans (show (8 : Int) = (8 : Int32).toInt from rfl))) cs_8
                                      · exact absurd (Int32.toInt_inj.mp (hz.trans (show (9 : Int) = (9 : Int32).toInt from rfl))) cs_9
                                      · exact absurd (Int32.toInt_inj.mp (hz.trans (show (10 : Int) = (10 : Int32).toInt from rfl))) cs_10
                                      · exact absurd (Int32.toInt_inj.mp (hz.trans (show (11 : Int) = (11 : Int32).toInt from rfl))) cs_11
                                      · exact absurd (Int32.toInt_inj.mp (hz.trans (show (12 : Int) = (12 : Int32).toInt from rfl))) cs_12
                                      · exact absurd (Int32.toInt_inj.mp (hz.trans (show (13 : Int) = (13 : Int32).toInt from rfl))) cs_13
                                  refine pz_table (tgt := 528) hx hb dL_law_33 rfl ho (by decide) ?_
                                  refine lv_iinc (v := (x3 + 7)) (lv' := [(3, .int (x3 + 7)), (0, .ref b), (1, .ref (qx 0)), (2, .ref (qm 0))]) hx hb dL_law_528 hl (k := 3) rfl rfl (by decide) rfl (fun ls hl => ?_)
                                  refine lv_goto (tgt := 18) hx hb dL_law_531 (by decide) ?_
                                  exact ih (x3 + 7) (by omega) (by omega) (by omega) cnt kinds firsts seconds heights tables replaced laid rules ps qs rs fs frules heads ends inforce usable summ checked stopped reason made opened rt hm boxOf shutBy around inner truth turned pile hR _ _ _ hPx hPm hS (lv_sub hl [1, 2, 3, 0] rfl)

