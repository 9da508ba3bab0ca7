section
-- ===== PART A: goes FIRST, ahead of the names: the tables' words, and 'selects' of the private methods out of them =====
/-- a private method of a class that the tables say can be made, by its rows of tables_1 -/
def lw_okq (q : MethodName × Nat) : Prop := (q.1.cls ≠ "java/lang/invoke/MethodHandle" ∧ q.1.cls ≠ "java/lang/invoke/VarHandle") ∧ Cond.instantiable q.1.cls q.2 ∈ tables_1 ∧ Cond.privateMethod q.1 ∈ tables_1 ∧ Cond.instanceMethod q.1 ∈ tables_1
theorem lw_p0 : lw_okq (⟨"BoxProofs$Formulas", "find", "(III)I"⟩, 7) := ⟨⟨by decide +kernel, by decide +kernel⟩, List.mem_of_getElem? (i := 18) (by decide +kernel), List.mem_of_getElem? (i := 121) (by decide +kernel), List.mem_of_getElem? (i := 122) (by decide +kernel)⟩
theorem lw_p1 : lw_okq (⟨"BoxProofs$Formulas", "tableFor", "(III)J"⟩, 7) := ⟨⟨by decide +kernel, by decide +kernel⟩, List.mem_of_getElem? (i := 18) (by decide +kernel), List.mem_of_getElem? (i := 136) (by decide +kernel), List.mem_of_getElem? (i := 137) (by decide +kernel)⟩
theorem lw_p2 : lw_okq (⟨"BoxProofs$Formulas", "replaceIn", "(IIII)I"⟩, 7) := ⟨⟨by decide +kernel, by decide +kernel⟩, List.mem_of_getElem? (i := 18) (by decide +kernel), List.mem_of_getElem? (i := 195) (by decide +kernel), List.mem_of_getElem? (i := 196) (by decide +kernel)⟩
theorem lw_p3 : lw_okq (⟨"BoxProofs", "lookAt", "(I)I"⟩, 3) := ⟨⟨by decide +kernel, by decide +kernel⟩, List.mem_of_getElem? (i := 10) (by decide +kernel), List.mem_of_getElem? (i := 233) (by decide +kernel), List.mem_of_getElem? (i := 234) (by decide +kernel)⟩
theorem lw_p4 : lw_okq (⟨"BoxProofs", "reasonAgainst", "(I)I"⟩, 3) := ⟨⟨by decide +kernel, by decide +kernel⟩, List.mem_of_getElem? (i := 10) (by decide +kernel), List.mem_of_getElem? (i := 237) (by decide +kernel), List.mem_of_getElem? (i := 238) (by decide +kernel)⟩
theorem lw_p5 : lw_okq (⟨"BoxProofs", "reasonAgainstNumbers", "(III)I"⟩, 3) := ⟨⟨by decide +kernel, by decide +kernel⟩, List.mem_of_getElem? (i := 10) (by decide +kernel), List.mem_of_getElem? (i := 247) (by decide +kernel), List.mem_of_getElem? (i := 248) (by decide +kernel)⟩
theorem lw_p6 : lw_okq (⟨"BoxProofs", "reasonAgainstLine", "(IIZ)I"⟩, 3) := ⟨⟨by decide +kernel, by decide +kernel⟩, List.mem_of_getElem? (i := 10) (by decide +kernel), List.mem_of_getElem? (i := 255) (by decide +kernel), List.mem_of_getElem? (i := 256) (by decide +kernel)⟩
theorem lw_p7 : lw_okq (⟨"BoxProofs", "isFormRight", "(II)Z"⟩, 3) := ⟨⟨by decide +kernel, by decide +kernel⟩, List.mem_of_getElem? (i := 10) (by decide +kernel), List.mem_of_getElem? (i := 283) (by decide +kernel), List.mem_of_getElem? (i := 284) (by decide +kernel)⟩
theorem lw_p8 : lw_okq (⟨"BoxProofs", "isNegation", "(I)Z"⟩, 3) := ⟨⟨by decide +kernel, by decide +kernel⟩, List.mem_of_getElem? (i := 10) (by decide +kernel), List.mem_of_getElem? (i := 287) (by decide +kernel), List.mem_of_getElem? (i := 288) (by decide +kernel)⟩
theorem lw_p9 : lw_okq (⟨"BoxProofs", "areBoxesRight", "(II)Z"⟩, 3) := ⟨⟨by decide +kernel, by decide +kernel⟩, List.mem_of_getElem? (i := 10) (by decide +kernel), List.mem_of_getElem? (i := 291) (by decide +kernel), List.mem_of_getElem? (i := 292) (by decide +kernel)⟩
theorem lw_p10 : lw_okq (⟨"BoxProofs$Findings", "isOpenBox", "(I)Z"⟩, 6) := ⟨⟨by decide +kernel, by decide +kernel⟩, List.mem_of_getElem? (i := 74) (by decide +kernel), List.mem_of_getElem? (i := 299) (by decide +kernel), List.mem_of_getElem? (i := 300) (by decide +kernel)⟩
theorem lw_p11 : lw_okq (⟨"BoxProofs", "areAllLike", "(II)Z"⟩, 3) := ⟨⟨by decide +kernel, by decide +kernel⟩, List.mem_of_getElem? (i := 10) (by decide +kernel), List.mem_of_getElem? (i := 307) (by decide +kernel), List.mem_of_getElem? (i := 308) (by decide +kernel)⟩
theorem lw_p12 : lw_okq (⟨"BoxProofs", "heldAtEnd", "(I)I"⟩, 3) := ⟨⟨by decide +kernel, by decide +kernel⟩, List.mem_of_getElem? (i := 10) (by decide +kernel), List.mem_of_getElem? (i := 311) (by decide +kernel), List.mem_of_getElem? (i := 312) (by decide +kernel)⟩
theorem lw_p13 : lw_okq (⟨"BoxProofs", "conclude", "(I)I"⟩, 3) := ⟨⟨by decide +kernel, by decide +kernel⟩, List.mem_of_getElem? (i := 10) (by decide +kernel), List.mem_of_getElem? (i := 319) (by decide +kernel), List.mem_of_getElem? (i := 320) (by decide +kernel)⟩
theorem lw_p14 : lw_okq (⟨"BoxProofs$Findings", "shutBox", "(II)V"⟩, 6) := ⟨⟨by decide +kernel, by decide +kernel⟩, List.mem_of_getElem? (i := 74) (by decide +kernel), List.mem_of_getElem? (i := 328) (by decide +kernel), List.mem_of_getElem? (i := 329) (by decide +kernel)⟩
theorem lw_p15 : lw_okq (⟨"BoxProofs$Findings", "countOpen", "()I"⟩, 6) := ⟨⟨by decide +kernel, by decide +kernel⟩, List.mem_of_getElem? (i := 74) (by decide +kernel), List.mem_of_getElem? (i := 336) (by decide +kernel), List.mem_of_getElem? (i := 337) (by decide +kernel)⟩
def lw_privs_1 : List (MethodName × Nat) := [(⟨"BoxProofs$Formulas", "find", "(III)I"⟩, 7), (⟨"BoxProofs$Formulas", "tableFor", "(III)J"⟩, 7), (⟨"BoxProofs$Formulas", "replaceIn", "(IIII)I"⟩, 7), (⟨"BoxProofs", "lookAt", "(I)I"⟩, 3), (⟨"BoxProofs", "reasonAgainst", "(I)I"⟩, 3), (⟨"BoxProofs", "reasonAgainstNumbers", "(III)I"⟩, 3), (⟨"BoxProofs", "reasonAgainstLine", "(IIZ)I"⟩, 3), (⟨"BoxProofs", "isFormRight", "(II)Z"⟩, 3), (⟨"BoxProofs", "isNegation", "(I)Z"⟩, 3), (⟨"BoxProofs", "areBoxesRight", "(II)Z"⟩, 3), (⟨"BoxProofs$Findings", "isOpenBox", "(I)Z"⟩, 6), (⟨"BoxProofs", "areAllLike", "(II)Z"⟩, 3), (⟨"BoxProofs", "heldAtEnd", "(I)I"⟩, 3), (⟨"BoxProofs", "conclude", "(I)I"⟩, 3), (⟨"BoxProofs$Findings", "shutBox", "(II)V"⟩, 6), (⟨"BoxProofs$Findings", "countOpen", "()I"⟩, 6)]
theorem lw_r1 : ∀ q ∈ lw_privs_1, lw_okq q := List.forall_mem_cons.mpr ⟨lw_p0, List.forall_mem_cons.mpr ⟨lw_p1, List.forall_mem_cons.mpr ⟨lw_p2, List.forall_mem_cons.mpr ⟨lw_p3, List.forall_mem_cons.mpr ⟨lw_p4, List.forall_mem_cons.mpr ⟨lw_p5, List.forall_mem_cons.mpr ⟨lw_p6, List.forall_mem_cons.mpr ⟨lw_p7, List.forall_mem_cons.mpr ⟨lw_p8, List.forall_mem_cons.mpr ⟨lw_p9, List.forall_mem_cons.mpr ⟨lw_p10, List.forall_mem_cons.mpr ⟨lw_p11, List.forall_mem_cons.mpr ⟨lw_p12, List.forall_mem_cons.mpr ⟨lw_p13, List.forall_mem_cons.mpr ⟨lw_p14, List.forall_mem_cons.mpr ⟨lw_p15, fun _ h => absurd h List.not_mem_nil⟩⟩⟩⟩⟩⟩⟩⟩⟩⟩⟩⟩⟩⟩⟩⟩
theorem lw_p16 : lw_okq (⟨"BoxProofs$Findings", "liesInBox", "(II)Z"⟩, 6) := ⟨⟨by decide +kernel, by decide +kernel⟩, List.mem_of_getElem? (i := 74) (by decide +kernel), List.mem_of_getElem? (i := 373) (by decide +kernel), List.mem_of_getElem? (i := 374) (by decide +kernel)⟩
theorem lw_p17 : lw_okq (⟨"BoxProofs", "groundsTable", "(I)J"⟩, 3) := ⟨⟨by decide +kernel, by decide +kernel⟩, List.mem_of_getElem? (i := 10) (by decide +kernel), List.mem_of_getElem? (i := 382) (by decide +kernel), List.mem_of_getElem? (i := 383) (by decide +kernel)⟩
theorem lw_p18 : lw_okq (⟨"BoxProofsModel", "isFormula", "(I)Z"⟩, 25) := ⟨⟨by decide +kernel, by decide +kernel⟩, List.mem_of_getElem? (i := 392) (by decide +kernel), List.mem_of_getElem? (i := 481) (by decide +kernel), List.mem_of_getElem? (i := 482) (by decide +kernel)⟩
theorem lw_p19 : lw_okq (⟨"BoxProofsModel", "make", "(III)I"⟩, 25) := ⟨⟨by decide +kernel, by decide +kernel⟩, List.mem_of_getElem? (i := 392) (by decide +kernel), List.mem_of_getElem? (i := 485) (by decide +kernel), List.mem_of_getElem? (i := 486) (by decide +kernel)⟩
theorem lw_p20 : lw_okq (⟨"BoxProofsModel", "evaluate", "(I)V"⟩, 25) := ⟨⟨by decide +kernel, by decide +kernel⟩, List.mem_of_getElem? (i := 392) (by decide +kernel), List.mem_of_getElem? (i := 497) (by decide +kernel), List.mem_of_getElem? (i := 498) (by decide +kernel)⟩
theorem lw_p21 : lw_okq (⟨"BoxProofsModel", "look", "(I)I"⟩, 25) := ⟨⟨by decide +kernel, by decide +kernel⟩, List.mem_of_getElem? (i := 392) (by decide +kernel), List.mem_of_getElem? (i := 528) (by decide +kernel), List.mem_of_getElem? (i := 529) (by decide +kernel)⟩
theorem lw_p22 : lw_okq (⟨"BoxProofsModel", "badNumbers", "(II)I"⟩, 25) := ⟨⟨by decide +kernel, by decide +kernel⟩, List.mem_of_getElem? (i := 392) (by decide +kernel), List.mem_of_getElem? (i := 532) (by decide +kernel), List.mem_of_getElem? (i := 533) (by decide +kernel)⟩
theorem lw_p23 : lw_okq (⟨"BoxProofsModel", "badLine", "(IIZ)I"⟩, 25) := ⟨⟨by decide +kernel, by decide +kernel⟩, List.mem_of_getElem? (i := 392) (by decide +kernel), List.mem_of_getElem? (i := 536) (by decide +kernel), List.mem_of_getElem? (i := 537) (by decide +kernel)⟩
theorem lw_p24 : lw_okq (⟨"BoxProofsModel", "inForce", "(I)Z"⟩, 25) := ⟨⟨by decide +kernel, by decide +kernel⟩, List.mem_of_getElem? (i := 392) (by decide +kernel), List.mem_of_getElem? (i := 540) (by decide +kernel), List.mem_of_getElem? (i := 541) (by decide +kernel)⟩
theorem lw_p25 : lw_okq (⟨"BoxProofsModel", "allOpen", "(I)Z"⟩, 25) := ⟨⟨by decide +kernel, by decide +kernel⟩, List.mem_of_getElem? (i := 392) (by decide +kernel), List.mem_of_getElem? (i := 544) (by decide +kernel), List.mem_of_getElem? (i := 545) (by decide +kernel)⟩
theorem lw_p26 : lw_okq (⟨"BoxProofsModel", "badForm", "(II)I"⟩, 25) := ⟨⟨by decide +kernel, by decide +kernel⟩, List.mem_of_getElem? (i := 392) (by decide +kernel), List.mem_of_getElem? (i := 548) (by decide +kernel), List.mem_of_getElem? (i := 549) (by decide +kernel)⟩
theorem lw_p27 : lw_okq (⟨"BoxProofsModel", "isKind", "(II)Z"⟩, 25) := ⟨⟨by decide +kernel, by decide +kernel⟩, List.mem_of_getElem? (i := 392) (by decide +kernel), List.mem_of_getElem? (i := 552) (by decide +kernel), List.mem_of_getElem? (i := 553) (by decide +kernel)⟩
theorem lw_p28 : lw_okq (⟨"BoxProofsModel", "badBoxes", "(III)I"⟩, 25) := ⟨⟨by decide +kernel, by decide +kernel⟩, List.mem_of_getElem? (i := 392) (by decide +kernel), List.mem_of_getElem? (i := 556) (by decide +kernel), List.mem_of_getElem? (i := 557) (by decide +kernel)⟩
theorem lw_p29 : lw_okq (⟨"BoxProofsModel", "badBox", "(I)I"⟩, 25) := ⟨⟨by decide +kernel, by decide +kernel⟩, List.mem_of_getElem? (i := 392) (by decide +kernel), List.mem_of_getElem? (i := 560) (by decide +kernel), List.mem_of_getElem? (i := 561) (by decide +kernel)⟩
theorem lw_p30 : lw_okq (⟨"BoxProofsModel", "endOf", "(I)I"⟩, 25) := ⟨⟨by decide +kernel, by decide +kernel⟩, List.mem_of_getElem? (i := 392) (by decide +kernel), List.mem_of_getElem? (i := 564) (by decide +kernel), List.mem_of_getElem? (i := 565) (by decide +kernel)⟩
theorem lw_p31 : lw_okq (⟨"BoxProofsModel", "headOf", "(III)I"⟩, 25) := ⟨⟨by decide +kernel, by decide +kernel⟩, List.mem_of_getElem? (i := 392) (by decide +kernel), List.mem_of_getElem? (i := 568) (by decide +kernel), List.mem_of_getElem? (i := 569) (by decide +kernel)⟩
def lw_privs_2 : List (MethodName × Nat) := [(⟨"BoxProofs$Findings", "liesInBox", "(II)Z"⟩, 6), (⟨"BoxProofs", "groundsTable", "(I)J"⟩, 3), (⟨"BoxProofsModel", "isFormula", "(I)Z"⟩, 25), (⟨"BoxProofsModel", "make", "(III)I"⟩, 25), (⟨"BoxProofsModel", "evaluate", "(I)V"⟩, 25), (⟨"BoxProofsModel", "look", "(I)I"⟩, 25), (⟨"BoxProofsModel", "badNumbers", "(II)I"⟩, 25), (⟨"BoxProofsModel", "badLine", "(IIZ)I"⟩, 25), (⟨"BoxProofsModel", "inForce", "(I)Z"⟩, 25), (⟨"BoxProofsModel", "allOpen", "(I)Z"⟩, 25), (⟨"BoxProofsModel", "badForm", "(II)I"⟩, 25), (⟨"BoxProofsModel", "isKind", "(II)Z"⟩, 25), (⟨"BoxProofsModel", "badBoxes", "(III)I"⟩, 25), (⟨"BoxProofsModel", "badBox", "(I)I"⟩, 25), (⟨"BoxProofsModel", "endOf", "(I)I"⟩, 25), (⟨"BoxProofsModel", "headOf", "(III)I"⟩, 25)]
theorem lw_r2 : ∀ q ∈ lw_privs_2, lw_okq q := List.forall_mem_cons.mpr ⟨lw_p16, List.forall_mem_cons.mpr ⟨lw_p17, List.forall_mem_cons.mpr ⟨lw_p18, List.forall_mem_cons.mpr ⟨lw_p19, List.forall_mem_cons.mpr ⟨lw_p20, List.forall_mem_cons.mpr ⟨lw_p21, List.forall_mem_cons.mpr ⟨lw_p22, List.forall_mem_cons.mpr ⟨lw_p23, List.forall_mem_cons.mpr ⟨lw_p24, List.forall_mem_cons.mpr ⟨lw_p25, List.forall_mem_cons.mpr ⟨lw_p26, List.forall_mem_cons.mpr ⟨lw_p27, List.forall_mem_cons.mpr ⟨lw_p28, List.forall_mem_cons.mpr ⟨lw_p29, List.forall_mem_cons.mpr ⟨lw_p30, List.forall_mem_cons.mpr ⟨lw_p31, fun _ h => absurd h List.not_mem_nil⟩⟩⟩⟩⟩⟩⟩⟩⟩⟩⟩⟩⟩⟩⟩⟩
theorem lw_p32 : lw_okq (⟨"BoxProofsModel", "hangsOn", "(II)Z"⟩, 25) := ⟨⟨by decide +kernel, by decide +kernel⟩, List.mem_of_getElem? (i := 392) (by decide +kernel), List.mem_of_getElem? (i := 588) (by decide +kernel), List.mem_of_getElem? (i := 589) (by decide +kernel)⟩
theorem lw_p33 : lw_okq (⟨"BoxProofsModel", "liesIn", "(II)Z"⟩, 25) := ⟨⟨by decide +kernel, by decide +kernel⟩, List.mem_of_getElem? (i := 392) (by decide +kernel), List.mem_of_getElem? (i := 592) (by decide +kernel), List.mem_of_getElem? (i := 593) (by decide +kernel)⟩
def lw_privs_3 : List (MethodName × Nat) := [(⟨"BoxProofsModel", "hangsOn", "(II)Z"⟩, 25), (⟨"BoxProofsModel", "liesIn", "(II)Z"⟩, 25)]
theorem lw_r3 : ∀ q ∈ lw_privs_3, lw_okq q := List.forall_mem_cons.mpr ⟨lw_p32, List.forall_mem_cons.mpr ⟨lw_p33, fun _ h => absurd h List.not_mem_nil⟩⟩
def lw_privs : List (MethodName × Nat) := lw_privs_1 ++ (lw_privs_2 ++ (lw_privs_3))
def lw_tbl : List Cond := k2_sels lw_privs ++ tables_1
theorem lw_privs_ok : ∀ q ∈ lw_privs, lw_okq q := by
  show ∀ q ∈ lw_privs_1 ++ (lw_privs_2 ++ (lw_privs_3)), lw_okq q
  exact List.forall_mem_append.mpr ⟨lw_r1, List.forall_mem_append.mpr ⟨lw_r2, lw_r3⟩⟩
-- ===== end of PART A; then your names; then what follows =====
/-! ===== BEGIN words of one list among another's, by their places ===== -/
theorem goodIn_r {big : List Cond} (ws : List Cond) (ps : List Nat) (hp : ws = ps.filterMap (fun i => big[i]?)) (h : ws.all goodWord = true) : GoodIn big ws := by
  intro w hw
  have h1 := List.all_eq_true.mp h w hw
  rw [hp] at hw
  obtain ⟨i, -, hi⟩ := List.mem_filterMap.mp hw
  have hm : w ∈ big := by first | exact List.mem_of_getElem? hi | exact List.getElem?_mem hi
  exact ⟨hm, good_of_word h1⟩
theorem goodIn_app {big a b : List Cond} (ha : GoodIn big a) (hb : GoodIn big b) : GoodIn big (a ++ b) := fun w h => (List.mem_append.mp h).elim (ha w) (hb w)
theorem goodIn_ca {big a b : List Cond} {c : Cond} (ha : GoodIn big (c :: a)) (hb : GoodIn big b) : GoodIn big (c :: (a ++ b)) := fun w h => (List.mem_cons.mp h).elim (fun e => ha w (List.mem_cons.mpr (Or.inl e))) (fun h => (List.mem_append.mp h).elim (fun h => ha w (List.mem_cons.mpr (Or.inr h))) (hb w))
theorem goodIn_sub {big ws : List Cond} (hm : ∀ w ∈ ws, w ∈ big) (h : ws.all goodWord = true) : GoodIn big ws := fun w hw => ⟨hm w hw, good_of_word (List.all_eq_true.mp h w hw)⟩
/-! ===== END ===== -/

/-! ===== BEGIN printed: names, fields, word lists, decode rows ===== -/
def RX0 : String := "BoxProofs$Findings"
def TX0 : u_T := fun k => match k with
  | 0 => ("BoxProofs$Findings", "rules", "[I", true)
  | 1 => ("BoxProofs$Findings", "heads", "[I", true)
  | 2 => ("BoxProofs$Findings", "ends", "[I", true)
  | 3 => ("BoxProofs$Findings", "inForce", "[Z", true)
  | 4 => ("BoxProofs$Findings", "usable", "[Z", true)
  | _ => ("BoxProofs$Findings", "summary", "[I", true)
def tyX0 : Nat → FieldType := fun k => match k with
  | 0 => .array .int
  | 1 => .array .int
  | 2 => .array .int
  | 3 => .array .boolean
  | 4 => .array .boolean
  | _ => .array .int
abbrev wsX00 : List Cond := u_ws RX0 TX0 6
theorem nmX0 : ∀ a, a < 6 → ∀ b, b < 6 → a ≠ b → (TX0 a).2.1 ≠ (TX0 b).2.1 := by decide +kernel
theorem tyX0_ok : ∀ k, k < 6 → parseFieldDescriptor (TX0 k).2.2.1 = some (tyX0 k) := by decide +kernel
abbrev cX0_init : ByteArray := prog_2_method_1_code
def yX0_init : MethodName := ⟨RX0, "<init>", "()V"⟩
abbrev cX0_forget : ByteArray := prog_2_method_2_code
def yX0_forget : MethodName := ⟨RX0, "forget", "()V"⟩
abbrev cX0_sumUp : ByteArray := prog_2_method_3_code
def yX0_sumUp : MethodName := ⟨RX0, "sumUp", "(III)V"⟩
abbrev cX0_summaryOf : ByteArray := prog_2_method_4_code
def yX0_summaryOf : MethodName := ⟨RX0, "summaryOf", "(I)I"⟩
abbrev cX0_keep : ByteArray := prog_2_method_5_code
def yX0_keep : MethodName := ⟨RX0, "keep", "(III)V"⟩
abbrev cX0_shutBox : ByteArray := prog_2_method_6_code
def yX0_shutBox : MethodName := ⟨RX0, "shutBox", "(II)V"⟩
abbrev cX0_ruleOf : ByteArray := prog_2_method_7_code
def yX0_ruleOf : MethodName := ⟨RX0, "ruleOf", "(I)I"⟩
abbrev cX0_headOf : ByteArray := prog_2_method_8_code
def yX0_headOf : MethodName := ⟨RX0, "headOf", "(I)I"⟩
abbrev cX0_endOf : ByteArray := prog_2_method_9_code
def yX0_endOf : MethodName := ⟨RX0, "endOf", "(I)I"⟩
abbrev cX0_innermostOpen : ByteArray := prog_2_method_10_code
def yX0_innermostOpen : MethodName := ⟨RX0, "innermostOpen", "()I"⟩
abbrev cX0_countOpen : ByteArray := prog_2_method_11_code
def yX0_countOpen : MethodName := ⟨RX0, "countOpen", "()I"⟩
abbrev cX0_isOpenBox : ByteArray := prog_2_method_12_code
def yX0_isOpenBox : MethodName := ⟨RX0, "isOpenBox", "(I)Z"⟩
abbrev cX0_liesInBox : ByteArray := prog_2_method_13_code
def yX0_liesInBox : MethodName := ⟨RX0, "liesInBox", "(II)Z"⟩
abbrev cX0_isInForce : ByteArray := prog_2_method_14_code
def yX0_isInForce : MethodName := ⟨RX0, "isInForce", "(I)Z"⟩
abbrev cX0_isUsableBox : ByteArray := prog_2_method_15_code
def yX0_isUsableBox : MethodName := ⟨RX0, "isUsableBox", "(I)Z"⟩
abbrev cX0_isGround : ByteArray := prog_2_method_16_code
def yX0_isGround : MethodName := ⟨RX0, "isGround", "(II)Z"⟩
abbrev cX0_groundOf : ByteArray := prog_2_method_17_code
def yX0_groundOf : MethodName := ⟨RX0, "groundOf", "(II)I"⟩
def RX1 : String := "BoxProofs$Formulas"
def TX1 : u_T := fun k => match k with
  | 0 => ("BoxProofs$Formulas", "kinds", "[I", true)
  | 1 => ("BoxProofs$Formulas", "firsts", "[I", true)
  | 2 => ("BoxProofs$Formulas", "seconds", "[I", true)
  | 3 => ("BoxProofs$Formulas", "heights", "[I", true)
  | 4 => ("BoxProofs$Formulas", "tables", "[J", true)
  | 5 => ("BoxProofs$Formulas", "replaced", "[I", true)
  | _ => ("BoxProofs$Formulas", "count", "I", false)
def tyX1 : Nat → FieldType := fun k => match k with
  | 0 => .array .int
  | 1 => .array .int
  | 2 => .array .int
  | 3 => .array .int
  | 4 => .array .long
  | 5 => .array .int
  | _ => .int
abbrev wsX10 : List Cond := u_ws RX1 TX1 7
theorem nmX1 : ∀ a, a < 7 → ∀ b, b < 7 → a ≠ b → (TX1 a).2.1 ≠ (TX1 b).2.1 := by decide +kernel
theorem tyX1_ok : ∀ k, k < 7 → parseFieldDescriptor (TX1 k).2.2.1 = some (tyX1 k) := by decide +kernel
abbrev cX1_init : ByteArray := prog_3_method_1_code
def yX1_init : MethodName := ⟨RX1, "<init>", "()V"⟩
abbrev cX1_count : ByteArray := prog_3_method_2_code
def yX1_count : MethodName := ⟨RX1, "count", "()I"⟩
abbrev cX1_has : ByteArray := prog_3_method_3_code
def yX1_has : MethodName := ⟨RX1, "has", "(I)Z"⟩
abbrev cX1_kindOf : ByteArray := prog_3_method_4_code
def yX1_kindOf : MethodName := ⟨RX1, "kindOf", "(I)I"⟩
abbrev cX1_firstOf : ByteArray := prog_3_method_5_code
def yX1_firstOf : MethodName := ⟨RX1, "firstOf", "(I)I"⟩
abbrev cX1_secondOf : ByteArray := prog_3_method_6_code
def yX1_secondOf : MethodName := ⟨RX1, "secondOf", "(I)I"⟩
abbrev cX1_heightOf : ByteArray := prog_3_method_7_code
def yX1_heightOf : MethodName := ⟨RX1, "heightOf", "(I)I"⟩
abbrev cX1_tableOf : ByteArray := prog_3_method_8_code
def yX1_tableOf : MethodName := ⟨RX1, "tableOf", "(I)J"⟩
abbrev cX1_make : ByteArray := prog_3_method_9_code
def yX1_make : MethodName := ⟨RX1, "make", "(III)I"⟩
abbrev cX1_find : ByteArray := prog_3_method_10_code
def yX1_find : MethodName := ⟨RX1, "find", "(III)I"⟩
abbrev cX1_tableFor : ByteArray := prog_3_method_11_code
def yX1_tableFor : MethodName := ⟨RX1, "tableFor", "(III)J"⟩
abbrev cX1_replace : ByteArray := prog_3_method_12_code
def yX1_replace : MethodName := ⟨RX1, "replace", "(III)I"⟩
abbrev cX1_replaceIn : ByteArray := prog_3_method_13_code
def yX1_replaceIn : MethodName := ⟨RX1, "replaceIn", "(IIII)I"⟩
def RX2 : String := "BoxProofs$Lines"
def TX2 : u_T := fun k => match k with
  | 0 => ("BoxProofs$Lines", "laid", "[Z", true)
  | 1 => ("BoxProofs$Lines", "rules", "[I", true)
  | 2 => ("BoxProofs$Lines", "ps", "[I", true)
  | 3 => ("BoxProofs$Lines", "qs", "[I", true)
  | 4 => ("BoxProofs$Lines", "rs", "[I", true)
  | _ => ("BoxProofs$Lines", "fs", "[I", true)
def tyX2 : Nat → FieldType := fun k => match k with
  | 0 => .array .boolean
  | 1 => .array .int
  | 2 => .array .int
  | 3 => .array .int
  | 4 => .array .int
  | _ => .array .int
abbrev wsX20 : List Cond := u_ws RX2 TX2 6
theorem nmX2 : ∀ a, a < 6 → ∀ b, b < 6 → a ≠ b → (TX2 a).2.1 ≠ (TX2 b).2.1 := by decide +kernel
theorem tyX2_ok : ∀ k, k < 6 → parseFieldDescriptor (TX2 k).2.2.1 = some (tyX2 k) := by decide +kernel
abbrev cX2_init : ByteArray := prog_4_method_1_code
def yX2_init : MethodName := ⟨RX2, "<init>", "()V"⟩
abbrev cX2_isLaid : ByteArray := prog_4_method_2_code
def yX2_isLaid : MethodName := ⟨RX2, "isLaid", "(I)Z"⟩
abbrev cX2_put : ByteArray := prog_4_method_3_code
def yX2_put : MethodName := ⟨RX2, "put", "(IIIIII)V"⟩
abbrev cX2_clear : ByteArray := prog_4_method_4_code
def yX2_clear : MethodName := ⟨RX2, "clear", "(I)V"⟩
abbrev cX2_ruleOf : ByteArray := prog_4_method_5_code
def yX2_ruleOf : MethodName := ⟨RX2, "ruleOf", "(I)I"⟩
abbrev cX2_pOf : ByteArray := prog_4_method_6_code
def yX2_pOf : MethodName := ⟨RX2, "pOf", "(I)I"⟩
abbrev cX2_qOf : ByteArray := prog_4_method_7_code
def yX2_qOf : MethodName := ⟨RX2, "qOf", "(I)I"⟩
abbrev cX2_rOf : ByteArray := prog_4_method_8_code
def yX2_rOf : MethodName := ⟨RX2, "rOf", "(I)I"⟩
abbrev cX2_formulaOf : ByteArray := prog_4_method_9_code
def yX2_formulaOf : MethodName := ⟨RX2, "formulaOf", "(I)I"⟩
def RX3 : String := "BoxProofs"
def TX3 : u_T := fun k => match k with
  | 0 => ("BoxProofs", "known", "LBoxProofs$Formulas;", true)
  | 1 => ("BoxProofs", "proof", "LBoxProofs$Lines;", true)
  | _ => ("BoxProofs", "findings", "LBoxProofs$Findings;", true)
def tyX3 : Nat → FieldType := fun k => match k with
  | 0 => .object "BoxProofs$Formulas"
  | 1 => .object "BoxProofs$Lines"
  | _ => .object "BoxProofs$Findings"
abbrev wsX30 : List Cond := u_ws RX3 TX3 3
theorem nmX3 : ∀ a, a < 3 → ∀ b, b < 3 → a ≠ b → (TX3 a).2.1 ≠ (TX3 b).2.1 := by decide +kernel
theorem tyX3_ok : ∀ k, k < 3 → parseFieldDescriptor (TX3 k).2.2.1 = some (tyX3 k) := by decide +kernel
abbrev cX3_init : ByteArray := prog_1_method_1_code
def yX3_init : MethodName := ⟨RX3, "<init>", "()V"⟩
abbrev cX3_formula : ByteArray := prog_1_method_2_code
def yX3_formula : MethodName := ⟨RX3, "formula", "(III)I"⟩
abbrev cX3_about : ByteArray := prog_1_method_3_code
def yX3_about : MethodName := ⟨RX3, "about", "(II)I"⟩
abbrev cX3_value : ByteArray := prog_1_method_4_code
def yX3_value : MethodName := ⟨RX3, "value", "(II)I"⟩
abbrev cX3_truths : ByteArray := prog_1_method_5_code
def yX3_truths : MethodName := ⟨RX3, "truths", "(I)I"⟩
abbrev cX3_instead : ByteArray := prog_1_method_6_code
def yX3_instead : MethodName := ⟨RX3, "instead", "(III)I"⟩
abbrev cX3_lay : ByteArray := prog_1_method_7_code
def yX3_lay : MethodName := ⟨RX3, "lay", "(IIIIII)I"⟩
abbrev cX3_take : ByteArray := prog_1_method_8_code
def yX3_take : MethodName := ⟨RX3, "take", "(I)I"⟩
abbrev cX3_check : ByteArray := prog_1_method_9_code
def yX3_check : MethodName := ⟨RX3, "check", "()I"⟩
abbrev cX3_told : ByteArray := prog_1_method_10_code
def yX3_told : MethodName := ⟨RX3, "told", "(I)I"⟩
abbrev cX3_head : ByteArray := prog_1_method_11_code
def yX3_head : MethodName := ⟨RX3, "head", "(I)I"⟩
abbrev cX3_force : ByteArray := prog_1_method_12_code
def yX3_force : MethodName := ⟨RX3, "force", "(I)I"⟩
abbrev cX3_hangs : ByteArray := prog_1_method_13_code
def yX3_hangs : MethodName := ⟨RX3, "hangs", "(II)I"⟩
abbrev cX3_sound : ByteArray := prog_1_method_14_code
def yX3_sound : MethodName := ⟨RX3, "sound", "(I)I"⟩
abbrev cX3_formulas : ByteArray := prog_1_method_15_code
def yX3_formulas : MethodName := ⟨RX3, "formulas", "()I"⟩
abbrev cX3_lookAt : ByteArray := prog_1_method_16_code
def yX3_lookAt : MethodName := ⟨RX3, "lookAt", "(I)I"⟩
abbrev cX3_reasonAgainst : ByteArray := prog_1_method_17_code
def yX3_reasonAgainst : MethodName := ⟨RX3, "reasonAgainst", "(I)I"⟩
abbrev cX3_reasonAgainstNumbers : ByteArray := prog_1_method_18_code
def yX3_reasonAgainstNumbers : MethodName := ⟨RX3, "reasonAgainstNumbers", "(III)I"⟩
abbrev cX3_reasonAgainstLine : ByteArray := prog_1_method_19_code
def yX3_reasonAgainstLine : MethodName := ⟨RX3, "reasonAgainstLine", "(IIZ)I"⟩
abbrev cX3_takesFormula : ByteArray := prog_1_method_20_code
def yX3_takesFormula : MethodName := ⟨RX3, "takesFormula", "(I)Z"⟩
abbrev cX3_isFormRight : ByteArray := prog_1_method_21_code
def yX3_isFormRight : MethodName := ⟨RX3, "isFormRight", "(II)Z"⟩
abbrev cX3_isNegation : ByteArray := prog_1_method_22_code
def yX3_isNegation : MethodName := ⟨RX3, "isNegation", "(I)Z"⟩
abbrev cX3_areBoxesRight : ByteArray := prog_1_method_23_code
def yX3_areBoxesRight : MethodName := ⟨RX3, "areBoxesRight", "(II)Z"⟩
abbrev cX3_areAllLike : ByteArray := prog_1_method_24_code
def yX3_areAllLike : MethodName := ⟨RX3, "areAllLike", "(II)Z"⟩
abbrev cX3_heldAtEnd : ByteArray := prog_1_method_25_code
def yX3_heldAtEnd : MethodName := ⟨RX3, "heldAtEnd", "(I)I"⟩
abbrev cX3_conclude : ByteArray := prog_1_method_26_code
def yX3_conclude : MethodName := ⟨RX3, "conclude", "(I)I"⟩
abbrev cX3_groundsTable : ByteArray := prog_1_method_27_code
def yX3_groundsTable : MethodName := ⟨RX3, "groundsTable", "(I)J"⟩
abbrev cX3_isLine : ByteArray := prog_1_method_28_code
def yX3_isLine : MethodName := ⟨RX3, "isLine", "(I)Z"⟩
abbrev cX3_isLetter : ByteArray := prog_1_method_29_code
def yX3_isLetter : MethodName := ⟨RX3, "isLetter", "(I)Z"⟩
def RX4 : String := "BoxProofsModel"
def TX4 : u_T := fun k => match k with
  | 0 => ("BoxProofsModel", "formulas", "I", false)
  | 1 => ("BoxProofsModel", "kind", "[I", true)
  | 2 => ("BoxProofsModel", "left", "[I", true)
  | 3 => ("BoxProofsModel", "right", "[I", true)
  | 4 => ("BoxProofsModel", "height", "[I", true)
  | 5 => ("BoxProofsModel", "laid", "[Z", true)
  | 6 => ("BoxProofsModel", "rules", "[I", true)
  | 7 => ("BoxProofsModel", "ps", "[I", true)
  | 8 => ("BoxProofsModel", "qs", "[I", true)
  | 9 => ("BoxProofsModel", "rs", "[I", true)
  | 10 => ("BoxProofsModel", "fs", "[I", true)
  | 11 => ("BoxProofsModel", "checked", "Z", false)
  | 12 => ("BoxProofsModel", "stopped", "I", false)
  | 13 => ("BoxProofsModel", "reason", "I", false)
  | 14 => ("BoxProofsModel", "made", "I", false)
  | 15 => ("BoxProofsModel", "opened", "I", false)
  | 16 => ("BoxProofsModel", "ruleThen", "[I", true)
  | 17 => ("BoxProofsModel", "heads", "[I", true)
  | 18 => ("BoxProofsModel", "boxOf", "[I", true)
  | 19 => ("BoxProofsModel", "shutBy", "[I", true)
  | 20 => ("BoxProofsModel", "around", "[I", true)
  | 21 => ("BoxProofsModel", "inner", "I", false)
  | 22 => ("BoxProofsModel", "truth", "[Z", true)
  | 23 => ("BoxProofsModel", "turned", "[I", true)
  | _ => ("BoxProofsModel", "pile", "[I", true)
def tyX4 : Nat → FieldType := fun k => match k with
  | 0 => .int
  | 1 => .array .int
  | 2 => .array .int
  | 3 => .array .int
  | 4 => .array .int
  | 5 => .array .boolean
  | 6 => .array .int
  | 7 => .array .int
  | 8 => .array .int
  | 9 => .array .int
  | 10 => .array .int
  | 11 => .boolean
  | 12 => .int
  | 13 => .int
  | 14 => .int
  | 15 => .int
  | 16 => .array .int
  | 17 => .array .int
  | 18 => .array .int
  | 19 => .array .int
  | 20 => .array .int
  | 21 => .int
  | 22 => .array .boolean
  | 23 => .array .int
  | _ => .array .int
abbrev wsX40 : List Cond := u_ws RX4 TX4 25
theorem nmX4 : ∀ a, a < 25 → ∀ b, b < 25 → a ≠ b → (TX4 a).2.1 ≠ (TX4 b).2.1 := by decide +kernel
theorem tyX4_ok : ∀ k, k < 25 → parseFieldDescriptor (TX4 k).2.2.1 = some (tyX4 k) := by decide +kernel
abbrev cX4_init : ByteArray := prog_6_method_1_code
def yX4_init : MethodName := ⟨RX4, "<init>", "()V"⟩
abbrev cX4_within : ByteArray := prog_6_method_3_code
def yX4_within : MethodName := ⟨RX4, "within", "(III)Z"⟩
abbrev cX4_isFormula : ByteArray := prog_6_method_4_code
def yX4_isFormula : MethodName := ⟨RX4, "isFormula", "(I)Z"⟩
abbrev cX4_isLine : ByteArray := prog_6_method_5_code
def yX4_isLine : MethodName := ⟨RX4, "isLine", "(I)Z"⟩
abbrev cX4_make : ByteArray := prog_6_method_6_code
def yX4_make : MethodName := ⟨RX4, "make", "(III)I"⟩
abbrev cX4_formula : ByteArray := prog_6_method_7_code
def yX4_formula : MethodName := ⟨RX4, "formula", "(III)I"⟩
abbrev cX4_about : ByteArray := prog_6_method_8_code
def yX4_about : MethodName := ⟨RX4, "about", "(II)I"⟩
abbrev cX4_evaluate : ByteArray := prog_6_method_9_code
def yX4_evaluate : MethodName := ⟨RX4, "evaluate", "(I)V"⟩
abbrev cX4_value : ByteArray := prog_6_method_10_code
def yX4_value : MethodName := ⟨RX4, "value", "(II)I"⟩
abbrev cX4_truths : ByteArray := prog_6_method_11_code
def yX4_truths : MethodName := ⟨RX4, "truths", "(I)I"⟩
abbrev cX4_instead : ByteArray := prog_6_method_12_code
def yX4_instead : MethodName := ⟨RX4, "instead", "(III)I"⟩
abbrev cX4_formulas : ByteArray := prog_6_method_13_code
def yX4_formulas : MethodName := ⟨RX4, "formulas", "()I"⟩
abbrev cX4_lay : ByteArray := prog_6_method_14_code
def yX4_lay : MethodName := ⟨RX4, "lay", "(IIIIII)I"⟩
abbrev cX4_take : ByteArray := prog_6_method_15_code
def yX4_take : MethodName := ⟨RX4, "take", "(I)I"⟩
abbrev cX4_allOpen : ByteArray := prog_6_method_16_code
def yX4_allOpen : MethodName := ⟨RX4, "allOpen", "(I)Z"⟩
abbrev cX4_inForce : ByteArray := prog_6_method_17_code
def yX4_inForce : MethodName := ⟨RX4, "inForce", "(I)Z"⟩
abbrev cX4_badLine : ByteArray := prog_6_method_18_code
def yX4_badLine : MethodName := ⟨RX4, "badLine", "(IIZ)I"⟩
abbrev cX4_badBox : ByteArray := prog_6_method_19_code
def yX4_badBox : MethodName := ⟨RX4, "badBox", "(I)I"⟩
abbrev cX4_endOf : ByteArray := prog_6_method_20_code
def yX4_endOf : MethodName := ⟨RX4, "endOf", "(I)I"⟩
abbrev cX4_isKind : ByteArray := prog_6_method_21_code
def yX4_isKind : MethodName := ⟨RX4, "isKind", "(II)Z"⟩
abbrev cX4_badNumbers : ByteArray := prog_6_method_22_code
def yX4_badNumbers : MethodName := ⟨RX4, "badNumbers", "(II)I"⟩
abbrev cX4_badForm : ByteArray := prog_6_method_23_code
def yX4_badForm : MethodName := ⟨RX4, "badForm", "(II)I"⟩
abbrev cX4_badBoxes : ByteArray := prog_6_method_24_code
def yX4_badBoxes : MethodName := ⟨RX4, "badBoxes", "(III)I"⟩
abbrev cX4_headOf : ByteArray := prog_6_method_25_code
def yX4_headOf : MethodName := ⟨RX4, "headOf", "(III)I"⟩
abbrev cX4_look : ByteArray := prog_6_method_26_code
def yX4_look : MethodName := ⟨RX4, "look", "(I)I"⟩
abbrev cX4_check : ByteArray := prog_6_method_27_code
def yX4_check : MethodName := ⟨RX4, "check", "()I"⟩
abbrev cX4_told : ByteArray := prog_6_method_28_code
def yX4_told : MethodName := ⟨RX4, "told", "(I)I"⟩
abbrev cX4_head : ByteArray := prog_6_method_29_code
def yX4_head : MethodName := ⟨RX4, "head", "(I)I"⟩
abbrev cX4_force : ByteArray := prog_6_method_30_code
def yX4_force : MethodName := ⟨RX4, "force", "(I)I"⟩
abbrev cX4_liesIn : ByteArray := prog_6_method_31_code
def yX4_liesIn : MethodName := ⟨RX4, "liesIn", "(II)Z"⟩
abbrev cX4_hangsOn : ByteArray := prog_6_method_32_code
def yX4_hangsOn : MethodName := ⟨RX4, "hangsOn", "(II)Z"⟩
abbrev cX4_hangs : ByteArray := prog_6_method_33_code
def yX4_hangs : MethodName := ⟨RX4, "hangs", "(II)I"⟩
abbrev cX4_sound : ByteArray := prog_6_method_34_code
def yX4_sound : MethodName := ⟨RX4, "sound", "(I)I"⟩
def RJ13 : String := "java/lang/Long"
def TJ13 : u_T := fun k => match k with
  | _ => ("", "", "", false)
def tyJ13 : Nat → FieldType := fun k => match k with
  | _ => .int
abbrev wsJ130 : List Cond := u_ws RJ13 TJ13 0
theorem nmJ13 : ∀ a, a < 0 → ∀ b, b < 0 → a ≠ b → (TJ13 a).2.1 ≠ (TJ13 b).2.1 := by decide +kernel
theorem tyJ13_ok : ∀ k, k < 0 → parseFieldDescriptor (TJ13 k).2.2.1 = some (tyJ13 k) := by decide +kernel
abbrev cJ13_bitCount_95d88 : ByteArray := prog_7_method_50_code
def yJ13_bitCount_95d88 : MethodName := ⟨RJ13, "bitCount", "(J)I"⟩
def RJ9 : String := "java/lang/Math"
def TJ9 : u_T := fun k => match k with
  | _ => ("", "", "", false)
def tyJ9 : Nat → FieldType := fun k => match k with
  | _ => .int
abbrev wsJ90 : List Cond := u_ws RJ9 TJ9 0
theorem nmJ9 : ∀ a, a < 0 → ∀ b, b < 0 → a ≠ b → (TJ9 a).2.1 ≠ (TJ9 b).2.1 := by decide +kernel
theorem tyJ9_ok : ∀ k, k < 0 → parseFieldDescriptor (TJ9 k).2.2.1 = some (tyJ9 k) := by decide +kernel
abbrev cJ9_max_7cf53 : ByteArray := prog_8_method_65_code
def yJ9_max_7cf53 : MethodName := ⟨RJ9, "max", "(II)I"⟩
def RJ7 : String := "java/util/Arrays"
def TJ7 : u_T := fun k => match k with
  | _ => ("", "", "", false)
def tyJ7 : Nat → FieldType := fun k => match k with
  | _ => .int
abbrev wsJ70 : List Cond := u_ws RJ7 TJ7 0
theorem nmJ7 : ∀ a, a < 0 → ∀ b, b < 0 → a ≠ b → (TJ7 a).2.1 ≠ (TJ7 b).2.1 := by decide +kernel
theorem tyJ7_ok : ∀ k, k < 0 → parseFieldDescriptor (TJ7 k).2.2.1 = some (tyJ7 k) := by decide +kernel
abbrev cJ7_fill_53178 : ByteArray := prog_9_method_103_code
def yJ7_fill_53178 : MethodName := ⟨RJ7, "fill", "([II)V"⟩
def RL : String := "BoxProofsLaw"
abbrev cL_law : ByteArray := code
def yL_law : MethodName := ⟨RL, "law", "([I)Z"⟩
def wsX0_forget : List Cond := .code yX0_forget cX0_forget 2 none :: ([.fieldLink RX0 9 "BoxProofs$Findings" "rules" "[I", .fieldLink RX0 15 "BoxProofs$Findings" "heads" "[I", .fieldLink RX0 18 "BoxProofs$Findings" "ends" "[I", .fieldLink RX0 21 "BoxProofs$Findings" "inForce" "[Z", .fieldLink RX0 25 "BoxProofs$Findings" "usable" "[Z"] ++ wsX00)
def wsX0_init : List Cond := .code yX0_init cX0_init 1 none :: ([.methodLink RX0 3 objectInit, .instanceMethod objectInit, .code objectInit ⟨#[0xb1]⟩ 1 none, .arrayClass .int, .fieldLink RX0 9 "BoxProofs$Findings" "rules" "[I", .fieldLink RX0 15 "BoxProofs$Findings" "heads" "[I", .fieldLink RX0 18 "BoxProofs$Findings" "ends" "[I", .arrayClass .boolean, .fieldLink RX0 21 "BoxProofs$Findings" "inForce" "[Z", .fieldLink RX0 25 "BoxProofs$Findings" "usable" "[Z", .fieldLink RX0 28 "BoxProofs$Findings" "summary" "[I", .methodLink RX0 31 yX0_forget, .instanceMethod yX0_forget, .selects RX0 yX0_forget yX0_forget, .initialized RX0, .code yX0_forget cX0_forget 2 none] ++ wsX00)
def wsX3_isLine : List Cond := .code yX3_isLine cX3_isLine 1 (some .boolean) :: ([])
def wsX0_isOpenBox : List Cond := .code yX0_isOpenBox cX0_isOpenBox 2 (some .boolean) :: ([.fieldLink RX0 9 "BoxProofs$Findings" "rules" "[I", .fieldLink RX0 18 "BoxProofs$Findings" "ends" "[I", .static yX3_isLine, .initialized RX3, .code yX3_isLine cX3_isLine 1 (some .boolean)] ++ wsX00)
def wsX0_countOpen : List Cond := .code yX0_countOpen cX0_countOpen 3 (some .int) :: ([.methodLink RX0 49 yX0_isOpenBox, .instanceMethod yX0_isOpenBox, .selects RX0 yX0_isOpenBox yX0_isOpenBox, .initialized RX0, .code yX0_isOpenBox cX0_isOpenBox 2 (some .boolean), .fieldLink RX0 9 "BoxProofs$Findings" "rules" "[I", .fieldLink RX0 18 "BoxProofs$Findings" "ends" "[I", .static yX3_isLine, .initialized RX3, .code yX3_isLine cX3_isLine 1 (some .boolean)] ++ wsX00)
def wsX0_sumUp : List Cond := .code yX0_sumUp cX0_sumUp 4 none :: ([.fieldLink RX0 28 "BoxProofs$Findings" "summary" "[I", .methodLink RX0 34 yX0_countOpen, .instanceMethod yX0_countOpen, .selects RX0 yX0_countOpen yX0_countOpen, .initialized RX0, .code yX0_countOpen cX0_countOpen 3 (some .int), .methodLink RX0 49 yX0_isOpenBox, .instanceMethod yX0_isOpenBox, .selects RX0 yX0_isOpenBox yX0_isOpenBox, .code yX0_isOpenBox cX0_isOpenBox 2 (some .boolean), .fieldLink RX0 9 "BoxProofs$Findings" "rules" "[I", .fieldLink RX0 18 "BoxProofs$Findings" "ends" "[I", .static yX3_isLine, .initialized RX3, .code yX3_isLine cX3_isLine 1 (some .boolean)] ++ wsX00)
def wsX0_summaryOf : List Cond := .code yX0_summaryOf cX0_summaryOf 2 (some .int) :: ([.fieldLink RX0 28 "BoxProofs$Findings" "summary" "[I"] ++ wsX00)
def wsX0_innermostOpen : List Cond := .code yX0_innermostOpen cX0_innermostOpen 2 (some .int) :: ([.methodLink RX0 49 yX0_isOpenBox, .instanceMethod yX0_isOpenBox, .selects RX0 yX0_isOpenBox yX0_isOpenBox, .initialized RX0, .code yX0_isOpenBox cX0_isOpenBox 2 (some .boolean), .fieldLink RX0 9 "BoxProofs$Findings" "rules" "[I", .fieldLink RX0 18 "BoxProofs$Findings" "ends" "[I", .static yX3_isLine, .initialized RX3, .code yX3_isLine cX3_isLine 1 (some .boolean)] ++ wsX00)
def wsX0_shutBox : List Cond := .code yX0_shutBox cX0_shutBox 4 none :: ([.fieldLink RX0 21 "BoxProofs$Findings" "inForce" "[Z", .fieldLink RX0 25 "BoxProofs$Findings" "usable" "[Z", .fieldLink RX0 18 "BoxProofs$Findings" "ends" "[I", .fieldLink RX0 9 "BoxProofs$Findings" "rules" "[I", .static yX3_isLine, .initialized RX3, .code yX3_isLine cX3_isLine 1 (some .boolean)] ++ wsX00)
def wsX0_keep : List Cond := .code yX0_keep cX0_keep 4 none :: ([.fieldLink RX0 9 "BoxProofs$Findings" "rules" "[I", .fieldLink RX0 15 "BoxProofs$Findings" "heads" "[I", .fieldLink RX0 21 "BoxProofs$Findings" "inForce" "[Z", .static yX3_isLine, .initialized RX3, .code yX3_isLine cX3_isLine 1 (some .boolean), .methodLink RX0 42 yX0_innermostOpen, .instanceMethod yX0_innermostOpen, .selects RX0 yX0_innermostOpen yX0_innermostOpen, .initialized RX0, .code yX0_innermostOpen cX0_innermostOpen 2 (some .int), .methodLink RX0 49 yX0_isOpenBox, .instanceMethod yX0_isOpenBox, .selects RX0 yX0_isOpenBox yX0_isOpenBox, .code yX0_isOpenBox cX0_isOpenBox 2 (some .boolean), .fieldLink RX0 18 "BoxProofs$Findings" "ends" "[I", .methodLink RX0 45 yX0_shutBox, .instanceMethod yX0_shutBox, .selects RX0 yX0_shutBox yX0_shutBox, .code yX0_shutBox cX0_shutBox 4 none, .fieldLink RX0 25 "BoxProofs$Findings" "usable" "[Z"] ++ wsX00)
def wsX0_ruleOf : List Cond := .code yX0_ruleOf cX0_ruleOf 2 (some .int) :: ([.fieldLink RX0 9 "BoxProofs$Findings" "rules" "[I", .static yX3_isLine, .initialized RX3, .code yX3_isLine cX3_isLine 1 (some .boolean)] ++ wsX00)
def wsX0_headOf : List Cond := .code yX0_headOf cX0_headOf 2 (some .int) :: ([.fieldLink RX0 15 "BoxProofs$Findings" "heads" "[I", .static yX3_isLine, .initialized RX3, .code yX3_isLine cX3_isLine 1 (some .boolean)] ++ wsX00)
def wsX0_endOf : List Cond := .code yX0_endOf cX0_endOf 2 (some .int) :: ([.fieldLink RX0 18 "BoxProofs$Findings" "ends" "[I", .static yX3_isLine, .initialized RX3, .code yX3_isLine cX3_isLine 1 (some .boolean)] ++ wsX00)
def wsX0_liesInBox : List Cond := .code yX0_liesInBox cX0_liesInBox 3 (some .boolean) :: ([.methodLink RX0 52 yX0_ruleOf, .instanceMethod yX0_ruleOf, .selects RX0 yX0_ruleOf yX0_ruleOf, .initialized RX0, .code yX0_ruleOf cX0_ruleOf 2 (some .int), .fieldLink RX0 9 "BoxProofs$Findings" "rules" "[I", .static yX3_isLine, .initialized RX3, .code yX3_isLine cX3_isLine 1 (some .boolean), .methodLink RX0 56 yX0_endOf, .instanceMethod yX0_endOf, .selects RX0 yX0_endOf yX0_endOf, .code yX0_endOf cX0_endOf 2 (some .int), .fieldLink RX0 18 "BoxProofs$Findings" "ends" "[I"] ++ wsX00)
def wsX0_isInForce : List Cond := .code yX0_isInForce cX0_isInForce 2 (some .boolean) :: ([.fieldLink RX0 21 "BoxProofs$Findings" "inForce" "[Z", .static yX3_isLine, .initialized RX3, .code yX3_isLine cX3_isLine 1 (some .boolean)] ++ wsX00)
def wsX0_isUsableBox : List Cond := .code yX0_isUsableBox cX0_isUsableBox 2 (some .boolean) :: ([.fieldLink RX0 25 "BoxProofs$Findings" "usable" "[Z", .static yX3_isLine, .initialized RX3, .code yX3_isLine cX3_isLine 1 (some .boolean)] ++ wsX00)
def wsX0_isGround : List Cond := .code yX0_isGround cX0_isGround 3 (some .boolean) :: ([.methodLink RX0 52 yX0_ruleOf, .instanceMethod yX0_ruleOf, .selects RX0 yX0_ruleOf yX0_ruleOf, .initialized RX0, .code yX0_ruleOf cX0_ruleOf 2 (some .int), .fieldLink RX0 9 "BoxProofs$Findings" "rules" "[I", .static yX3_isLine, .initialized RX3, .code yX3_isLine cX3_isLine 1 (some .boolean), .methodLink RX0 59 yX0_liesInBox, .instanceMethod yX0_liesInBox, .selects RX0 yX0_liesInBox yX0_liesInBox, .code yX0_liesInBox cX0_liesInBox 3 (some .boolean), .methodLink RX0 56 yX0_endOf, .instanceMethod yX0_endOf, .selects RX0 yX0_endOf yX0_endOf, .code yX0_endOf cX0_endOf 2 (some .int), .fieldLink RX0 18 "BoxProofs$Findings" "ends" "[I"] ++ wsX00)
def wsX0_groundOf_r1 : List Cond := [Cond.methodLink RX0 63 yX0_headOf, Cond.instanceMethod yX0_headOf, Cond.selects RX0 yX0_headOf yX0_headOf, Cond.initialized RX0, Cond.code yX0_headOf cX0_headOf 2 (some .int), Cond.fieldLink RX0 15 "BoxProofs$Findings" "heads" "[I", Cond.static yX3_isLine, Cond.initialized RX3, Cond.code yX3_isLine cX3_isLine 1 (some .boolean), Cond.methodLink RX0 66 yX0_isGround, Cond.instanceMethod yX0_isGround, Cond.selects RX0 yX0_isGround yX0_isGround, Cond.code yX0_isGround cX0_isGround 3 (some .boolean), Cond.methodLink RX0 52 yX0_ruleOf, Cond.instanceMethod yX0_ruleOf, Cond.selects RX0 yX0_ruleOf yX0_ruleOf, Cond.code yX0_ruleOf cX0_ruleOf 2 (some .int), Cond.fieldLink RX0 9 "BoxProofs$Findings" "rules" "[I", Cond.methodLink RX0 59 yX0_liesInBox, Cond.instanceMethod yX0_liesInBox, Cond.selects RX0 yX0_liesInBox yX0_liesInBox, Cond.code yX0_liesInBox cX0_liesInBox 3 (some .boolean), Cond.methodLink RX0 56 yX0_endOf, Cond.instanceMethod yX0_endOf]
def wsX0_groundOf_r2 : List Cond := [Cond.selects RX0 yX0_endOf yX0_endOf, Cond.code yX0_endOf cX0_endOf 2 (some .int), Cond.fieldLink RX0 18 "BoxProofs$Findings" "ends" "[I"]
def wsX0_groundOf : List Cond := .code yX0_groundOf cX0_groundOf 5 (some .int) :: ((wsX0_groundOf_r1 ++ wsX0_groundOf_r2) ++ wsX00)
def wsX1_init : List Cond := .code yX1_init cX1_init 1 none :: ([.methodLink RX1 3 objectInit, .instanceMethod objectInit, .code objectInit ⟨#[0xb1]⟩ 1 none, .arrayClass .int, .fieldLink RX1 9 "BoxProofs$Formulas" "kinds" "[I", .fieldLink RX1 15 "BoxProofs$Formulas" "firsts" "[I", .fieldLink RX1 18 "BoxProofs$Formulas" "seconds" "[I", .fieldLink RX1 21 "BoxProofs$Formulas" "heights" "[I", .arrayClass .long, .fieldLink RX1 24 "BoxProofs$Formulas" "tables" "[J", .fieldLink RX1 28 "BoxProofs$Formulas" "replaced" "[I", .fieldLink RX1 31 "BoxProofs$Formulas" "count" "I"] ++ wsX10)
def wsX1_count : List Cond := .code yX1_count cX1_count 1 (some .int) :: ([.fieldLink RX1 31 "BoxProofs$Formulas" "count" "I"] ++ wsX10)
def wsX1_has : List Cond := .code yX1_has cX1_has 2 (some .boolean) :: ([.fieldLink RX1 31 "BoxProofs$Formulas" "count" "I"] ++ wsX10)
def wsX1_kindOf : List Cond := .code yX1_kindOf cX1_kindOf 2 (some .int) :: ([.fieldLink RX1 9 "BoxProofs$Formulas" "kinds" "[I", .methodLink RX1 35 yX1_has, .instanceMethod yX1_has, .selects RX1 yX1_has yX1_has, .initialized RX1, .code yX1_has cX1_has 2 (some .boolean), .fieldLink RX1 31 "BoxProofs$Formulas" "count" "I"] ++ wsX10)
def wsX1_firstOf : List Cond := .code yX1_firstOf cX1_firstOf 2 (some .int) :: ([.fieldLink RX1 15 "BoxProofs$Formulas" "firsts" "[I", .methodLink RX1 35 yX1_has, .instanceMethod yX1_has, .selects RX1 yX1_has yX1_has, .initialized RX1, .code yX1_has cX1_has 2 (some .boolean), .fieldLink RX1 31 "BoxProofs$Formulas" "count" "I"] ++ wsX10)
def wsX1_secondOf : List Cond := .code yX1_secondOf cX1_secondOf 2 (some .int) :: ([.fieldLink RX1 18 "BoxProofs$Formulas" "seconds" "[I", .methodLink RX1 35 yX1_has, .instanceMethod yX1_has, .selects RX1 yX1_has yX1_has, .initialized RX1, .code yX1_has cX1_has 2 (some .boolean), .fieldLink RX1 31 "BoxProofs$Formulas" "count" "I"] ++ wsX10)
def wsX1_heightOf : List Cond := .code yX1_heightOf cX1_heightOf 2 (some .int) :: ([.fieldLink RX1 21 "BoxProofs$Formulas" "heights" "[I", .methodLink RX1 35 yX1_has, .instanceMethod yX1_has, .selects RX1 yX1_has yX1_has, .initialized RX1, .code yX1_has cX1_has 2 (some .boolean), .fieldLink RX1 31 "BoxProofs$Formulas" "count" "I"] ++ wsX10)
def wsX1_tableOf : List Cond := .code yX1_tableOf cX1_tableOf 2 (some .long) :: ([.fieldLink RX1 24 "BoxProofs$Formulas" "tables" "[J", .methodLink RX1 35 yX1_has, .instanceMethod yX1_has, .selects RX1 yX1_has yX1_has, .initialized RX1, .code yX1_has cX1_has 2 (some .boolean), .fieldLink RX1 31 "BoxProofs$Formulas" "count" "I"] ++ wsX10)
def wsX1_find : List Cond := .code yX1_find cX1_find 5 (some .int) :: ([.fieldLink RX1 31 "BoxProofs$Formulas" "count" "I", .fieldLink RX1 9 "BoxProofs$Formulas" "kinds" "[I", .fieldLink RX1 15 "BoxProofs$Formulas" "firsts" "[I", .fieldLink RX1 18 "BoxProofs$Formulas" "seconds" "[I"] ++ wsX10)
def wsX3_isLetter : List Cond := .code yX3_isLetter cX3_isLetter 1 (some .boolean) :: ([])
def wsX1_tableFor : List Cond := .code yX1_tableFor cX1_tableFor 4 (some .long) :: ([.fieldLink RX1 60 "BoxProofs$Formulas" "LETTER_TABLES" "[J", .constantLong RX1 67 (-1), .static yX3_isLetter, .initialized RX3, .code yX3_isLetter cX3_isLetter 1 (some .boolean), .methodLink RX1 63 yX1_tableOf, .instanceMethod yX1_tableOf, .selects RX1 yX1_tableOf yX1_tableOf, .initialized RX1, .code yX1_tableOf cX1_tableOf 2 (some .long), .fieldLink RX1 24 "BoxProofs$Formulas" "tables" "[J", .methodLink RX1 35 yX1_has, .instanceMethod yX1_has, .selects RX1 yX1_has yX1_has, .code yX1_has cX1_has 2 (some .boolean), .fieldLink RX1 31 "BoxProofs$Formulas" "count" "I"] ++ wsX10)
def wsX1_make_r1 : List Cond := [Cond.methodLink RX1 47 Lib.Math.max.name, Cond.static Lib.Math.max.name, Cond.initialized "java/lang/Math", Cond.code Lib.Math.max.name Lib.Math.max.code 2 (some .int), Cond.fieldLink RX1 31 "BoxProofs$Formulas" "count" "I", Cond.fieldLink RX1 9 "BoxProofs$Formulas" "kinds" "[I", Cond.fieldLink RX1 15 "BoxProofs$Formulas" "firsts" "[I", Cond.fieldLink RX1 18 "BoxProofs$Formulas" "seconds" "[I", Cond.fieldLink RX1 21 "BoxProofs$Formulas" "heights" "[I", Cond.fieldLink RX1 24 "BoxProofs$Formulas" "tables" "[J", Cond.methodLink RX1 39 yX1_find, Cond.instanceMethod yX1_find, Cond.selects RX1 yX1_find yX1_find, Cond.initialized RX1, Cond.code yX1_find cX1_find 5 (some .int), Cond.methodLink RX1 43 yX1_heightOf, Cond.instanceMethod yX1_heightOf, Cond.selects RX1 yX1_heightOf yX1_heightOf, Cond.code yX1_heightOf cX1_heightOf 2 (some .int), Cond.methodLink RX1 35 yX1_has, Cond.instanceMethod yX1_has, Cond.selects RX1 yX1_has yX1_has, Cond.code yX1_has cX1_has 2 (some .boolean), Cond.methodLink RX1 53 yX1_tableFor]
def wsX1_make_r2 : List Cond := [Cond.instanceMethod yX1_tableFor, Cond.selects RX1 yX1_tableFor yX1_tableFor, Cond.code yX1_tableFor cX1_tableFor 4 (some .long), Cond.fieldLink RX1 60 "BoxProofs$Formulas" "LETTER_TABLES" "[J", Cond.constantLong RX1 67 (-1), Cond.static yX3_isLetter, Cond.initialized RX3, Cond.code yX3_isLetter cX3_isLetter 1 (some .boolean), Cond.methodLink RX1 63 yX1_tableOf, Cond.instanceMethod yX1_tableOf, Cond.selects RX1 yX1_tableOf yX1_tableOf, Cond.code yX1_tableOf cX1_tableOf 2 (some .long)]
def wsX1_make : List Cond := .code yX1_make cX1_make 6 (some .int) :: ((wsX1_make_r1 ++ wsX1_make_r2) ++ wsX10)
def wsJ7_fill_53178 : List Cond := .code yJ7_fill_53178 cJ7_fill_53178 4 none :: ([])
def wsX1_replaceIn_r1 : List Cond := [Cond.fieldLink RX1 9 "BoxProofs$Formulas" "kinds" "[I", Cond.fieldLink RX1 15 "BoxProofs$Formulas" "firsts" "[I", Cond.fieldLink RX1 28 "BoxProofs$Formulas" "replaced" "[I", Cond.fieldLink RX1 18 "BoxProofs$Formulas" "seconds" "[I", Cond.methodLink RX1 35 yX1_has, Cond.instanceMethod yX1_has, Cond.selects RX1 yX1_has yX1_has, Cond.initialized RX1, Cond.code yX1_has cX1_has 2 (some .boolean), Cond.fieldLink RX1 31 "BoxProofs$Formulas" "count" "I", Cond.methodLink RX1 75 yX1_replaceIn, Cond.instanceMethod yX1_replaceIn, Cond.selects RX1 yX1_replaceIn yX1_replaceIn, Cond.methodLink RX1 79 yX1_make, Cond.instanceMethod yX1_make, Cond.selects RX1 yX1_make yX1_make, Cond.code yX1_make cX1_make 6 (some .int), Cond.methodLink RX1 47 Lib.Math.max.name, Cond.static Lib.Math.max.name, Cond.initialized "java/lang/Math", Cond.code Lib.Math.max.name Lib.Math.max.code 2 (some .int), Cond.fieldLink RX1 21 "BoxProofs$Formulas" "heights" "[I", Cond.fieldLink RX1 24 "BoxProofs$Formulas" "tables" "[J", Cond.methodLink RX1 39 yX1_find]
def wsX1_replaceIn_r2 : List Cond := [Cond.instanceMethod yX1_find, Cond.selects RX1 yX1_find yX1_find, Cond.code yX1_find cX1_find 5 (some .int), Cond.methodLink RX1 43 yX1_heightOf, Cond.instanceMethod yX1_heightOf, Cond.selects RX1 yX1_heightOf yX1_heightOf, Cond.code yX1_heightOf cX1_heightOf 2 (some .int), Cond.methodLink RX1 53 yX1_tableFor, Cond.instanceMethod yX1_tableFor, Cond.selects RX1 yX1_tableFor yX1_tableFor, Cond.code yX1_tableFor cX1_tableFor 4 (some .long), Cond.fieldLink RX1 60 "BoxProofs$Formulas" "LETTER_TABLES" "[J", Cond.constantLong RX1 67 (-1), Cond.static yX3_isLetter, Cond.initialized RX3, Cond.code yX3_isLetter cX3_isLetter 1 (some .boolean), Cond.methodLink RX1 63 yX1_tableOf, Cond.instanceMethod yX1_tableOf, Cond.selects RX1 yX1_tableOf yX1_tableOf, Cond.code yX1_tableOf cX1_tableOf 2 (some .long)]
def wsX1_replaceIn : List Cond := .code yX1_replaceIn cX1_replaceIn 7 (some .int) :: ((wsX1_replaceIn_r1 ++ wsX1_replaceIn_r2) ++ wsX10)
def wsX1_replace_r1 : List Cond := [Cond.fieldLink RX1 28 "BoxProofs$Formulas" "replaced" "[I", Cond.methodLink RX1 69 yJ7_fill_53178, Cond.static yJ7_fill_53178, Cond.initialized RJ7, Cond.code yJ7_fill_53178 cJ7_fill_53178 4 none, Cond.methodLink RX1 75 yX1_replaceIn, Cond.instanceMethod yX1_replaceIn, Cond.selects RX1 yX1_replaceIn yX1_replaceIn, Cond.initialized RX1, Cond.code yX1_replaceIn cX1_replaceIn 7 (some .int), Cond.fieldLink RX1 9 "BoxProofs$Formulas" "kinds" "[I", Cond.fieldLink RX1 15 "BoxProofs$Formulas" "firsts" "[I", Cond.fieldLink RX1 18 "BoxProofs$Formulas" "seconds" "[I", Cond.methodLink RX1 35 yX1_has, Cond.instanceMethod yX1_has, Cond.selects RX1 yX1_has yX1_has, Cond.code yX1_has cX1_has 2 (some .boolean), Cond.fieldLink RX1 31 "BoxProofs$Formulas" "count" "I", Cond.methodLink RX1 79 yX1_make, Cond.instanceMethod yX1_make, Cond.selects RX1 yX1_make yX1_make, Cond.code yX1_make cX1_make 6 (some .int), Cond.methodLink RX1 47 Lib.Math.max.name, Cond.static Lib.Math.max.name]
def wsX1_replace_r2 : List Cond := [Cond.initialized "java/lang/Math", Cond.code Lib.Math.max.name Lib.Math.max.code 2 (some .int), Cond.fieldLink RX1 21 "BoxProofs$Formulas" "heights" "[I", Cond.fieldLink RX1 24 "BoxProofs$Formulas" "tables" "[J", Cond.methodLink RX1 39 yX1_find, Cond.instanceMethod yX1_find, Cond.selects RX1 yX1_find yX1_find, Cond.code yX1_find cX1_find 5 (some .int), Cond.methodLink RX1 43 yX1_heightOf, Cond.instanceMethod yX1_heightOf, Cond.selects RX1 yX1_heightOf yX1_heightOf, Cond.code yX1_heightOf cX1_heightOf 2 (some .int), Cond.methodLink RX1 53 yX1_tableFor, Cond.instanceMethod yX1_tableFor, Cond.selects RX1 yX1_tableFor yX1_tableFor, Cond.code yX1_tableFor cX1_tableFor 4 (some .long), Cond.fieldLink RX1 60 "BoxProofs$Formulas" "LETTER_TABLES" "[J", Cond.constantLong RX1 67 (-1), Cond.static yX3_isLetter, Cond.initialized RX3, Cond.code yX3_isLetter cX3_isLetter 1 (some .boolean), Cond.methodLink RX1 63 yX1_tableOf, Cond.instanceMethod yX1_tableOf, Cond.selects RX1 yX1_tableOf yX1_tableOf]
def wsX1_replace_r3 : List Cond := [Cond.code yX1_tableOf cX1_tableOf 2 (some .long)]
def wsX1_replace : List Cond := .code yX1_replace cX1_replace 4 (some .int) :: ((wsX1_replace_r1 ++ (wsX1_replace_r2 ++ wsX1_replace_r3)) ++ wsX10)
def wsX2_init : List Cond := .code yX2_init cX2_init 1 none :: ([.methodLink RX2 3 objectInit, .instanceMethod objectInit, .code objectInit ⟨#[0xb1]⟩ 1 none, .arrayClass .boolean, .fieldLink RX2 9 "BoxProofs$Lines" "laid" "[Z", .arrayClass .int, .fieldLink RX2 15 "BoxProofs$Lines" "rules" "[I", .fieldLink RX2 19 "BoxProofs$Lines" "ps" "[I", .fieldLink RX2 22 "BoxProofs$Lines" "qs" "[I", .fieldLink RX2 25 "BoxProofs$Lines" "rs" "[I", .fieldLink RX2 28 "BoxProofs$Lines" "fs" "[I"] ++ wsX20)
def wsX2_isLaid : List Cond := .code yX2_isLaid cX2_isLaid 2 (some .boolean) :: ([.fieldLink RX2 9 "BoxProofs$Lines" "laid" "[Z", .static yX3_isLine, .initialized RX3, .code yX3_isLine cX3_isLine 1 (some .boolean)] ++ wsX20)
def wsX2_put : List Cond := .code yX2_put cX2_put 7 none :: ([.fieldLink RX2 9 "BoxProofs$Lines" "laid" "[Z", .fieldLink RX2 15 "BoxProofs$Lines" "rules" "[I", .fieldLink RX2 19 "BoxProofs$Lines" "ps" "[I", .fieldLink RX2 22 "BoxProofs$Lines" "qs" "[I", .fieldLink RX2 25 "BoxProofs$Lines" "rs" "[I", .fieldLink RX2 28 "BoxProofs$Lines" "fs" "[I", .static yX3_isLine, .initialized RX3, .code yX3_isLine cX3_isLine 1 (some .boolean)] ++ wsX20)
def wsX2_clear : List Cond := .code yX2_clear cX2_clear 2 none :: ([.fieldLink RX2 9 "BoxProofs$Lines" "laid" "[Z", .static yX3_isLine, .initialized RX3, .code yX3_isLine cX3_isLine 1 (some .boolean)] ++ wsX20)
def wsX2_ruleOf : List Cond := .code yX2_ruleOf cX2_ruleOf 2 (some .int) :: ([.fieldLink RX2 15 "BoxProofs$Lines" "rules" "[I", .static yX3_isLine, .initialized RX3, .code yX3_isLine cX3_isLine 1 (some .boolean)] ++ wsX20)
def wsX2_pOf : List Cond := .code yX2_pOf cX2_pOf 2 (some .int) :: ([.fieldLink RX2 19 "BoxProofs$Lines" "ps" "[I", .static yX3_isLine, .initialized RX3, .code yX3_isLine cX3_isLine 1 (some .boolean)] ++ wsX20)
def wsX2_qOf : List Cond := .code yX2_qOf cX2_qOf 2 (some .int) :: ([.fieldLink RX2 22 "BoxProofs$Lines" "qs" "[I", .static yX3_isLine, .initialized RX3, .code yX3_isLine cX3_isLine 1 (some .boolean)] ++ wsX20)
def wsX2_rOf : List Cond := .code yX2_rOf cX2_rOf 2 (some .int) :: ([.fieldLink RX2 25 "BoxProofs$Lines" "rs" "[I", .static yX3_isLine, .initialized RX3, .code yX3_isLine cX3_isLine 1 (some .boolean)] ++ wsX20)
def wsX2_formulaOf : List Cond := .code yX2_formulaOf cX2_formulaOf 2 (some .int) :: ([.fieldLink RX2 28 "BoxProofs$Lines" "fs" "[I", .static yX3_isLine, .initialized RX3, .code yX3_isLine cX3_isLine 1 (some .boolean)] ++ wsX20)
def wsX3_init_r1 : List Cond := [Cond.methodLink RX3 1 objectInit, Cond.instanceMethod objectInit, Cond.code objectInit ⟨#[0xb1]⟩ 1 none, Cond.classLink RX3 7 RX1, Cond.instantiable RX1 7, Cond.initialized RX1, Cond.fieldLink RX3 10 "BoxProofs" "known" "LBoxProofs$Formulas;", Cond.classLink RX3 16 RX2, Cond.instantiable RX2 6, Cond.initialized RX2, Cond.fieldLink RX3 19 "BoxProofs" "proof" "LBoxProofs$Lines;", Cond.classLink RX3 23 RX0, Cond.instantiable RX0 6, Cond.initialized RX0, Cond.fieldLink RX3 26 "BoxProofs" "findings" "LBoxProofs$Findings;", Cond.instanceMethod yX1_init, Cond.code yX1_init cX1_init 1 none, Cond.methodLink RX1 3 objectInit, Cond.arrayClass .int, Cond.fieldLink RX1 9 "BoxProofs$Formulas" "kinds" "[I", Cond.fieldLink RX1 15 "BoxProofs$Formulas" "firsts" "[I", Cond.fieldLink RX1 18 "BoxProofs$Formulas" "seconds" "[I", Cond.fieldLink RX1 21 "BoxProofs$Formulas" "heights" "[I", Cond.arrayClass .long]
def wsX3_init_r2 : List Cond := [Cond.fieldLink RX1 24 "BoxProofs$Formulas" "tables" "[J", Cond.fieldLink RX1 28 "BoxProofs$Formulas" "replaced" "[I", Cond.fieldLink RX1 31 "BoxProofs$Formulas" "count" "I", Cond.instanceMethod yX2_init, Cond.code yX2_init cX2_init 1 none, Cond.methodLink RX2 3 objectInit, Cond.arrayClass .boolean, Cond.fieldLink RX2 9 "BoxProofs$Lines" "laid" "[Z", Cond.fieldLink RX2 15 "BoxProofs$Lines" "rules" "[I", Cond.fieldLink RX2 19 "BoxProofs$Lines" "ps" "[I", Cond.fieldLink RX2 22 "BoxProofs$Lines" "qs" "[I", Cond.fieldLink RX2 25 "BoxProofs$Lines" "rs" "[I", Cond.fieldLink RX2 28 "BoxProofs$Lines" "fs" "[I", Cond.methodLink RX3 25 yX0_init, Cond.instanceMethod yX0_init, Cond.code yX0_init cX0_init 1 none, Cond.methodLink RX0 3 objectInit, Cond.fieldLink RX0 9 "BoxProofs$Findings" "rules" "[I", Cond.fieldLink RX0 15 "BoxProofs$Findings" "heads" "[I", Cond.fieldLink RX0 18 "BoxProofs$Findings" "ends" "[I", Cond.fieldLink RX0 21 "BoxProofs$Findings" "inForce" "[Z", Cond.fieldLink RX0 25 "BoxProofs$Findings" "usable" "[Z", Cond.fieldLink RX0 28 "BoxProofs$Findings" "summary" "[I", Cond.methodLink RX0 31 yX0_forget]
def wsX3_init_r3 : List Cond := [Cond.instanceMethod yX0_forget, Cond.selects RX0 yX0_forget yX0_forget, Cond.code yX0_forget cX0_forget 2 none]
def wsX3_init : List Cond := .code yX3_init cX3_init 1 none :: ((wsX3_init_r1 ++ (wsX3_init_r2 ++ wsX3_init_r3)) ++ wsX10 ++ wsX30 ++ wsX20 ++ wsX00)
def wsX3_formula_r1 : List Cond := [Cond.fieldLink RX3 10 "BoxProofs" "known" "LBoxProofs$Formulas;", Cond.methodLink RX3 30 yX1_make, Cond.instanceMethod yX1_make, Cond.selects RX1 yX1_make yX1_make, Cond.initialized RX1, Cond.code yX1_make cX1_make 6 (some .int), Cond.methodLink RX1 47 Lib.Math.max.name, Cond.static Lib.Math.max.name, Cond.initialized "java/lang/Math", Cond.code Lib.Math.max.name Lib.Math.max.code 2 (some .int), Cond.fieldLink RX1 31 "BoxProofs$Formulas" "count" "I", Cond.fieldLink RX1 9 "BoxProofs$Formulas" "kinds" "[I", Cond.fieldLink RX1 15 "BoxProofs$Formulas" "firsts" "[I", Cond.fieldLink RX1 18 "BoxProofs$Formulas" "seconds" "[I", Cond.fieldLink RX1 21 "BoxProofs$Formulas" "heights" "[I", Cond.fieldLink RX1 24 "BoxProofs$Formulas" "tables" "[J", Cond.methodLink RX1 39 yX1_find, Cond.instanceMethod yX1_find, Cond.selects RX1 yX1_find yX1_find, Cond.code yX1_find cX1_find 5 (some .int), Cond.methodLink RX1 43 yX1_heightOf, Cond.instanceMethod yX1_heightOf, Cond.selects RX1 yX1_heightOf yX1_heightOf, Cond.code yX1_heightOf cX1_heightOf 2 (some .int)]
def wsX3_formula_r2 : List Cond := [Cond.methodLink RX1 35 yX1_has, Cond.instanceMethod yX1_has, Cond.selects RX1 yX1_has yX1_has, Cond.code yX1_has cX1_has 2 (some .boolean), Cond.methodLink RX1 53 yX1_tableFor, Cond.instanceMethod yX1_tableFor, Cond.selects RX1 yX1_tableFor yX1_tableFor, Cond.code yX1_tableFor cX1_tableFor 4 (some .long), Cond.fieldLink RX1 60 "BoxProofs$Formulas" "LETTER_TABLES" "[J", Cond.constantLong RX1 67 (-1), Cond.static yX3_isLetter, Cond.initialized RX3, Cond.code yX3_isLetter cX3_isLetter 1 (some .boolean), Cond.methodLink RX1 63 yX1_tableOf, Cond.instanceMethod yX1_tableOf, Cond.selects RX1 yX1_tableOf yX1_tableOf, Cond.code yX1_tableOf cX1_tableOf 2 (some .long), Cond.methodLink RX3 34 yX3_isLetter, Cond.methodLink RX3 38 yX1_has]
def wsX3_formula : List Cond := .code yX3_formula cX3_formula 4 (some .int) :: ((wsX3_formula_r1 ++ wsX3_formula_r2) ++ wsX30 ++ wsX10)
def wsX3_about_r1 : List Cond := [Cond.fieldLink RX3 10 "BoxProofs" "known" "LBoxProofs$Formulas;", Cond.methodLink RX3 38 yX1_has, Cond.instanceMethod yX1_has, Cond.selects RX1 yX1_has yX1_has, Cond.initialized RX1, Cond.code yX1_has cX1_has 2 (some .boolean), Cond.fieldLink RX1 31 "BoxProofs$Formulas" "count" "I", Cond.methodLink RX3 41 yX1_kindOf, Cond.instanceMethod yX1_kindOf, Cond.selects RX1 yX1_kindOf yX1_kindOf, Cond.code yX1_kindOf cX1_kindOf 2 (some .int), Cond.fieldLink RX1 9 "BoxProofs$Formulas" "kinds" "[I", Cond.methodLink RX1 35 yX1_has, Cond.methodLink RX3 45 yX1_firstOf, Cond.instanceMethod yX1_firstOf, Cond.selects RX1 yX1_firstOf yX1_firstOf, Cond.code yX1_firstOf cX1_firstOf 2 (some .int), Cond.fieldLink RX1 15 "BoxProofs$Formulas" "firsts" "[I", Cond.methodLink RX3 48 yX1_secondOf, Cond.instanceMethod yX1_secondOf, Cond.selects RX1 yX1_secondOf yX1_secondOf, Cond.code yX1_secondOf cX1_secondOf 2 (some .int), Cond.fieldLink RX1 18 "BoxProofs$Formulas" "seconds" "[I", Cond.methodLink RX3 51 yX1_heightOf]
def wsX3_about_r2 : List Cond := [Cond.instanceMethod yX1_heightOf, Cond.selects RX1 yX1_heightOf yX1_heightOf, Cond.code yX1_heightOf cX1_heightOf 2 (some .int), Cond.fieldLink RX1 21 "BoxProofs$Formulas" "heights" "[I"]
def wsX3_about : List Cond := .code yX3_about cX3_about 3 (some .int) :: ((wsX3_about_r1 ++ wsX3_about_r2) ++ wsX30 ++ wsX10)
def wsX3_value : List Cond := .code yX3_value cX3_value 3 (some .int) :: ([.fieldLink RX3 10 "BoxProofs" "known" "LBoxProofs$Formulas;", .methodLink RX3 38 yX1_has, .instanceMethod yX1_has, .selects RX1 yX1_has yX1_has, .initialized RX1, .code yX1_has cX1_has 2 (some .boolean), .fieldLink RX1 31 "BoxProofs$Formulas" "count" "I", .methodLink RX3 54 yX1_tableOf, .instanceMethod yX1_tableOf, .selects RX1 yX1_tableOf yX1_tableOf, .code yX1_tableOf cX1_tableOf 2 (some .long), .fieldLink RX1 24 "BoxProofs$Formulas" "tables" "[J", .methodLink RX1 35 yX1_has] ++ wsX30 ++ wsX10)
def wsJ13_bitCount_95d88 : List Cond := .code yJ13_bitCount_95d88 cJ13_bitCount_95d88 2 (some .int) :: ([.constantLong RJ13 314 (6148914691236517205), .constantLong RJ13 316 (3689348814741910323), .constantLong RJ13 318 (1085102592571150095)])
def wsX3_truths : List Cond := .code yX3_truths cX3_truths 2 (some .int) :: ([.fieldLink RX3 10 "BoxProofs" "known" "LBoxProofs$Formulas;", .methodLink RX3 38 yX1_has, .instanceMethod yX1_has, .selects RX1 yX1_has yX1_has, .initialized RX1, .code yX1_has cX1_has 2 (some .boolean), .fieldLink RX1 31 "BoxProofs$Formulas" "count" "I", .methodLink RX3 54 yX1_tableOf, .instanceMethod yX1_tableOf, .selects RX1 yX1_tableOf yX1_tableOf, .code yX1_tableOf cX1_tableOf 2 (some .long), .fieldLink RX1 24 "BoxProofs$Formulas" "tables" "[J", .methodLink RX1 35 yX1_has, .methodLink RX3 58 yJ13_bitCount_95d88, .static yJ13_bitCount_95d88, .initialized RJ13, .code yJ13_bitCount_95d88 cJ13_bitCount_95d88 2 (some .int), .constantLong RJ13 314 (6148914691236517205), .constantLong RJ13 316 (3689348814741910323), .constantLong RJ13 318 (1085102592571150095)] ++ wsX30 ++ wsX10)
def wsX3_instead_r1 : List Cond := [Cond.fieldLink RX3 10 "BoxProofs" "known" "LBoxProofs$Formulas;", Cond.methodLink RX3 38 yX1_has, Cond.instanceMethod yX1_has, Cond.selects RX1 yX1_has yX1_has, Cond.initialized RX1, Cond.code yX1_has cX1_has 2 (some .boolean), Cond.fieldLink RX1 31 "BoxProofs$Formulas" "count" "I", Cond.methodLink RX3 34 yX3_isLetter, Cond.static yX3_isLetter, Cond.initialized RX3, Cond.code yX3_isLetter cX3_isLetter 1 (some .boolean), Cond.methodLink RX3 64 yX1_replace, Cond.instanceMethod yX1_replace, Cond.selects RX1 yX1_replace yX1_replace, Cond.code yX1_replace cX1_replace 4 (some .int), Cond.fieldLink RX1 28 "BoxProofs$Formulas" "replaced" "[I", Cond.methodLink RX1 69 yJ7_fill_53178, Cond.static yJ7_fill_53178, Cond.initialized RJ7, Cond.code yJ7_fill_53178 cJ7_fill_53178 4 none, Cond.methodLink RX1 75 yX1_replaceIn, Cond.instanceMethod yX1_replaceIn, Cond.selects RX1 yX1_replaceIn yX1_replaceIn, Cond.code yX1_replaceIn cX1_replaceIn 7 (some .int)]
def wsX3_instead_r2 : List Cond := [Cond.fieldLink RX1 9 "BoxProofs$Formulas" "kinds" "[I", Cond.fieldLink RX1 15 "BoxProofs$Formulas" "firsts" "[I", Cond.fieldLink RX1 18 "BoxProofs$Formulas" "seconds" "[I", Cond.methodLink RX1 35 yX1_has, Cond.methodLink RX1 79 yX1_make, Cond.instanceMethod yX1_make, Cond.selects RX1 yX1_make yX1_make, Cond.code yX1_make cX1_make 6 (some .int), Cond.methodLink RX1 47 Lib.Math.max.name, Cond.static Lib.Math.max.name, Cond.initialized "java/lang/Math", Cond.code Lib.Math.max.name Lib.Math.max.code 2 (some .int), Cond.fieldLink RX1 21 "BoxProofs$Formulas" "heights" "[I", Cond.fieldLink RX1 24 "BoxProofs$Formulas" "tables" "[J", Cond.methodLink RX1 39 yX1_find, Cond.instanceMethod yX1_find, Cond.selects RX1 yX1_find yX1_find, Cond.code yX1_find cX1_find 5 (some .int), Cond.methodLink RX1 43 yX1_heightOf, Cond.instanceMethod yX1_heightOf, Cond.selects RX1 yX1_heightOf yX1_heightOf, Cond.code yX1_heightOf cX1_heightOf 2 (some .int), Cond.methodLink RX1 53 yX1_tableFor, Cond.instanceMethod yX1_tableFor]
def wsX3_instead_r3 : List Cond := [Cond.selects RX1 yX1_tableFor yX1_tableFor, Cond.code yX1_tableFor cX1_tableFor 4 (some .long), Cond.fieldLink RX1 60 "BoxProofs$Formulas" "LETTER_TABLES" "[J", Cond.constantLong RX1 67 (-1), Cond.methodLink RX1 63 yX1_tableOf, Cond.instanceMethod yX1_tableOf, Cond.selects RX1 yX1_tableOf yX1_tableOf, Cond.code yX1_tableOf cX1_tableOf 2 (some .long)]
def wsX3_instead : List Cond := .code yX3_instead cX3_instead 4 (some .int) :: ((wsX3_instead_r1 ++ (wsX3_instead_r2 ++ wsX3_instead_r3)) ++ wsX30 ++ wsX10)
def wsX3_lay : List Cond := .code yX3_lay cX3_lay 8 (some .int) :: ([.fieldLink RX3 19 "BoxProofs" "proof" "LBoxProofs$Lines;", .methodLink RX3 67 yX3_isLine, .static yX3_isLine, .initialized RX3, .code yX3_isLine cX3_isLine 1 (some .boolean), .methodLink RX3 70 yX2_isLaid, .instanceMethod yX2_isLaid, .selects RX2 yX2_isLaid yX2_isLaid, .initialized RX2, .code yX2_isLaid cX2_isLaid 2 (some .boolean), .fieldLink RX2 9 "BoxProofs$Lines" "laid" "[Z", .methodLink RX3 73 yX2_put, .instanceMethod yX2_put, .selects RX2 yX2_put yX2_put, .code yX2_put cX2_put 7 none, .fieldLink RX2 15 "BoxProofs$Lines" "rules" "[I", .fieldLink RX2 19 "BoxProofs$Lines" "ps" "[I", .fieldLink RX2 22 "BoxProofs$Lines" "qs" "[I", .fieldLink RX2 25 "BoxProofs$Lines" "rs" "[I", .fieldLink RX2 28 "BoxProofs$Lines" "fs" "[I"] ++ wsX30 ++ wsX20)
def wsX3_take : List Cond := .code yX3_take cX3_take 3 (some .int) :: ([.fieldLink RX3 19 "BoxProofs" "proof" "LBoxProofs$Lines;", .methodLink RX3 67 yX3_isLine, .static yX3_isLine, .initialized RX3, .code yX3_isLine cX3_isLine 1 (some .boolean), .methodLink RX3 70 yX2_isLaid, .instanceMethod yX2_isLaid, .selects RX2 yX2_isLaid yX2_isLaid, .initialized RX2, .code yX2_isLaid cX2_isLaid 2 (some .boolean), .fieldLink RX2 9 "BoxProofs$Lines" "laid" "[Z", .methodLink RX3 77 yX2_clear, .instanceMethod yX2_clear, .selects RX2 yX2_clear yX2_clear, .code yX2_clear cX2_clear 2 none] ++ wsX30 ++ wsX20)
def wsX3_reasonAgainstLine : List Cond := .code yX3_reasonAgainstLine cX3_reasonAgainstLine 4 (some .int) :: ([.fieldLink RX3 26 "BoxProofs" "findings" "LBoxProofs$Findings;", .methodLink RX3 67 yX3_isLine, .static yX3_isLine, .initialized RX3, .code yX3_isLine cX3_isLine 1 (some .boolean), .methodLink RX3 101 yX0_isInForce, .instanceMethod yX0_isInForce, .selects RX0 yX0_isInForce yX0_isInForce, .initialized RX0, .code yX0_isInForce cX0_isInForce 2 (some .boolean), .fieldLink RX0 21 "BoxProofs$Findings" "inForce" "[Z"] ++ wsX30 ++ wsX00)
def wsX3_takesFormula : List Cond := .code yX3_takesFormula cX3_takesFormula 1 (some .boolean) :: ([])
def wsX3_reasonAgainstNumbers_r1 : List Cond := [Cond.fieldLink RX3 19 "BoxProofs" "proof" "LBoxProofs$Lines;", Cond.fieldLink RX3 10 "BoxProofs" "known" "LBoxProofs$Formulas;", Cond.methodLink RX3 132 yX2_pOf, Cond.instanceMethod yX2_pOf, Cond.selects RX2 yX2_pOf yX2_pOf, Cond.initialized RX2, Cond.code yX2_pOf cX2_pOf 2 (some .int), Cond.fieldLink RX2 19 "BoxProofs$Lines" "ps" "[I", Cond.static yX3_isLine, Cond.initialized RX3, Cond.code yX3_isLine cX3_isLine 1 (some .boolean), Cond.methodLink RX3 145 yX3_reasonAgainstLine, Cond.instanceMethod yX3_reasonAgainstLine, Cond.selects RX3 yX3_reasonAgainstLine yX3_reasonAgainstLine, Cond.code yX3_reasonAgainstLine cX3_reasonAgainstLine 4 (some .int), Cond.fieldLink RX3 26 "BoxProofs" "findings" "LBoxProofs$Findings;", Cond.methodLink RX3 67 yX3_isLine, Cond.methodLink RX3 101 yX0_isInForce, Cond.instanceMethod yX0_isInForce, Cond.selects RX0 yX0_isInForce yX0_isInForce, Cond.initialized RX0, Cond.code yX0_isInForce cX0_isInForce 2 (some .boolean), Cond.fieldLink RX0 21 "BoxProofs$Findings" "inForce" "[Z", Cond.methodLink RX3 149 yX2_qOf]
def wsX3_reasonAgainstNumbers_r2 : List Cond := [Cond.instanceMethod yX2_qOf, Cond.selects RX2 yX2_qOf yX2_qOf, Cond.code yX2_qOf cX2_qOf 2 (some .int), Cond.fieldLink RX2 22 "BoxProofs$Lines" "qs" "[I", Cond.methodLink RX3 152 yX2_rOf, Cond.instanceMethod yX2_rOf, Cond.selects RX2 yX2_rOf yX2_rOf, Cond.code yX2_rOf cX2_rOf 2 (some .int), Cond.fieldLink RX2 25 "BoxProofs$Lines" "rs" "[I", Cond.methodLink RX3 155 yX3_takesFormula, Cond.static yX3_takesFormula, Cond.code yX3_takesFormula cX3_takesFormula 1 (some .boolean), Cond.methodLink RX3 158 yX2_formulaOf, Cond.instanceMethod yX2_formulaOf, Cond.selects RX2 yX2_formulaOf yX2_formulaOf, Cond.code yX2_formulaOf cX2_formulaOf 2 (some .int), Cond.fieldLink RX2 28 "BoxProofs$Lines" "fs" "[I", Cond.methodLink RX3 38 yX1_has, Cond.instanceMethod yX1_has, Cond.selects RX1 yX1_has yX1_has, Cond.initialized RX1, Cond.code yX1_has cX1_has 2 (some .boolean), Cond.fieldLink RX1 31 "BoxProofs$Formulas" "count" "I"]
def wsX3_reasonAgainstNumbers : List Cond := .code yX3_reasonAgainstNumbers cX3_reasonAgainstNumbers 5 (some .int) :: ((wsX3_reasonAgainstNumbers_r1 ++ wsX3_reasonAgainstNumbers_r2) ++ wsX30 ++ wsX20 ++ wsX00 ++ wsX10)
def wsX3_isNegation : List Cond := .code yX3_isNegation cX3_isNegation 2 (some .boolean) :: ([.fieldLink RX3 10 "BoxProofs" "known" "LBoxProofs$Formulas;", .methodLink RX3 41 yX1_kindOf, .instanceMethod yX1_kindOf, .selects RX1 yX1_kindOf yX1_kindOf, .initialized RX1, .code yX1_kindOf cX1_kindOf 2 (some .int), .fieldLink RX1 9 "BoxProofs$Formulas" "kinds" "[I", .methodLink RX1 35 yX1_has, .instanceMethod yX1_has, .selects RX1 yX1_has yX1_has, .code yX1_has cX1_has 2 (some .boolean), .fieldLink RX1 31 "BoxProofs$Formulas" "count" "I", .methodLink RX3 48 yX1_secondOf, .instanceMethod yX1_secondOf, .selects RX1 yX1_secondOf yX1_secondOf, .code yX1_secondOf cX1_secondOf 2 (some .int), .fieldLink RX1 18 "BoxProofs$Formulas" "seconds" "[I"] ++ wsX30 ++ wsX10)
def wsX3_isFormRight_r1 : List Cond := [Cond.fieldLink RX3 10 "BoxProofs" "known" "LBoxProofs$Formulas;", Cond.methodLink RX3 41 yX1_kindOf, Cond.instanceMethod yX1_kindOf, Cond.selects RX1 yX1_kindOf yX1_kindOf, Cond.initialized RX1, Cond.code yX1_kindOf cX1_kindOf 2 (some .int), Cond.fieldLink RX1 9 "BoxProofs$Formulas" "kinds" "[I", Cond.methodLink RX1 35 yX1_has, Cond.instanceMethod yX1_has, Cond.selects RX1 yX1_has yX1_has, Cond.code yX1_has cX1_has 2 (some .boolean), Cond.fieldLink RX1 31 "BoxProofs$Formulas" "count" "I", Cond.methodLink RX3 161 yX3_isNegation, Cond.instanceMethod yX3_isNegation, Cond.selects RX3 yX3_isNegation yX3_isNegation, Cond.initialized RX3, Cond.code yX3_isNegation cX3_isNegation 2 (some .boolean), Cond.methodLink RX3 48 yX1_secondOf, Cond.instanceMethod yX1_secondOf, Cond.selects RX1 yX1_secondOf yX1_secondOf, Cond.code yX1_secondOf cX1_secondOf 2 (some .int), Cond.fieldLink RX1 18 "BoxProofs$Formulas" "seconds" "[I", Cond.methodLink RX3 45 yX1_firstOf, Cond.instanceMethod yX1_firstOf]
def wsX3_isFormRight_r2 : List Cond := [Cond.selects RX1 yX1_firstOf yX1_firstOf, Cond.code yX1_firstOf cX1_firstOf 2 (some .int), Cond.fieldLink RX1 15 "BoxProofs$Formulas" "firsts" "[I"]
def wsX3_isFormRight : List Cond := .code yX3_isFormRight cX3_isFormRight 3 (some .boolean) :: ((wsX3_isFormRight_r1 ++ wsX3_isFormRight_r2) ++ wsX30 ++ wsX10)
def wsX3_areBoxesRight_r1 : List Cond := [Cond.fieldLink RX3 26 "BoxProofs" "findings" "LBoxProofs$Findings;", Cond.fieldLink RX3 19 "BoxProofs" "proof" "LBoxProofs$Lines;", Cond.methodLink RX3 164 yX0_innermostOpen, Cond.instanceMethod yX0_innermostOpen, Cond.selects RX0 yX0_innermostOpen yX0_innermostOpen, Cond.initialized RX0, Cond.code yX0_innermostOpen cX0_innermostOpen 2 (some .int), Cond.methodLink RX0 49 yX0_isOpenBox, Cond.instanceMethod yX0_isOpenBox, Cond.selects RX0 yX0_isOpenBox yX0_isOpenBox, Cond.code yX0_isOpenBox cX0_isOpenBox 2 (some .boolean), Cond.fieldLink RX0 9 "BoxProofs$Findings" "rules" "[I", Cond.fieldLink RX0 18 "BoxProofs$Findings" "ends" "[I", Cond.static yX3_isLine, Cond.initialized RX3, Cond.code yX3_isLine cX3_isLine 1 (some .boolean), Cond.methodLink RX3 149 yX2_qOf, Cond.instanceMethod yX2_qOf, Cond.selects RX2 yX2_qOf yX2_qOf, Cond.initialized RX2, Cond.code yX2_qOf cX2_qOf 2 (some .int), Cond.fieldLink RX2 22 "BoxProofs$Lines" "qs" "[I", Cond.methodLink RX3 167 yX0_isUsableBox, Cond.instanceMethod yX0_isUsableBox]
def wsX3_areBoxesRight_r2 : List Cond := [Cond.selects RX0 yX0_isUsableBox yX0_isUsableBox, Cond.code yX0_isUsableBox cX0_isUsableBox 2 (some .boolean), Cond.fieldLink RX0 25 "BoxProofs$Findings" "usable" "[Z", Cond.methodLink RX3 152 yX2_rOf, Cond.instanceMethod yX2_rOf, Cond.selects RX2 yX2_rOf yX2_rOf, Cond.code yX2_rOf cX2_rOf 2 (some .int), Cond.fieldLink RX2 25 "BoxProofs$Lines" "rs" "[I", Cond.methodLink RX3 132 yX2_pOf, Cond.instanceMethod yX2_pOf, Cond.selects RX2 yX2_pOf yX2_pOf, Cond.code yX2_pOf cX2_pOf 2 (some .int), Cond.fieldLink RX2 19 "BoxProofs$Lines" "ps" "[I"]
def wsX3_areBoxesRight : List Cond := .code yX3_areBoxesRight cX3_areBoxesRight 3 (some .boolean) :: ((wsX3_areBoxesRight_r1 ++ wsX3_areBoxesRight_r2) ++ wsX30 ++ wsX00 ++ wsX20)
def wsX3_heldAtEnd : List Cond := .code yX3_heldAtEnd cX3_heldAtEnd 2 (some .int) :: ([.fieldLink RX3 26 "BoxProofs" "findings" "LBoxProofs$Findings;", .methodLink RX3 173 yX0_endOf, .instanceMethod yX0_endOf, .selects RX0 yX0_endOf yX0_endOf, .initialized RX0, .code yX0_endOf cX0_endOf 2 (some .int), .fieldLink RX0 18 "BoxProofs$Findings" "ends" "[I", .static yX3_isLine, .initialized RX3, .code yX3_isLine cX3_isLine 1 (some .boolean), .methodLink RX3 98 yX0_headOf, .instanceMethod yX0_headOf, .selects RX0 yX0_headOf yX0_headOf, .code yX0_headOf cX0_headOf 2 (some .int), .fieldLink RX0 15 "BoxProofs$Findings" "heads" "[I"] ++ wsX30 ++ wsX00)
def wsX3_areAllLike_r1 : List Cond := [Cond.fieldLink RX3 26 "BoxProofs" "findings" "LBoxProofs$Findings;", Cond.fieldLink RX3 19 "BoxProofs" "proof" "LBoxProofs$Lines;", Cond.fieldLink RX3 10 "BoxProofs" "known" "LBoxProofs$Formulas;", Cond.methodLink RX3 132 yX2_pOf, Cond.instanceMethod yX2_pOf, Cond.selects RX2 yX2_pOf yX2_pOf, Cond.initialized RX2, Cond.code yX2_pOf cX2_pOf 2 (some .int), Cond.fieldLink RX2 19 "BoxProofs$Lines" "ps" "[I", Cond.static yX3_isLine, Cond.initialized RX3, Cond.code yX3_isLine cX3_isLine 1 (some .boolean), Cond.methodLink RX3 98 yX0_headOf, Cond.instanceMethod yX0_headOf, Cond.selects RX0 yX0_headOf yX0_headOf, Cond.initialized RX0, Cond.code yX0_headOf cX0_headOf 2 (some .int), Cond.fieldLink RX0 15 "BoxProofs$Findings" "heads" "[I", Cond.methodLink RX3 149 yX2_qOf, Cond.instanceMethod yX2_qOf, Cond.selects RX2 yX2_qOf yX2_qOf, Cond.code yX2_qOf cX2_qOf 2 (some .int), Cond.fieldLink RX2 22 "BoxProofs$Lines" "qs" "[I", Cond.methodLink RX3 152 yX2_rOf]
def wsX3_areAllLike_r2 : List Cond := [Cond.instanceMethod yX2_rOf, Cond.selects RX2 yX2_rOf yX2_rOf, Cond.code yX2_rOf cX2_rOf 2 (some .int), Cond.fieldLink RX2 25 "BoxProofs$Lines" "rs" "[I", Cond.methodLink RX3 45 yX1_firstOf, Cond.instanceMethod yX1_firstOf, Cond.selects RX1 yX1_firstOf yX1_firstOf, Cond.initialized RX1, Cond.code yX1_firstOf cX1_firstOf 2 (some .int), Cond.fieldLink RX1 15 "BoxProofs$Formulas" "firsts" "[I", Cond.methodLink RX1 35 yX1_has, Cond.instanceMethod yX1_has, Cond.selects RX1 yX1_has yX1_has, Cond.code yX1_has cX1_has 2 (some .boolean), Cond.fieldLink RX1 31 "BoxProofs$Formulas" "count" "I", Cond.methodLink RX3 48 yX1_secondOf, Cond.instanceMethod yX1_secondOf, Cond.selects RX1 yX1_secondOf yX1_secondOf, Cond.code yX1_secondOf cX1_secondOf 2 (some .int), Cond.fieldLink RX1 18 "BoxProofs$Formulas" "seconds" "[I", Cond.methodLink RX3 170 yX3_heldAtEnd, Cond.instanceMethod yX3_heldAtEnd, Cond.selects RX3 yX3_heldAtEnd yX3_heldAtEnd, Cond.code yX3_heldAtEnd cX3_heldAtEnd 2 (some .int)]
def wsX3_areAllLike_r3 : List Cond := [Cond.methodLink RX3 173 yX0_endOf, Cond.instanceMethod yX0_endOf, Cond.selects RX0 yX0_endOf yX0_endOf, Cond.code yX0_endOf cX0_endOf 2 (some .int), Cond.fieldLink RX0 18 "BoxProofs$Findings" "ends" "[I"]
def wsX3_areAllLike : List Cond := .code yX3_areAllLike cX3_areAllLike 6 (some .boolean) :: ((wsX3_areAllLike_r1 ++ (wsX3_areAllLike_r2 ++ wsX3_areAllLike_r3)) ++ wsX30 ++ wsX20 ++ wsX00 ++ wsX10)
def wsX3_reasonAgainst_r1 : List Cond := [Cond.fieldLink RX3 19 "BoxProofs" "proof" "LBoxProofs$Lines;", Cond.fieldLink RX3 125 "BoxProofs" "LINES_TAKEN" "[I", Cond.fieldLink RX3 26 "BoxProofs" "findings" "LBoxProofs$Findings;", Cond.methodLink RX3 119 yX2_ruleOf, Cond.instanceMethod yX2_ruleOf, Cond.selects RX2 yX2_ruleOf yX2_ruleOf, Cond.initialized RX2, Cond.code yX2_ruleOf cX2_ruleOf 2 (some .int), Cond.fieldLink RX2 15 "BoxProofs$Lines" "rules" "[I", Cond.static yX3_isLine, Cond.initialized RX3, Cond.code yX3_isLine cX3_isLine 1 (some .boolean), Cond.methodLink RX3 129 yX3_reasonAgainstNumbers, Cond.instanceMethod yX3_reasonAgainstNumbers, Cond.selects RX3 yX3_reasonAgainstNumbers yX3_reasonAgainstNumbers, Cond.code yX3_reasonAgainstNumbers cX3_reasonAgainstNumbers 5 (some .int), Cond.fieldLink RX3 10 "BoxProofs" "known" "LBoxProofs$Formulas;", Cond.methodLink RX3 132 yX2_pOf, Cond.instanceMethod yX2_pOf, Cond.selects RX2 yX2_pOf yX2_pOf, Cond.code yX2_pOf cX2_pOf 2 (some .int), Cond.fieldLink RX2 19 "BoxProofs$Lines" "ps" "[I", Cond.methodLink RX3 145 yX3_reasonAgainstLine, Cond.instanceMethod yX3_reasonAgainstLine]
def wsX3_reasonAgainst_r2 : List Cond := [Cond.selects RX3 yX3_reasonAgainstLine yX3_reasonAgainstLine, Cond.code yX3_reasonAgainstLine cX3_reasonAgainstLine 4 (some .int), Cond.methodLink RX3 67 yX3_isLine, Cond.methodLink RX3 101 yX0_isInForce, Cond.instanceMethod yX0_isInForce, Cond.selects RX0 yX0_isInForce yX0_isInForce, Cond.initialized RX0, Cond.code yX0_isInForce cX0_isInForce 2 (some .boolean), Cond.fieldLink RX0 21 "BoxProofs$Findings" "inForce" "[Z", Cond.methodLink RX3 149 yX2_qOf, Cond.instanceMethod yX2_qOf, Cond.selects RX2 yX2_qOf yX2_qOf, Cond.code yX2_qOf cX2_qOf 2 (some .int), Cond.fieldLink RX2 22 "BoxProofs$Lines" "qs" "[I", Cond.methodLink RX3 152 yX2_rOf, Cond.instanceMethod yX2_rOf, Cond.selects RX2 yX2_rOf yX2_rOf, Cond.code yX2_rOf cX2_rOf 2 (some .int), Cond.fieldLink RX2 25 "BoxProofs$Lines" "rs" "[I", Cond.methodLink RX3 155 yX3_takesFormula, Cond.static yX3_takesFormula, Cond.code yX3_takesFormula cX3_takesFormula 1 (some .boolean), Cond.methodLink RX3 158 yX2_formulaOf, Cond.instanceMethod yX2_formulaOf]
def wsX3_reasonAgainst_r3 : List Cond := [Cond.selects RX2 yX2_formulaOf yX2_formulaOf, Cond.code yX2_formulaOf cX2_formulaOf 2 (some .int), Cond.fieldLink RX2 28 "BoxProofs$Lines" "fs" "[I", Cond.methodLink RX3 38 yX1_has, Cond.instanceMethod yX1_has, Cond.selects RX1 yX1_has yX1_has, Cond.initialized RX1, Cond.code yX1_has cX1_has 2 (some .boolean), Cond.fieldLink RX1 31 "BoxProofs$Formulas" "count" "I", Cond.methodLink RX3 98 yX0_headOf, Cond.instanceMethod yX0_headOf, Cond.selects RX0 yX0_headOf yX0_headOf, Cond.code yX0_headOf cX0_headOf 2 (some .int), Cond.fieldLink RX0 15 "BoxProofs$Findings" "heads" "[I", Cond.methodLink RX3 135 yX3_isFormRight, Cond.instanceMethod yX3_isFormRight, Cond.selects RX3 yX3_isFormRight yX3_isFormRight, Cond.code yX3_isFormRight cX3_isFormRight 3 (some .boolean), Cond.methodLink RX3 41 yX1_kindOf, Cond.instanceMethod yX1_kindOf, Cond.selects RX1 yX1_kindOf yX1_kindOf, Cond.code yX1_kindOf cX1_kindOf 2 (some .int), Cond.fieldLink RX1 9 "BoxProofs$Formulas" "kinds" "[I", Cond.methodLink RX1 35 yX1_has]
def wsX3_reasonAgainst_r4 : List Cond := [Cond.methodLink RX3 161 yX3_isNegation, Cond.instanceMethod yX3_isNegation, Cond.selects RX3 yX3_isNegation yX3_isNegation, Cond.code yX3_isNegation cX3_isNegation 2 (some .boolean), Cond.methodLink RX3 48 yX1_secondOf, Cond.instanceMethod yX1_secondOf, Cond.selects RX1 yX1_secondOf yX1_secondOf, Cond.code yX1_secondOf cX1_secondOf 2 (some .int), Cond.fieldLink RX1 18 "BoxProofs$Formulas" "seconds" "[I", Cond.methodLink RX3 45 yX1_firstOf, Cond.instanceMethod yX1_firstOf, Cond.selects RX1 yX1_firstOf yX1_firstOf, Cond.code yX1_firstOf cX1_firstOf 2 (some .int), Cond.fieldLink RX1 15 "BoxProofs$Formulas" "firsts" "[I", Cond.methodLink RX3 139 yX3_areBoxesRight, Cond.instanceMethod yX3_areBoxesRight, Cond.selects RX3 yX3_areBoxesRight yX3_areBoxesRight, Cond.code yX3_areBoxesRight cX3_areBoxesRight 3 (some .boolean), Cond.methodLink RX3 164 yX0_innermostOpen, Cond.instanceMethod yX0_innermostOpen, Cond.selects RX0 yX0_innermostOpen yX0_innermostOpen, Cond.code yX0_innermostOpen cX0_innermostOpen 2 (some .int), Cond.methodLink RX0 49 yX0_isOpenBox, Cond.instanceMethod yX0_isOpenBox]
def wsX3_reasonAgainst_r5 : List Cond := [Cond.selects RX0 yX0_isOpenBox yX0_isOpenBox, Cond.code yX0_isOpenBox cX0_isOpenBox 2 (some .boolean), Cond.fieldLink RX0 9 "BoxProofs$Findings" "rules" "[I", Cond.fieldLink RX0 18 "BoxProofs$Findings" "ends" "[I", Cond.methodLink RX3 167 yX0_isUsableBox, Cond.instanceMethod yX0_isUsableBox, Cond.selects RX0 yX0_isUsableBox yX0_isUsableBox, Cond.code yX0_isUsableBox cX0_isUsableBox 2 (some .boolean), Cond.fieldLink RX0 25 "BoxProofs$Findings" "usable" "[Z", Cond.methodLink RX3 142 yX3_areAllLike, Cond.instanceMethod yX3_areAllLike, Cond.selects RX3 yX3_areAllLike yX3_areAllLike, Cond.code yX3_areAllLike cX3_areAllLike 6 (some .boolean), Cond.methodLink RX3 170 yX3_heldAtEnd, Cond.instanceMethod yX3_heldAtEnd, Cond.selects RX3 yX3_heldAtEnd yX3_heldAtEnd, Cond.code yX3_heldAtEnd cX3_heldAtEnd 2 (some .int), Cond.methodLink RX3 173 yX0_endOf, Cond.instanceMethod yX0_endOf, Cond.selects RX0 yX0_endOf yX0_endOf, Cond.code yX0_endOf cX0_endOf 2 (some .int)]
def wsX3_reasonAgainst : List Cond := .code yX3_reasonAgainst cX3_reasonAgainst 4 (some .int) :: ((wsX3_reasonAgainst_r1 ++ (wsX3_reasonAgainst_r2 ++ (wsX3_reasonAgainst_r3 ++ (wsX3_reasonAgainst_r4 ++ wsX3_reasonAgainst_r5)))) ++ wsX30 ++ wsX20 ++ wsX00 ++ wsX10)
def wsX3_conclude_r1 : List Cond := [Cond.fieldLink RX3 19 "BoxProofs" "proof" "LBoxProofs$Lines;", Cond.fieldLink RX3 26 "BoxProofs" "findings" "LBoxProofs$Findings;", Cond.fieldLink RX3 10 "BoxProofs" "known" "LBoxProofs$Formulas;", Cond.methodLink RX3 132 yX2_pOf, Cond.instanceMethod yX2_pOf, Cond.selects RX2 yX2_pOf yX2_pOf, Cond.initialized RX2, Cond.code yX2_pOf cX2_pOf 2 (some .int), Cond.fieldLink RX2 19 "BoxProofs$Lines" "ps" "[I", Cond.static yX3_isLine, Cond.initialized RX3, Cond.code yX3_isLine cX3_isLine 1 (some .boolean), Cond.methodLink RX3 98 yX0_headOf, Cond.instanceMethod yX0_headOf, Cond.selects RX0 yX0_headOf yX0_headOf, Cond.initialized RX0, Cond.code yX0_headOf cX0_headOf 2 (some .int), Cond.fieldLink RX0 15 "BoxProofs$Findings" "heads" "[I", Cond.methodLink RX3 158 yX2_formulaOf, Cond.instanceMethod yX2_formulaOf, Cond.selects RX2 yX2_formulaOf yX2_formulaOf, Cond.code yX2_formulaOf cX2_formulaOf 2 (some .int), Cond.fieldLink RX2 28 "BoxProofs$Lines" "fs" "[I", Cond.methodLink RX3 119 yX2_ruleOf]
def wsX3_conclude_r2 : List Cond := [Cond.instanceMethod yX2_ruleOf, Cond.selects RX2 yX2_ruleOf yX2_ruleOf, Cond.code yX2_ruleOf cX2_ruleOf 2 (some .int), Cond.fieldLink RX2 15 "BoxProofs$Lines" "rules" "[I", Cond.methodLink RX3 149 yX2_qOf, Cond.instanceMethod yX2_qOf, Cond.selects RX2 yX2_qOf yX2_qOf, Cond.code yX2_qOf cX2_qOf 2 (some .int), Cond.fieldLink RX2 22 "BoxProofs$Lines" "qs" "[I", Cond.methodLink RX3 30 yX1_make, Cond.instanceMethod yX1_make, Cond.selects RX1 yX1_make yX1_make, Cond.initialized RX1, Cond.code yX1_make cX1_make 6 (some .int), Cond.methodLink RX1 47 Lib.Math.max.name, Cond.static Lib.Math.max.name, Cond.initialized "java/lang/Math", Cond.code Lib.Math.max.name Lib.Math.max.code 2 (some .int), Cond.fieldLink RX1 31 "BoxProofs$Formulas" "count" "I", Cond.fieldLink RX1 9 "BoxProofs$Formulas" "kinds" "[I", Cond.fieldLink RX1 15 "BoxProofs$Formulas" "firsts" "[I", Cond.fieldLink RX1 18 "BoxProofs$Formulas" "seconds" "[I", Cond.fieldLink RX1 21 "BoxProofs$Formulas" "heights" "[I", Cond.fieldLink RX1 24 "BoxProofs$Formulas" "tables" "[J"]
def wsX3_conclude_r3 : List Cond := [Cond.methodLink RX1 39 yX1_find, Cond.instanceMethod yX1_find, Cond.selects RX1 yX1_find yX1_find, Cond.code yX1_find cX1_find 5 (some .int), Cond.methodLink RX1 43 yX1_heightOf, Cond.instanceMethod yX1_heightOf, Cond.selects RX1 yX1_heightOf yX1_heightOf, Cond.code yX1_heightOf cX1_heightOf 2 (some .int), Cond.methodLink RX1 35 yX1_has, Cond.instanceMethod yX1_has, Cond.selects RX1 yX1_has yX1_has, Cond.code yX1_has cX1_has 2 (some .boolean), Cond.methodLink RX1 53 yX1_tableFor, Cond.instanceMethod yX1_tableFor, Cond.selects RX1 yX1_tableFor yX1_tableFor, Cond.code yX1_tableFor cX1_tableFor 4 (some .long), Cond.fieldLink RX1 60 "BoxProofs$Formulas" "LETTER_TABLES" "[J", Cond.constantLong RX1 67 (-1), Cond.static yX3_isLetter, Cond.code yX3_isLetter cX3_isLetter 1 (some .boolean), Cond.methodLink RX1 63 yX1_tableOf, Cond.instanceMethod yX1_tableOf, Cond.selects RX1 yX1_tableOf yX1_tableOf, Cond.code yX1_tableOf cX1_tableOf 2 (some .long)]
def wsX3_conclude_r4 : List Cond := [Cond.methodLink RX3 45 yX1_firstOf, Cond.instanceMethod yX1_firstOf, Cond.selects RX1 yX1_firstOf yX1_firstOf, Cond.code yX1_firstOf cX1_firstOf 2 (some .int), Cond.methodLink RX3 48 yX1_secondOf, Cond.instanceMethod yX1_secondOf, Cond.selects RX1 yX1_secondOf yX1_secondOf, Cond.code yX1_secondOf cX1_secondOf 2 (some .int), Cond.methodLink RX3 170 yX3_heldAtEnd, Cond.instanceMethod yX3_heldAtEnd, Cond.selects RX3 yX3_heldAtEnd yX3_heldAtEnd, Cond.code yX3_heldAtEnd cX3_heldAtEnd 2 (some .int), Cond.methodLink RX3 173 yX0_endOf, Cond.instanceMethod yX0_endOf, Cond.selects RX0 yX0_endOf yX0_endOf, Cond.code yX0_endOf cX0_endOf 2 (some .int), Cond.fieldLink RX0 18 "BoxProofs$Findings" "ends" "[I"]
def wsX3_conclude : List Cond := .code yX3_conclude cX3_conclude 5 (some .int) :: ((wsX3_conclude_r1 ++ (wsX3_conclude_r2 ++ (wsX3_conclude_r3 ++ wsX3_conclude_r4))) ++ wsX30 ++ wsX20 ++ wsX00 ++ wsX10)
def wsX3_lookAt_r1 : List Cond := [Cond.fieldLink RX3 26 "BoxProofs" "findings" "LBoxProofs$Findings;", Cond.fieldLink RX3 19 "BoxProofs" "proof" "LBoxProofs$Lines;", Cond.methodLink RX3 113 yX3_reasonAgainst, Cond.instanceMethod yX3_reasonAgainst, Cond.selects RX3 yX3_reasonAgainst yX3_reasonAgainst, Cond.initialized RX3, Cond.code yX3_reasonAgainst cX3_reasonAgainst 4 (some .int), Cond.fieldLink RX3 125 "BoxProofs" "LINES_TAKEN" "[I", Cond.methodLink RX3 119 yX2_ruleOf, Cond.instanceMethod yX2_ruleOf, Cond.selects RX2 yX2_ruleOf yX2_ruleOf, Cond.initialized RX2, Cond.code yX2_ruleOf cX2_ruleOf 2 (some .int), Cond.fieldLink RX2 15 "BoxProofs$Lines" "rules" "[I", Cond.static yX3_isLine, Cond.code yX3_isLine cX3_isLine 1 (some .boolean), Cond.methodLink RX3 129 yX3_reasonAgainstNumbers, Cond.instanceMethod yX3_reasonAgainstNumbers, Cond.selects RX3 yX3_reasonAgainstNumbers yX3_reasonAgainstNumbers, Cond.code yX3_reasonAgainstNumbers cX3_reasonAgainstNumbers 5 (some .int), Cond.fieldLink RX3 10 "BoxProofs" "known" "LBoxProofs$Formulas;", Cond.methodLink RX3 132 yX2_pOf, Cond.instanceMethod yX2_pOf, Cond.selects RX2 yX2_pOf yX2_pOf]
def wsX3_lookAt_r2 : List Cond := [Cond.code yX2_pOf cX2_pOf 2 (some .int), Cond.fieldLink RX2 19 "BoxProofs$Lines" "ps" "[I", Cond.methodLink RX3 145 yX3_reasonAgainstLine, Cond.instanceMethod yX3_reasonAgainstLine, Cond.selects RX3 yX3_reasonAgainstLine yX3_reasonAgainstLine, Cond.code yX3_reasonAgainstLine cX3_reasonAgainstLine 4 (some .int), Cond.methodLink RX3 67 yX3_isLine, Cond.methodLink RX3 101 yX0_isInForce, Cond.instanceMethod yX0_isInForce, Cond.selects RX0 yX0_isInForce yX0_isInForce, Cond.initialized RX0, Cond.code yX0_isInForce cX0_isInForce 2 (some .boolean), Cond.fieldLink RX0 21 "BoxProofs$Findings" "inForce" "[Z", Cond.methodLink RX3 149 yX2_qOf, Cond.instanceMethod yX2_qOf, Cond.selects RX2 yX2_qOf yX2_qOf, Cond.code yX2_qOf cX2_qOf 2 (some .int), Cond.fieldLink RX2 22 "BoxProofs$Lines" "qs" "[I", Cond.methodLink RX3 152 yX2_rOf, Cond.instanceMethod yX2_rOf, Cond.selects RX2 yX2_rOf yX2_rOf, Cond.code yX2_rOf cX2_rOf 2 (some .int), Cond.fieldLink RX2 25 "BoxProofs$Lines" "rs" "[I", Cond.methodLink RX3 155 yX3_takesFormula]
def wsX3_lookAt_r3 : List Cond := [Cond.static yX3_takesFormula, Cond.code yX3_takesFormula cX3_takesFormula 1 (some .boolean), Cond.methodLink RX3 158 yX2_formulaOf, Cond.instanceMethod yX2_formulaOf, Cond.selects RX2 yX2_formulaOf yX2_formulaOf, Cond.code yX2_formulaOf cX2_formulaOf 2 (some .int), Cond.fieldLink RX2 28 "BoxProofs$Lines" "fs" "[I", Cond.methodLink RX3 38 yX1_has, Cond.instanceMethod yX1_has, Cond.selects RX1 yX1_has yX1_has, Cond.initialized RX1, Cond.code yX1_has cX1_has 2 (some .boolean), Cond.fieldLink RX1 31 "BoxProofs$Formulas" "count" "I", Cond.methodLink RX3 98 yX0_headOf, Cond.instanceMethod yX0_headOf, Cond.selects RX0 yX0_headOf yX0_headOf, Cond.code yX0_headOf cX0_headOf 2 (some .int), Cond.fieldLink RX0 15 "BoxProofs$Findings" "heads" "[I", Cond.methodLink RX3 135 yX3_isFormRight, Cond.instanceMethod yX3_isFormRight, Cond.selects RX3 yX3_isFormRight yX3_isFormRight, Cond.code yX3_isFormRight cX3_isFormRight 3 (some .boolean), Cond.methodLink RX3 41 yX1_kindOf, Cond.instanceMethod yX1_kindOf]
def wsX3_lookAt_r4 : List Cond := [Cond.selects RX1 yX1_kindOf yX1_kindOf, Cond.code yX1_kindOf cX1_kindOf 2 (some .int), Cond.fieldLink RX1 9 "BoxProofs$Formulas" "kinds" "[I", Cond.methodLink RX1 35 yX1_has, Cond.methodLink RX3 161 yX3_isNegation, Cond.instanceMethod yX3_isNegation, Cond.selects RX3 yX3_isNegation yX3_isNegation, Cond.code yX3_isNegation cX3_isNegation 2 (some .boolean), Cond.methodLink RX3 48 yX1_secondOf, Cond.instanceMethod yX1_secondOf, Cond.selects RX1 yX1_secondOf yX1_secondOf, Cond.code yX1_secondOf cX1_secondOf 2 (some .int), Cond.fieldLink RX1 18 "BoxProofs$Formulas" "seconds" "[I", Cond.methodLink RX3 45 yX1_firstOf, Cond.instanceMethod yX1_firstOf, Cond.selects RX1 yX1_firstOf yX1_firstOf, Cond.code yX1_firstOf cX1_firstOf 2 (some .int), Cond.fieldLink RX1 15 "BoxProofs$Formulas" "firsts" "[I", Cond.methodLink RX3 139 yX3_areBoxesRight, Cond.instanceMethod yX3_areBoxesRight, Cond.selects RX3 yX3_areBoxesRight yX3_areBoxesRight, Cond.code yX3_areBoxesRight cX3_areBoxesRight 3 (some .boolean), Cond.methodLink RX3 164 yX0_innermostOpen, Cond.instanceMethod yX0_innermostOpen]
def wsX3_lookAt_r5 : List Cond := [Cond.selects RX0 yX0_innermostOpen yX0_innermostOpen, Cond.code yX0_innermostOpen cX0_innermostOpen 2 (some .int), Cond.methodLink RX0 49 yX0_isOpenBox, Cond.instanceMethod yX0_isOpenBox, Cond.selects RX0 yX0_isOpenBox yX0_isOpenBox, Cond.code yX0_isOpenBox cX0_isOpenBox 2 (some .boolean), Cond.fieldLink RX0 9 "BoxProofs$Findings" "rules" "[I", Cond.fieldLink RX0 18 "BoxProofs$Findings" "ends" "[I", Cond.methodLink RX3 167 yX0_isUsableBox, Cond.instanceMethod yX0_isUsableBox, Cond.selects RX0 yX0_isUsableBox yX0_isUsableBox, Cond.code yX0_isUsableBox cX0_isUsableBox 2 (some .boolean), Cond.fieldLink RX0 25 "BoxProofs$Findings" "usable" "[Z", Cond.methodLink RX3 142 yX3_areAllLike, Cond.instanceMethod yX3_areAllLike, Cond.selects RX3 yX3_areAllLike yX3_areAllLike, Cond.code yX3_areAllLike cX3_areAllLike 6 (some .boolean), Cond.methodLink RX3 170 yX3_heldAtEnd, Cond.instanceMethod yX3_heldAtEnd, Cond.selects RX3 yX3_heldAtEnd yX3_heldAtEnd, Cond.code yX3_heldAtEnd cX3_heldAtEnd 2 (some .int), Cond.methodLink RX3 173 yX0_endOf, Cond.instanceMethod yX0_endOf, Cond.selects RX0 yX0_endOf yX0_endOf]
def wsX3_lookAt_r6 : List Cond := [Cond.code yX0_endOf cX0_endOf 2 (some .int), Cond.methodLink RX3 116 yX3_conclude, Cond.instanceMethod yX3_conclude, Cond.selects RX3 yX3_conclude yX3_conclude, Cond.code yX3_conclude cX3_conclude 5 (some .int), Cond.methodLink RX3 30 yX1_make, Cond.instanceMethod yX1_make, Cond.selects RX1 yX1_make yX1_make, Cond.code yX1_make cX1_make 6 (some .int), Cond.methodLink RX1 47 Lib.Math.max.name, Cond.static Lib.Math.max.name, Cond.initialized "java/lang/Math", Cond.code Lib.Math.max.name Lib.Math.max.code 2 (some .int), Cond.fieldLink RX1 21 "BoxProofs$Formulas" "heights" "[I", Cond.fieldLink RX1 24 "BoxProofs$Formulas" "tables" "[J", Cond.methodLink RX1 39 yX1_find, Cond.instanceMethod yX1_find, Cond.selects RX1 yX1_find yX1_find, Cond.code yX1_find cX1_find 5 (some .int), Cond.methodLink RX1 43 yX1_heightOf, Cond.instanceMethod yX1_heightOf, Cond.selects RX1 yX1_heightOf yX1_heightOf, Cond.code yX1_heightOf cX1_heightOf 2 (some .int), Cond.methodLink RX1 53 yX1_tableFor]
def wsX3_lookAt_r7 : List Cond := [Cond.instanceMethod yX1_tableFor, Cond.selects RX1 yX1_tableFor yX1_tableFor, Cond.code yX1_tableFor cX1_tableFor 4 (some .long), Cond.fieldLink RX1 60 "BoxProofs$Formulas" "LETTER_TABLES" "[J", Cond.constantLong RX1 67 (-1), Cond.static yX3_isLetter, Cond.code yX3_isLetter cX3_isLetter 1 (some .boolean), Cond.methodLink RX1 63 yX1_tableOf, Cond.instanceMethod yX1_tableOf, Cond.selects RX1 yX1_tableOf yX1_tableOf, Cond.code yX1_tableOf cX1_tableOf 2 (some .long), Cond.methodLink RX3 122 yX0_keep, Cond.instanceMethod yX0_keep, Cond.selects RX0 yX0_keep yX0_keep, Cond.code yX0_keep cX0_keep 4 none, Cond.methodLink RX0 42 yX0_innermostOpen, Cond.methodLink RX0 45 yX0_shutBox, Cond.instanceMethod yX0_shutBox, Cond.selects RX0 yX0_shutBox yX0_shutBox, Cond.code yX0_shutBox cX0_shutBox 4 none]
def wsX3_lookAt : List Cond := .code yX3_lookAt cX3_lookAt 4 (some .int) :: ((wsX3_lookAt_r1 ++ (wsX3_lookAt_r2 ++ (wsX3_lookAt_r3 ++ (wsX3_lookAt_r4 ++ (wsX3_lookAt_r5 ++ (wsX3_lookAt_r6 ++ wsX3_lookAt_r7)))))) ++ wsX30 ++ wsX20 ++ wsX00 ++ wsX10)
def wsX3_check_r1 : List Cond := [Cond.fieldLink RX3 10 "BoxProofs" "known" "LBoxProofs$Formulas;", Cond.fieldLink RX3 26 "BoxProofs" "findings" "LBoxProofs$Findings;", Cond.fieldLink RX3 19 "BoxProofs" "proof" "LBoxProofs$Lines;", Cond.methodLink RX3 81 yX1_count, Cond.instanceMethod yX1_count, Cond.selects RX1 yX1_count yX1_count, Cond.initialized RX1, Cond.code yX1_count cX1_count 1 (some .int), Cond.fieldLink RX1 31 "BoxProofs$Formulas" "count" "I", Cond.methodLink RX3 85 yX0_forget, Cond.instanceMethod yX0_forget, Cond.selects RX0 yX0_forget yX0_forget, Cond.initialized RX0, Cond.code yX0_forget cX0_forget 2 none, Cond.fieldLink RX0 9 "BoxProofs$Findings" "rules" "[I", Cond.fieldLink RX0 15 "BoxProofs$Findings" "heads" "[I", Cond.fieldLink RX0 18 "BoxProofs$Findings" "ends" "[I", Cond.fieldLink RX0 21 "BoxProofs$Findings" "inForce" "[Z", Cond.fieldLink RX0 25 "BoxProofs$Findings" "usable" "[Z", Cond.methodLink RX3 70 yX2_isLaid, Cond.instanceMethod yX2_isLaid, Cond.selects RX2 yX2_isLaid yX2_isLaid, Cond.initialized RX2, Cond.code yX2_isLaid cX2_isLaid 2 (some .boolean)]
def wsX3_check_r2 : List Cond := [Cond.fieldLink RX2 9 "BoxProofs$Lines" "laid" "[Z", Cond.static yX3_isLine, Cond.initialized RX3, Cond.code yX3_isLine cX3_isLine 1 (some .boolean), Cond.methodLink RX3 88 yX3_lookAt, Cond.instanceMethod yX3_lookAt, Cond.selects RX3 yX3_lookAt yX3_lookAt, Cond.code yX3_lookAt cX3_lookAt 4 (some .int), Cond.methodLink RX3 113 yX3_reasonAgainst, Cond.instanceMethod yX3_reasonAgainst, Cond.selects RX3 yX3_reasonAgainst yX3_reasonAgainst, Cond.code yX3_reasonAgainst cX3_reasonAgainst 4 (some .int), Cond.fieldLink RX3 125 "BoxProofs" "LINES_TAKEN" "[I", Cond.methodLink RX3 119 yX2_ruleOf, Cond.instanceMethod yX2_ruleOf, Cond.selects RX2 yX2_ruleOf yX2_ruleOf, Cond.code yX2_ruleOf cX2_ruleOf 2 (some .int), Cond.fieldLink RX2 15 "BoxProofs$Lines" "rules" "[I", Cond.methodLink RX3 129 yX3_reasonAgainstNumbers, Cond.instanceMethod yX3_reasonAgainstNumbers, Cond.selects RX3 yX3_reasonAgainstNumbers yX3_reasonAgainstNumbers, Cond.code yX3_reasonAgainstNumbers cX3_reasonAgainstNumbers 5 (some .int), Cond.methodLink RX3 132 yX2_pOf, Cond.instanceMethod yX2_pOf]
def wsX3_check_r3 : List Cond := [Cond.selects RX2 yX2_pOf yX2_pOf, Cond.code yX2_pOf cX2_pOf 2 (some .int), Cond.fieldLink RX2 19 "BoxProofs$Lines" "ps" "[I", Cond.methodLink RX3 145 yX3_reasonAgainstLine, Cond.instanceMethod yX3_reasonAgainstLine, Cond.selects RX3 yX3_reasonAgainstLine yX3_reasonAgainstLine, Cond.code yX3_reasonAgainstLine cX3_reasonAgainstLine 4 (some .int), Cond.methodLink RX3 67 yX3_isLine, Cond.methodLink RX3 101 yX0_isInForce, Cond.instanceMethod yX0_isInForce, Cond.selects RX0 yX0_isInForce yX0_isInForce, Cond.code yX0_isInForce cX0_isInForce 2 (some .boolean), Cond.methodLink RX3 149 yX2_qOf, Cond.instanceMethod yX2_qOf, Cond.selects RX2 yX2_qOf yX2_qOf, Cond.code yX2_qOf cX2_qOf 2 (some .int), Cond.fieldLink RX2 22 "BoxProofs$Lines" "qs" "[I", Cond.methodLink RX3 152 yX2_rOf, Cond.instanceMethod yX2_rOf, Cond.selects RX2 yX2_rOf yX2_rOf, Cond.code yX2_rOf cX2_rOf 2 (some .int), Cond.fieldLink RX2 25 "BoxProofs$Lines" "rs" "[I", Cond.methodLink RX3 155 yX3_takesFormula, Cond.static yX3_takesFormula]
def wsX3_check_r4 : List Cond := [Cond.code yX3_takesFormula cX3_takesFormula 1 (some .boolean), Cond.methodLink RX3 158 yX2_formulaOf, Cond.instanceMethod yX2_formulaOf, Cond.selects RX2 yX2_formulaOf yX2_formulaOf, Cond.code yX2_formulaOf cX2_formulaOf 2 (some .int), Cond.fieldLink RX2 28 "BoxProofs$Lines" "fs" "[I", Cond.methodLink RX3 38 yX1_has, Cond.instanceMethod yX1_has, Cond.selects RX1 yX1_has yX1_has, Cond.code yX1_has cX1_has 2 (some .boolean), Cond.methodLink RX3 98 yX0_headOf, Cond.instanceMethod yX0_headOf, Cond.selects RX0 yX0_headOf yX0_headOf, Cond.code yX0_headOf cX0_headOf 2 (some .int), Cond.methodLink RX3 135 yX3_isFormRight, Cond.instanceMethod yX3_isFormRight, Cond.selects RX3 yX3_isFormRight yX3_isFormRight, Cond.code yX3_isFormRight cX3_isFormRight 3 (some .boolean), Cond.methodLink RX3 41 yX1_kindOf, Cond.instanceMethod yX1_kindOf, Cond.selects RX1 yX1_kindOf yX1_kindOf, Cond.code yX1_kindOf cX1_kindOf 2 (some .int), Cond.fieldLink RX1 9 "BoxProofs$Formulas" "kinds" "[I", Cond.methodLink RX1 35 yX1_has]
def wsX3_check_r5 : List Cond := [Cond.methodLink RX3 161 yX3_isNegation, Cond.instanceMethod yX3_isNegation, Cond.selects RX3 yX3_isNegation yX3_isNegation, Cond.code yX3_isNegation cX3_isNegation 2 (some .boolean), Cond.methodLink RX3 48 yX1_secondOf, Cond.instanceMethod yX1_secondOf, Cond.selects RX1 yX1_secondOf yX1_secondOf, Cond.code yX1_secondOf cX1_secondOf 2 (some .int), Cond.fieldLink RX1 18 "BoxProofs$Formulas" "seconds" "[I", Cond.methodLink RX3 45 yX1_firstOf, Cond.instanceMethod yX1_firstOf, Cond.selects RX1 yX1_firstOf yX1_firstOf, Cond.code yX1_firstOf cX1_firstOf 2 (some .int), Cond.fieldLink RX1 15 "BoxProofs$Formulas" "firsts" "[I", Cond.methodLink RX3 139 yX3_areBoxesRight, Cond.instanceMethod yX3_areBoxesRight, Cond.selects RX3 yX3_areBoxesRight yX3_areBoxesRight, Cond.code yX3_areBoxesRight cX3_areBoxesRight 3 (some .boolean), Cond.methodLink RX3 164 yX0_innermostOpen, Cond.instanceMethod yX0_innermostOpen, Cond.selects RX0 yX0_innermostOpen yX0_innermostOpen, Cond.code yX0_innermostOpen cX0_innermostOpen 2 (some .int), Cond.methodLink RX0 49 yX0_isOpenBox, Cond.instanceMethod yX0_isOpenBox]
def wsX3_check_r6 : List Cond := [Cond.selects RX0 yX0_isOpenBox yX0_isOpenBox, Cond.code yX0_isOpenBox cX0_isOpenBox 2 (some .boolean), Cond.methodLink RX3 167 yX0_isUsableBox, Cond.instanceMethod yX0_isUsableBox, Cond.selects RX0 yX0_isUsableBox yX0_isUsableBox, Cond.code yX0_isUsableBox cX0_isUsableBox 2 (some .boolean), Cond.methodLink RX3 142 yX3_areAllLike, Cond.instanceMethod yX3_areAllLike, Cond.selects RX3 yX3_areAllLike yX3_areAllLike, Cond.code yX3_areAllLike cX3_areAllLike 6 (some .boolean), Cond.methodLink RX3 170 yX3_heldAtEnd, Cond.instanceMethod yX3_heldAtEnd, Cond.selects RX3 yX3_heldAtEnd yX3_heldAtEnd, Cond.code yX3_heldAtEnd cX3_heldAtEnd 2 (some .int), Cond.methodLink RX3 173 yX0_endOf, Cond.instanceMethod yX0_endOf, Cond.selects RX0 yX0_endOf yX0_endOf, Cond.code yX0_endOf cX0_endOf 2 (some .int), Cond.methodLink RX3 116 yX3_conclude, Cond.instanceMethod yX3_conclude, Cond.selects RX3 yX3_conclude yX3_conclude, Cond.code yX3_conclude cX3_conclude 5 (some .int), Cond.methodLink RX3 30 yX1_make, Cond.instanceMethod yX1_make]
def wsX3_check_r7 : List Cond := [Cond.selects RX1 yX1_make yX1_make, Cond.code yX1_make cX1_make 6 (some .int), Cond.methodLink RX1 47 Lib.Math.max.name, Cond.static Lib.Math.max.name, Cond.initialized "java/lang/Math", Cond.code Lib.Math.max.name Lib.Math.max.code 2 (some .int), Cond.fieldLink RX1 21 "BoxProofs$Formulas" "heights" "[I", Cond.fieldLink RX1 24 "BoxProofs$Formulas" "tables" "[J", Cond.methodLink RX1 39 yX1_find, Cond.instanceMethod yX1_find, Cond.selects RX1 yX1_find yX1_find, Cond.code yX1_find cX1_find 5 (some .int), Cond.methodLink RX1 43 yX1_heightOf, Cond.instanceMethod yX1_heightOf, Cond.selects RX1 yX1_heightOf yX1_heightOf, Cond.code yX1_heightOf cX1_heightOf 2 (some .int), Cond.methodLink RX1 53 yX1_tableFor, Cond.instanceMethod yX1_tableFor, Cond.selects RX1 yX1_tableFor yX1_tableFor, Cond.code yX1_tableFor cX1_tableFor 4 (some .long), Cond.fieldLink RX1 60 "BoxProofs$Formulas" "LETTER_TABLES" "[J", Cond.constantLong RX1 67 (-1), Cond.static yX3_isLetter, Cond.code yX3_isLetter cX3_isLetter 1 (some .boolean)]
def wsX3_check_r8 : List Cond := [Cond.methodLink RX1 63 yX1_tableOf, Cond.instanceMethod yX1_tableOf, Cond.selects RX1 yX1_tableOf yX1_tableOf, Cond.code yX1_tableOf cX1_tableOf 2 (some .long), Cond.methodLink RX3 122 yX0_keep, Cond.instanceMethod yX0_keep, Cond.selects RX0 yX0_keep yX0_keep, Cond.code yX0_keep cX0_keep 4 none, Cond.methodLink RX0 42 yX0_innermostOpen, Cond.methodLink RX0 45 yX0_shutBox, Cond.instanceMethod yX0_shutBox, Cond.selects RX0 yX0_shutBox yX0_shutBox, Cond.code yX0_shutBox cX0_shutBox 4 none, Cond.methodLink RX3 91 yX0_sumUp, Cond.instanceMethod yX0_sumUp, Cond.selects RX0 yX0_sumUp yX0_sumUp, Cond.code yX0_sumUp cX0_sumUp 4 none, Cond.fieldLink RX0 28 "BoxProofs$Findings" "summary" "[I", Cond.methodLink RX0 34 yX0_countOpen, Cond.instanceMethod yX0_countOpen, Cond.selects RX0 yX0_countOpen yX0_countOpen, Cond.code yX0_countOpen cX0_countOpen 3 (some .int)]
def wsX3_check : List Cond := .code yX3_check cX3_check 4 (some .int) :: ((wsX3_check_r1 ++ (wsX3_check_r2 ++ (wsX3_check_r3 ++ (wsX3_check_r4 ++ (wsX3_check_r5 ++ (wsX3_check_r6 ++ (wsX3_check_r7 ++ wsX3_check_r8))))))) ++ wsX30 ++ wsX10 ++ wsX00 ++ wsX20)
def wsX3_told : List Cond := .code yX3_told cX3_told 2 (some .int) :: ([.fieldLink RX3 26 "BoxProofs" "findings" "LBoxProofs$Findings;", .methodLink RX3 95 yX0_summaryOf, .instanceMethod yX0_summaryOf, .selects RX0 yX0_summaryOf yX0_summaryOf, .initialized RX0, .code yX0_summaryOf cX0_summaryOf 2 (some .int), .fieldLink RX0 28 "BoxProofs$Findings" "summary" "[I"] ++ wsX30 ++ wsX00)
def wsX3_head : List Cond := .code yX3_head cX3_head 2 (some .int) :: ([.fieldLink RX3 26 "BoxProofs" "findings" "LBoxProofs$Findings;", .methodLink RX3 67 yX3_isLine, .static yX3_isLine, .initialized RX3, .code yX3_isLine cX3_isLine 1 (some .boolean), .methodLink RX3 98 yX0_headOf, .instanceMethod yX0_headOf, .selects RX0 yX0_headOf yX0_headOf, .initialized RX0, .code yX0_headOf cX0_headOf 2 (some .int), .fieldLink RX0 15 "BoxProofs$Findings" "heads" "[I"] ++ wsX30 ++ wsX00)
def wsX3_force : List Cond := .code yX3_force cX3_force 2 (some .int) :: ([.fieldLink RX3 26 "BoxProofs" "findings" "LBoxProofs$Findings;", .methodLink RX3 67 yX3_isLine, .static yX3_isLine, .initialized RX3, .code yX3_isLine cX3_isLine 1 (some .boolean), .methodLink RX3 101 yX0_isInForce, .instanceMethod yX0_isInForce, .selects RX0 yX0_isInForce yX0_isInForce, .initialized RX0, .code yX0_isInForce cX0_isInForce 2 (some .boolean), .fieldLink RX0 21 "BoxProofs$Findings" "inForce" "[Z"] ++ wsX30 ++ wsX00)
def wsX3_hangs_r1 : List Cond := [Cond.fieldLink RX3 26 "BoxProofs" "findings" "LBoxProofs$Findings;", Cond.methodLink RX3 67 yX3_isLine, Cond.static yX3_isLine, Cond.initialized RX3, Cond.code yX3_isLine cX3_isLine 1 (some .boolean), Cond.methodLink RX3 104 yX0_groundOf, Cond.instanceMethod yX0_groundOf, Cond.selects RX0 yX0_groundOf yX0_groundOf, Cond.initialized RX0, Cond.code yX0_groundOf cX0_groundOf 5 (some .int), Cond.methodLink RX0 63 yX0_headOf, Cond.instanceMethod yX0_headOf, Cond.selects RX0 yX0_headOf yX0_headOf, Cond.code yX0_headOf cX0_headOf 2 (some .int), Cond.fieldLink RX0 15 "BoxProofs$Findings" "heads" "[I", Cond.methodLink RX0 66 yX0_isGround, Cond.instanceMethod yX0_isGround, Cond.selects RX0 yX0_isGround yX0_isGround, Cond.code yX0_isGround cX0_isGround 3 (some .boolean), Cond.methodLink RX0 52 yX0_ruleOf, Cond.instanceMethod yX0_ruleOf, Cond.selects RX0 yX0_ruleOf yX0_ruleOf, Cond.code yX0_ruleOf cX0_ruleOf 2 (some .int), Cond.fieldLink RX0 9 "BoxProofs$Findings" "rules" "[I"]
def wsX3_hangs_r2 : List Cond := [Cond.methodLink RX0 59 yX0_liesInBox, Cond.instanceMethod yX0_liesInBox, Cond.selects RX0 yX0_liesInBox yX0_liesInBox, Cond.code yX0_liesInBox cX0_liesInBox 3 (some .boolean), Cond.methodLink RX0 56 yX0_endOf, Cond.instanceMethod yX0_endOf, Cond.selects RX0 yX0_endOf yX0_endOf, Cond.code yX0_endOf cX0_endOf 2 (some .int), Cond.fieldLink RX0 18 "BoxProofs$Findings" "ends" "[I"]
def wsX3_hangs : List Cond := .code yX3_hangs cX3_hangs 3 (some .int) :: ((wsX3_hangs_r1 ++ wsX3_hangs_r2) ++ wsX30 ++ wsX00)
def wsX3_groundsTable_r1 : List Cond := [Cond.constantLong RX3 111 (-1), Cond.fieldLink RX3 26 "BoxProofs" "findings" "LBoxProofs$Findings;", Cond.fieldLink RX3 10 "BoxProofs" "known" "LBoxProofs$Formulas;", Cond.methodLink RX3 176 yX0_isGround, Cond.instanceMethod yX0_isGround, Cond.selects RX0 yX0_isGround yX0_isGround, Cond.initialized RX0, Cond.code yX0_isGround cX0_isGround 3 (some .boolean), Cond.methodLink RX0 52 yX0_ruleOf, Cond.instanceMethod yX0_ruleOf, Cond.selects RX0 yX0_ruleOf yX0_ruleOf, Cond.code yX0_ruleOf cX0_ruleOf 2 (some .int), Cond.fieldLink RX0 9 "BoxProofs$Findings" "rules" "[I", Cond.static yX3_isLine, Cond.initialized RX3, Cond.code yX3_isLine cX3_isLine 1 (some .boolean), Cond.methodLink RX0 59 yX0_liesInBox, Cond.instanceMethod yX0_liesInBox, Cond.selects RX0 yX0_liesInBox yX0_liesInBox, Cond.code yX0_liesInBox cX0_liesInBox 3 (some .boolean), Cond.methodLink RX0 56 yX0_endOf, Cond.instanceMethod yX0_endOf, Cond.selects RX0 yX0_endOf yX0_endOf, Cond.code yX0_endOf cX0_endOf 2 (some .int)]
def wsX3_groundsTable_r2 : List Cond := [Cond.fieldLink RX0 18 "BoxProofs$Findings" "ends" "[I", Cond.methodLink RX3 98 yX0_headOf, Cond.instanceMethod yX0_headOf, Cond.selects RX0 yX0_headOf yX0_headOf, Cond.code yX0_headOf cX0_headOf 2 (some .int), Cond.fieldLink RX0 15 "BoxProofs$Findings" "heads" "[I", Cond.methodLink RX3 54 yX1_tableOf, Cond.instanceMethod yX1_tableOf, Cond.selects RX1 yX1_tableOf yX1_tableOf, Cond.initialized RX1, Cond.code yX1_tableOf cX1_tableOf 2 (some .long), Cond.fieldLink RX1 24 "BoxProofs$Formulas" "tables" "[J", Cond.methodLink RX1 35 yX1_has, Cond.instanceMethod yX1_has, Cond.selects RX1 yX1_has yX1_has, Cond.code yX1_has cX1_has 2 (some .boolean), Cond.fieldLink RX1 31 "BoxProofs$Formulas" "count" "I"]
def wsX3_groundsTable : List Cond := .code yX3_groundsTable cX3_groundsTable 5 (some .long) :: ((wsX3_groundsTable_r1 ++ wsX3_groundsTable_r2) ++ wsX30 ++ wsX00 ++ wsX10)
def wsX3_sound_r1 : List Cond := [Cond.fieldLink RX3 26 "BoxProofs" "findings" "LBoxProofs$Findings;", Cond.fieldLink RX3 10 "BoxProofs" "known" "LBoxProofs$Formulas;", Cond.constantLong RX3 111 (-1), Cond.methodLink RX3 67 yX3_isLine, Cond.static yX3_isLine, Cond.initialized RX3, Cond.code yX3_isLine cX3_isLine 1 (some .boolean), Cond.methodLink RX3 98 yX0_headOf, Cond.instanceMethod yX0_headOf, Cond.selects RX0 yX0_headOf yX0_headOf, Cond.initialized RX0, Cond.code yX0_headOf cX0_headOf 2 (some .int), Cond.fieldLink RX0 15 "BoxProofs$Findings" "heads" "[I", Cond.methodLink RX3 108 yX3_groundsTable, Cond.instanceMethod yX3_groundsTable, Cond.selects RX3 yX3_groundsTable yX3_groundsTable, Cond.code yX3_groundsTable cX3_groundsTable 5 (some .long), Cond.methodLink RX3 176 yX0_isGround, Cond.instanceMethod yX0_isGround, Cond.selects RX0 yX0_isGround yX0_isGround, Cond.code yX0_isGround cX0_isGround 3 (some .boolean), Cond.methodLink RX0 52 yX0_ruleOf, Cond.instanceMethod yX0_ruleOf, Cond.selects RX0 yX0_ruleOf yX0_ruleOf]
def wsX3_sound_r2 : List Cond := [Cond.code yX0_ruleOf cX0_ruleOf 2 (some .int), Cond.fieldLink RX0 9 "BoxProofs$Findings" "rules" "[I", Cond.methodLink RX0 59 yX0_liesInBox, Cond.instanceMethod yX0_liesInBox, Cond.selects RX0 yX0_liesInBox yX0_liesInBox, Cond.code yX0_liesInBox cX0_liesInBox 3 (some .boolean), Cond.methodLink RX0 56 yX0_endOf, Cond.instanceMethod yX0_endOf, Cond.selects RX0 yX0_endOf yX0_endOf, Cond.code yX0_endOf cX0_endOf 2 (some .int), Cond.fieldLink RX0 18 "BoxProofs$Findings" "ends" "[I", Cond.methodLink RX3 54 yX1_tableOf, Cond.instanceMethod yX1_tableOf, Cond.selects RX1 yX1_tableOf yX1_tableOf, Cond.initialized RX1, Cond.code yX1_tableOf cX1_tableOf 2 (some .long), Cond.fieldLink RX1 24 "BoxProofs$Formulas" "tables" "[J", Cond.methodLink RX1 35 yX1_has, Cond.instanceMethod yX1_has, Cond.selects RX1 yX1_has yX1_has, Cond.code yX1_has cX1_has 2 (some .boolean), Cond.fieldLink RX1 31 "BoxProofs$Formulas" "count" "I"]
def wsX3_sound : List Cond := .code yX3_sound cX3_sound 2 (some .int) :: ((wsX3_sound_r1 ++ wsX3_sound_r2) ++ wsX30 ++ wsX00 ++ wsX10)
def wsX3_formulas : List Cond := .code yX3_formulas cX3_formulas 1 (some .int) :: ([.fieldLink RX3 10 "BoxProofs" "known" "LBoxProofs$Formulas;", .methodLink RX3 81 yX1_count, .instanceMethod yX1_count, .selects RX1 yX1_count yX1_count, .initialized RX1, .code yX1_count cX1_count 1 (some .int), .fieldLink RX1 31 "BoxProofs$Formulas" "count" "I"] ++ wsX30 ++ wsX10)
def wsX4_init : List Cond := .code yX4_init cX4_init 2 none :: ([.methodLink RX4 1 objectInit, .instanceMethod objectInit, .code objectInit ⟨#[0xb1]⟩ 1 none, .arrayClass .int, .fieldLink RX4 7 "BoxProofsModel" "kind" "[I", .fieldLink RX4 13 "BoxProofsModel" "left" "[I", .fieldLink RX4 16 "BoxProofsModel" "right" "[I", .fieldLink RX4 19 "BoxProofsModel" "height" "[I", .arrayClass .boolean, .fieldLink RX4 22 "BoxProofsModel" "laid" "[Z", .fieldLink RX4 26 "BoxProofsModel" "rules" "[I", .fieldLink RX4 29 "BoxProofsModel" "ps" "[I", .fieldLink RX4 32 "BoxProofsModel" "qs" "[I", .fieldLink RX4 35 "BoxProofsModel" "rs" "[I", .fieldLink RX4 38 "BoxProofsModel" "fs" "[I", .fieldLink RX4 41 "BoxProofsModel" "ruleThen" "[I", .fieldLink RX4 44 "BoxProofsModel" "heads" "[I", .fieldLink RX4 47 "BoxProofsModel" "boxOf" "[I", .fieldLink RX4 50 "BoxProofsModel" "shutBy" "[I", .fieldLink RX4 53 "BoxProofsModel" "around" "[I", .fieldLink RX4 56 "BoxProofsModel" "truth" "[Z", .fieldLink RX4 59 "BoxProofsModel" "turned" "[I", .fieldLink RX4 62 "BoxProofsModel" "pile" "[I"] ++ wsX40)
def wsX4_within : List Cond := .code yX4_within cX4_within 3 (some .boolean) :: ([])
def wsX4_isFormula : List Cond := .code yX4_isFormula cX4_isFormula 2 (some .boolean) :: ([.fieldLink RX4 65 "BoxProofsModel" "formulas" "I", .methodLink RX4 69 yX4_within, .static yX4_within, .initialized RX4, .code yX4_within cX4_within 3 (some .boolean)] ++ wsX40)
def wsX4_isLine : List Cond := .code yX4_isLine cX4_isLine 1 (some .boolean) :: ([.methodLink RX4 69 yX4_within, .static yX4_within, .initialized RX4, .code yX4_within cX4_within 3 (some .boolean)])
def wsX4_make : List Cond := .code yX4_make cX4_make 7 (some .int) :: ([.fieldLink RX4 65 "BoxProofsModel" "formulas" "I", .fieldLink RX4 7 "BoxProofsModel" "kind" "[I", .fieldLink RX4 13 "BoxProofsModel" "left" "[I", .fieldLink RX4 16 "BoxProofsModel" "right" "[I", .fieldLink RX4 19 "BoxProofsModel" "height" "[I"] ++ wsX40)
def wsX4_formula : List Cond := .code yX4_formula cX4_formula 4 (some .int) :: ([.methodLink RX4 69 yX4_within, .static yX4_within, .initialized RX4, .code yX4_within cX4_within 3 (some .boolean), .methodLink RX4 73 yX4_isFormula, .instanceMethod yX4_isFormula, .selects RX4 yX4_isFormula yX4_isFormula, .code yX4_isFormula cX4_isFormula 2 (some .boolean), .fieldLink RX4 65 "BoxProofsModel" "formulas" "I", .methodLink RX4 77 yX4_make, .instanceMethod yX4_make, .selects RX4 yX4_make yX4_make, .code yX4_make cX4_make 7 (some .int), .fieldLink RX4 7 "BoxProofsModel" "kind" "[I", .fieldLink RX4 13 "BoxProofsModel" "left" "[I", .fieldLink RX4 16 "BoxProofsModel" "right" "[I", .fieldLink RX4 19 "BoxProofsModel" "height" "[I"] ++ wsX40)
def wsX4_about : List Cond := .code yX4_about cX4_about 3 (some .int) :: ([.fieldLink RX4 7 "BoxProofsModel" "kind" "[I", .fieldLink RX4 13 "BoxProofsModel" "left" "[I", .fieldLink RX4 16 "BoxProofsModel" "right" "[I", .fieldLink RX4 19 "BoxProofsModel" "height" "[I", .methodLink RX4 73 yX4_isFormula, .instanceMethod yX4_isFormula, .selects RX4 yX4_isFormula yX4_isFormula, .initialized RX4, .code yX4_isFormula cX4_isFormula 2 (some .boolean), .fieldLink RX4 65 "BoxProofsModel" "formulas" "I", .methodLink RX4 69 yX4_within, .static yX4_within, .code yX4_within cX4_within 3 (some .boolean)] ++ wsX40)
def wsX4_evaluate : List Cond := .code yX4_evaluate cX4_evaluate 3 none :: ([.fieldLink RX4 65 "BoxProofsModel" "formulas" "I", .fieldLink RX4 7 "BoxProofsModel" "kind" "[I", .fieldLink RX4 56 "BoxProofsModel" "truth" "[Z", .fieldLink RX4 13 "BoxProofsModel" "left" "[I", .fieldLink RX4 16 "BoxProofsModel" "right" "[I"] ++ wsX40)
def wsX4_value : List Cond := .code yX4_value cX4_value 3 (some .int) :: ([.fieldLink RX4 56 "BoxProofsModel" "truth" "[Z", .methodLink RX4 73 yX4_isFormula, .instanceMethod yX4_isFormula, .selects RX4 yX4_isFormula yX4_isFormula, .initialized RX4, .code yX4_isFormula cX4_isFormula 2 (some .boolean), .fieldLink RX4 65 "BoxProofsModel" "formulas" "I", .methodLink RX4 69 yX4_within, .static yX4_within, .code yX4_within cX4_within 3 (some .boolean), .methodLink RX4 81 yX4_evaluate, .instanceMethod yX4_evaluate, .selects RX4 yX4_evaluate yX4_evaluate, .code yX4_evaluate cX4_evaluate 3 none, .fieldLink RX4 7 "BoxProofsModel" "kind" "[I", .fieldLink RX4 13 "BoxProofsModel" "left" "[I", .fieldLink RX4 16 "BoxProofsModel" "right" "[I"] ++ wsX40)
def wsX4_truths : List Cond := .code yX4_truths cX4_truths 4 (some .int) :: ([.fieldLink RX4 56 "BoxProofsModel" "truth" "[Z", .methodLink RX4 73 yX4_isFormula, .instanceMethod yX4_isFormula, .selects RX4 yX4_isFormula yX4_isFormula, .initialized RX4, .code yX4_isFormula cX4_isFormula 2 (some .boolean), .fieldLink RX4 65 "BoxProofsModel" "formulas" "I", .methodLink RX4 69 yX4_within, .static yX4_within, .code yX4_within cX4_within 3 (some .boolean), .methodLink RX4 81 yX4_evaluate, .instanceMethod yX4_evaluate, .selects RX4 yX4_evaluate yX4_evaluate, .code yX4_evaluate cX4_evaluate 3 none, .fieldLink RX4 7 "BoxProofsModel" "kind" "[I", .fieldLink RX4 13 "BoxProofsModel" "left" "[I", .fieldLink RX4 16 "BoxProofsModel" "right" "[I"] ++ wsX40)
def wsX4_instead : List Cond := .code yX4_instead cX4_instead 7 (some .int) :: ([.fieldLink RX4 59 "BoxProofsModel" "turned" "[I", .fieldLink RX4 7 "BoxProofsModel" "kind" "[I", .fieldLink RX4 13 "BoxProofsModel" "left" "[I", .fieldLink RX4 62 "BoxProofsModel" "pile" "[I", .fieldLink RX4 16 "BoxProofsModel" "right" "[I", .methodLink RX4 73 yX4_isFormula, .instanceMethod yX4_isFormula, .selects RX4 yX4_isFormula yX4_isFormula, .initialized RX4, .code yX4_isFormula cX4_isFormula 2 (some .boolean), .fieldLink RX4 65 "BoxProofsModel" "formulas" "I", .methodLink RX4 69 yX4_within, .static yX4_within, .code yX4_within cX4_within 3 (some .boolean), .methodLink RX4 77 yX4_make, .instanceMethod yX4_make, .selects RX4 yX4_make yX4_make, .code yX4_make cX4_make 7 (some .int), .fieldLink RX4 19 "BoxProofsModel" "height" "[I"] ++ wsX40)
def wsX4_formulas : List Cond := .code yX4_formulas cX4_formulas 1 (some .int) :: ([.fieldLink RX4 65 "BoxProofsModel" "formulas" "I"] ++ wsX40)
def wsX4_lay : List Cond := .code yX4_lay cX4_lay 8 (some .int) :: ([.fieldLink RX4 22 "BoxProofsModel" "laid" "[Z", .fieldLink RX4 26 "BoxProofsModel" "rules" "[I", .fieldLink RX4 29 "BoxProofsModel" "ps" "[I", .fieldLink RX4 32 "BoxProofsModel" "qs" "[I", .fieldLink RX4 35 "BoxProofsModel" "rs" "[I", .fieldLink RX4 38 "BoxProofsModel" "fs" "[I", .methodLink RX4 85 yX4_isLine, .static yX4_isLine, .initialized RX4, .code yX4_isLine cX4_isLine 1 (some .boolean), .methodLink RX4 69 yX4_within, .static yX4_within, .code yX4_within cX4_within 3 (some .boolean)] ++ wsX40)
def wsX4_take : List Cond := .code yX4_take cX4_take 3 (some .int) :: ([.fieldLink RX4 22 "BoxProofsModel" "laid" "[Z", .methodLink RX4 85 yX4_isLine, .static yX4_isLine, .initialized RX4, .code yX4_isLine cX4_isLine 1 (some .boolean), .methodLink RX4 69 yX4_within, .static yX4_within, .code yX4_within cX4_within 3 (some .boolean)] ++ wsX40)
def wsX4_allOpen : List Cond := .code yX4_allOpen cX4_allOpen 3 (some .boolean) :: ([.fieldLink RX4 50 "BoxProofsModel" "shutBy" "[I", .fieldLink RX4 53 "BoxProofsModel" "around" "[I"] ++ wsX40)
def wsX4_inForce : List Cond := .code yX4_inForce cX4_inForce 2 (some .boolean) :: ([.fieldLink RX4 44 "BoxProofsModel" "heads" "[I", .fieldLink RX4 47 "BoxProofsModel" "boxOf" "[I", .methodLink RX4 88 yX4_allOpen, .instanceMethod yX4_allOpen, .selects RX4 yX4_allOpen yX4_allOpen, .initialized RX4, .code yX4_allOpen cX4_allOpen 3 (some .boolean), .fieldLink RX4 50 "BoxProofsModel" "shutBy" "[I", .fieldLink RX4 53 "BoxProofsModel" "around" "[I"] ++ wsX40)
def wsX4_badLine : List Cond := .code yX4_badLine cX4_badLine 4 (some .int) :: ([.methodLink RX4 85 yX4_isLine, .static yX4_isLine, .initialized RX4, .code yX4_isLine cX4_isLine 1 (some .boolean), .methodLink RX4 69 yX4_within, .static yX4_within, .code yX4_within cX4_within 3 (some .boolean), .methodLink RX4 91 yX4_inForce, .instanceMethod yX4_inForce, .selects RX4 yX4_inForce yX4_inForce, .code yX4_inForce cX4_inForce 2 (some .boolean), .fieldLink RX4 44 "BoxProofsModel" "heads" "[I", .fieldLink RX4 47 "BoxProofsModel" "boxOf" "[I", .methodLink RX4 88 yX4_allOpen, .instanceMethod yX4_allOpen, .selects RX4 yX4_allOpen yX4_allOpen, .code yX4_allOpen cX4_allOpen 3 (some .boolean), .fieldLink RX4 50 "BoxProofsModel" "shutBy" "[I", .fieldLink RX4 53 "BoxProofsModel" "around" "[I"] ++ wsX40)
def wsX4_badBox : List Cond := .code yX4_badBox cX4_badBox 3 (some .int) :: ([.fieldLink RX4 41 "BoxProofsModel" "ruleThen" "[I", .fieldLink RX4 50 "BoxProofsModel" "shutBy" "[I", .fieldLink RX4 53 "BoxProofsModel" "around" "[I", .fieldLink RX4 44 "BoxProofsModel" "heads" "[I", .methodLink RX4 88 yX4_allOpen, .instanceMethod yX4_allOpen, .selects RX4 yX4_allOpen yX4_allOpen, .initialized RX4, .code yX4_allOpen cX4_allOpen 3 (some .boolean)] ++ wsX40)
def wsX4_endOf : List Cond := .code yX4_endOf cX4_endOf 2 (some .int) :: ([.fieldLink RX4 44 "BoxProofsModel" "heads" "[I", .fieldLink RX4 50 "BoxProofsModel" "shutBy" "[I"] ++ wsX40)
def wsX4_isKind : List Cond := .code yX4_isKind cX4_isKind 3 (some .boolean) :: ([.fieldLink RX4 7 "BoxProofsModel" "kind" "[I"] ++ wsX40)
def wsX4_badNumbers_r1 : List Cond := [Cond.fieldLink RX4 29 "BoxProofsModel" "ps" "[I", Cond.fieldLink RX4 32 "BoxProofsModel" "qs" "[I", Cond.fieldLink RX4 35 "BoxProofsModel" "rs" "[I", Cond.fieldLink RX4 38 "BoxProofsModel" "fs" "[I", Cond.methodLink RX4 94 yX4_badLine, Cond.instanceMethod yX4_badLine, Cond.selects RX4 yX4_badLine yX4_badLine, Cond.initialized RX4, Cond.code yX4_badLine cX4_badLine 4 (some .int), Cond.methodLink RX4 85 yX4_isLine, Cond.static yX4_isLine, Cond.code yX4_isLine cX4_isLine 1 (some .boolean), Cond.methodLink RX4 69 yX4_within, Cond.static yX4_within, Cond.code yX4_within cX4_within 3 (some .boolean), Cond.methodLink RX4 91 yX4_inForce, Cond.instanceMethod yX4_inForce, Cond.selects RX4 yX4_inForce yX4_inForce, Cond.code yX4_inForce cX4_inForce 2 (some .boolean), Cond.fieldLink RX4 44 "BoxProofsModel" "heads" "[I", Cond.fieldLink RX4 47 "BoxProofsModel" "boxOf" "[I", Cond.methodLink RX4 88 yX4_allOpen, Cond.instanceMethod yX4_allOpen, Cond.selects RX4 yX4_allOpen yX4_allOpen]
def wsX4_badNumbers_r2 : List Cond := [Cond.code yX4_allOpen cX4_allOpen 3 (some .boolean), Cond.fieldLink RX4 50 "BoxProofsModel" "shutBy" "[I", Cond.fieldLink RX4 53 "BoxProofsModel" "around" "[I", Cond.methodLink RX4 73 yX4_isFormula, Cond.instanceMethod yX4_isFormula, Cond.selects RX4 yX4_isFormula yX4_isFormula, Cond.code yX4_isFormula cX4_isFormula 2 (some .boolean), Cond.fieldLink RX4 65 "BoxProofsModel" "formulas" "I"]
def wsX4_badNumbers : List Cond := .code yX4_badNumbers cX4_badNumbers 5 (some .int) :: ((wsX4_badNumbers_r1 ++ wsX4_badNumbers_r2) ++ wsX40)
def wsX4_badForm : List Cond := .code yX4_badForm cX4_badForm 3 (some .int) :: ([.fieldLink RX4 16 "BoxProofsModel" "right" "[I", .fieldLink RX4 13 "BoxProofsModel" "left" "[I", .methodLink RX4 98 yX4_isKind, .instanceMethod yX4_isKind, .selects RX4 yX4_isKind yX4_isKind, .initialized RX4, .code yX4_isKind cX4_isKind 3 (some .boolean), .fieldLink RX4 7 "BoxProofsModel" "kind" "[I"] ++ wsX40)
def wsX4_badBoxes : List Cond := .code yX4_badBoxes cX4_badBoxes 7 (some .int) :: ([.fieldLink RX4 102 "BoxProofsModel" "inner" "I", .fieldLink RX4 29 "BoxProofsModel" "ps" "[I", .fieldLink RX4 44 "BoxProofsModel" "heads" "[I", .fieldLink RX4 32 "BoxProofsModel" "qs" "[I", .fieldLink RX4 13 "BoxProofsModel" "left" "[I", .fieldLink RX4 35 "BoxProofsModel" "rs" "[I", .fieldLink RX4 16 "BoxProofsModel" "right" "[I", .methodLink RX4 105 yX4_badBox, .instanceMethod yX4_badBox, .selects RX4 yX4_badBox yX4_badBox, .initialized RX4, .code yX4_badBox cX4_badBox 3 (some .int), .fieldLink RX4 41 "BoxProofsModel" "ruleThen" "[I", .fieldLink RX4 50 "BoxProofsModel" "shutBy" "[I", .fieldLink RX4 53 "BoxProofsModel" "around" "[I", .methodLink RX4 88 yX4_allOpen, .instanceMethod yX4_allOpen, .selects RX4 yX4_allOpen yX4_allOpen, .code yX4_allOpen cX4_allOpen 3 (some .boolean), .methodLink RX4 109 yX4_endOf, .instanceMethod yX4_endOf, .selects RX4 yX4_endOf yX4_endOf, .code yX4_endOf cX4_endOf 2 (some .int)] ++ wsX40)
def wsX4_headOf : List Cond := .code yX4_headOf cX4_headOf 4 (some .int) :: ([.fieldLink RX4 44 "BoxProofsModel" "heads" "[I", .fieldLink RX4 32 "BoxProofsModel" "qs" "[I", .fieldLink RX4 13 "BoxProofsModel" "left" "[I", .fieldLink RX4 16 "BoxProofsModel" "right" "[I", .fieldLink RX4 38 "BoxProofsModel" "fs" "[I", .fieldLink RX4 29 "BoxProofsModel" "ps" "[I", .methodLink RX4 77 yX4_make, .instanceMethod yX4_make, .selects RX4 yX4_make yX4_make, .initialized RX4, .code yX4_make cX4_make 7 (some .int), .fieldLink RX4 65 "BoxProofsModel" "formulas" "I", .fieldLink RX4 7 "BoxProofsModel" "kind" "[I", .fieldLink RX4 19 "BoxProofsModel" "height" "[I", .methodLink RX4 109 yX4_endOf, .instanceMethod yX4_endOf, .selects RX4 yX4_endOf yX4_endOf, .code yX4_endOf cX4_endOf 2 (some .int), .fieldLink RX4 50 "BoxProofsModel" "shutBy" "[I"] ++ wsX40)
def wsX4_look_r1 : List Cond := [Cond.fieldLink RX4 26 "BoxProofsModel" "rules" "[I", Cond.fieldLink RX4 44 "BoxProofsModel" "heads" "[I", Cond.fieldLink RX4 29 "BoxProofsModel" "ps" "[I", Cond.fieldLink RX4 41 "BoxProofsModel" "ruleThen" "[I", Cond.fieldLink RX4 50 "BoxProofsModel" "shutBy" "[I", Cond.fieldLink RX4 102 "BoxProofsModel" "inner" "I", Cond.fieldLink RX4 53 "BoxProofsModel" "around" "[I", Cond.fieldLink RX4 47 "BoxProofsModel" "boxOf" "[I", Cond.fieldLink RX4 122 "BoxProofsModel" "opened" "I", Cond.methodLink RX4 69 yX4_within, Cond.static yX4_within, Cond.initialized RX4, Cond.code yX4_within cX4_within 3 (some .boolean), Cond.methodLink RX4 112 yX4_badNumbers, Cond.instanceMethod yX4_badNumbers, Cond.selects RX4 yX4_badNumbers yX4_badNumbers, Cond.code yX4_badNumbers cX4_badNumbers 5 (some .int), Cond.fieldLink RX4 32 "BoxProofsModel" "qs" "[I", Cond.fieldLink RX4 35 "BoxProofsModel" "rs" "[I", Cond.fieldLink RX4 38 "BoxProofsModel" "fs" "[I", Cond.methodLink RX4 94 yX4_badLine, Cond.instanceMethod yX4_badLine, Cond.selects RX4 yX4_badLine yX4_badLine, Cond.code yX4_badLine cX4_badLine 4 (some .int)]
def wsX4_look_r2 : List Cond := [Cond.methodLink RX4 85 yX4_isLine, Cond.static yX4_isLine, Cond.code yX4_isLine cX4_isLine 1 (some .boolean), Cond.methodLink RX4 91 yX4_inForce, Cond.instanceMethod yX4_inForce, Cond.selects RX4 yX4_inForce yX4_inForce, Cond.code yX4_inForce cX4_inForce 2 (some .boolean), Cond.methodLink RX4 88 yX4_allOpen, Cond.instanceMethod yX4_allOpen, Cond.selects RX4 yX4_allOpen yX4_allOpen, Cond.code yX4_allOpen cX4_allOpen 3 (some .boolean), Cond.methodLink RX4 73 yX4_isFormula, Cond.instanceMethod yX4_isFormula, Cond.selects RX4 yX4_isFormula yX4_isFormula, Cond.code yX4_isFormula cX4_isFormula 2 (some .boolean), Cond.fieldLink RX4 65 "BoxProofsModel" "formulas" "I", Cond.methodLink RX4 116 yX4_badForm, Cond.instanceMethod yX4_badForm, Cond.selects RX4 yX4_badForm yX4_badForm, Cond.code yX4_badForm cX4_badForm 3 (some .int), Cond.fieldLink RX4 16 "BoxProofsModel" "right" "[I", Cond.fieldLink RX4 13 "BoxProofsModel" "left" "[I", Cond.methodLink RX4 98 yX4_isKind, Cond.instanceMethod yX4_isKind]
def wsX4_look_r3 : List Cond := [Cond.selects RX4 yX4_isKind yX4_isKind, Cond.code yX4_isKind cX4_isKind 3 (some .boolean), Cond.fieldLink RX4 7 "BoxProofsModel" "kind" "[I", Cond.methodLink RX4 119 yX4_badBoxes, Cond.instanceMethod yX4_badBoxes, Cond.selects RX4 yX4_badBoxes yX4_badBoxes, Cond.code yX4_badBoxes cX4_badBoxes 7 (some .int), Cond.methodLink RX4 105 yX4_badBox, Cond.instanceMethod yX4_badBox, Cond.selects RX4 yX4_badBox yX4_badBox, Cond.code yX4_badBox cX4_badBox 3 (some .int), Cond.methodLink RX4 109 yX4_endOf, Cond.instanceMethod yX4_endOf, Cond.selects RX4 yX4_endOf yX4_endOf, Cond.code yX4_endOf cX4_endOf 2 (some .int), Cond.methodLink RX4 125 yX4_headOf, Cond.instanceMethod yX4_headOf, Cond.selects RX4 yX4_headOf yX4_headOf, Cond.code yX4_headOf cX4_headOf 4 (some .int), Cond.methodLink RX4 77 yX4_make, Cond.instanceMethod yX4_make, Cond.selects RX4 yX4_make yX4_make, Cond.code yX4_make cX4_make 7 (some .int), Cond.fieldLink RX4 19 "BoxProofsModel" "height" "[I"]
def wsX4_look : List Cond := .code yX4_look cX4_look 6 (some .int) :: ((wsX4_look_r1 ++ (wsX4_look_r2 ++ wsX4_look_r3)) ++ wsX40)
def wsX4_check_r1 : List Cond := [Cond.fieldLink RX4 128 "BoxProofsModel" "checked" "Z", Cond.fieldLink RX4 65 "BoxProofsModel" "formulas" "I", Cond.fieldLink RX4 44 "BoxProofsModel" "heads" "[I", Cond.fieldLink RX4 41 "BoxProofsModel" "ruleThen" "[I", Cond.fieldLink RX4 102 "BoxProofsModel" "inner" "I", Cond.fieldLink RX4 122 "BoxProofsModel" "opened" "I", Cond.fieldLink RX4 132 "BoxProofsModel" "reason" "I", Cond.fieldLink RX4 135 "BoxProofsModel" "stopped" "I", Cond.fieldLink RX4 22 "BoxProofsModel" "laid" "[Z", Cond.fieldLink RX4 141 "BoxProofsModel" "made" "I", Cond.methodLink RX4 138 yX4_look, Cond.instanceMethod yX4_look, Cond.selects RX4 yX4_look yX4_look, Cond.initialized RX4, Cond.code yX4_look cX4_look 6 (some .int), Cond.fieldLink RX4 26 "BoxProofsModel" "rules" "[I", Cond.fieldLink RX4 29 "BoxProofsModel" "ps" "[I", Cond.fieldLink RX4 50 "BoxProofsModel" "shutBy" "[I", Cond.fieldLink RX4 53 "BoxProofsModel" "around" "[I", Cond.fieldLink RX4 47 "BoxProofsModel" "boxOf" "[I", Cond.methodLink RX4 69 yX4_within, Cond.static yX4_within, Cond.code yX4_within cX4_within 3 (some .boolean), Cond.methodLink RX4 112 yX4_badNumbers]
def wsX4_check_r2 : List Cond := [Cond.instanceMethod yX4_badNumbers, Cond.selects RX4 yX4_badNumbers yX4_badNumbers, Cond.code yX4_badNumbers cX4_badNumbers 5 (some .int), Cond.fieldLink RX4 32 "BoxProofsModel" "qs" "[I", Cond.fieldLink RX4 35 "BoxProofsModel" "rs" "[I", Cond.fieldLink RX4 38 "BoxProofsModel" "fs" "[I", Cond.methodLink RX4 94 yX4_badLine, Cond.instanceMethod yX4_badLine, Cond.selects RX4 yX4_badLine yX4_badLine, Cond.code yX4_badLine cX4_badLine 4 (some .int), Cond.methodLink RX4 85 yX4_isLine, Cond.static yX4_isLine, Cond.code yX4_isLine cX4_isLine 1 (some .boolean), Cond.methodLink RX4 91 yX4_inForce, Cond.instanceMethod yX4_inForce, Cond.selects RX4 yX4_inForce yX4_inForce, Cond.code yX4_inForce cX4_inForce 2 (some .boolean), Cond.methodLink RX4 88 yX4_allOpen, Cond.instanceMethod yX4_allOpen, Cond.selects RX4 yX4_allOpen yX4_allOpen, Cond.code yX4_allOpen cX4_allOpen 3 (some .boolean), Cond.methodLink RX4 73 yX4_isFormula, Cond.instanceMethod yX4_isFormula, Cond.selects RX4 yX4_isFormula yX4_isFormula]
def wsX4_check_r3 : List Cond := [Cond.code yX4_isFormula cX4_isFormula 2 (some .boolean), Cond.methodLink RX4 116 yX4_badForm, Cond.instanceMethod yX4_badForm, Cond.selects RX4 yX4_badForm yX4_badForm, Cond.code yX4_badForm cX4_badForm 3 (some .int), Cond.fieldLink RX4 16 "BoxProofsModel" "right" "[I", Cond.fieldLink RX4 13 "BoxProofsModel" "left" "[I", Cond.methodLink RX4 98 yX4_isKind, Cond.instanceMethod yX4_isKind, Cond.selects RX4 yX4_isKind yX4_isKind, Cond.code yX4_isKind cX4_isKind 3 (some .boolean), Cond.fieldLink RX4 7 "BoxProofsModel" "kind" "[I", Cond.methodLink RX4 119 yX4_badBoxes, Cond.instanceMethod yX4_badBoxes, Cond.selects RX4 yX4_badBoxes yX4_badBoxes, Cond.code yX4_badBoxes cX4_badBoxes 7 (some .int), Cond.methodLink RX4 105 yX4_badBox, Cond.instanceMethod yX4_badBox, Cond.selects RX4 yX4_badBox yX4_badBox, Cond.code yX4_badBox cX4_badBox 3 (some .int), Cond.methodLink RX4 109 yX4_endOf, Cond.instanceMethod yX4_endOf, Cond.selects RX4 yX4_endOf yX4_endOf, Cond.code yX4_endOf cX4_endOf 2 (some .int)]
def wsX4_check_r4 : List Cond := [Cond.methodLink RX4 125 yX4_headOf, Cond.instanceMethod yX4_headOf, Cond.selects RX4 yX4_headOf yX4_headOf, Cond.code yX4_headOf cX4_headOf 4 (some .int), Cond.methodLink RX4 77 yX4_make, Cond.instanceMethod yX4_make, Cond.selects RX4 yX4_make yX4_make, Cond.code yX4_make cX4_make 7 (some .int), Cond.fieldLink RX4 19 "BoxProofsModel" "height" "[I"]
def wsX4_check : List Cond := .code yX4_check cX4_check 3 (some .int) :: ((wsX4_check_r1 ++ (wsX4_check_r2 ++ (wsX4_check_r3 ++ wsX4_check_r4))) ++ wsX40)
def wsX4_told : List Cond := .code yX4_told cX4_told 2 (some .int) :: ([.fieldLink RX4 128 "BoxProofsModel" "checked" "Z", .fieldLink RX4 132 "BoxProofsModel" "reason" "I", .fieldLink RX4 135 "BoxProofsModel" "stopped" "I", .fieldLink RX4 122 "BoxProofsModel" "opened" "I", .fieldLink RX4 141 "BoxProofsModel" "made" "I", .methodLink RX4 69 yX4_within, .static yX4_within, .initialized RX4, .code yX4_within cX4_within 3 (some .boolean)] ++ wsX40)
def wsX4_head : List Cond := .code yX4_head cX4_head 2 (some .int) :: ([.fieldLink RX4 44 "BoxProofsModel" "heads" "[I", .methodLink RX4 85 yX4_isLine, .static yX4_isLine, .initialized RX4, .code yX4_isLine cX4_isLine 1 (some .boolean), .methodLink RX4 69 yX4_within, .static yX4_within, .code yX4_within cX4_within 3 (some .boolean)] ++ wsX40)
def wsX4_force : List Cond := .code yX4_force cX4_force 2 (some .int) :: ([.methodLink RX4 85 yX4_isLine, .static yX4_isLine, .initialized RX4, .code yX4_isLine cX4_isLine 1 (some .boolean), .methodLink RX4 69 yX4_within, .static yX4_within, .code yX4_within cX4_within 3 (some .boolean), .methodLink RX4 91 yX4_inForce, .instanceMethod yX4_inForce, .selects RX4 yX4_inForce yX4_inForce, .code yX4_inForce cX4_inForce 2 (some .boolean), .fieldLink RX4 44 "BoxProofsModel" "heads" "[I", .fieldLink RX4 47 "BoxProofsModel" "boxOf" "[I", .methodLink RX4 88 yX4_allOpen, .instanceMethod yX4_allOpen, .selects RX4 yX4_allOpen yX4_allOpen, .code yX4_allOpen cX4_allOpen 3 (some .boolean), .fieldLink RX4 50 "BoxProofsModel" "shutBy" "[I", .fieldLink RX4 53 "BoxProofsModel" "around" "[I"] ++ wsX40)
def wsX4_liesIn : List Cond := .code yX4_liesIn cX4_liesIn 4 (some .boolean) :: ([.fieldLink RX4 47 "BoxProofsModel" "boxOf" "[I", .fieldLink RX4 53 "BoxProofsModel" "around" "[I"] ++ wsX40)
def wsX4_hangsOn : List Cond := .code yX4_hangsOn cX4_hangsOn 3 (some .boolean) :: ([.fieldLink RX4 41 "BoxProofsModel" "ruleThen" "[I", .methodLink RX4 144 yX4_liesIn, .instanceMethod yX4_liesIn, .selects RX4 yX4_liesIn yX4_liesIn, .initialized RX4, .code yX4_liesIn cX4_liesIn 4 (some .boolean), .fieldLink RX4 47 "BoxProofsModel" "boxOf" "[I", .fieldLink RX4 53 "BoxProofsModel" "around" "[I"] ++ wsX40)
def wsX4_hangs : List Cond := .code yX4_hangs cX4_hangs 5 (some .int) :: ([.fieldLink RX4 44 "BoxProofsModel" "heads" "[I", .methodLink RX4 85 yX4_isLine, .static yX4_isLine, .initialized RX4, .code yX4_isLine cX4_isLine 1 (some .boolean), .methodLink RX4 69 yX4_within, .static yX4_within, .code yX4_within cX4_within 3 (some .boolean), .methodLink RX4 147 yX4_hangsOn, .instanceMethod yX4_hangsOn, .selects RX4 yX4_hangsOn yX4_hangsOn, .code yX4_hangsOn cX4_hangsOn 3 (some .boolean), .fieldLink RX4 41 "BoxProofsModel" "ruleThen" "[I", .methodLink RX4 144 yX4_liesIn, .instanceMethod yX4_liesIn, .selects RX4 yX4_liesIn yX4_liesIn, .code yX4_liesIn cX4_liesIn 4 (some .boolean), .fieldLink RX4 47 "BoxProofsModel" "boxOf" "[I", .fieldLink RX4 53 "BoxProofsModel" "around" "[I"] ++ wsX40)
def wsX4_sound_r1 : List Cond := [Cond.fieldLink RX4 44 "BoxProofsModel" "heads" "[I", Cond.fieldLink RX4 56 "BoxProofsModel" "truth" "[Z", Cond.methodLink RX4 85 yX4_isLine, Cond.static yX4_isLine, Cond.initialized RX4, Cond.code yX4_isLine cX4_isLine 1 (some .boolean), Cond.methodLink RX4 69 yX4_within, Cond.static yX4_within, Cond.code yX4_within cX4_within 3 (some .boolean), Cond.methodLink RX4 81 yX4_evaluate, Cond.instanceMethod yX4_evaluate, Cond.selects RX4 yX4_evaluate yX4_evaluate, Cond.code yX4_evaluate cX4_evaluate 3 none, Cond.fieldLink RX4 65 "BoxProofsModel" "formulas" "I", Cond.fieldLink RX4 7 "BoxProofsModel" "kind" "[I", Cond.fieldLink RX4 13 "BoxProofsModel" "left" "[I", Cond.fieldLink RX4 16 "BoxProofsModel" "right" "[I", Cond.methodLink RX4 147 yX4_hangsOn, Cond.instanceMethod yX4_hangsOn, Cond.selects RX4 yX4_hangsOn yX4_hangsOn, Cond.code yX4_hangsOn cX4_hangsOn 3 (some .boolean), Cond.fieldLink RX4 41 "BoxProofsModel" "ruleThen" "[I", Cond.methodLink RX4 144 yX4_liesIn, Cond.instanceMethod yX4_liesIn]
def wsX4_sound_r2 : List Cond := [Cond.selects RX4 yX4_liesIn yX4_liesIn, Cond.code yX4_liesIn cX4_liesIn 4 (some .boolean), Cond.fieldLink RX4 47 "BoxProofsModel" "boxOf" "[I", Cond.fieldLink RX4 53 "BoxProofsModel" "around" "[I"]
def wsX4_sound : List Cond := .code yX4_sound cX4_sound 6 (some .int) :: ((wsX4_sound_r1 ++ wsX4_sound_r2) ++ wsX40)
def wsJ9_max_7cf53 : List Cond := .code yJ9_max_7cf53 cJ9_max_7cf53 2 (some .int) :: ([])
def wsL_law_r1 : List Cond := [Cond.classLink RL 7 RX3, Cond.instantiable RX3 3, Cond.initialized RX3, Cond.classLink RL 10 RX4, Cond.instantiable RX4 25, Cond.initialized RX4, Cond.methodLink RL 9 yX3_init, Cond.instanceMethod yX3_init, Cond.code yX3_init cX3_init 1 none, Cond.methodLink RX3 1 objectInit, Cond.instanceMethod objectInit, Cond.code objectInit ⟨#[0xb1]⟩ 1 none, Cond.classLink RX3 7 RX1, Cond.instantiable RX1 7, Cond.initialized RX1, Cond.fieldLink RX3 10 "BoxProofs" "known" "LBoxProofs$Formulas;", Cond.classLink RX3 16 RX2, Cond.instantiable RX2 6, Cond.initialized RX2, Cond.fieldLink RX3 19 "BoxProofs" "proof" "LBoxProofs$Lines;", Cond.classLink RX3 23 RX0, Cond.instantiable RX0 6, Cond.initialized RX0, Cond.fieldLink RX3 26 "BoxProofs" "findings" "LBoxProofs$Findings;"]
def wsL_law_r2 : List Cond := [Cond.instanceMethod yX1_init, Cond.code yX1_init cX1_init 1 none, Cond.methodLink RX1 3 objectInit, Cond.arrayClass .int, Cond.fieldLink RX1 9 "BoxProofs$Formulas" "kinds" "[I", Cond.fieldLink RX1 15 "BoxProofs$Formulas" "firsts" "[I", Cond.fieldLink RX1 18 "BoxProofs$Formulas" "seconds" "[I", Cond.fieldLink RX1 21 "BoxProofs$Formulas" "heights" "[I", Cond.arrayClass .long, Cond.fieldLink RX1 24 "BoxProofs$Formulas" "tables" "[J", Cond.fieldLink RX1 28 "BoxProofs$Formulas" "replaced" "[I", Cond.fieldLink RX1 31 "BoxProofs$Formulas" "count" "I", Cond.instanceMethod yX2_init, Cond.code yX2_init cX2_init 1 none, Cond.methodLink RX2 3 objectInit, Cond.arrayClass .boolean, Cond.fieldLink RX2 9 "BoxProofs$Lines" "laid" "[Z", Cond.fieldLink RX2 15 "BoxProofs$Lines" "rules" "[I", Cond.fieldLink RX2 19 "BoxProofs$Lines" "ps" "[I", Cond.fieldLink RX2 22 "BoxProofs$Lines" "qs" "[I", Cond.fieldLink RX2 25 "BoxProofs$Lines" "rs" "[I", Cond.fieldLink RX2 28 "BoxProofs$Lines" "fs" "[I", Cond.methodLink RX3 25 yX0_init, Cond.instanceMethod yX0_init]
def wsL_law_r3 : List Cond := [Cond.code yX0_init cX0_init 1 none, Cond.methodLink RX0 3 objectInit, Cond.fieldLink RX0 9 "BoxProofs$Findings" "rules" "[I", Cond.fieldLink RX0 15 "BoxProofs$Findings" "heads" "[I", Cond.fieldLink RX0 18 "BoxProofs$Findings" "ends" "[I", Cond.fieldLink RX0 21 "BoxProofs$Findings" "inForce" "[Z", Cond.fieldLink RX0 25 "BoxProofs$Findings" "usable" "[Z", Cond.fieldLink RX0 28 "BoxProofs$Findings" "summary" "[I", Cond.methodLink RX0 31 yX0_forget, Cond.instanceMethod yX0_forget, Cond.selects RX0 yX0_forget yX0_forget, Cond.code yX0_forget cX0_forget 2 none, Cond.methodLink RL 12 yX4_init, Cond.instanceMethod yX4_init, Cond.code yX4_init cX4_init 2 none, Cond.methodLink RX4 1 objectInit, Cond.fieldLink RX4 7 "BoxProofsModel" "kind" "[I", Cond.fieldLink RX4 13 "BoxProofsModel" "left" "[I", Cond.fieldLink RX4 16 "BoxProofsModel" "right" "[I", Cond.fieldLink RX4 19 "BoxProofsModel" "height" "[I", Cond.fieldLink RX4 22 "BoxProofsModel" "laid" "[Z", Cond.fieldLink RX4 26 "BoxProofsModel" "rules" "[I", Cond.fieldLink RX4 29 "BoxProofsModel" "ps" "[I", Cond.fieldLink RX4 32 "BoxProofsModel" "qs" "[I"]
def wsL_law_r4 : List Cond := [Cond.fieldLink RX4 35 "BoxProofsModel" "rs" "[I", Cond.fieldLink RX4 38 "BoxProofsModel" "fs" "[I", Cond.fieldLink RX4 41 "BoxProofsModel" "ruleThen" "[I", Cond.fieldLink RX4 44 "BoxProofsModel" "heads" "[I", Cond.fieldLink RX4 47 "BoxProofsModel" "boxOf" "[I", Cond.fieldLink RX4 50 "BoxProofsModel" "shutBy" "[I", Cond.fieldLink RX4 53 "BoxProofsModel" "around" "[I", Cond.fieldLink RX4 56 "BoxProofsModel" "truth" "[Z", Cond.fieldLink RX4 59 "BoxProofsModel" "turned" "[I", Cond.fieldLink RX4 62 "BoxProofsModel" "pile" "[I", Cond.methodLink RL 13 yX3_formula, Cond.instanceMethod yX3_formula, Cond.selects RX3 yX3_formula yX3_formula, Cond.code yX3_formula cX3_formula 4 (some .int), Cond.methodLink RX3 30 yX1_make, Cond.instanceMethod yX1_make, Cond.selects RX1 yX1_make yX1_make, Cond.code yX1_make cX1_make 6 (some .int), Cond.methodLink RX1 47 Lib.Math.max.name, Cond.static Lib.Math.max.name, Cond.initialized "java/lang/Math", Cond.code Lib.Math.max.name Lib.Math.max.code 2 (some .int), Cond.methodLink RX1 39 yX1_find, Cond.instanceMethod yX1_find]
def wsL_law_r5 : List Cond := [Cond.selects RX1 yX1_find yX1_find, Cond.code yX1_find cX1_find 5 (some .int), Cond.methodLink RX1 43 yX1_heightOf, Cond.instanceMethod yX1_heightOf, Cond.selects RX1 yX1_heightOf yX1_heightOf, Cond.code yX1_heightOf cX1_heightOf 2 (some .int), Cond.methodLink RX1 35 yX1_has, Cond.instanceMethod yX1_has, Cond.selects RX1 yX1_has yX1_has, Cond.code yX1_has cX1_has 2 (some .boolean), Cond.methodLink RX1 53 yX1_tableFor, Cond.instanceMethod yX1_tableFor, Cond.selects RX1 yX1_tableFor yX1_tableFor, Cond.code yX1_tableFor cX1_tableFor 4 (some .long), Cond.fieldLink RX1 60 "BoxProofs$Formulas" "LETTER_TABLES" "[J", Cond.constantLong RX1 67 (-1), Cond.static yX3_isLetter, Cond.code yX3_isLetter cX3_isLetter 1 (some .boolean), Cond.methodLink RX1 63 yX1_tableOf, Cond.instanceMethod yX1_tableOf, Cond.selects RX1 yX1_tableOf yX1_tableOf, Cond.code yX1_tableOf cX1_tableOf 2 (some .long), Cond.methodLink RX3 34 yX3_isLetter, Cond.methodLink RX3 38 yX1_has]
def wsL_law_r6 : List Cond := [Cond.methodLink RL 17 yX4_formula, Cond.instanceMethod yX4_formula, Cond.selects RX4 yX4_formula yX4_formula, Cond.code yX4_formula cX4_formula 4 (some .int), Cond.methodLink RX4 69 yX4_within, Cond.static yX4_within, Cond.code yX4_within cX4_within 3 (some .boolean), Cond.methodLink RX4 73 yX4_isFormula, Cond.instanceMethod yX4_isFormula, Cond.selects RX4 yX4_isFormula yX4_isFormula, Cond.code yX4_isFormula cX4_isFormula 2 (some .boolean), Cond.fieldLink RX4 65 "BoxProofsModel" "formulas" "I", Cond.methodLink RX4 77 yX4_make, Cond.instanceMethod yX4_make, Cond.selects RX4 yX4_make yX4_make, Cond.code yX4_make cX4_make 7 (some .int), Cond.methodLink RL 18 yX3_about, Cond.instanceMethod yX3_about, Cond.selects RX3 yX3_about yX3_about, Cond.code yX3_about cX3_about 3 (some .int), Cond.methodLink RX3 41 yX1_kindOf, Cond.instanceMethod yX1_kindOf, Cond.selects RX1 yX1_kindOf yX1_kindOf, Cond.code yX1_kindOf cX1_kindOf 2 (some .int)]
def wsL_law_r7 : List Cond := [Cond.methodLink RX3 45 yX1_firstOf, Cond.instanceMethod yX1_firstOf, Cond.selects RX1 yX1_firstOf yX1_firstOf, Cond.code yX1_firstOf cX1_firstOf 2 (some .int), Cond.methodLink RX3 48 yX1_secondOf, Cond.instanceMethod yX1_secondOf, Cond.selects RX1 yX1_secondOf yX1_secondOf, Cond.code yX1_secondOf cX1_secondOf 2 (some .int), Cond.methodLink RX3 51 yX1_heightOf, Cond.methodLink RL 22 yX4_about, Cond.instanceMethod yX4_about, Cond.selects RX4 yX4_about yX4_about, Cond.code yX4_about cX4_about 3 (some .int), Cond.methodLink RL 23 yX3_value, Cond.instanceMethod yX3_value, Cond.selects RX3 yX3_value yX3_value, Cond.code yX3_value cX3_value 3 (some .int), Cond.methodLink RX3 54 yX1_tableOf, Cond.methodLink RL 26 yX4_value, Cond.instanceMethod yX4_value, Cond.selects RX4 yX4_value yX4_value, Cond.code yX4_value cX4_value 3 (some .int), Cond.methodLink RX4 81 yX4_evaluate, Cond.instanceMethod yX4_evaluate]
def wsL_law_r8 : List Cond := [Cond.selects RX4 yX4_evaluate yX4_evaluate, Cond.code yX4_evaluate cX4_evaluate 3 none, Cond.methodLink RL 27 yX3_truths, Cond.instanceMethod yX3_truths, Cond.selects RX3 yX3_truths yX3_truths, Cond.code yX3_truths cX3_truths 2 (some .int), Cond.methodLink RX3 58 yJ13_bitCount_95d88, Cond.static yJ13_bitCount_95d88, Cond.initialized RJ13, Cond.code yJ13_bitCount_95d88 cJ13_bitCount_95d88 2 (some .int), Cond.constantLong RJ13 314 (6148914691236517205), Cond.constantLong RJ13 316 (3689348814741910323), Cond.constantLong RJ13 318 (1085102592571150095), Cond.methodLink RL 31 yX4_truths, Cond.instanceMethod yX4_truths, Cond.selects RX4 yX4_truths yX4_truths, Cond.code yX4_truths cX4_truths 4 (some .int), Cond.methodLink RL 32 yX3_instead, Cond.instanceMethod yX3_instead, Cond.selects RX3 yX3_instead yX3_instead, Cond.code yX3_instead cX3_instead 4 (some .int), Cond.methodLink RX3 64 yX1_replace, Cond.instanceMethod yX1_replace, Cond.selects RX1 yX1_replace yX1_replace]
def wsL_law_r9 : List Cond := [Cond.code yX1_replace cX1_replace 4 (some .int), Cond.methodLink RX1 69 yJ7_fill_53178, Cond.static yJ7_fill_53178, Cond.initialized RJ7, Cond.code yJ7_fill_53178 cJ7_fill_53178 4 none, Cond.methodLink RX1 75 yX1_replaceIn, Cond.instanceMethod yX1_replaceIn, Cond.selects RX1 yX1_replaceIn yX1_replaceIn, Cond.code yX1_replaceIn cX1_replaceIn 7 (some .int), Cond.methodLink RX1 79 yX1_make, Cond.methodLink RL 35 yX4_instead, Cond.instanceMethod yX4_instead, Cond.selects RX4 yX4_instead yX4_instead, Cond.code yX4_instead cX4_instead 7 (some .int), Cond.methodLink RL 36 yX3_lay, Cond.instanceMethod yX3_lay, Cond.selects RX3 yX3_lay yX3_lay, Cond.code yX3_lay cX3_lay 8 (some .int), Cond.methodLink RX3 67 yX3_isLine, Cond.static yX3_isLine, Cond.code yX3_isLine cX3_isLine 1 (some .boolean), Cond.methodLink RX3 70 yX2_isLaid, Cond.instanceMethod yX2_isLaid, Cond.selects RX2 yX2_isLaid yX2_isLaid]
def wsL_law_r10 : List Cond := [Cond.code yX2_isLaid cX2_isLaid 2 (some .boolean), Cond.methodLink RX3 73 yX2_put, Cond.instanceMethod yX2_put, Cond.selects RX2 yX2_put yX2_put, Cond.code yX2_put cX2_put 7 none, Cond.methodLink RL 40 yX4_lay, Cond.instanceMethod yX4_lay, Cond.selects RX4 yX4_lay yX4_lay, Cond.code yX4_lay cX4_lay 8 (some .int), Cond.methodLink RX4 85 yX4_isLine, Cond.static yX4_isLine, Cond.code yX4_isLine cX4_isLine 1 (some .boolean), Cond.methodLink RL 41 yX3_take, Cond.instanceMethod yX3_take, Cond.selects RX3 yX3_take yX3_take, Cond.code yX3_take cX3_take 3 (some .int), Cond.methodLink RX3 77 yX2_clear, Cond.instanceMethod yX2_clear, Cond.selects RX2 yX2_clear yX2_clear, Cond.code yX2_clear cX2_clear 2 none, Cond.methodLink RL 44 yX4_take, Cond.instanceMethod yX4_take, Cond.selects RX4 yX4_take yX4_take, Cond.code yX4_take cX4_take 3 (some .int)]
def wsL_law_r11 : List Cond := [Cond.methodLink RL 45 yX3_check, Cond.instanceMethod yX3_check, Cond.selects RX3 yX3_check yX3_check, Cond.code yX3_check cX3_check 4 (some .int), Cond.methodLink RX3 81 yX1_count, Cond.instanceMethod yX1_count, Cond.selects RX1 yX1_count yX1_count, Cond.code yX1_count cX1_count 1 (some .int), Cond.methodLink RX3 85 yX0_forget, Cond.methodLink RX3 88 yX3_lookAt, Cond.instanceMethod yX3_lookAt, Cond.selects RX3 yX3_lookAt yX3_lookAt, Cond.code yX3_lookAt cX3_lookAt 4 (some .int), Cond.methodLink RX3 113 yX3_reasonAgainst, Cond.instanceMethod yX3_reasonAgainst, Cond.selects RX3 yX3_reasonAgainst yX3_reasonAgainst, Cond.code yX3_reasonAgainst cX3_reasonAgainst 4 (some .int), Cond.fieldLink RX3 125 "BoxProofs" "LINES_TAKEN" "[I", Cond.methodLink RX3 119 yX2_ruleOf, Cond.instanceMethod yX2_ruleOf, Cond.selects RX2 yX2_ruleOf yX2_ruleOf, Cond.code yX2_ruleOf cX2_ruleOf 2 (some .int), Cond.methodLink RX3 129 yX3_reasonAgainstNumbers, Cond.instanceMethod yX3_reasonAgainstNumbers]
def wsL_law_r12 : List Cond := [Cond.selects RX3 yX3_reasonAgainstNumbers yX3_reasonAgainstNumbers, Cond.code yX3_reasonAgainstNumbers cX3_reasonAgainstNumbers 5 (some .int), Cond.methodLink RX3 132 yX2_pOf, Cond.instanceMethod yX2_pOf, Cond.selects RX2 yX2_pOf yX2_pOf, Cond.code yX2_pOf cX2_pOf 2 (some .int), Cond.methodLink RX3 145 yX3_reasonAgainstLine, Cond.instanceMethod yX3_reasonAgainstLine, Cond.selects RX3 yX3_reasonAgainstLine yX3_reasonAgainstLine, Cond.code yX3_reasonAgainstLine cX3_reasonAgainstLine 4 (some .int), Cond.methodLink RX3 101 yX0_isInForce, Cond.instanceMethod yX0_isInForce, Cond.selects RX0 yX0_isInForce yX0_isInForce, Cond.code yX0_isInForce cX0_isInForce 2 (some .boolean), Cond.methodLink RX3 149 yX2_qOf, Cond.instanceMethod yX2_qOf, Cond.selects RX2 yX2_qOf yX2_qOf, Cond.code yX2_qOf cX2_qOf 2 (some .int), Cond.methodLink RX3 152 yX2_rOf, Cond.instanceMethod yX2_rOf, Cond.selects RX2 yX2_rOf yX2_rOf, Cond.code yX2_rOf cX2_rOf 2 (some .int), Cond.methodLink RX3 155 yX3_takesFormula, Cond.static yX3_takesFormula]
def wsL_law_r13 : List Cond := [Cond.code yX3_takesFormula cX3_takesFormula 1 (some .boolean), Cond.methodLink RX3 158 yX2_formulaOf, Cond.instanceMethod yX2_formulaOf, Cond.selects RX2 yX2_formulaOf yX2_formulaOf, Cond.code yX2_formulaOf cX2_formulaOf 2 (some .int), Cond.methodLink RX3 98 yX0_headOf, Cond.instanceMethod yX0_headOf, Cond.selects RX0 yX0_headOf yX0_headOf, Cond.code yX0_headOf cX0_headOf 2 (some .int), Cond.methodLink RX3 135 yX3_isFormRight, Cond.instanceMethod yX3_isFormRight, Cond.selects RX3 yX3_isFormRight yX3_isFormRight, Cond.code yX3_isFormRight cX3_isFormRight 3 (some .boolean), Cond.methodLink RX3 161 yX3_isNegation, Cond.instanceMethod yX3_isNegation, Cond.selects RX3 yX3_isNegation yX3_isNegation, Cond.code yX3_isNegation cX3_isNegation 2 (some .boolean), Cond.methodLink RX3 139 yX3_areBoxesRight, Cond.instanceMethod yX3_areBoxesRight, Cond.selects RX3 yX3_areBoxesRight yX3_areBoxesRight, Cond.code yX3_areBoxesRight cX3_areBoxesRight 3 (some .boolean), Cond.methodLink RX3 164 yX0_innermostOpen, Cond.instanceMethod yX0_innermostOpen, Cond.selects RX0 yX0_innermostOpen yX0_innermostOpen]
def wsL_law_r14 : List Cond := [Cond.code yX0_innermostOpen cX0_innermostOpen 2 (some .int), Cond.methodLink RX0 49 yX0_isOpenBox, Cond.instanceMethod yX0_isOpenBox, Cond.selects RX0 yX0_isOpenBox yX0_isOpenBox, Cond.code yX0_isOpenBox cX0_isOpenBox 2 (some .boolean), Cond.methodLink RX3 167 yX0_isUsableBox, Cond.instanceMethod yX0_isUsableBox, Cond.selects RX0 yX0_isUsableBox yX0_isUsableBox, Cond.code yX0_isUsableBox cX0_isUsableBox 2 (some .boolean), Cond.methodLink RX3 142 yX3_areAllLike, Cond.instanceMethod yX3_areAllLike, Cond.selects RX3 yX3_areAllLike yX3_areAllLike, Cond.code yX3_areAllLike cX3_areAllLike 6 (some .boolean), Cond.methodLink RX3 170 yX3_heldAtEnd, Cond.instanceMethod yX3_heldAtEnd, Cond.selects RX3 yX3_heldAtEnd yX3_heldAtEnd, Cond.code yX3_heldAtEnd cX3_heldAtEnd 2 (some .int), Cond.methodLink RX3 173 yX0_endOf, Cond.instanceMethod yX0_endOf, Cond.selects RX0 yX0_endOf yX0_endOf, Cond.code yX0_endOf cX0_endOf 2 (some .int), Cond.methodLink RX3 116 yX3_conclude, Cond.instanceMethod yX3_conclude, Cond.selects RX3 yX3_conclude yX3_conclude]
def wsL_law_r15 : List Cond := [Cond.code yX3_conclude cX3_conclude 5 (some .int), Cond.methodLink RX3 122 yX0_keep, Cond.instanceMethod yX0_keep, Cond.selects RX0 yX0_keep yX0_keep, Cond.code yX0_keep cX0_keep 4 none, Cond.methodLink RX0 42 yX0_innermostOpen, Cond.methodLink RX0 45 yX0_shutBox, Cond.instanceMethod yX0_shutBox, Cond.selects RX0 yX0_shutBox yX0_shutBox, Cond.code yX0_shutBox cX0_shutBox 4 none, Cond.methodLink RX3 91 yX0_sumUp, Cond.instanceMethod yX0_sumUp, Cond.selects RX0 yX0_sumUp yX0_sumUp, Cond.code yX0_sumUp cX0_sumUp 4 none, Cond.methodLink RX0 34 yX0_countOpen, Cond.instanceMethod yX0_countOpen, Cond.selects RX0 yX0_countOpen yX0_countOpen, Cond.code yX0_countOpen cX0_countOpen 3 (some .int), Cond.methodLink RL 49 yX4_check, Cond.instanceMethod yX4_check, Cond.selects RX4 yX4_check yX4_check, Cond.code yX4_check cX4_check 3 (some .int), Cond.fieldLink RX4 128 "BoxProofsModel" "checked" "Z", Cond.fieldLink RX4 102 "BoxProofsModel" "inner" "I"]
def wsL_law_r16 : List Cond := [Cond.fieldLink RX4 122 "BoxProofsModel" "opened" "I", Cond.fieldLink RX4 132 "BoxProofsModel" "reason" "I", Cond.fieldLink RX4 135 "BoxProofsModel" "stopped" "I", Cond.fieldLink RX4 141 "BoxProofsModel" "made" "I", Cond.methodLink RX4 138 yX4_look, Cond.instanceMethod yX4_look, Cond.selects RX4 yX4_look yX4_look, Cond.code yX4_look cX4_look 6 (some .int), Cond.methodLink RX4 112 yX4_badNumbers, Cond.instanceMethod yX4_badNumbers, Cond.selects RX4 yX4_badNumbers yX4_badNumbers, Cond.code yX4_badNumbers cX4_badNumbers 5 (some .int), Cond.methodLink RX4 94 yX4_badLine, Cond.instanceMethod yX4_badLine, Cond.selects RX4 yX4_badLine yX4_badLine, Cond.code yX4_badLine cX4_badLine 4 (some .int), Cond.methodLink RX4 91 yX4_inForce, Cond.instanceMethod yX4_inForce, Cond.selects RX4 yX4_inForce yX4_inForce, Cond.code yX4_inForce cX4_inForce 2 (some .boolean), Cond.methodLink RX4 88 yX4_allOpen, Cond.instanceMethod yX4_allOpen, Cond.selects RX4 yX4_allOpen yX4_allOpen, Cond.code yX4_allOpen cX4_allOpen 3 (some .boolean)]
def wsL_law_r17 : List Cond := [Cond.methodLink RX4 116 yX4_badForm, Cond.instanceMethod yX4_badForm, Cond.selects RX4 yX4_badForm yX4_badForm, Cond.code yX4_badForm cX4_badForm 3 (some .int), Cond.methodLink RX4 98 yX4_isKind, Cond.instanceMethod yX4_isKind, Cond.selects RX4 yX4_isKind yX4_isKind, Cond.code yX4_isKind cX4_isKind 3 (some .boolean), Cond.methodLink RX4 119 yX4_badBoxes, Cond.instanceMethod yX4_badBoxes, Cond.selects RX4 yX4_badBoxes yX4_badBoxes, Cond.code yX4_badBoxes cX4_badBoxes 7 (some .int), Cond.methodLink RX4 105 yX4_badBox, Cond.instanceMethod yX4_badBox, Cond.selects RX4 yX4_badBox yX4_badBox, Cond.code yX4_badBox cX4_badBox 3 (some .int), Cond.methodLink RX4 109 yX4_endOf, Cond.instanceMethod yX4_endOf, Cond.selects RX4 yX4_endOf yX4_endOf, Cond.code yX4_endOf cX4_endOf 2 (some .int), Cond.methodLink RX4 125 yX4_headOf, Cond.instanceMethod yX4_headOf, Cond.selects RX4 yX4_headOf yX4_headOf, Cond.code yX4_headOf cX4_headOf 4 (some .int)]
def wsL_law_r18 : List Cond := [Cond.methodLink RL 50 yX3_told, Cond.instanceMethod yX3_told, Cond.selects RX3 yX3_told yX3_told, Cond.code yX3_told cX3_told 2 (some .int), Cond.methodLink RX3 95 yX0_summaryOf, Cond.instanceMethod yX0_summaryOf, Cond.selects RX0 yX0_summaryOf yX0_summaryOf, Cond.code yX0_summaryOf cX0_summaryOf 2 (some .int), Cond.methodLink RL 53 yX4_told, Cond.instanceMethod yX4_told, Cond.selects RX4 yX4_told yX4_told, Cond.code yX4_told cX4_told 2 (some .int), Cond.methodLink RL 54 yX3_head, Cond.instanceMethod yX3_head, Cond.selects RX3 yX3_head yX3_head, Cond.code yX3_head cX3_head 2 (some .int), Cond.methodLink RL 57 yX4_head, Cond.instanceMethod yX4_head, Cond.selects RX4 yX4_head yX4_head, Cond.code yX4_head cX4_head 2 (some .int), Cond.methodLink RL 58 yX3_force, Cond.instanceMethod yX3_force, Cond.selects RX3 yX3_force yX3_force, Cond.code yX3_force cX3_force 2 (some .int)]
def wsL_law_r19 : List Cond := [Cond.methodLink RL 61 yX4_force, Cond.instanceMethod yX4_force, Cond.selects RX4 yX4_force yX4_force, Cond.code yX4_force cX4_force 2 (some .int), Cond.methodLink RL 62 yX3_hangs, Cond.instanceMethod yX3_hangs, Cond.selects RX3 yX3_hangs yX3_hangs, Cond.code yX3_hangs cX3_hangs 3 (some .int), Cond.methodLink RX3 104 yX0_groundOf, Cond.instanceMethod yX0_groundOf, Cond.selects RX0 yX0_groundOf yX0_groundOf, Cond.code yX0_groundOf cX0_groundOf 5 (some .int), Cond.methodLink RX0 63 yX0_headOf, Cond.methodLink RX0 66 yX0_isGround, Cond.instanceMethod yX0_isGround, Cond.selects RX0 yX0_isGround yX0_isGround, Cond.code yX0_isGround cX0_isGround 3 (some .boolean), Cond.methodLink RX0 52 yX0_ruleOf, Cond.instanceMethod yX0_ruleOf, Cond.selects RX0 yX0_ruleOf yX0_ruleOf, Cond.code yX0_ruleOf cX0_ruleOf 2 (some .int), Cond.methodLink RX0 59 yX0_liesInBox, Cond.instanceMethod yX0_liesInBox, Cond.selects RX0 yX0_liesInBox yX0_liesInBox]
def wsL_law_r20 : List Cond := [Cond.code yX0_liesInBox cX0_liesInBox 3 (some .boolean), Cond.methodLink RX0 56 yX0_endOf, Cond.methodLink RL 65 yX4_hangs, Cond.instanceMethod yX4_hangs, Cond.selects RX4 yX4_hangs yX4_hangs, Cond.code yX4_hangs cX4_hangs 5 (some .int), Cond.methodLink RX4 147 yX4_hangsOn, Cond.instanceMethod yX4_hangsOn, Cond.selects RX4 yX4_hangsOn yX4_hangsOn, Cond.code yX4_hangsOn cX4_hangsOn 3 (some .boolean), Cond.methodLink RX4 144 yX4_liesIn, Cond.instanceMethod yX4_liesIn, Cond.selects RX4 yX4_liesIn yX4_liesIn, Cond.code yX4_liesIn cX4_liesIn 4 (some .boolean), Cond.methodLink RL 66 yX3_sound, Cond.instanceMethod yX3_sound, Cond.selects RX3 yX3_sound yX3_sound, Cond.code yX3_sound cX3_sound 2 (some .int), Cond.constantLong RX3 111 (-1), Cond.methodLink RX3 108 yX3_groundsTable, Cond.instanceMethod yX3_groundsTable, Cond.selects RX3 yX3_groundsTable yX3_groundsTable, Cond.code yX3_groundsTable cX3_groundsTable 5 (some .long), Cond.methodLink RX3 176 yX0_isGround]
def wsL_law_r21 : List Cond := [Cond.methodLink RL 69 yX4_sound, Cond.instanceMethod yX4_sound, Cond.selects RX4 yX4_sound yX4_sound, Cond.code yX4_sound cX4_sound 6 (some .int), Cond.methodLink RL 70 yX3_formulas, Cond.instanceMethod yX3_formulas, Cond.selects RX3 yX3_formulas yX3_formulas, Cond.code yX3_formulas cX3_formulas 1 (some .int), Cond.methodLink RL 73 yX4_formulas, Cond.instanceMethod yX4_formulas, Cond.selects RX4 yX4_formulas yX4_formulas, Cond.code yX4_formulas cX4_formulas 1 (some .int)]
def wsL_law : List Cond := (wsL_law_r1 ++ (wsL_law_r2 ++ (wsL_law_r3 ++ (wsL_law_r4 ++ (wsL_law_r5 ++ (wsL_law_r6 ++ (wsL_law_r7 ++ (wsL_law_r8 ++ (wsL_law_r9 ++ (wsL_law_r10 ++ (wsL_law_r11 ++ (wsL_law_r12 ++ (wsL_law_r13 ++ (wsL_law_r14 ++ (wsL_law_r15 ++ (wsL_law_r16 ++ (wsL_law_r17 ++ (wsL_law_r18 ++ (wsL_law_r19 ++ (wsL_law_r20 ++ wsL_law_r21)))))))))))))))))))) ++ wsX30 ++ wsX40 ++ wsX10 ++ wsX20 ++ wsX00 ++ ([] : List Cond)
abbrev vwCl : List vw_C := [(RX0, TX0, 6), (RX1, TX1, 7), (RX2, TX2, 6), (RX3, TX3, 3), (RX4, TX4, 25)]
end
section
set_option maxRecDepth 20000 in
theorem ggX0_init_X0_forget : GoodIn wsX0_init wsX0_forget := goodIn_r _ [16, 5, 6, 7, 9, 10, 17, 18, 19, 20, 21, 22] (by decide +kernel) (by decide +kernel)
set_option maxRecDepth 20000 in
theorem gX0_init_X0_forget : GoodIn wsX0_init (wsV RX0 31 RX0 yX0_forget wsX0_forget) := goodIn_app (goodIn_of _ (by decide +kernel)) ggX0_init_X0_forget
theorem dX0_init_0 : decode cX0_init 0 = .ok (.aload_n 0, 1) := by decide +kernel
theorem dX0_init_1 : decode cX0_init 1 = .ok (.invokespecial 3, 3) := by decide +kernel
theorem dX0_init_4 : decode cX0_init 4 = .ok (.aload_n 0, 1) := by decide +kernel
theorem dX0_init_5 : decode cX0_init 5 = .ok (.bipush 60, 2) := by decide +kernel
theorem dX0_init_7 : decode cX0_init 7 = .ok (.newarray .int, 2) := by decide +kernel
theorem dX0_init_9 : decode cX0_init 9 = .ok (.putfield 9, 3) := by decide +kernel
theorem dX0_init_12 : decode cX0_init 12 = .ok (.aload_n 0, 1) := by decide +kernel
theorem dX0_init_13 : decode cX0_init 13 = .ok (.bipush 60, 2) := by decide +kernel
theorem dX0_init_15 : decode cX0_init 15 = .ok (.newarray .int, 2) := by decide +kernel
theorem dX0_init_17 : decode cX0_init 17 = .ok (.putfield 15, 3) := by decide +kernel
theorem dX0_init_20 : decode cX0_init 20 = .ok (.aload_n 0, 1) := by decide +kernel
theorem dX0_init_21 : decode cX0_init 21 = .ok (.bipush 60, 2) := by decide +kernel
theorem dX0_init_23 : decode cX0_init 23 = .ok (.newarray .int, 2) := by decide +kernel
theorem dX0_init_25 : decode cX0_init 25 = .ok (.putfield 18, 3) := by decide +kernel
theorem dX0_init_28 : decode cX0_init 28 = .ok (.aload_n 0, 1) := by decide +kernel
theorem dX0_init_29 : decode cX0_init 29 = .ok (.bipush 60, 2) := by decide +kernel
theorem dX0_init_31 : decode cX0_init 31 = .ok (.newarray .boolean, 2) := by decide +kernel
theorem dX0_init_33 : decode cX0_init 33 = .ok (.putfield 21, 3) := by decide +kernel
theorem dX0_init_36 : decode cX0_init 36 = .ok (.aload_n 0, 1) := by decide +kernel
theorem dX0_init_37 : decode cX0_init 37 = .ok (.bipush 60, 2) := by decide +kernel
theorem dX0_init_39 : decode cX0_init 39 = .ok (.newarray .boolean, 2) := by decide +kernel
theorem dX0_init_41 : decode cX0_init 41 = .ok (.putfield 25, 3) := by decide +kernel
theorem dX0_init_44 : decode cX0_init 44 = .ok (.aload_n 0, 1) := by decide +kernel
theorem dX0_init_45 : decode cX0_init 45 = .ok (.iconst 4, 1) := by decide +kernel
theorem dX0_init_46 : decode cX0_init 46 = .ok (.newarray .int, 2) := by decide +kernel
theorem dX0_init_48 : decode cX0_init 48 = .ok (.dup, 1) := by decide +kernel
theorem dX0_init_49 : decode cX0_init 49 = .ok (.iconst 0, 1) := by decide +kernel
theorem dX0_init_50 : decode cX0_init 50 = .ok (.iconst (-1), 1) := by decide +kernel
theorem dX0_init_51 : decode cX0_init 51 = .ok (.iastore, 1) := by decide +kernel
theorem dX0_init_52 : decode cX0_init 52 = .ok (.dup, 1) := by decide +kernel
theorem dX0_init_53 : decode cX0_init 53 = .ok (.iconst 1, 1) := by decide +kernel
theorem dX0_init_54 : decode cX0_init 54 = .ok (.iconst (-1), 1) := by decide +kernel
theorem dX0_init_55 : decode cX0_init 55 = .ok (.iastore, 1) := by decide +kernel
theorem dX0_init_56 : decode cX0_init 56 = .ok (.dup, 1) := by decide +kernel
theorem dX0_init_57 : decode cX0_init 57 = .ok (.iconst 2, 1) := by decide +kernel
theorem dX0_init_58 : decode cX0_init 58 = .ok (.iconst (-1), 1) := by decide +kernel
theorem dX0_init_59 : decode cX0_init 59 = .ok (.iastore, 1) := by decide +kernel
theorem dX0_init_60 : decode cX0_init 60 = .ok (.dup, 1) := by decide +kernel
theorem dX0_init_61 : decode cX0_init 61 = .ok (.iconst 3, 1) := by decide +kernel
theorem dX0_init_62 : decode cX0_init 62 = .ok (.iconst (-1), 1) := by decide +kernel
theorem dX0_init_63 : decode cX0_init 63 = .ok (.iastore, 1) := by decide +kernel
theorem dX0_init_64 : decode cX0_init 64 = .ok (.putfield 28, 3) := by decide +kernel
theorem dX0_init_67 : decode cX0_init 67 = .ok (.aload_n 0, 1) := by decide +kernel
theorem dX0_init_68 : decode cX0_init 68 = .ok (.invokevirtual 31, 3) := by decide +kernel
theorem dX0_init_71 : decode cX0_init 71 = .ok (.return_, 1) := by decide +kernel
theorem dX0_forget_0 : decode cX0_forget 0 = .ok (.iconst 0, 1) := by decide +kernel
theorem dX0_forget_1 : decode cX0_forget 1 = .ok (.istore_n 1, 1) := by decide +kernel
theorem dX0_forget_2 : decode cX0_forget 2 = .ok (.iload_n 1, 1) := by decide +kernel
theorem dX0_forget_3 : decode cX0_forget 3 = .ok (.bipush 60, 2) := by decide +kernel
theorem dX0_forget_5 : decode cX0_forget 5 = .ok (.if_icmp .ge 44, 3) := by decide +kernel
theorem dX0_forget_8 : decode cX0_forget 8 = .ok (.aload_n 0, 1) := by decide +kernel
theorem dX0_forget_9 : decode cX0_forget 9 = .ok (.getfield 9, 3) := by decide +kernel
theorem dX0_forget_12 : decode cX0_forget 12 = .ok (.iload_n 1, 1) := by decide +kernel
theorem dX0_forget_13 : decode cX0_forget 13 = .ok (.iconst (-1), 1) := by decide +kernel
theorem dX0_forget_14 : decode cX0_forget 14 = .ok (.iastore, 1) := by decide +kernel
theorem dX0_forget_15 : decode cX0_forget 15 = .ok (.aload_n 0, 1) := by decide +kernel
theorem dX0_forget_16 : decode cX0_forget 16 = .ok (.getfield 15, 3) := by decide +kernel
theorem dX0_forget_19 : decode cX0_forget 19 = .ok (.iload_n 1, 1) := by decide +kernel
theorem dX0_forget_20 : decode cX0_forget 20 = .ok (.iconst (-1), 1) := by decide +kernel
theorem dX0_forget_21 : decode cX0_forget 21 = .ok (.iastore, 1) := by decide +kernel
theorem dX0_forget_22 : decode cX0_forget 22 = .ok (.aload_n 0, 1) := by decide +kernel
theorem dX0_forget_23 : decode cX0_forget 23 = .ok (.getfield 18, 3) := by decide +kernel
theorem dX0_forget_26 : decode cX0_forget 26 = .ok (.iload_n 1, 1) := by decide +kernel
theorem dX0_forget_27 : decode cX0_forget 27 = .ok (.iconst (-1), 1) := by decide +kernel
theorem dX0_forget_28 : decode cX0_forget 28 = .ok (.iastore, 1) := by decide +kernel
theorem dX0_forget_29 : decode cX0_forget 29 = .ok (.aload_n 0, 1) := by decide +kernel
theorem dX0_forget_30 : decode cX0_forget 30 = .ok (.getfield 21, 3) := by decide +kernel
theorem dX0_forget_33 : decode cX0_forget 33 = .ok (.iload_n 1, 1) := by decide +kernel
theorem dX0_forget_34 : decode cX0_forget 34 = .ok (.iconst 0, 1) := by decide +kernel
theorem dX0_forget_35 : decode cX0_forget 35 = .ok (.bastore, 1) := by decide +kernel
theorem dX0_forget_36 : decode cX0_forget 36 = .ok (.aload_n 0, 1) := by decide +kernel
theorem dX0_forget_37 : decode cX0_forget 37 = .ok (.getfield 25, 3) := by decide +kernel
theorem dX0_forget_40 : decode cX0_forget 40 = .ok (.iload_n 1, 1) := by decide +kernel
theorem dX0_forget_41 : decode cX0_forget 41 = .ok (.iconst 0, 1) := by decide +kernel
theorem dX0_forget_42 : decode cX0_forget 42 = .ok (.bastore, 1) := by decide +kernel
theorem dX0_forget_43 : decode cX0_forget 43 = .ok (.iinc 1 1, 3) := by decide +kernel
theorem dX0_forget_46 : decode cX0_forget 46 = .ok (.goto (-44), 3) := by decide +kernel
theorem dX0_forget_49 : decode cX0_forget 49 = .ok (.return_, 1) := by decide +kernel
set_option maxRecDepth 20000 in
theorem ggX0_sumUp_X0_countOpen : GoodIn wsX0_sumUp wsX0_countOpen := goodIn_r _ [6, 7, 8, 9, 5, 10, 11, 12, 13, 14, 15, 16, 17, 18, 19, 20, 21] (by decide +kernel) (by decide +kernel)
set_option maxRecDepth 20000 in
theorem gX0_sumUp_X0_countOpen : GoodIn wsX0_sumUp (wsV RX0 34 RX0 yX0_countOpen wsX0_countOpen) := goodIn_app (goodIn_of _ (by decide +kernel)) ggX0_sumUp_X0_countOpen
theorem dX0_sumUp_0 : decode cX0_sumUp 0 = .ok (.aload_n 0, 1) := by decide +kernel
theorem dX0_sumUp_1 : decode cX0_sumUp 1 = .ok (.getfield 28, 3) := by decide +kernel
theorem dX0_sumUp_4 : decode cX0_sumUp 4 = .ok (.iconst 0, 1) := by decide +kernel
theorem dX0_sumUp_5 : decode cX0_sumUp 5 = .ok (.iload_n 1, 1) := by decide +kernel
theorem dX0_sumUp_6 : decode cX0_sumUp 6 = .ok (.iastore, 1) := by decide +kernel
theorem dX0_sumUp_7 : decode cX0_sumUp 7 = .ok (.aload_n 0, 1) := by decide +kernel
theorem dX0_sumUp_8 : decode cX0_sumUp 8 = .ok (.getfield 28, 3) := by decide +kernel
theorem dX0_sumUp_11 : decode cX0_sumUp 11 = .ok (.iconst 1, 1) := by decide +kernel
theorem dX0_sumUp_12 : decode cX0_sumUp 12 = .ok (.iload_n 2, 1) := by decide +kernel
theorem dX0_sumUp_13 : decode cX0_sumUp 13 = .ok (.iastore, 1) := by decide +kernel
theorem dX0_sumUp_14 : decode cX0_sumUp 14 = .ok (.aload_n 0, 1) := by decide +kernel
theorem dX0_sumUp_15 : decode cX0_sumUp 15 = .ok (.getfield 28, 3) := by decide +kernel
theorem dX0_sumUp_18 : decode cX0_sumUp 18 = .ok (.iconst 2, 1) := by decide +kernel
theorem dX0_sumUp_19 : decode cX0_sumUp 19 = .ok (.aload_n 0, 1) := by decide +kernel
theorem dX0_sumUp_20 : decode cX0_sumUp 20 = .ok (.invokevirtual 34, 3) := by decide +kernel
theorem dX0_sumUp_23 : decode cX0_sumUp 23 = .ok (.iastore, 1) := by decide +kernel
theorem dX0_sumUp_24 : decode cX0_sumUp 24 = .ok (.aload_n 0, 1) := by decide +kernel
theorem dX0_sumUp_25 : decode cX0_sumUp 25 = .ok (.getfield 28, 3) := by decide +kernel
theorem dX0_sumUp_28 : decode cX0_sumUp 28 = .ok (.iconst 3, 1) := by decide +kernel
theorem dX0_sumUp_29 : decode cX0_sumUp 29 = .ok (.iload_n 3, 1) := by decide +kernel
theorem dX0_sumUp_30 : decode cX0_sumUp 30 = .ok (.iastore, 1) := by decide +kernel
theorem dX0_sumUp_31 : decode cX0_sumUp 31 = .ok (.return_, 1) := by decide +kernel
theorem dX0_summaryOf_0 : decode cX0_summaryOf 0 = .ok (.iload_n 1, 1) := by decide +kernel
theorem dX0_summaryOf_1 : decode cX0_summaryOf 1 = .ok (.ifCond .lt 21, 3) := by decide +kernel
theorem dX0_summaryOf_4 : decode cX0_summaryOf 4 = .ok (.iload_n 1, 1) := by decide +kernel
theorem dX0_summaryOf_5 : decode cX0_summaryOf 5 = .ok (.aload_n 0, 1) := by decide +kernel
theorem dX0_summaryOf_6 : decode cX0_summaryOf 6 = .ok (.getfield 28, 3) := by decide +kernel
theorem dX0_summaryOf_9 : decode cX0_summaryOf 9 = .ok (.arraylength, 1) := by decide +kernel
theorem dX0_summaryOf_10 : decode cX0_summaryOf 10 = .ok (.if_icmp .ge 12, 3) := by decide +kernel
theorem dX0_summaryOf_13 : decode cX0_summaryOf 13 = .ok (.aload_n 0, 1) := by decide +kernel
theorem dX0_summaryOf_14 : decode cX0_summaryOf 14 = .ok (.getfield 28, 3) := by decide +kernel
theorem dX0_summaryOf_17 : decode cX0_summaryOf 17 = .ok (.iload_n 1, 1) := by decide +kernel
theorem dX0_summaryOf_18 : decode cX0_summaryOf 18 = .ok (.iaload, 1) := by decide +kernel
theorem dX0_summaryOf_19 : decode cX0_summaryOf 19 = .ok (.goto 4, 3) := by decide +kernel
theorem dX0_summaryOf_22 : decode cX0_summaryOf 22 = .ok (.iconst (-1), 1) := by decide +kernel
theorem dX0_summaryOf_23 : decode cX0_summaryOf 23 = .ok (.ireturn, 1) := by decide +kernel
set_option maxRecDepth 20000 in
theorem ggX0_keep_X3_isLine : GoodIn wsX0_keep wsX3_isLine := goodIn_r _ [6] (by decide +kernel) (by decide +kernel)
set_option maxRecDepth 20000 in
theorem gX0_keep_X3_isLine_n38 : GoodIn wsX0_keep (wsX3_isLine) := ggX0_keep_X3_isLine
set_option maxRecDepth 20000 in
theorem ggX0_keep_X0_innermostOpen : GoodIn wsX0_keep wsX0_innermostOpen := goodIn_r _ [11, 12, 13, 14, 10, 15, 1, 16, 4, 5, 6, 22, 23, 24, 25, 26, 27] (by decide +kernel) (by decide +kernel)
set_option maxRecDepth 20000 in
theorem gX0_keep_X0_innermostOpen : GoodIn wsX0_keep (wsV RX0 42 RX0 yX0_innermostOpen wsX0_innermostOpen) := goodIn_app (goodIn_of _ (by decide +kernel)) ggX0_keep_X0_innermostOpen
set_option maxRecDepth 20000 in
theorem ggX0_keep_X0_shutBox : GoodIn wsX0_keep wsX0_shutBox := goodIn_r _ [20, 3, 21, 16, 1, 4, 5, 6, 22, 23, 24, 25, 26, 27] (by decide +kernel) (by decide +kernel)
set_option maxRecDepth 20000 in
theorem gX0_keep_X0_shutBox : GoodIn wsX0_keep (wsV RX0 45 RX0 yX0_shutBox wsX0_shutBox) := goodIn_app (goodIn_of _ (by decide +kernel)) ggX0_keep_X0_shutBox
theorem dX0_keep_0 : decode cX0_keep 0 = .ok (.iload_n 1, 1) := by decide +kernel
theorem dX0_keep_1 : decode cX0_keep 1 = .ok (.invokestatic 38, 3) := by decide +kernel
theorem dX0_keep_4 : decode cX0_keep 4 = .ok (.ifCond .ne 4, 3) := by decide +kernel
theorem dX0_keep_7 : decode cX0_keep 7 = .ok (.return_, 1) := by decide +kernel
theorem dX0_keep_8 : decode cX0_keep 8 = .ok (.aload_n 0, 1) := by decide +kernel
theorem dX0_keep_9 : decode cX0_keep 9 = .ok (.getfield 9, 3) := by decide +kernel
theorem dX0_keep_12 : decode cX0_keep 12 = .ok (.iload_n 1, 1) := by decide +kernel
theorem dX0_keep_13 : decode cX0_keep 13 = .ok (.iload_n 2, 1) := by decide +kernel
theorem dX0_keep_14 : decode cX0_keep 14 = .ok (.iastore, 1) := by decide +kernel
theorem dX0_keep_15 : decode cX0_keep 15 = .ok (.aload_n 0, 1) := by decide +kernel
theorem dX0_keep_16 : decode cX0_keep 16 = .ok (.getfield 15, 3) := by decide +kernel
theorem dX0_keep_19 : decode cX0_keep 19 = .ok (.iload_n 1, 1) := by decide +kernel
theorem dX0_keep_20 : decode cX0_keep 20 = .ok (.iload_n 3, 1) := by decide +kernel
theorem dX0_keep_21 : decode cX0_keep 21 = .ok (.iastore, 1) := by decide +kernel
theorem dX0_keep_22 : decode cX0_keep 22 = .ok (.aload_n 0, 1) := by decide +kernel
theorem dX0_keep_23 : decode cX0_keep 23 = .ok (.getfield 21, 3) := by decide +kernel
theorem dX0_keep_26 : decode cX0_keep 26 = .ok (.iload_n 1, 1) := by decide +kernel
theorem dX0_keep_27 : decode cX0_keep 27 = .ok (.iload_n 3, 1) := by decide +kernel
theorem dX0_keep_28 : decode cX0_keep 28 = .ok (.iconst (-1), 1) := by decide +kernel
theorem dX0_keep_29 : decode cX0_keep 29 = .ok (.if_icmp .eq 7, 3) := by decide +kernel
theorem dX0_keep_32 : decode cX0_keep 32 = .ok (.iconst 1, 1) := by decide +kernel
theorem dX0_keep_33 : decode cX0_keep 33 = .ok (.goto 4, 3) := by decide +kernel
theorem dX0_keep_36 : decode cX0_keep 36 = .ok (.iconst 0, 1) := by decide +kernel
theorem dX0_keep_37 : decode cX0_keep 37 = .ok (.bastore, 1) := by decide +kernel
theorem dX0_keep_38 : decode cX0_keep 38 = .ok (.iload_n 2, 1) := by decide +kernel
theorem dX0_keep_39 : decode cX0_keep 39 = .ok (.iconst 2, 1) := by decide +kernel
theorem dX0_keep_40 : decode cX0_keep 40 = .ok (.if_icmp .ne 14, 3) := by decide +kernel
theorem dX0_keep_43 : decode cX0_keep 43 = .ok (.aload_n 0, 1) := by decide +kernel
theorem dX0_keep_44 : decode cX0_keep 44 = .ok (.aload_n 0, 1) := by decide +kernel
theorem dX0_keep_45 : decode cX0_keep 45 = .ok (.invokevirtual 42, 3) := by decide +kernel
theorem dX0_keep_48 : decode cX0_keep 48 = .ok (.iload_n 1, 1) := by decide +kernel
theorem dX0_keep_49 : decode cX0_keep 49 = .ok (.iconst 1, 1) := by decide +kernel
theorem dX0_keep_50 : decode cX0_keep 50 = .ok (.isub, 1) := by decide +kernel
theorem dX0_keep_51 : decode cX0_keep 51 = .ok (.invokevirtual 45, 3) := by decide +kernel
theorem dX0_keep_54 : decode cX0_keep 54 = .ok (.return_, 1) := by decide +kernel
set_option maxRecDepth 20000 in
theorem ggX0_shutBox_X3_isLine : GoodIn wsX0_shutBox wsX3_isLine := goodIn_r _ [7] (by decide +kernel) (by decide +kernel)
set_option maxRecDepth 20000 in
theorem gX0_shutBox_X3_isLine_n38 : GoodIn wsX0_shutBox (wsX3_isLine) := ggX0_shutBox_X3_isLine
theorem dX0_shutBox_0 : decode cX0_shutBox 0 = .ok (.iload_n 1, 1) := by decide +kernel
theorem dX0_shutBox_1 : decode cX0_shutBox 1 = .ok (.invokestatic 38, 3) := by decide +kernel
theorem dX0_shutBox_4 : decode cX0_shutBox 4 = .ok (.ifCond .eq 10, 3) := by decide +kernel
theorem dX0_shutBox_7 : decode cX0_shutBox 7 = .ok (.iload_n 2, 1) := by decide +kernel
theorem dX0_shutBox_8 : decode cX0_shutBox 8 = .ok (.invokestatic 38, 3) := by decide +kernel
theorem dX0_shutBox_11 : decode cX0_shutBox 11 = .ok (.ifCond .ne 4, 3) := by decide +kernel
theorem dX0_shutBox_14 : decode cX0_shutBox 14 = .ok (.return_, 1) := by decide +kernel
theorem dX0_shutBox_15 : decode cX0_shutBox 15 = .ok (.iload_n 1, 1) := by decide +kernel
theorem dX0_shutBox_16 : decode cX0_shutBox 16 = .ok (.istore_n 3, 1) := by decide +kernel
theorem dX0_shutBox_17 : decode cX0_shutBox 17 = .ok (.iload_n 3, 1) := by decide +kernel
theorem dX0_shutBox_18 : decode cX0_shutBox 18 = .ok (.iload_n 2, 1) := by decide +kernel
theorem dX0_shutBox_19 : decode cX0_shutBox 19 = .ok (.if_icmp .gt 23, 3) := by decide +kernel
theorem dX0_shutBox_22 : decode cX0_shutBox 22 = .ok (.aload_n 0, 1) := by decide +kernel
theorem dX0_shutBox_23 : decode cX0_shutBox 23 = .ok (.getfield 21, 3) := by decide +kernel
theorem dX0_shutBox_26 : decode cX0_shutBox 26 = .ok (.iload_n 3, 1) := by decide +kernel
theorem dX0_shutBox_27 : decode cX0_shutBox 27 = .ok (.iconst 0, 1) := by decide +kernel
theorem dX0_shutBox_28 : decode cX0_shutBox 28 = .ok (.bastore, 1) := by decide +kernel
theorem dX0_shutBox_29 : decode cX0_shutBox 29 = .ok (.aload_n 0, 1) := by decide +kernel
theorem dX0_shutBox_30 : decode cX0_shutBox 30 = .ok (.getfield 25, 3) := by decide +kernel
theorem dX0_shutBox_33 : decode cX0_shutBox 33 = .ok (.iload_n 3, 1) := by decide +kernel
theorem dX0_shutBox_34 : decode cX0_shutBox 34 = .ok (.iconst 0, 1) := by decide +kernel
theorem dX0_shutBox_35 : decode cX0_shutBox 35 = .ok (.bastore, 1) := by decide +kernel
theorem dX0_shutBox_36 : decode cX0_shutBox 36 = .ok (.iinc 3 1, 3) := by decide +kernel
theorem dX0_shutBox_39 : decode cX0_shutBox 39 = .ok (.goto (-22), 3) := by decide +kernel
theorem dX0_shutBox_42 : decode cX0_shutBox 42 = .ok (.aload_n 0, 1) := by decide +kernel
theorem dX0_shutBox_43 : decode cX0_shutBox 43 = .ok (.getfield 18, 3) := by decide +kernel
theorem dX0_shutBox_46 : decode cX0_shutBox 46 = .ok (.iload_n 1, 1) := by decide +kernel
theorem dX0_shutBox_47 : decode cX0_shutBox 47 = .ok (.iload_n 2, 1) := by decide +kernel
theorem dX0_shutBox_48 : decode cX0_shutBox 48 = .ok (.iastore, 1) := by decide +kernel
theorem dX0_shutBox_49 : decode cX0_shutBox 49 = .ok (.aload_n 0, 1) := by decide +kernel
theorem dX0_shutBox_50 : decode cX0_shutBox 50 = .ok (.getfield 25, 3) := by decide +kernel
theorem dX0_shutBox_53 : decode cX0_shutBox 53 = .ok (.iload_n 1, 1) := by decide +kernel
theorem dX0_shutBox_54 : decode cX0_shutBox 54 = .ok (.aload_n 0, 1) := by decide +kernel
theorem dX0_shutBox_55 : decode cX0_shutBox 55 = .ok (.getfield 9, 3) := by decide +kernel
theorem dX0_shutBox_58 : decode cX0_shutBox 58 = .ok (.iload_n 2, 1) := by decide +kernel
theorem dX0_shutBox_59 : decode cX0_shutBox 59 = .ok (.iaload, 1) := by decide +kernel
theorem dX0_shutBox_60 : decode cX0_shutBox 60 = .ok (.iconst 2, 1) := by decide +kernel
theorem dX0_shutBox_61 : decode cX0_shutBox 61 = .ok (.if_icmp .eq 7, 3) := by decide +kernel
theorem dX0_shutBox_64 : decode cX0_shutBox 64 = .ok (.iconst 1, 1) := by decide +kernel
theorem dX0_shutBox_65 : decode cX0_shutBox 65 = .ok (.goto 4, 3) := by decide +kernel
theorem dX0_shutBox_68 : decode cX0_shutBox 68 = .ok (.iconst 0, 1) := by decide +kernel
theorem dX0_shutBox_69 : decode cX0_shutBox 69 = .ok (.bastore, 1) := by decide +kernel
theorem dX0_shutBox_70 : decode cX0_shutBox 70 = .ok (.return_, 1) := by decide +kernel
set_option maxRecDepth 20000 in
theorem ggX0_ruleOf_X3_isLine : GoodIn wsX0_ruleOf wsX3_isLine := goodIn_r _ [4] (by decide +kernel) (by decide +kernel)
set_option maxRecDepth 20000 in
theorem gX0_ruleOf_X3_isLine_n38 : GoodIn wsX0_ruleOf (wsX3_isLine) := ggX0_ruleOf_X3_isLine
theorem dX0_ruleOf_0 : decode cX0_ruleOf 0 = .ok (.iload_n 1, 1) := by decide +kernel
theorem dX0_ruleOf_1 : decode cX0_ruleOf 1 = .ok (.invokestatic 38, 3) := by decide +kernel
theorem dX0_ruleOf_4 : decode cX0_ruleOf 4 = .ok (.ifCond .eq 12, 3) := by decide +kernel
theorem dX0_ruleOf_7 : decode cX0_ruleOf 7 = .ok (.aload_n 0, 1) := by decide +kernel
theorem dX0_ruleOf_8 : decode cX0_ruleOf 8 = .ok (.getfield 9, 3) := by decide +kernel
theorem dX0_ruleOf_11 : decode cX0_ruleOf 11 = .ok (.iload_n 1, 1) := by decide +kernel
theorem dX0_ruleOf_12 : decode cX0_ruleOf 12 = .ok (.iaload, 1) := by decide +kernel
theorem dX0_ruleOf_13 : decode cX0_ruleOf 13 = .ok (.goto 4, 3) := by decide +kernel
theorem dX0_ruleOf_16 : decode cX0_ruleOf 16 = .ok (.iconst (-1), 1) := by decide +kernel
theorem dX0_ruleOf_17 : decode cX0_ruleOf 17 = .ok (.ireturn, 1) := by decide +kernel
set_option maxRecDepth 20000 in
theorem ggX0_headOf_X3_isLine : GoodIn wsX0_headOf wsX3_isLine := goodIn_r _ [4] (by decide +kernel) (by decide +kernel)
set_option maxRecDepth 20000 in
theorem gX0_headOf_X3_isLine_n38 : GoodIn wsX0_headOf (wsX3_isLine) := ggX0_headOf_X3_isLine
theorem dX0_headOf_0 : decode cX0_headOf 0 = .ok (.iload_n 1, 1) := by decide +kernel
theorem dX0_headOf_1 : decode cX0_headOf 1 = .ok (.invokestatic 38, 3) := by decide +kernel
theorem dX0_headOf_4 : decode cX0_headOf 4 = .ok (.ifCond .eq 12, 3) := by decide +kernel
theorem dX0_headOf_7 : decode cX0_headOf 7 = .ok (.aload_n 0, 1) := by decide +kernel
theorem dX0_headOf_8 : decode cX0_headOf 8 = .ok (.getfield 15, 3) := by decide +kernel
theorem dX0_headOf_11 : decode cX0_headOf 11 = .ok (.iload_n 1, 1) := by decide +kernel
theorem dX0_headOf_12 : decode cX0_headOf 12 = .ok (.iaload, 1) := by decide +kernel
theorem dX0_headOf_13 : decode cX0_headOf 13 = .ok (.goto 4, 3) := by decide +kernel
theorem dX0_headOf_16 : decode cX0_headOf 16 = .ok (.iconst (-1), 1) := by decide +kernel
theorem dX0_headOf_17 : decode cX0_headOf 17 = .ok (.ireturn, 1) := by decide +kernel
set_option maxRecDepth 20000 in
theorem ggX0_endOf_X3_isLine : GoodIn wsX0_endOf wsX3_isLine := goodIn_r _ [4] (by decide +kernel) (by decide +kernel)
set_option maxRecDepth 20000 in
theorem gX0_endOf_X3_isLine_n38 : GoodIn wsX0_endOf (wsX3_isLine) := ggX0_endOf_X3_isLine
theorem dX0_endOf_0 : decode cX0_endOf 0 = .ok (.iload_n 1, 1) := by decide +kernel
theorem dX0_endOf_1 : decode cX0_endOf 1 = .ok (.invokestatic 38, 3) := by decide +kernel
theorem dX0_endOf_4 : decode cX0_endOf 4 = .ok (.ifCond .eq 12, 3) := by decide +kernel
theorem dX0_endOf_7 : decode cX0_endOf 7 = .ok (.aload_n 0, 1) := by decide +kernel
theorem dX0_endOf_8 : decode cX0_endOf 8 = .ok (.getfield 18, 3) := by decide +kernel
theorem dX0_endOf_11 : decode cX0_endOf 11 = .ok (.iload_n 1, 1) := by decide +kernel
theorem dX0_endOf_12 : decode cX0_endOf 12 = .ok (.iaload, 1) := by decide +kernel
theorem dX0_endOf_13 : decode cX0_endOf 13 = .ok (.goto 4, 3) := by decide +kernel
theorem dX0_endOf_16 : decode cX0_endOf 16 = .ok (.iconst (-1), 1) := by decide +kernel
theorem dX0_endOf_17 : decode cX0_endOf 17 = .ok (.ireturn, 1) := by decide +kernel
set_option maxRecDepth 20000 in
theorem ggX0_innermostOpen_X0_isOpenBox : GoodIn wsX0_innermostOpen wsX0_isOpenBox := goodIn_r _ [5, 6, 7, 8, 9, 10, 11, 12, 13, 14, 15, 16] (by decide +kernel) (by decide +kernel)
set_option maxRecDepth 20000 in
theorem gX0_innermostOpen_X0_isOpenBox : GoodIn wsX0_innermostOpen (wsV RX0 49 RX0 yX0_isOpenBox wsX0_isOpenBox) := goodIn_app (goodIn_of _ (by decide +kernel)) ggX0_innermostOpen_X0_isOpenBox
theorem dX0_innermostOpen_0 : decode cX0_innermostOpen 0 = .ok (.bipush 59, 2) := by decide +kernel
theorem dX0_innermostOpen_2 : decode cX0_innermostOpen 2 = .ok (.istore_n 1, 1) := by decide +kernel
theorem dX0_innermostOpen_3 : decode cX0_innermostOpen 3 = .ok (.iload_n 1, 1) := by decide +kernel
theorem dX0_innermostOpen_4 : decode cX0_innermostOpen 4 = .ok (.ifCond .lt 19, 3) := by decide +kernel
theorem dX0_innermostOpen_7 : decode cX0_innermostOpen 7 = .ok (.aload_n 0, 1) := by decide +kernel
theorem dX0_innermostOpen_8 : decode cX0_innermostOpen 8 = .ok (.iload_n 1, 1) := by decide +kernel
theorem dX0_innermostOpen_9 : decode cX0_innermostOpen 9 = .ok (.invokevirtual 49, 3) := by decide +kernel
theorem dX0_innermostOpen_12 : decode cX0_innermostOpen 12 = .ok (.ifCond .eq 5, 3) := by decide +kernel
theorem dX0_innermostOpen_15 : decode cX0_innermostOpen 15 = .ok (.iload_n 1, 1) := by decide +kernel
theorem dX0_innermostOpen_16 : decode cX0_innermostOpen 16 = .ok (.ireturn, 1) := by decide +kernel
theorem dX0_innermostOpen_17 : decode cX0_innermostOpen 17 = .ok (.iinc 1 (-1), 3) := by decide +kernel
theorem dX0_innermostOpen_20 : decode cX0_innermostOpen 20 = .ok (.goto (-17), 3) := by decide +kernel
theorem dX0_innermostOpen_23 : decode cX0_innermostOpen 23 = .ok (.iconst (-1), 1) := by decide +kernel
theorem dX0_innermostOpen_24 : decode cX0_innermostOpen 24 = .ok (.ireturn, 1) := by decide +kernel
set_option maxRecDepth 20000 in
theorem ggX0_countOpen_X0_isOpenBox : GoodIn wsX0_countOpen wsX0_isOpenBox := goodIn_r _ [5, 6, 7, 8, 9, 10, 11, 12, 13, 14, 15, 16] (by decide +kernel) (by decide +kernel)
set_option maxRecDepth 20000 in
theorem gX0_countOpen_X0_isOpenBox : GoodIn wsX0_countOpen (wsV RX0 49 RX0 yX0_isOpenBox wsX0_isOpenBox) := goodIn_app (goodIn_of _ (by decide +kernel)) ggX0_countOpen_X0_isOpenBox
theorem dX0_countOpen_0 : decode cX0_countOpen 0 = .ok (.iconst 0, 1) := by decide +kernel
theorem dX0_countOpen_1 : decode cX0_countOpen 1 = .ok (.istore_n 1, 1) := by decide +kernel
theorem dX0_countOpen_2 : decode cX0_countOpen 2 = .ok (.iconst 0, 1) := by decide +kernel
theorem dX0_countOpen_3 : decode cX0_countOpen 3 = .ok (.istore_n 2, 1) := by decide +kernel
theorem dX0_countOpen_4 : decode cX0_countOpen 4 = .ok (.iload_n 2, 1) := by decide +kernel
theorem dX0_countOpen_5 : decode cX0_countOpen 5 = .ok (.bipush 60, 2) := by decide +kernel
theorem dX0_countOpen_7 : decode cX0_countOpen 7 = .ok (.if_icmp .ge 20, 3) := by decide +kernel
theorem dX0_countOpen_10 : decode cX0_countOpen 10 = .ok (.aload_n 0, 1) := by decide +kernel
theorem dX0_countOpen_11 : decode cX0_countOpen 11 = .ok (.iload_n 2, 1) := by decide +kernel
theorem dX0_countOpen_12 : decode cX0_countOpen 12 = .ok (.invokevirtual 49, 3) := by decide +kernel
theorem dX0_countOpen_15 : decode cX0_countOpen 15 = .ok (.ifCond .eq 6, 3) := by decide +kernel
theorem dX0_countOpen_18 : decode cX0_countOpen 18 = .ok (.iinc 1 1, 3) := by decide +kernel
theorem dX0_countOpen_21 : decode cX0_countOpen 21 = .ok (.iinc 2 1, 3) := by decide +kernel
theorem dX0_countOpen_24 : decode cX0_countOpen 24 = .ok (.goto (-20), 3) := by decide +kernel
theorem dX0_countOpen_27 : decode cX0_countOpen 27 = .ok (.iload_n 1, 1) := by decide +kernel
theorem dX0_countOpen_28 : decode cX0_countOpen 28 = .ok (.ireturn, 1) := by decide +kernel
set_option maxRecDepth 20000 in
theorem ggX0_isOpenBox_X3_isLine : GoodIn wsX0_isOpenBox wsX3_isLine := goodIn_r _ [5] (by decide +kernel) (by decide +kernel)
set_option maxRecDepth 20000 in
theorem gX0_isOpenBox_X3_isLine_n38 : GoodIn wsX0_isOpenBox (wsX3_isLine) := ggX0_isOpenBox_X3_isLine
theorem dX0_isOpenBox_0 : decode cX0_isOpenBox 0 = .ok (.iload_n 1, 1) := by decide +kernel
theorem dX0_isOpenBox_1 : decode cX0_isOpenBox 1 = .ok (.invokestatic 38, 3) := by decide +kernel
theorem dX0_isOpenBox_4 : decode cX0_isOpenBox 4 = .ok (.ifCond .eq 27, 3) := by decide +kernel
theorem dX0_isOpenBox_7 : decode cX0_isOpenBox 7 = .ok (.aload_n 0, 1) := by decide +kernel
theorem dX0_isOpenBox_8 : decode cX0_isOpenBox 8 = .ok (.getfield 9, 3) := by decide +kernel
theorem dX0_isOpenBox_11 : decode cX0_isOpenBox 11 = .ok (.iload_n 1, 1) := by decide +kernel
theorem dX0_isOpenBox_12 : decode cX0_isOpenBox 12 = .ok (.iaload, 1) := by decide +kernel
theorem dX0_isOpenBox_13 : decode cX0_isOpenBox 13 = .ok (.iconst 1, 1) := by decide +kernel
theorem dX0_isOpenBox_14 : decode cX0_isOpenBox 14 = .ok (.if_icmp .ne 17, 3) := by decide +kernel
theorem dX0_isOpenBox_17 : decode cX0_isOpenBox 17 = .ok (.aload_n 0, 1) := by decide +kernel
theorem dX0_isOpenBox_18 : decode cX0_isOpenBox 18 = .ok (.getfield 18, 3) := by decide +kernel
theorem dX0_isOpenBox_21 : decode cX0_isOpenBox 21 = .ok (.iload_n 1, 1) := by decide +kernel
theorem dX0_isOpenBox_22 : decode cX0_isOpenBox 22 = .ok (.iaload, 1) := by decide +kernel
theorem dX0_isOpenBox_23 : decode cX0_isOpenBox 23 = .ok (.iconst (-1), 1) := by decide +kernel
theorem dX0_isOpenBox_24 : decode cX0_isOpenBox 24 = .ok (.if_icmp .ne 7, 3) := by decide +kernel
theorem dX0_isOpenBox_27 : decode cX0_isOpenBox 27 = .ok (.iconst 1, 1) := by decide +kernel
theorem dX0_isOpenBox_28 : decode cX0_isOpenBox 28 = .ok (.goto 4, 3) := by decide +kernel
theorem dX0_isOpenBox_31 : decode cX0_isOpenBox 31 = .ok (.iconst 0, 1) := by decide +kernel
theorem dX0_isOpenBox_32 : decode cX0_isOpenBox 32 = .ok (.ireturn, 1) := by decide +kernel
set_option maxRecDepth 20000 in
theorem ggX0_liesInBox_X0_ruleOf : GoodIn wsX0_liesInBox wsX0_ruleOf := goodIn_r _ [5, 6, 7, 8, 9, 15, 16, 17, 18, 19, 20] (by decide +kernel) (by decide +kernel)
set_option maxRecDepth 20000 in
theorem gX0_liesInBox_X0_ruleOf : GoodIn wsX0_liesInBox (wsV RX0 52 RX0 yX0_ruleOf wsX0_ruleOf) := goodIn_app (goodIn_of _ (by decide +kernel)) ggX0_liesInBox_X0_ruleOf
set_option maxRecDepth 20000 in
theorem ggX0_liesInBox_X0_endOf : GoodIn wsX0_liesInBox wsX0_endOf := goodIn_r _ [13, 14, 7, 8, 9, 15, 16, 17, 18, 19, 20] (by decide +kernel) (by decide +kernel)
set_option maxRecDepth 20000 in
theorem gX0_liesInBox_X0_endOf : GoodIn wsX0_liesInBox (wsV RX0 56 RX0 yX0_endOf wsX0_endOf) := goodIn_app (goodIn_of _ (by decide +kernel)) ggX0_liesInBox_X0_endOf
theorem dX0_liesInBox_0 : decode cX0_liesInBox 0 = .ok (.aload_n 0, 1) := by decide +kernel
theorem dX0_liesInBox_1 : decode cX0_liesInBox 1 = .ok (.iload_n 2, 1) := by decide +kernel
theorem dX0_liesInBox_2 : decode cX0_liesInBox 2 = .ok (.invokevirtual 52, 3) := by decide +kernel
theorem dX0_liesInBox_5 : decode cX0_liesInBox 5 = .ok (.iconst 1, 1) := by decide +kernel
theorem dX0_liesInBox_6 : decode cX0_liesInBox 6 = .ok (.if_icmp .ne 30, 3) := by decide +kernel
theorem dX0_liesInBox_9 : decode cX0_liesInBox 9 = .ok (.iload_n 2, 1) := by decide +kernel
theorem dX0_liesInBox_10 : decode cX0_liesInBox 10 = .ok (.iload_n 1, 1) := by decide +kernel
theorem dX0_liesInBox_11 : decode cX0_liesInBox 11 = .ok (.if_icmp .gt 25, 3) := by decide +kernel
theorem dX0_liesInBox_14 : decode cX0_liesInBox 14 = .ok (.aload_n 0, 1) := by decide +kernel
theorem dX0_liesInBox_15 : decode cX0_liesInBox 15 = .ok (.iload_n 2, 1) := by decide +kernel
theorem dX0_liesInBox_16 : decode cX0_liesInBox 16 = .ok (.invokevirtual 56, 3) := by decide +kernel
theorem dX0_liesInBox_19 : decode cX0_liesInBox 19 = .ok (.iconst (-1), 1) := by decide +kernel
theorem dX0_liesInBox_20 : decode cX0_liesInBox 20 = .ok (.if_icmp .eq 12, 3) := by decide +kernel
theorem dX0_liesInBox_23 : decode cX0_liesInBox 23 = .ok (.iload_n 1, 1) := by decide +kernel
theorem dX0_liesInBox_24 : decode cX0_liesInBox 24 = .ok (.aload_n 0, 1) := by decide +kernel
theorem dX0_liesInBox_25 : decode cX0_liesInBox 25 = .ok (.iload_n 2, 1) := by decide +kernel
theorem dX0_liesInBox_26 : decode cX0_liesInBox 26 = .ok (.invokevirtual 56, 3) := by decide +kernel
theorem dX0_liesInBox_29 : decode cX0_liesInBox 29 = .ok (.if_icmp .gt 7, 3) := by decide +kernel
theorem dX0_liesInBox_32 : decode cX0_liesInBox 32 = .ok (.iconst 1, 1) := by decide +kernel
theorem dX0_liesInBox_33 : decode cX0_liesInBox 33 = .ok (.goto 4, 3) := by decide +kernel
theorem dX0_liesInBox_36 : decode cX0_liesInBox 36 = .ok (.iconst 0, 1) := by decide +kernel
theorem dX0_liesInBox_37 : decode cX0_liesInBox 37 = .ok (.ireturn, 1) := by decide +kernel
set_option maxRecDepth 20000 in
theorem ggX0_isInForce_X3_isLine : GoodIn wsX0_isInForce wsX3_isLine := goodIn_r _ [4] (by decide +kernel) (by decide +kernel)
set_option maxRecDepth 20000 in
theorem gX0_isInForce_X3_isLine_n38 : GoodIn wsX0_isInForce (wsX3_isLine) := ggX0_isInForce_X3_isLine
theorem dX0_isInForce_0 : decode cX0_isInForce 0 = .ok (.iload_n 1, 1) := by decide +kernel
theorem dX0_isInForce_1 : decode cX0_isInForce 1 = .ok (.invokestatic 38, 3) := by decide +kernel
theorem dX0_isInForce_4 : decode cX0_isInForce 4 = .ok (.ifCond .eq 16, 3) := by decide +kernel
theorem dX0_isInForce_7 : decode cX0_isInForce 7 = .ok (.aload_n 0, 1) := by decide +kernel
theorem dX0_isInForce_8 : decode cX0_isInForce 8 = .ok (.getfield 21, 3) := by decide +kernel
theorem dX0_isInForce_11 : decode cX0_isInForce 11 = .ok (.iload_n 1, 1) := by decide +kernel
theorem dX0_isInForce_12 : decode cX0_isInForce 12 = .ok (.baload, 1) := by decide +kernel
theorem dX0_isInForce_13 : decode cX0_isInForce 13 = .ok (.ifCond .eq 7, 3) := by decide +kernel
theorem dX0_isInForce_16 : decode cX0_isInForce 16 = .ok (.iconst 1, 1) := by decide +kernel
theorem dX0_isInForce_17 : decode cX0_isInForce 17 = .ok (.goto 4, 3) := by decide +kernel
theorem dX0_isInForce_20 : decode cX0_isInForce 20 = .ok (.iconst 0, 1) := by decide +kernel
theorem dX0_isInForce_21 : decode cX0_isInForce 21 = .ok (.ireturn, 1) := by decide +kernel
set_option maxRecDepth 20000 in
theorem ggX0_isUsableBox_X3_isLine : GoodIn wsX0_isUsableBox wsX3_isLine := goodIn_r _ [4] (by decide +kernel) (by decide +kernel)
set_option maxRecDepth 20000 in
theorem gX0_isUsableBox_X3_isLine_n38 : GoodIn wsX0_isUsableBox (wsX3_isLine) := ggX0_isUsableBox_X3_isLine
theorem dX0_isUsableBox_0 : decode cX0_isUsableBox 0 = .ok (.iload_n 1, 1) := by decide +kernel
theorem dX0_isUsableBox_1 : decode cX0_isUsableBox 1 = .ok (.invokestatic 38, 3) := by decide +kernel
theorem dX0_isUsableBox_4 : decode cX0_isUsableBox 4 = .ok (.ifCond .eq 16, 3) := by decide +kernel
theorem dX0_isUsableBox_7 : decode cX0_isUsableBox 7 = .ok (.aload_n 0, 1) := by decide +kernel
theorem dX0_isUsableBox_8 : decode cX0_isUsableBox 8 = .ok (.getfield 25, 3) := by decide +kernel
theorem dX0_isUsableBox_11 : decode cX0_isUsableBox 11 = .ok (.iload_n 1, 1) := by decide +kernel
theorem dX0_isUsableBox_12 : decode cX0_isUsableBox 12 = .ok (.baload, 1) := by decide +kernel
theorem dX0_isUsableBox_13 : decode cX0_isUsableBox 13 = .ok (.ifCond .eq 7, 3) := by decide +kernel
theorem dX0_isUsableBox_16 : decode cX0_isUsableBox 16 = .ok (.iconst 1, 1) := by decide +kernel
theorem dX0_isUsableBox_17 : decode cX0_isUsableBox 17 = .ok (.goto 4, 3) := by decide +kernel
theorem dX0_isUsableBox_20 : decode cX0_isUsableBox 20 = .ok (.iconst 0, 1) := by decide +kernel
theorem dX0_isUsableBox_21 : decode cX0_isUsableBox 21 = .ok (.ireturn, 1) := by decide +kernel
set_option maxRecDepth 20000 in
theorem ggX0_isGround_X0_ruleOf : GoodIn wsX0_isGround wsX0_ruleOf := goodIn_r _ [5, 6, 7, 8, 9, 19, 20, 21, 22, 23, 24] (by decide +kernel) (by decide +kernel)
set_option maxRecDepth 20000 in
theorem gX0_isGround_X0_ruleOf : GoodIn wsX0_isGround (wsV RX0 52 RX0 yX0_ruleOf wsX0_ruleOf) := goodIn_app (goodIn_of _ (by decide +kernel)) ggX0_isGround_X0_ruleOf
set_option maxRecDepth 20000 in
theorem ggX0_isGround_X0_liesInBox : GoodIn wsX0_isGround wsX0_liesInBox := goodIn_r _ [13, 1, 2, 3, 4, 5, 6, 7, 8, 9, 14, 15, 16, 17, 18, 19, 20, 21, 22, 23, 24] (by decide +kernel) (by decide +kernel)
set_option maxRecDepth 20000 in
theorem gX0_isGround_X0_liesInBox : GoodIn wsX0_isGround (wsV RX0 59 RX0 yX0_liesInBox wsX0_liesInBox) := goodIn_app (goodIn_of _ (by decide +kernel)) ggX0_isGround_X0_liesInBox
theorem dX0_isGround_0 : decode cX0_isGround 0 = .ok (.aload_n 0, 1) := by decide +kernel
theorem dX0_isGround_1 : decode cX0_isGround 1 = .ok (.iload_n 1, 1) := by decide +kernel
theorem dX0_isGround_2 : decode cX0_isGround 2 = .ok (.invokevirtual 52, 3) := by decide +kernel
theorem dX0_isGround_5 : decode cX0_isGround 5 = .ok (.ifCond .eq 12, 3) := by decide +kernel
theorem dX0_isGround_8 : decode cX0_isGround 8 = .ok (.aload_n 0, 1) := by decide +kernel
theorem dX0_isGround_9 : decode cX0_isGround 9 = .ok (.iload_n 2, 1) := by decide +kernel
theorem dX0_isGround_10 : decode cX0_isGround 10 = .ok (.iload_n 1, 1) := by decide +kernel
theorem dX0_isGround_11 : decode cX0_isGround 11 = .ok (.invokevirtual 59, 3) := by decide +kernel
theorem dX0_isGround_14 : decode cX0_isGround 14 = .ok (.ifCond .eq 7, 3) := by decide +kernel
theorem dX0_isGround_17 : decode cX0_isGround 17 = .ok (.iconst 1, 1) := by decide +kernel
theorem dX0_isGround_18 : decode cX0_isGround 18 = .ok (.goto 4, 3) := by decide +kernel
theorem dX0_isGround_21 : decode cX0_isGround 21 = .ok (.iconst 0, 1) := by decide +kernel
theorem dX0_isGround_22 : decode cX0_isGround 22 = .ok (.ireturn, 1) := by decide +kernel
set_option maxRecDepth 20000 in
theorem ggX0_groundOf_X0_headOf : GoodIn wsX0_groundOf wsX0_headOf := goodIn_r _ [5, 6, 7, 8, 9, 28, 29, 30, 31, 32, 33] (by decide +kernel) (by decide +kernel)
set_option maxRecDepth 20000 in
theorem gX0_groundOf_X0_headOf : GoodIn wsX0_groundOf (wsV RX0 63 RX0 yX0_headOf wsX0_headOf) := goodIn_app (goodIn_of _ (by decide +kernel)) ggX0_groundOf_X0_headOf
set_option maxRecDepth 20000 in
theorem ggX0_groundOf_X0_isGround : GoodIn wsX0_groundOf wsX0_isGround := goodIn_r _ [13, 14, 15, 16, 4, 17, 18, 7, 8, 9, 19, 20, 21, 22, 23, 24, 25, 26, 27, 28, 29, 30, 31, 32, 33] (by decide +kernel) (by decide +kernel)
set_option maxRecDepth 20000 in
theorem gX0_groundOf_X0_isGround : GoodIn wsX0_groundOf (wsV RX0 66 RX0 yX0_isGround wsX0_isGround) := goodIn_app (goodIn_of _ (by decide +kernel)) ggX0_groundOf_X0_isGround
theorem dX0_groundOf_0 : decode cX0_groundOf 0 = .ok (.aload_n 0, 1) := by decide +kernel
theorem dX0_groundOf_1 : decode cX0_groundOf 1 = .ok (.iload_n 1, 1) := by decide +kernel
theorem dX0_groundOf_2 : decode cX0_groundOf 2 = .ok (.invokevirtual 63, 3) := by decide +kernel
theorem dX0_groundOf_5 : decode cX0_groundOf 5 = .ok (.iconst (-1), 1) := by decide +kernel
theorem dX0_groundOf_6 : decode cX0_groundOf 6 = .ok (.if_icmp .ne 5, 3) := by decide +kernel
theorem dX0_groundOf_9 : decode cX0_groundOf 9 = .ok (.iconst (-1), 1) := by decide +kernel
theorem dX0_groundOf_10 : decode cX0_groundOf 10 = .ok (.ireturn, 1) := by decide +kernel
theorem dX0_groundOf_11 : decode cX0_groundOf 11 = .ok (.iconst 0, 1) := by decide +kernel
theorem dX0_groundOf_12 : decode cX0_groundOf 12 = .ok (.istore_n 3, 1) := by decide +kernel
theorem dX0_groundOf_13 : decode cX0_groundOf 13 = .ok (.iconst 0, 1) := by decide +kernel
theorem dX0_groundOf_14 : decode cX0_groundOf 14 = .ok (.istore 4, 2) := by decide +kernel
theorem dX0_groundOf_16 : decode cX0_groundOf 16 = .ok (.iload 4, 2) := by decide +kernel
theorem dX0_groundOf_18 : decode cX0_groundOf 18 = .ok (.iload_n 1, 1) := by decide +kernel
theorem dX0_groundOf_19 : decode cX0_groundOf 19 = .ok (.if_icmp .gt 37, 3) := by decide +kernel
theorem dX0_groundOf_22 : decode cX0_groundOf 22 = .ok (.iload 4, 2) := by decide +kernel
theorem dX0_groundOf_24 : decode cX0_groundOf 24 = .ok (.bipush 60, 2) := by decide +kernel
theorem dX0_groundOf_26 : decode cX0_groundOf 26 = .ok (.if_icmp .ge 30, 3) := by decide +kernel
theorem dX0_groundOf_29 : decode cX0_groundOf 29 = .ok (.aload_n 0, 1) := by decide +kernel
theorem dX0_groundOf_30 : decode cX0_groundOf 30 = .ok (.iload 4, 2) := by decide +kernel
theorem dX0_groundOf_32 : decode cX0_groundOf 32 = .ok (.iload_n 1, 1) := by decide +kernel
theorem dX0_groundOf_33 : decode cX0_groundOf 33 = .ok (.invokevirtual 66, 3) := by decide +kernel
theorem dX0_groundOf_36 : decode cX0_groundOf 36 = .ok (.ifCond .eq 14, 3) := by decide +kernel
theorem dX0_groundOf_39 : decode cX0_groundOf 39 = .ok (.iload_n 3, 1) := by decide +kernel
theorem dX0_groundOf_40 : decode cX0_groundOf 40 = .ok (.iload_n 2, 1) := by decide +kernel
theorem dX0_groundOf_41 : decode cX0_groundOf 41 = .ok (.if_icmp .ne 6, 3) := by decide +kernel
theorem dX0_groundOf_44 : decode cX0_groundOf 44 = .ok (.iload 4, 2) := by decide +kernel
theorem dX0_groundOf_46 : decode cX0_groundOf 46 = .ok (.ireturn, 1) := by decide +kernel
theorem dX0_groundOf_47 : decode cX0_groundOf 47 = .ok (.iinc 3 1, 3) := by decide +kernel
theorem dX0_groundOf_50 : decode cX0_groundOf 50 = .ok (.iinc 4 1, 3) := by decide +kernel
theorem dX0_groundOf_53 : decode cX0_groundOf 53 = .ok (.goto (-37), 3) := by decide +kernel
theorem dX0_groundOf_56 : decode cX0_groundOf 56 = .ok (.iconst (-1), 1) := by decide +kernel
theorem dX0_groundOf_57 : decode cX0_groundOf 57 = .ok (.ireturn, 1) := by decide +kernel
theorem dX1_init_0 : decode cX1_init 0 = .ok (.aload_n 0, 1) := by decide +kernel
theorem dX1_init_1 : decode cX1_init 1 = .ok (.invokespecial 3, 3) := by decide +kernel
theorem dX1_init_4 : decode cX1_init 4 = .ok (.aload_n 0, 1) := by decide +kernel
theorem dX1_init_5 : decode cX1_init 5 = .ok (.bipush 80, 2) := by decide +kernel
theorem dX1_init_7 : decode cX1_init 7 = .ok (.newarray .int, 2) := by decide +kernel
theorem dX1_init_9 : decode cX1_init 9 = .ok (.putfield 9, 3) := by decide +kernel
theorem dX1_init_12 : decode cX1_init 12 = .ok (.aload_n 0, 1) := by decide +kernel
theorem dX1_init_13 : decode cX1_init 13 = .ok (.bipush 80, 2) := by decide +kernel
theorem dX1_init_15 : decode cX1_init 15 = .ok (.newarray .int, 2) := by decide +kernel
theorem dX1_init_17 : decode cX1_init 17 = .ok (.putfield 15, 3) := by decide +kernel
theorem dX1_init_20 : decode cX1_init 20 = .ok (.aload_n 0, 1) := by decide +kernel
theorem dX1_init_21 : decode cX1_init 21 = .ok (.bipush 80, 2) := by decide +kernel
theorem dX1_init_23 : decode cX1_init 23 = .ok (.newarray .int, 2) := by decide +kernel
theorem dX1_init_25 : decode cX1_init 25 = .ok (.putfield 18, 3) := by decide +kernel
theorem dX1_init_28 : decode cX1_init 28 = .ok (.aload_n 0, 1) := by decide +kernel
theorem dX1_init_29 : decode cX1_init 29 = .ok (.bipush 80, 2) := by decide +kernel
theorem dX1_init_31 : decode cX1_init 31 = .ok (.newarray .int, 2) := by decide +kernel
theorem dX1_init_33 : decode cX1_init 33 = .ok (.putfield 21, 3) := by decide +kernel
theorem dX1_init_36 : decode cX1_init 36 = .ok (.aload_n 0, 1) := by decide +kernel
theorem dX1_init_37 : decode cX1_init 37 = .ok (.bipush 80, 2) := by decide +kernel
theorem dX1_init_39 : decode cX1_init 39 = .ok (.newarray .long, 2) := by decide +kernel
theorem dX1_init_41 : decode cX1_init 41 = .ok (.putfield 24, 3) := by decide +kernel
theorem dX1_init_44 : decode cX1_init 44 = .ok (.aload_n 0, 1) := by decide +kernel
theorem dX1_init_45 : decode cX1_init 45 = .ok (.bipush 80, 2) := by decide +kernel
theorem dX1_init_47 : decode cX1_init 47 = .ok (.newarray .int, 2) := by decide +kernel
theorem dX1_init_49 : decode cX1_init 49 = .ok (.putfield 28, 3) := by decide +kernel
theorem dX1_init_52 : decode cX1_init 52 = .ok (.aload_n 0, 1) := by decide +kernel
theorem dX1_init_53 : decode cX1_init 53 = .ok (.iconst 0, 1) := by decide +kernel
theorem dX1_init_54 : decode cX1_init 54 = .ok (.putfield 31, 3) := by decide +kernel
theorem dX1_init_57 : decode cX1_init 57 = .ok (.return_, 1) := by decide +kernel
theorem dX1_count_0 : decode cX1_count 0 = .ok (.aload_n 0, 1) := by decide +kernel
theorem dX1_count_1 : decode cX1_count 1 = .ok (.getfield 31, 3) := by decide +kernel
theorem dX1_count_4 : decode cX1_count 4 = .ok (.ireturn, 1) := by decide +kernel
theorem dX1_has_0 : decode cX1_has 0 = .ok (.iload_n 1, 1) := by decide +kernel
theorem dX1_has_1 : decode cX1_has 1 = .ok (.ifCond .lt 15, 3) := by decide +kernel
theorem dX1_has_4 : decode cX1_has 4 = .ok (.iload_n 1, 1) := by decide +kernel
theorem dX1_has_5 : decode cX1_has 5 = .ok (.aload_n 0, 1) := by decide +kernel
theorem dX1_has_6 : decode cX1_has 6 = .ok (.getfield 31, 3) := by decide +kernel
theorem dX1_has_9 : decode cX1_has 9 = .ok (.if_icmp .ge 7, 3) := by decide +kernel
theorem dX1_has_12 : decode cX1_has 12 = .ok (.iconst 1, 1) := by decide +kernel
theorem dX1_has_13 : decode cX1_has 13 = .ok (.goto 4, 3) := by decide +kernel
theorem dX1_has_16 : decode cX1_has 16 = .ok (.iconst 0, 1) := by decide +kernel
theorem dX1_has_17 : decode cX1_has 17 = .ok (.ireturn, 1) := by decide +kernel
set_option maxRecDepth 20000 in
theorem ggX1_kindOf_X1_has : GoodIn wsX1_kindOf wsX1_has := goodIn_r _ [6, 7, 8, 9, 10, 11, 12, 13, 14] (by decide +kernel) (by decide +kernel)
set_option maxRecDepth 20000 in
theorem gX1_kindOf_X1_has : GoodIn wsX1_kindOf (wsV RX1 35 RX1 yX1_has wsX1_has) := goodIn_app (goodIn_of _ (by decide +kernel)) ggX1_kindOf_X1_has
theorem dX1_kindOf_0 : decode cX1_kindOf 0 = .ok (.aload_n 0, 1) := by decide +kernel
theorem dX1_kindOf_1 : decode cX1_kindOf 1 = .ok (.iload_n 1, 1) := by decide +kernel
theorem dX1_kindOf_2 : decode cX1_kindOf 2 = .ok (.invokevirtual 35, 3) := by decide +kernel
theorem dX1_kindOf_5 : decode cX1_kindOf 5 = .ok (.ifCond .eq 12, 3) := by decide +kernel
theorem dX1_kindOf_8 : decode cX1_kindOf 8 = .ok (.aload_n 0, 1) := by decide +kernel
theorem dX1_kindOf_9 : decode cX1_kindOf 9 = .ok (.getfield 9, 3) := by decide +kernel
theorem dX1_kindOf_12 : decode cX1_kindOf 12 = .ok (.iload_n 1, 1) := by decide +kernel
theorem dX1_kindOf_13 : decode cX1_kindOf 13 = .ok (.iaload, 1) := by decide +kernel
theorem dX1_kindOf_14 : decode cX1_kindOf 14 = .ok (.goto 4, 3) := by decide +kernel
theorem dX1_kindOf_17 : decode cX1_kindOf 17 = .ok (.iconst (-1), 1) := by decide +kernel
theorem dX1_kindOf_18 : decode cX1_kindOf 18 = .ok (.ireturn, 1) := by decide +kernel
set_option maxRecDepth 20000 in
theorem ggX1_firstOf_X1_has : GoodIn wsX1_firstOf wsX1_has := goodIn_r _ [6, 7, 8, 9, 10, 11, 12, 13, 14] (by decide +kernel) (by decide +kernel)
set_option maxRecDepth 20000 in
theorem gX1_firstOf_X1_has : GoodIn wsX1_firstOf (wsV RX1 35 RX1 yX1_has wsX1_has) := goodIn_app (goodIn_of _ (by decide +kernel)) ggX1_firstOf_X1_has
theorem dX1_firstOf_0 : decode cX1_firstOf 0 = .ok (.aload_n 0, 1) := by decide +kernel
theorem dX1_firstOf_1 : decode cX1_firstOf 1 = .ok (.iload_n 1, 1) := by decide +kernel
theorem dX1_firstOf_2 : decode cX1_firstOf 2 = .ok (.invokevirtual 35, 3) := by decide +kernel
theorem dX1_firstOf_5 : decode cX1_firstOf 5 = .ok (.ifCond .eq 12, 3) := by decide +kernel
theorem dX1_firstOf_8 : decode cX1_firstOf 8 = .ok (.aload_n 0, 1) := by decide +kernel
theorem dX1_firstOf_9 : decode cX1_firstOf 9 = .ok (.getfield 15, 3) := by decide +kernel
theorem dX1_firstOf_12 : decode cX1_firstOf 12 = .ok (.iload_n 1, 1) := by decide +kernel
theorem dX1_firstOf_13 : decode cX1_firstOf 13 = .ok (.iaload, 1) := by decide +kernel
theorem dX1_firstOf_14 : decode cX1_firstOf 14 = .ok (.goto 4, 3) := by decide +kernel
theorem dX1_firstOf_17 : decode cX1_firstOf 17 = .ok (.iconst (-1), 1) := by decide +kernel
theorem dX1_firstOf_18 : decode cX1_firstOf 18 = .ok (.ireturn, 1) := by decide +kernel
set_option maxRecDepth 20000 in
theorem ggX1_secondOf_X1_has : GoodIn wsX1_secondOf wsX1_has := goodIn_r _ [6, 7, 8, 9, 10, 11, 12, 13, 14] (by decide +kernel) (by decide +kernel)
set_option maxRecDepth 20000 in
theorem gX1_secondOf_X1_has : GoodIn wsX1_secondOf (wsV RX1 35 RX1 yX1_has wsX1_has) := goodIn_app (goodIn_of _ (by decide +kernel)) ggX1_secondOf_X1_has
theorem dX1_secondOf_0 : decode cX1_secondOf 0 = .ok (.aload_n 0, 1) := by decide +kernel
theorem dX1_secondOf_1 : decode cX1_secondOf 1 = .ok (.iload_n 1, 1) := by decide +kernel
theorem dX1_secondOf_2 : decode cX1_secondOf 2 = .ok (.invokevirtual 35, 3) := by decide +kernel
theorem dX1_secondOf_5 : decode cX1_secondOf 5 = .ok (.ifCond .eq 12, 3) := by decide +kernel
theorem dX1_secondOf_8 : decode cX1_secondOf 8 = .ok (.aload_n 0, 1) := by decide +kernel
theorem dX1_secondOf_9 : decode cX1_secondOf 9 = .ok (.getfield 18, 3) := by decide +kernel
theorem dX1_secondOf_12 : decode cX1_secondOf 12 = .ok (.iload_n 1, 1) := by decide +kernel
theorem dX1_secondOf_13 : decode cX1_secondOf 13 = .ok (.iaload, 1) := by decide +kernel
theorem dX1_secondOf_14 : decode cX1_secondOf 14 = .ok (.goto 4, 3) := by decide +kernel
theorem dX1_secondOf_17 : decode cX1_secondOf 17 = .ok (.iconst (-1), 1) := by decide +kernel
theorem dX1_secondOf_18 : decode cX1_secondOf 18 = .ok (.ireturn, 1) := by decide +kernel
set_option maxRecDepth 20000 in
theorem ggX1_heightOf_X1_has : GoodIn wsX1_heightOf wsX1_has := goodIn_r _ [6, 7, 8, 9, 10, 11, 12, 13, 14] (by decide +kernel) (by decide +kernel)
set_option maxRecDepth 20000 in
theorem gX1_heightOf_X1_has : GoodIn wsX1_heightOf (wsV RX1 35 RX1 yX1_has wsX1_has) := goodIn_app (goodIn_of _ (by decide +kernel)) ggX1_heightOf_X1_has
theorem dX1_heightOf_0 : decode cX1_heightOf 0 = .ok (.aload_n 0, 1) := by decide +kernel
theorem dX1_heightOf_1 : decode cX1_heightOf 1 = .ok (.iload_n 1, 1) := by decide +kernel
theorem dX1_heightOf_2 : decode cX1_heightOf 2 = .ok (.invokevirtual 35, 3) := by decide +kernel
theorem dX1_heightOf_5 : decode cX1_heightOf 5 = .ok (.ifCond .eq 12, 3) := by decide +kernel
theorem dX1_heightOf_8 : decode cX1_heightOf 8 = .ok (.aload_n 0, 1) := by decide +kernel
theorem dX1_heightOf_9 : decode cX1_heightOf 9 = .ok (.getfield 21, 3) := by decide +kernel
theorem dX1_heightOf_12 : decode cX1_heightOf 12 = .ok (.iload_n 1, 1) := by decide +kernel
theorem dX1_heightOf_13 : decode cX1_heightOf 13 = .ok (.iaload, 1) := by decide +kernel
theorem dX1_heightOf_14 : decode cX1_heightOf 14 = .ok (.goto 4, 3) := by decide +kernel
theorem dX1_heightOf_17 : decode cX1_heightOf 17 = .ok (.iconst 0, 1) := by decide +kernel
theorem dX1_heightOf_18 : decode cX1_heightOf 18 = .ok (.ireturn, 1) := by decide +kernel
set_option maxRecDepth 20000 in
theorem ggX1_tableOf_X1_has : GoodIn wsX1_tableOf wsX1_has := goodIn_r _ [6, 7, 8, 9, 10, 11, 12, 13, 14] (by decide +kernel) (by decide +kernel)
set_option maxRecDepth 20000 in
theorem gX1_tableOf_X1_has : GoodIn wsX1_tableOf (wsV RX1 35 RX1 yX1_has wsX1_has) := goodIn_app (goodIn_of _ (by decide +kernel)) ggX1_tableOf_X1_has
theorem dX1_tableOf_0 : decode cX1_tableOf 0 = .ok (.aload_n 0, 1) := by decide +kernel
theorem dX1_tableOf_1 : decode cX1_tableOf 1 = .ok (.iload_n 1, 1) := by decide +kernel
theorem dX1_tableOf_2 : decode cX1_tableOf 2 = .ok (.invokevirtual 35, 3) := by decide +kernel
theorem dX1_tableOf_5 : decode cX1_tableOf 5 = .ok (.ifCond .eq 12, 3) := by decide +kernel
theorem dX1_tableOf_8 : decode cX1_tableOf 8 = .ok (.aload_n 0, 1) := by decide +kernel
theorem dX1_tableOf_9 : decode cX1_tableOf 9 = .ok (.getfield 24, 3) := by decide +kernel
theorem dX1_tableOf_12 : decode cX1_tableOf 12 = .ok (.iload_n 1, 1) := by decide +kernel
theorem dX1_tableOf_13 : decode cX1_tableOf 13 = .ok (.laload, 1) := by decide +kernel
theorem dX1_tableOf_14 : decode cX1_tableOf 14 = .ok (.goto 4, 3) := by decide +kernel
theorem dX1_tableOf_17 : decode cX1_tableOf 17 = .ok (.lconst 0, 1) := by decide +kernel
theorem dX1_tableOf_18 : decode cX1_tableOf 18 = .ok (.lreturn, 1) := by decide +kernel
set_option maxRecDepth 20000 in
theorem ggX1_make_X1_find : GoodIn wsX1_make wsX1_find := goodIn_r _ [15, 5, 6, 7, 8, 37, 38, 39, 40, 41, 42, 43] (by decide +kernel) (by decide +kernel)
set_option maxRecDepth 20000 in
theorem gX1_make_X1_find : GoodIn wsX1_make (wsV RX1 39 RX1 yX1_find wsX1_find) := goodIn_app (goodIn_of _ (by decide +kernel)) ggX1_make_X1_find
set_option maxRecDepth 20000 in
theorem ggX1_make_X1_heightOf : GoodIn wsX1_make wsX1_heightOf := goodIn_r _ [19, 9, 20, 21, 22, 14, 23, 5, 37, 38, 39, 40, 41, 42, 43] (by decide +kernel) (by decide +kernel)
set_option maxRecDepth 20000 in
theorem gX1_make_X1_heightOf : GoodIn wsX1_make (wsV RX1 43 RX1 yX1_heightOf wsX1_heightOf) := goodIn_app (goodIn_of _ (by decide +kernel)) ggX1_make_X1_heightOf
set_option maxRecDepth 20000 in
theorem ggX1_make_X1_tableFor : GoodIn wsX1_make wsX1_tableFor := goodIn_r _ [27, 28, 29, 30, 31, 32, 33, 34, 35, 14, 36, 10, 20, 21, 22, 23, 5, 37, 38, 39, 40, 41, 42, 43] (by decide +kernel) (by decide +kernel)
set_option maxRecDepth 20000 in
theorem gX1_make_X1_tableFor : GoodIn wsX1_make (wsV RX1 53 RX1 yX1_tableFor wsX1_tableFor) := goodIn_app (goodIn_of _ (by decide +kernel)) ggX1_make_X1_tableFor
theorem dX1_make_0 : decode cX1_make 0 = .ok (.aload_n 0, 1) := by decide +kernel
theorem dX1_make_1 : decode cX1_make 1 = .ok (.iload_n 1, 1) := by decide +kernel
theorem dX1_make_2 : decode cX1_make 2 = .ok (.iload_n 2, 1) := by decide +kernel
theorem dX1_make_3 : decode cX1_make 3 = .ok (.iload_n 3, 1) := by decide +kernel
theorem dX1_make_4 : decode cX1_make 4 = .ok (.invokevirtual 39, 3) := by decide +kernel
theorem dX1_make_7 : decode cX1_make 7 = .ok (.istore 4, 2) := by decide +kernel
theorem dX1_make_9 : decode cX1_make 9 = .ok (.iload 4, 2) := by decide +kernel
theorem dX1_make_11 : decode cX1_make 11 = .ok (.iconst (-1), 1) := by decide +kernel
theorem dX1_make_12 : decode cX1_make 12 = .ok (.if_icmp .eq 6, 3) := by decide +kernel
theorem dX1_make_15 : decode cX1_make 15 = .ok (.iload 4, 2) := by decide +kernel
theorem dX1_make_17 : decode cX1_make 17 = .ok (.ireturn, 1) := by decide +kernel
theorem dX1_make_18 : decode cX1_make 18 = .ok (.iload_n 1, 1) := by decide +kernel
theorem dX1_make_19 : decode cX1_make 19 = .ok (.iconst 2, 1) := by decide +kernel
theorem dX1_make_20 : decode cX1_make 20 = .ok (.if_icmp .ge 7, 3) := by decide +kernel
theorem dX1_make_23 : decode cX1_make 23 = .ok (.iconst 1, 1) := by decide +kernel
theorem dX1_make_24 : decode cX1_make 24 = .ok (.goto 18, 3) := by decide +kernel
theorem dX1_make_27 : decode cX1_make 27 = .ok (.iconst 1, 1) := by decide +kernel
theorem dX1_make_28 : decode cX1_make 28 = .ok (.aload_n 0, 1) := by decide +kernel
theorem dX1_make_29 : decode cX1_make 29 = .ok (.iload_n 2, 1) := by decide +kernel
theorem dX1_make_30 : decode cX1_make 30 = .ok (.invokevirtual 43, 3) := by decide +kernel
theorem dX1_make_33 : decode cX1_make 33 = .ok (.aload_n 0, 1) := by decide +kernel
theorem dX1_make_34 : decode cX1_make 34 = .ok (.iload_n 3, 1) := by decide +kernel
theorem dX1_make_35 : decode cX1_make 35 = .ok (.invokevirtual 43, 3) := by decide +kernel
theorem dX1_make_38 : decode cX1_make 38 = .ok (.invokestatic 47, 3) := by decide +kernel
theorem dX1_make_41 : decode cX1_make 41 = .ok (.iadd, 1) := by decide +kernel
theorem dX1_make_42 : decode cX1_make 42 = .ok (.istore 5, 2) := by decide +kernel
theorem dX1_make_44 : decode cX1_make 44 = .ok (.aload_n 0, 1) := by decide +kernel
theorem dX1_make_45 : decode cX1_make 45 = .ok (.getfield 31, 3) := by decide +kernel
theorem dX1_make_48 : decode cX1_make 48 = .ok (.bipush 80, 2) := by decide +kernel
theorem dX1_make_50 : decode cX1_make 50 = .ok (.if_icmp .ge 10, 3) := by decide +kernel
theorem dX1_make_53 : decode cX1_make 53 = .ok (.iload 5, 2) := by decide +kernel
theorem dX1_make_55 : decode cX1_make 55 = .ok (.bipush 12, 2) := by decide +kernel
theorem dX1_make_57 : decode cX1_make 57 = .ok (.if_icmp .le 6, 3) := by decide +kernel
theorem dX1_make_60 : decode cX1_make 60 = .ok (.bipush (-4), 2) := by decide +kernel
theorem dX1_make_62 : decode cX1_make 62 = .ok (.ireturn, 1) := by decide +kernel
theorem dX1_make_63 : decode cX1_make 63 = .ok (.aload_n 0, 1) := by decide +kernel
theorem dX1_make_64 : decode cX1_make 64 = .ok (.getfield 9, 3) := by decide +kernel
theorem dX1_make_67 : decode cX1_make 67 = .ok (.aload_n 0, 1) := by decide +kernel
theorem dX1_make_68 : decode cX1_make 68 = .ok (.getfield 31, 3) := by decide +kernel
theorem dX1_make_71 : decode cX1_make 71 = .ok (.iload_n 1, 1) := by decide +kernel
theorem dX1_make_72 : decode cX1_make 72 = .ok (.iastore, 1) := by decide +kernel
theorem dX1_make_73 : decode cX1_make 73 = .ok (.aload_n 0, 1) := by decide +kernel
theorem dX1_make_74 : decode cX1_make 74 = .ok (.getfield 15, 3) := by decide +kernel
theorem dX1_make_77 : decode cX1_make 77 = .ok (.aload_n 0, 1) := by decide +kernel
theorem dX1_make_78 : decode cX1_make 78 = .ok (.getfield 31, 3) := by decide +kernel
theorem dX1_make_81 : decode cX1_make 81 = .ok (.iload_n 2, 1) := by decide +kernel
theorem dX1_make_82 : decode cX1_make 82 = .ok (.iastore, 1) := by decide +kernel
theorem dX1_make_83 : decode cX1_make 83 = .ok (.aload_n 0, 1) := by decide +kernel
theorem dX1_make_84 : decode cX1_make 84 = .ok (.getfield 18, 3) := by decide +kernel
theorem dX1_make_87 : decode cX1_make 87 = .ok (.aload_n 0, 1) := by decide +kernel
theorem dX1_make_88 : decode cX1_make 88 = .ok (.getfield 31, 3) := by decide +kernel
theorem dX1_make_91 : decode cX1_make 91 = .ok (.iload_n 3, 1) := by decide +kernel
theorem dX1_make_92 : decode cX1_make 92 = .ok (.iastore, 1) := by decide +kernel
theorem dX1_make_93 : decode cX1_make 93 = .ok (.aload_n 0, 1) := by decide +kernel
theorem dX1_make_94 : decode cX1_make 94 = .ok (.getfield 21, 3) := by decide +kernel
theorem dX1_make_97 : decode cX1_make 97 = .ok (.aload_n 0, 1) := by decide +kernel
theorem dX1_make_98 : decode cX1_make 98 = .ok (.getfield 31, 3) := by decide +kernel
theorem dX1_make_101 : decode cX1_make 101 = .ok (.iload 5, 2) := by decide +kernel
theorem dX1_make_103 : decode cX1_make 103 = .ok (.iastore, 1) := by decide +kernel
theorem dX1_make_104 : decode cX1_make 104 = .ok (.aload_n 0, 1) := by decide +kernel
theorem dX1_make_105 : decode cX1_make 105 = .ok (.getfield 24, 3) := by decide +kernel
theorem dX1_make_108 : decode cX1_make 108 = .ok (.aload_n 0, 1) := by decide +kernel
theorem dX1_make_109 : decode cX1_make 109 = .ok (.getfield 31, 3) := by decide +kernel
theorem dX1_make_112 : decode cX1_make 112 = .ok (.aload_n 0, 1) := by decide +kernel
theorem dX1_make_113 : decode cX1_make 113 = .ok (.iload_n 1, 1) := by decide +kernel
theorem dX1_make_114 : decode cX1_make 114 = .ok (.iload_n 2, 1) := by decide +kernel
theorem dX1_make_115 : decode cX1_make 115 = .ok (.iload_n 3, 1) := by decide +kernel
theorem dX1_make_116 : decode cX1_make 116 = .ok (.invokevirtual 53, 3) := by decide +kernel
theorem dX1_make_119 : decode cX1_make 119 = .ok (.lastore, 1) := by decide +kernel
theorem dX1_make_120 : decode cX1_make 120 = .ok (.aload_n 0, 1) := by decide +kernel
theorem dX1_make_121 : decode cX1_make 121 = .ok (.dup, 1) := by decide +kernel
theorem dX1_make_122 : decode cX1_make 122 = .ok (.getfield 31, 3) := by decide +kernel
theorem dX1_make_125 : decode cX1_make 125 = .ok (.iconst 1, 1) := by decide +kernel
theorem dX1_make_126 : decode cX1_make 126 = .ok (.iadd, 1) := by decide +kernel
theorem dX1_make_127 : decode cX1_make 127 = .ok (.putfield 31, 3) := by decide +kernel
theorem dX1_make_130 : decode cX1_make 130 = .ok (.aload_n 0, 1) := by decide +kernel
theorem dX1_make_131 : decode cX1_make 131 = .ok (.getfield 31, 3) := by decide +kernel
theorem dX1_make_134 : decode cX1_make 134 = .ok (.iconst 1, 1) := by decide +kernel
theorem dX1_make_135 : decode cX1_make 135 = .ok (.isub, 1) := by decide +kernel
theorem dX1_make_136 : decode cX1_make 136 = .ok (.ireturn, 1) := by decide +kernel
theorem dX1_find_0 : decode cX1_find 0 = .ok (.iconst 0, 1) := by decide +kernel
theorem dX1_find_1 : decode cX1_find 1 = .ok (.istore 4, 2) := by decide +kernel
theorem dX1_find_3 : decode cX1_find 3 = .ok (.iload 4, 2) := by decide +kernel
theorem dX1_find_5 : decode cX1_find 5 = .ok (.aload_n 0, 1) := by decide +kernel
theorem dX1_find_6 : decode cX1_find 6 = .ok (.getfield 31, 3) := by decide +kernel
theorem dX1_find_9 : decode cX1_find 9 = .ok (.if_icmp .ge 45, 3) := by decide +kernel
theorem dX1_find_12 : decode cX1_find 12 = .ok (.aload_n 0, 1) := by decide +kernel
theorem dX1_find_13 : decode cX1_find 13 = .ok (.getfield 9, 3) := by decide +kernel
theorem dX1_find_16 : decode cX1_find 16 = .ok (.iload 4, 2) := by decide +kernel
theorem dX1_find_18 : decode cX1_find 18 = .ok (.iaload, 1) := by decide +kernel
theorem dX1_find_19 : decode cX1_find 19 = .ok (.iload_n 1, 1) := by decide +kernel
theorem dX1_find_20 : decode cX1_find 20 = .ok (.if_icmp .ne 28, 3) := by decide +kernel
theorem dX1_find_23 : decode cX1_find 23 = .ok (.aload_n 0, 1) := by decide +kernel
theorem dX1_find_24 : decode cX1_find 24 = .ok (.getfield 15, 3) := by decide +kernel
theorem dX1_find_27 : decode cX1_find 27 = .ok (.iload 4, 2) := by decide +kernel
theorem dX1_find_29 : decode cX1_find 29 = .ok (.iaload, 1) := by decide +kernel
theorem dX1_find_30 : decode cX1_find 30 = .ok (.iload_n 2, 1) := by decide +kernel
theorem dX1_find_31 : decode cX1_find 31 = .ok (.if_icmp .ne 17, 3) := by decide +kernel
theorem dX1_find_34 : decode cX1_find 34 = .ok (.aload_n 0, 1) := by decide +kernel
theorem dX1_find_35 : decode cX1_find 35 = .ok (.getfield 18, 3) := by decide +kernel
theorem dX1_find_38 : decode cX1_find 38 = .ok (.iload 4, 2) := by decide +kernel
theorem dX1_find_40 : decode cX1_find 40 = .ok (.iaload, 1) := by decide +kernel
theorem dX1_find_41 : decode cX1_find 41 = .ok (.iload_n 3, 1) := by decide +kernel
theorem dX1_find_42 : decode cX1_find 42 = .ok (.if_icmp .ne 6, 3) := by decide +kernel
theorem dX1_find_45 : decode cX1_find 45 = .ok (.iload 4, 2) := by decide +kernel
theorem dX1_find_47 : decode cX1_find 47 = .ok (.ireturn, 1) := by decide +kernel
theorem dX1_find_48 : decode cX1_find 48 = .ok (.iinc 4 1, 3) := by decide +kernel
theorem dX1_find_51 : decode cX1_find 51 = .ok (.goto (-48), 3) := by decide +kernel
theorem dX1_find_54 : decode cX1_find 54 = .ok (.iconst (-1), 1) := by decide +kernel
theorem dX1_find_55 : decode cX1_find 55 = .ok (.ireturn, 1) := by decide +kernel
set_option maxRecDepth 20000 in
theorem ggX1_tableFor_X3_isLetter : GoodIn wsX1_tableFor wsX3_isLetter := goodIn_r _ [5] (by decide +kernel) (by decide +kernel)
set_option maxRecDepth 20000 in
theorem gX1_tableFor_X3_isLetter_n57 : GoodIn wsX1_tableFor (wsX3_isLetter) := ggX1_tableFor_X3_isLetter
set_option maxRecDepth 20000 in
theorem ggX1_tableFor_X1_tableOf : GoodIn wsX1_tableFor wsX1_tableOf := goodIn_r _ [10, 11, 12, 13, 14, 9, 15, 16, 17, 18, 19, 20, 21, 22, 23] (by decide +kernel) (by decide +kernel)
set_option maxRecDepth 20000 in
theorem gX1_tableFor_X1_tableOf : GoodIn wsX1_tableFor (wsV RX1 63 RX1 yX1_tableOf wsX1_tableOf) := goodIn_app (goodIn_of _ (by decide +kernel)) ggX1_tableFor_X1_tableOf
theorem dX1_tableFor_0 : decode cX1_tableFor 0 = .ok (.iload_n 1, 1) := by decide +kernel
theorem dX1_tableFor_1 : decode cX1_tableFor 1 = .ok (.tableswitch 88 1 4 #[31, 48, 60, 72], 31) := by decide +kernel
theorem dX1_tableFor_32 : decode cX1_tableFor 32 = .ok (.iload_n 2, 1) := by decide +kernel
theorem dX1_tableFor_33 : decode cX1_tableFor 33 = .ok (.invokestatic 57, 3) := by decide +kernel
theorem dX1_tableFor_36 : decode cX1_tableFor 36 = .ok (.ifCond .eq 11, 3) := by decide +kernel
theorem dX1_tableFor_39 : decode cX1_tableFor 39 = .ok (.getstatic 60, 3) := by decide +kernel
theorem dX1_tableFor_42 : decode cX1_tableFor 42 = .ok (.iload_n 2, 1) := by decide +kernel
theorem dX1_tableFor_43 : decode cX1_tableFor 43 = .ok (.laload, 1) := by decide +kernel
theorem dX1_tableFor_44 : decode cX1_tableFor 44 = .ok (.goto 4, 3) := by decide +kernel
theorem dX1_tableFor_47 : decode cX1_tableFor 47 = .ok (.lconst 0, 1) := by decide +kernel
theorem dX1_tableFor_48 : decode cX1_tableFor 48 = .ok (.lreturn, 1) := by decide +kernel
theorem dX1_tableFor_49 : decode cX1_tableFor 49 = .ok (.aload_n 0, 1) := by decide +kernel
theorem dX1_tableFor_50 : decode cX1_tableFor 50 = .ok (.iload_n 2, 1) := by decide +kernel
theorem dX1_tableFor_51 : decode cX1_tableFor 51 = .ok (.invokevirtual 63, 3) := by decide +kernel
theorem dX1_tableFor_54 : decode cX1_tableFor 54 = .ok (.aload_n 0, 1) := by decide +kernel
theorem dX1_tableFor_55 : decode cX1_tableFor 55 = .ok (.iload_n 3, 1) := by decide +kernel
theorem dX1_tableFor_56 : decode cX1_tableFor 56 = .ok (.invokevirtual 63, 3) := by decide +kernel
theorem dX1_tableFor_59 : decode cX1_tableFor 59 = .ok (.land, 1) := by decide +kernel
theorem dX1_tableFor_60 : decode cX1_tableFor 60 = .ok (.lreturn, 1) := by decide +kernel
theorem dX1_tableFor_61 : decode cX1_tableFor 61 = .ok (.aload_n 0, 1) := by decide +kernel
theorem dX1_tableFor_62 : decode cX1_tableFor 62 = .ok (.iload_n 2, 1) := by decide +kernel
theorem dX1_tableFor_63 : decode cX1_tableFor 63 = .ok (.invokevirtual 63, 3) := by decide +kernel
theorem dX1_tableFor_66 : decode cX1_tableFor 66 = .ok (.aload_n 0, 1) := by decide +kernel
theorem dX1_tableFor_67 : decode cX1_tableFor 67 = .ok (.iload_n 3, 1) := by decide +kernel
theorem dX1_tableFor_68 : decode cX1_tableFor 68 = .ok (.invokevirtual 63, 3) := by decide +kernel
theorem dX1_tableFor_71 : decode cX1_tableFor 71 = .ok (.lor, 1) := by decide +kernel
theorem dX1_tableFor_72 : decode cX1_tableFor 72 = .ok (.lreturn, 1) := by decide +kernel
theorem dX1_tableFor_73 : decode cX1_tableFor 73 = .ok (.aload_n 0, 1) := by decide +kernel
theorem dX1_tableFor_74 : decode cX1_tableFor 74 = .ok (.iload_n 2, 1) := by decide +kernel
theorem dX1_tableFor_75 : decode cX1_tableFor 75 = .ok (.invokevirtual 63, 3) := by decide +kernel
theorem dX1_tableFor_78 : decode cX1_tableFor 78 = .ok (.ldc2_w 67, 3) := by decide +kernel
theorem dX1_tableFor_81 : decode cX1_tableFor 81 = .ok (.lxor, 1) := by decide +kernel
theorem dX1_tableFor_82 : decode cX1_tableFor 82 = .ok (.aload_n 0, 1) := by decide +kernel
theorem dX1_tableFor_83 : decode cX1_tableFor 83 = .ok (.iload_n 3, 1) := by decide +kernel
theorem dX1_tableFor_84 : decode cX1_tableFor 84 = .ok (.invokevirtual 63, 3) := by decide +kernel
theorem dX1_tableFor_87 : decode cX1_tableFor 87 = .ok (.lor, 1) := by decide +kernel
theorem dX1_tableFor_88 : decode cX1_tableFor 88 = .ok (.lreturn, 1) := by decide +kernel
theorem dX1_tableFor_89 : decode cX1_tableFor 89 = .ok (.lconst 0, 1) := by decide +kernel
theorem dX1_tableFor_90 : decode cX1_tableFor 90 = .ok (.lreturn, 1) := by decide +kernel
set_option maxRecDepth 20000 in
theorem ggX1_replace_J7_fill_53178 : GoodIn wsX1_replace wsJ7_fill_53178 := goodIn_r _ [5] (by decide +kernel) (by decide +kernel)
set_option maxRecDepth 20000 in
theorem gX1_replace_J7_fill_53178 : GoodIn wsX1_replace (va_wsS RX1 69 yJ7_fill_53178 wsJ7_fill_53178) := goodIn_app (goodIn_of _ (by decide +kernel)) ggX1_replace_J7_fill_53178
set_option maxRecDepth 20000 in
theorem ggX1_replace_X1_replaceIn : GoodIn wsX1_replace wsX1_replaceIn := goodIn_r _ [10, 11, 12, 1, 13, 14, 15, 16, 9, 17, 18, 6, 7, 8, 19, 20, 21, 22, 23, 24, 25, 26, 27, 28, 29, 30, 31, 32, 33, 34, 35, 36, 37, 38, 39, 40, 41, 42, 43, 44, 45, 46, 47, 48, 49, 50, 51, 52, 53, 54, 55, 56] (by decide +kernel) (by decide +kernel)
set_option maxRecDepth 20000 in
theorem gX1_replace_X1_replaceIn : GoodIn wsX1_replace (wsV RX1 75 RX1 yX1_replaceIn wsX1_replaceIn) := goodIn_app (goodIn_of _ (by decide +kernel)) ggX1_replace_X1_replaceIn
theorem dX1_replace_0 : decode cX1_replace 0 = .ok (.aload_n 0, 1) := by decide +kernel
theorem dX1_replace_1 : decode cX1_replace 1 = .ok (.getfield 28, 3) := by decide +kernel
theorem dX1_replace_4 : decode cX1_replace 4 = .ok (.iconst (-1), 1) := by decide +kernel
theorem dX1_replace_5 : decode cX1_replace 5 = .ok (.invokestatic 69, 3) := by decide +kernel
theorem dX1_replace_8 : decode cX1_replace 8 = .ok (.aload_n 0, 1) := by decide +kernel
theorem dX1_replace_9 : decode cX1_replace 9 = .ok (.iload_n 1, 1) := by decide +kernel
theorem dX1_replace_10 : decode cX1_replace 10 = .ok (.iload_n 2, 1) := by decide +kernel
theorem dX1_replace_11 : decode cX1_replace 11 = .ok (.iload_n 3, 1) := by decide +kernel
theorem dX1_replace_12 : decode cX1_replace 12 = .ok (.iconst 1, 1) := by decide +kernel
theorem dX1_replace_13 : decode cX1_replace 13 = .ok (.invokevirtual 75, 3) := by decide +kernel
theorem dX1_replace_16 : decode cX1_replace 16 = .ok (.ireturn, 1) := by decide +kernel
set_option maxRecDepth 20000 in
theorem ggX1_replaceIn_X1_has : GoodIn wsX1_replaceIn wsX1_has := goodIn_r _ [9, 10, 45, 46, 47, 48, 49, 50, 51] (by decide +kernel) (by decide +kernel)
set_option maxRecDepth 20000 in
theorem gX1_replaceIn_X1_has : GoodIn wsX1_replaceIn (wsV RX1 35 RX1 yX1_has wsX1_has) := goodIn_app (goodIn_of _ (by decide +kernel)) ggX1_replaceIn_X1_has
set_option maxRecDepth 20000 in
theorem ggX1_replaceIn_X1_replaceIn : GoodIn wsX1_replaceIn wsX1_replaceIn := goodIn_r _ [0, 1, 2, 3, 4, 5, 6, 7, 8, 9, 10, 11, 12, 13, 14, 15, 16, 17, 18, 19, 20, 21, 22, 23, 24, 25, 26, 27, 28, 29, 30, 31, 32, 33, 34, 35, 36, 37, 38, 39, 40, 41, 42, 43, 44, 45, 46, 47, 48, 49, 50, 51] (by decide +kernel) (by decide +kernel)
set_option maxRecDepth 20000 in
theorem gX1_replaceIn_X1_replaceIn : GoodIn wsX1_replaceIn (wsV RX1 75 RX1 yX1_replaceIn wsX1_replaceIn) := goodIn_app (goodIn_of _ (by decide +kernel)) ggX1_replaceIn_X1_replaceIn
set_option maxRecDepth 20000 in
theorem ggX1_replaceIn_X1_make : GoodIn wsX1_replaceIn wsX1_make := goodIn_r _ [17, 18, 19, 20, 21, 10, 1, 2, 4, 22, 23, 24, 25, 26, 8, 27, 28, 29, 30, 31, 5, 6, 7, 9, 32, 33, 34, 35, 36, 37, 38, 39, 40, 41, 42, 43, 44, 45, 46, 47, 48, 49, 50, 51] (by decide +kernel) (by decide +kernel)
set_option maxRecDepth 20000 in
theorem gX1_replaceIn_X1_make : GoodIn wsX1_replaceIn (wsV RX1 79 RX1 yX1_make wsX1_make) := goodIn_app (goodIn_of _ (by decide +kernel)) ggX1_replaceIn_X1_make
theorem dX1_replaceIn_0 : decode cX1_replaceIn 0 = .ok (.iload 4, 2) := by decide +kernel
theorem dX1_replaceIn_2 : decode cX1_replaceIn 2 = .ok (.bipush 12, 2) := by decide +kernel
theorem dX1_replaceIn_4 : decode cX1_replaceIn 4 = .ok (.if_icmp .gt 11, 3) := by decide +kernel
theorem dX1_replaceIn_7 : decode cX1_replaceIn 7 = .ok (.aload_n 0, 1) := by decide +kernel
theorem dX1_replaceIn_8 : decode cX1_replaceIn 8 = .ok (.iload_n 1, 1) := by decide +kernel
theorem dX1_replaceIn_9 : decode cX1_replaceIn 9 = .ok (.invokevirtual 35, 3) := by decide +kernel
theorem dX1_replaceIn_12 : decode cX1_replaceIn 12 = .ok (.ifCond .ne 6, 3) := by decide +kernel
theorem dX1_replaceIn_15 : decode cX1_replaceIn 15 = .ok (.bipush (-4), 2) := by decide +kernel
theorem dX1_replaceIn_17 : decode cX1_replaceIn 17 = .ok (.ireturn, 1) := by decide +kernel
theorem dX1_replaceIn_18 : decode cX1_replaceIn 18 = .ok (.aload_n 0, 1) := by decide +kernel
theorem dX1_replaceIn_19 : decode cX1_replaceIn 19 = .ok (.getfield 9, 3) := by decide +kernel
theorem dX1_replaceIn_22 : decode cX1_replaceIn 22 = .ok (.iload_n 1, 1) := by decide +kernel
theorem dX1_replaceIn_23 : decode cX1_replaceIn 23 = .ok (.iaload, 1) := by decide +kernel
theorem dX1_replaceIn_24 : decode cX1_replaceIn 24 = .ok (.iconst 2, 1) := by decide +kernel
theorem dX1_replaceIn_25 : decode cX1_replaceIn 25 = .ok (.if_icmp .ge 29, 3) := by decide +kernel
theorem dX1_replaceIn_28 : decode cX1_replaceIn 28 = .ok (.aload_n 0, 1) := by decide +kernel
theorem dX1_replaceIn_29 : decode cX1_replaceIn 29 = .ok (.getfield 9, 3) := by decide +kernel
theorem dX1_replaceIn_32 : decode cX1_replaceIn 32 = .ok (.iload_n 1, 1) := by decide +kernel
theorem dX1_replaceIn_33 : decode cX1_replaceIn 33 = .ok (.iaload, 1) := by decide +kernel
theorem dX1_replaceIn_34 : decode cX1_replaceIn 34 = .ok (.iconst 1, 1) := by decide +kernel
theorem dX1_replaceIn_35 : decode cX1_replaceIn 35 = .ok (.if_icmp .ne 17, 3) := by decide +kernel
theorem dX1_replaceIn_38 : decode cX1_replaceIn 38 = .ok (.aload_n 0, 1) := by decide +kernel
theorem dX1_replaceIn_39 : decode cX1_replaceIn 39 = .ok (.getfield 15, 3) := by decide +kernel
theorem dX1_replaceIn_42 : decode cX1_replaceIn 42 = .ok (.iload_n 1, 1) := by decide +kernel
theorem dX1_replaceIn_43 : decode cX1_replaceIn 43 = .ok (.iaload, 1) := by decide +kernel
theorem dX1_replaceIn_44 : decode cX1_replaceIn 44 = .ok (.iload_n 2, 1) := by decide +kernel
theorem dX1_replaceIn_45 : decode cX1_replaceIn 45 = .ok (.if_icmp .ne 7, 3) := by decide +kernel
theorem dX1_replaceIn_48 : decode cX1_replaceIn 48 = .ok (.iload_n 3, 1) := by decide +kernel
theorem dX1_replaceIn_49 : decode cX1_replaceIn 49 = .ok (.goto 4, 3) := by decide +kernel
theorem dX1_replaceIn_52 : decode cX1_replaceIn 52 = .ok (.iload_n 1, 1) := by decide +kernel
theorem dX1_replaceIn_53 : decode cX1_replaceIn 53 = .ok (.ireturn, 1) := by decide +kernel
theorem dX1_replaceIn_54 : decode cX1_replaceIn 54 = .ok (.aload_n 0, 1) := by decide +kernel
theorem dX1_replaceIn_55 : decode cX1_replaceIn 55 = .ok (.getfield 28, 3) := by decide +kernel
theorem dX1_replaceIn_58 : decode cX1_replaceIn 58 = .ok (.iload_n 1, 1) := by decide +kernel
theorem dX1_replaceIn_59 : decode cX1_replaceIn 59 = .ok (.iaload, 1) := by decide +kernel
theorem dX1_replaceIn_60 : decode cX1_replaceIn 60 = .ok (.iconst (-1), 1) := by decide +kernel
theorem dX1_replaceIn_61 : decode cX1_replaceIn 61 = .ok (.if_icmp .eq 10, 3) := by decide +kernel
theorem dX1_replaceIn_64 : decode cX1_replaceIn 64 = .ok (.aload_n 0, 1) := by decide +kernel
theorem dX1_replaceIn_65 : decode cX1_replaceIn 65 = .ok (.getfield 28, 3) := by decide +kernel
theorem dX1_replaceIn_68 : decode cX1_replaceIn 68 = .ok (.iload_n 1, 1) := by decide +kernel
theorem dX1_replaceIn_69 : decode cX1_replaceIn 69 = .ok (.iaload, 1) := by decide +kernel
theorem dX1_replaceIn_70 : decode cX1_replaceIn 70 = .ok (.ireturn, 1) := by decide +kernel
theorem dX1_replaceIn_71 : decode cX1_replaceIn 71 = .ok (.aload_n 0, 1) := by decide +kernel
theorem dX1_replaceIn_72 : decode cX1_replaceIn 72 = .ok (.aload_n 0, 1) := by decide +kernel
theorem dX1_replaceIn_73 : decode cX1_replaceIn 73 = .ok (.getfield 15, 3) := by decide +kernel
theorem dX1_replaceIn_76 : decode cX1_replaceIn 76 = .ok (.iload_n 1, 1) := by decide +kernel
theorem dX1_replaceIn_77 : decode cX1_replaceIn 77 = .ok (.iaload, 1) := by decide +kernel
theorem dX1_replaceIn_78 : decode cX1_replaceIn 78 = .ok (.iload_n 2, 1) := by decide +kernel
theorem dX1_replaceIn_79 : decode cX1_replaceIn 79 = .ok (.iload_n 3, 1) := by decide +kernel
theorem dX1_replaceIn_80 : decode cX1_replaceIn 80 = .ok (.iload 4, 2) := by decide +kernel
theorem dX1_replaceIn_82 : decode cX1_replaceIn 82 = .ok (.iconst 1, 1) := by decide +kernel
theorem dX1_replaceIn_83 : decode cX1_replaceIn 83 = .ok (.iadd, 1) := by decide +kernel
theorem dX1_replaceIn_84 : decode cX1_replaceIn 84 = .ok (.invokevirtual 75, 3) := by decide +kernel
theorem dX1_replaceIn_87 : decode cX1_replaceIn 87 = .ok (.istore 5, 2) := by decide +kernel
theorem dX1_replaceIn_89 : decode cX1_replaceIn 89 = .ok (.iload 5, 2) := by decide +kernel
theorem dX1_replaceIn_91 : decode cX1_replaceIn 91 = .ok (.bipush (-4), 2) := by decide +kernel
theorem dX1_replaceIn_93 : decode cX1_replaceIn 93 = .ok (.if_icmp .ne 6, 3) := by decide +kernel
theorem dX1_replaceIn_96 : decode cX1_replaceIn 96 = .ok (.bipush (-4), 2) := by decide +kernel
theorem dX1_replaceIn_98 : decode cX1_replaceIn 98 = .ok (.ireturn, 1) := by decide +kernel
theorem dX1_replaceIn_99 : decode cX1_replaceIn 99 = .ok (.aload_n 0, 1) := by decide +kernel
theorem dX1_replaceIn_100 : decode cX1_replaceIn 100 = .ok (.aload_n 0, 1) := by decide +kernel
theorem dX1_replaceIn_101 : decode cX1_replaceIn 101 = .ok (.getfield 18, 3) := by decide +kernel
theorem dX1_replaceIn_104 : decode cX1_replaceIn 104 = .ok (.iload_n 1, 1) := by decide +kernel
theorem dX1_replaceIn_105 : decode cX1_replaceIn 105 = .ok (.iaload, 1) := by decide +kernel
theorem dX1_replaceIn_106 : decode cX1_replaceIn 106 = .ok (.iload_n 2, 1) := by decide +kernel
theorem dX1_replaceIn_107 : decode cX1_replaceIn 107 = .ok (.iload_n 3, 1) := by decide +kernel
theorem dX1_replaceIn_108 : decode cX1_replaceIn 108 = .ok (.iload 4, 2) := by decide +kernel
theorem dX1_replaceIn_110 : decode cX1_replaceIn 110 = .ok (.iconst 1, 1) := by decide +kernel
theorem dX1_replaceIn_111 : decode cX1_replaceIn 111 = .ok (.iadd, 1) := by decide +kernel
theorem dX1_replaceIn_112 : decode cX1_replaceIn 112 = .ok (.invokevirtual 75, 3) := by decide +kernel
theorem dX1_replaceIn_115 : decode cX1_replaceIn 115 = .ok (.istore 6, 2) := by decide +kernel
theorem dX1_replaceIn_117 : decode cX1_replaceIn 117 = .ok (.iload 6, 2) := by decide +kernel
theorem dX1_replaceIn_119 : decode cX1_replaceIn 119 = .ok (.bipush (-4), 2) := by decide +kernel
theorem dX1_replaceIn_121 : decode cX1_replaceIn 121 = .ok (.if_icmp .ne 6, 3) := by decide +kernel
theorem dX1_replaceIn_124 : decode cX1_replaceIn 124 = .ok (.bipush (-4), 2) := by decide +kernel
theorem dX1_replaceIn_126 : decode cX1_replaceIn 126 = .ok (.ireturn, 1) := by decide +kernel
theorem dX1_replaceIn_127 : decode cX1_replaceIn 127 = .ok (.aload_n 0, 1) := by decide +kernel
theorem dX1_replaceIn_128 : decode cX1_replaceIn 128 = .ok (.getfield 28, 3) := by decide +kernel
theorem dX1_replaceIn_131 : decode cX1_replaceIn 131 = .ok (.iload_n 1, 1) := by decide +kernel
theorem dX1_replaceIn_132 : decode cX1_replaceIn 132 = .ok (.aload_n 0, 1) := by decide +kernel
theorem dX1_replaceIn_133 : decode cX1_replaceIn 133 = .ok (.aload_n 0, 1) := by decide +kernel
theorem dX1_replaceIn_134 : decode cX1_replaceIn 134 = .ok (.getfield 9, 3) := by decide +kernel
theorem dX1_replaceIn_137 : decode cX1_replaceIn 137 = .ok (.iload_n 1, 1) := by decide +kernel
theorem dX1_replaceIn_138 : decode cX1_replaceIn 138 = .ok (.iaload, 1) := by decide +kernel
theorem dX1_replaceIn_139 : decode cX1_replaceIn 139 = .ok (.iload 5, 2) := by decide +kernel
theorem dX1_replaceIn_141 : decode cX1_replaceIn 141 = .ok (.iload 6, 2) := by decide +kernel
theorem dX1_replaceIn_143 : decode cX1_replaceIn 143 = .ok (.invokevirtual 79, 3) := by decide +kernel
theorem dX1_replaceIn_146 : decode cX1_replaceIn 146 = .ok (.iastore, 1) := by decide +kernel
theorem dX1_replaceIn_147 : decode cX1_replaceIn 147 = .ok (.aload_n 0, 1) := by decide +kernel
theorem dX1_replaceIn_148 : decode cX1_replaceIn 148 = .ok (.getfield 28, 3) := by decide +kernel
theorem dX1_replaceIn_151 : decode cX1_replaceIn 151 = .ok (.iload_n 1, 1) := by decide +kernel
theorem dX1_replaceIn_152 : decode cX1_replaceIn 152 = .ok (.iaload, 1) := by decide +kernel
theorem dX1_replaceIn_153 : decode cX1_replaceIn 153 = .ok (.ireturn, 1) := by decide +kernel
theorem dX2_init_0 : decode cX2_init 0 = .ok (.aload_n 0, 1) := by decide +kernel
theorem dX2_init_1 : decode cX2_init 1 = .ok (.invokespecial 3, 3) := by decide +kernel
theorem dX2_init_4 : decode cX2_init 4 = .ok (.aload_n 0, 1) := by decide +kernel
theorem dX2_init_5 : decode cX2_init 5 = .ok (.bipush 60, 2) := by decide +kernel
theorem dX2_init_7 : decode cX2_init 7 = .ok (.newarray .boolean, 2) := by decide +kernel
theorem dX2_init_9 : decode cX2_init 9 = .ok (.putfield 9, 3) := by decide +kernel
theorem dX2_init_12 : decode cX2_init 12 = .ok (.aload_n 0, 1) := by decide +kernel
theorem dX2_init_13 : decode cX2_init 13 = .ok (.bipush 60, 2) := by decide +kernel
theorem dX2_init_15 : decode cX2_init 15 = .ok (.newarray .int, 2) := by decide +kernel
theorem dX2_init_17 : decode cX2_init 17 = .ok (.putfield 15, 3) := by decide +kernel
theorem dX2_init_20 : decode cX2_init 20 = .ok (.aload_n 0, 1) := by decide +kernel
theorem dX2_init_21 : decode cX2_init 21 = .ok (.bipush 60, 2) := by decide +kernel
theorem dX2_init_23 : decode cX2_init 23 = .ok (.newarray .int, 2) := by decide +kernel
theorem dX2_init_25 : decode cX2_init 25 = .ok (.putfield 19, 3) := by decide +kernel
theorem dX2_init_28 : decode cX2_init 28 = .ok (.aload_n 0, 1) := by decide +kernel
theorem dX2_init_29 : decode cX2_init 29 = .ok (.bipush 60, 2) := by decide +kernel
theorem dX2_init_31 : decode cX2_init 31 = .ok (.newarray .int, 2) := by decide +kernel
theorem dX2_init_33 : decode cX2_init 33 = .ok (.putfield 22, 3) := by decide +kernel
theorem dX2_init_36 : decode cX2_init 36 = .ok (.aload_n 0, 1) := by decide +kernel
theorem dX2_init_37 : decode cX2_init 37 = .ok (.bipush 60, 2) := by decide +kernel
theorem dX2_init_39 : decode cX2_init 39 = .ok (.newarray .int, 2) := by decide +kernel
theorem dX2_init_41 : decode cX2_init 41 = .ok (.putfield 25, 3) := by decide +kernel
theorem dX2_init_44 : decode cX2_init 44 = .ok (.aload_n 0, 1) := by decide +kernel
theorem dX2_init_45 : decode cX2_init 45 = .ok (.bipush 60, 2) := by decide +kernel
theorem dX2_init_47 : decode cX2_init 47 = .ok (.newarray .int, 2) := by decide +kernel
theorem dX2_init_49 : decode cX2_init 49 = .ok (.putfield 28, 3) := by decide +kernel
theorem dX2_init_52 : decode cX2_init 52 = .ok (.return_, 1) := by decide +kernel
set_option maxRecDepth 20000 in
theorem ggX2_isLaid_X3_isLine : GoodIn wsX2_isLaid wsX3_isLine := goodIn_r _ [4] (by decide +kernel) (by decide +kernel)
set_option maxRecDepth 20000 in
theorem gX2_isLaid_X3_isLine_n31 : GoodIn wsX2_isLaid (wsX3_isLine) := ggX2_isLaid_X3_isLine
theorem dX2_isLaid_0 : decode cX2_isLaid 0 = .ok (.iload_n 1, 1) := by decide +kernel
theorem dX2_isLaid_1 : decode cX2_isLaid 1 = .ok (.invokestatic 31, 3) := by decide +kernel
theorem dX2_isLaid_4 : decode cX2_isLaid 4 = .ok (.ifCond .eq 16, 3) := by decide +kernel
theorem dX2_isLaid_7 : decode cX2_isLaid 7 = .ok (.aload_n 0, 1) := by decide +kernel
theorem dX2_isLaid_8 : decode cX2_isLaid 8 = .ok (.getfield 9, 3) := by decide +kernel
theorem dX2_isLaid_11 : decode cX2_isLaid 11 = .ok (.iload_n 1, 1) := by decide +kernel
theorem dX2_isLaid_12 : decode cX2_isLaid 12 = .ok (.baload, 1) := by decide +kernel
theorem dX2_isLaid_13 : decode cX2_isLaid 13 = .ok (.ifCond .eq 7, 3) := by decide +kernel
theorem dX2_isLaid_16 : decode cX2_isLaid 16 = .ok (.iconst 1, 1) := by decide +kernel
theorem dX2_isLaid_17 : decode cX2_isLaid 17 = .ok (.goto 4, 3) := by decide +kernel
theorem dX2_isLaid_20 : decode cX2_isLaid 20 = .ok (.iconst 0, 1) := by decide +kernel
theorem dX2_isLaid_21 : decode cX2_isLaid 21 = .ok (.ireturn, 1) := by decide +kernel
set_option maxRecDepth 20000 in
theorem ggX2_put_X3_isLine : GoodIn wsX2_put wsX3_isLine := goodIn_r _ [9] (by decide +kernel) (by decide +kernel)
set_option maxRecDepth 20000 in
theorem gX2_put_X3_isLine_n31 : GoodIn wsX2_put (wsX3_isLine) := ggX2_put_X3_isLine
theorem dX2_put_0 : decode cX2_put 0 = .ok (.iload_n 1, 1) := by decide +kernel
theorem dX2_put_1 : decode cX2_put 1 = .ok (.invokestatic 31, 3) := by decide +kernel
theorem dX2_put_4 : decode cX2_put 4 = .ok (.ifCond .eq 48, 3) := by decide +kernel
theorem dX2_put_7 : decode cX2_put 7 = .ok (.aload_n 0, 1) := by decide +kernel
theorem dX2_put_8 : decode cX2_put 8 = .ok (.getfield 9, 3) := by decide +kernel
theorem dX2_put_11 : decode cX2_put 11 = .ok (.iload_n 1, 1) := by decide +kernel
theorem dX2_put_12 : decode cX2_put 12 = .ok (.iconst 1, 1) := by decide +kernel
theorem dX2_put_13 : decode cX2_put 13 = .ok (.bastore, 1) := by decide +kernel
theorem dX2_put_14 : decode cX2_put 14 = .ok (.aload_n 0, 1) := by decide +kernel
theorem dX2_put_15 : decode cX2_put 15 = .ok (.getfield 15, 3) := by decide +kernel
theorem dX2_put_18 : decode cX2_put 18 = .ok (.iload_n 1, 1) := by decide +kernel
theorem dX2_put_19 : decode cX2_put 19 = .ok (.iload_n 2, 1) := by decide +kernel
theorem dX2_put_20 : decode cX2_put 20 = .ok (.iastore, 1) := by decide +kernel
theorem dX2_put_21 : decode cX2_put 21 = .ok (.aload_n 0, 1) := by decide +kernel
theorem dX2_put_22 : decode cX2_put 22 = .ok (.getfield 19, 3) := by decide +kernel
theorem dX2_put_25 : decode cX2_put 25 = .ok (.iload_n 1, 1) := by decide +kernel
theorem dX2_put_26 : decode cX2_put 26 = .ok (.iload_n 3, 1) := by decide +kernel
theorem dX2_put_27 : decode cX2_put 27 = .ok (.iastore, 1) := by decide +kernel
theorem dX2_put_28 : decode cX2_put 28 = .ok (.aload_n 0, 1) := by decide +kernel
theorem dX2_put_29 : decode cX2_put 29 = .ok (.getfield 22, 3) := by decide +kernel
theorem dX2_put_32 : decode cX2_put 32 = .ok (.iload_n 1, 1) := by decide +kernel
theorem dX2_put_33 : decode cX2_put 33 = .ok (.iload 4, 2) := by decide +kernel
theorem dX2_put_35 : decode cX2_put 35 = .ok (.iastore, 1) := by decide +kernel
theorem dX2_put_36 : decode cX2_put 36 = .ok (.aload_n 0, 1) := by decide +kernel
theorem dX2_put_37 : decode cX2_put 37 = .ok (.getfield 25, 3) := by decide +kernel
theorem dX2_put_40 : decode cX2_put 40 = .ok (.iload_n 1, 1) := by decide +kernel
theorem dX2_put_41 : decode cX2_put 41 = .ok (.iload 5, 2) := by decide +kernel
theorem dX2_put_43 : decode cX2_put 43 = .ok (.iastore, 1) := by decide +kernel
theorem dX2_put_44 : decode cX2_put 44 = .ok (.aload_n 0, 1) := by decide +kernel
theorem dX2_put_45 : decode cX2_put 45 = .ok (.getfield 28, 3) := by decide +kernel
theorem dX2_put_48 : decode cX2_put 48 = .ok (.iload_n 1, 1) := by decide +kernel
theorem dX2_put_49 : decode cX2_put 49 = .ok (.iload 6, 2) := by decide +kernel
theorem dX2_put_51 : decode cX2_put 51 = .ok (.iastore, 1) := by decide +kernel
theorem dX2_put_52 : decode cX2_put 52 = .ok (.return_, 1) := by decide +kernel
set_option maxRecDepth 20000 in
theorem ggX2_clear_X3_isLine : GoodIn wsX2_clear wsX3_isLine := goodIn_r _ [4] (by decide +kernel) (by decide +kernel)
set_option maxRecDepth 20000 in
theorem gX2_clear_X3_isLine_n31 : GoodIn wsX2_clear (wsX3_isLine) := ggX2_clear_X3_isLine
theorem dX2_clear_0 : decode cX2_clear 0 = .ok (.iload_n 1, 1) := by decide +kernel
theorem dX2_clear_1 : decode cX2_clear 1 = .ok (.invokestatic 31, 3) := by decide +kernel
theorem dX2_clear_4 : decode cX2_clear 4 = .ok (.ifCond .eq 10, 3) := by decide +kernel
theorem dX2_clear_7 : decode cX2_clear 7 = .ok (.aload_n 0, 1) := by decide +kernel
theorem dX2_clear_8 : decode cX2_clear 8 = .ok (.getfield 9, 3) := by decide +kernel
theorem dX2_clear_11 : decode cX2_clear 11 = .ok (.iload_n 1, 1) := by decide +kernel
theorem dX2_clear_12 : decode cX2_clear 12 = .ok (.iconst 0, 1) := by decide +kernel
theorem dX2_clear_13 : decode cX2_clear 13 = .ok (.bastore, 1) := by decide +kernel
theorem dX2_clear_14 : decode cX2_clear 14 = .ok (.return_, 1) := by decide +kernel
set_option maxRecDepth 20000 in
theorem ggX2_ruleOf_X3_isLine : GoodIn wsX2_ruleOf wsX3_isLine := goodIn_r _ [4] (by decide +kernel) (by decide +kernel)
set_option maxRecDepth 20000 in
theorem gX2_ruleOf_X3_isLine_n31 : GoodIn wsX2_ruleOf (wsX3_isLine) := ggX2_ruleOf_X3_isLine
theorem dX2_ruleOf_0 : decode cX2_ruleOf 0 = .ok (.iload_n 1, 1) := by decide +kernel
theorem dX2_ruleOf_1 : decode cX2_ruleOf 1 = .ok (.invokestatic 31, 3) := by decide +kernel
theorem dX2_ruleOf_4 : decode cX2_ruleOf 4 = .ok (.ifCond .eq 12, 3) := by decide +kernel
theorem dX2_ruleOf_7 : decode cX2_ruleOf 7 = .ok (.aload_n 0, 1) := by decide +kernel
theorem dX2_ruleOf_8 : decode cX2_ruleOf 8 = .ok (.getfield 15, 3) := by decide +kernel
theorem dX2_ruleOf_11 : decode cX2_ruleOf 11 = .ok (.iload_n 1, 1) := by decide +kernel
theorem dX2_ruleOf_12 : decode cX2_ruleOf 12 = .ok (.iaload, 1) := by decide +kernel
theorem dX2_ruleOf_13 : decode cX2_ruleOf 13 = .ok (.goto 4, 3) := by decide +kernel
theorem dX2_ruleOf_16 : decode cX2_ruleOf 16 = .ok (.iconst (-1), 1) := by decide +kernel
theorem dX2_ruleOf_17 : decode cX2_ruleOf 17 = .ok (.ireturn, 1) := by decide +kernel
set_option maxRecDepth 20000 in
theorem ggX2_pOf_X3_isLine : GoodIn wsX2_pOf wsX3_isLine := goodIn_r _ [4] (by decide +kernel) (by decide +kernel)
set_option maxRecDepth 20000 in
theorem gX2_pOf_X3_isLine_n31 : GoodIn wsX2_pOf (wsX3_isLine) := ggX2_pOf_X3_isLine
theorem dX2_pOf_0 : decode cX2_pOf 0 = .ok (.iload_n 1, 1) := by decide +kernel
theorem dX2_pOf_1 : decode cX2_pOf 1 = .ok (.invokestatic 31, 3) := by decide +kernel
theorem dX2_pOf_4 : decode cX2_pOf 4 = .ok (.ifCond .eq 12, 3) := by decide +kernel
theorem dX2_pOf_7 : decode cX2_pOf 7 = .ok (.aload_n 0, 1) := by decide +kernel
theorem dX2_pOf_8 : decode cX2_pOf 8 = .ok (.getfield 19, 3) := by decide +kernel
theorem dX2_pOf_11 : decode cX2_pOf 11 = .ok (.iload_n 1, 1) := by decide +kernel
theorem dX2_pOf_12 : decode cX2_pOf 12 = .ok (.iaload, 1) := by decide +kernel
theorem dX2_pOf_13 : decode cX2_pOf 13 = .ok (.goto 4, 3) := by decide +kernel
theorem dX2_pOf_16 : decode cX2_pOf 16 = .ok (.iconst (-1), 1) := by decide +kernel
theorem dX2_pOf_17 : decode cX2_pOf 17 = .ok (.ireturn, 1) := by decide +kernel
set_option maxRecDepth 20000 in
theorem ggX2_qOf_X3_isLine : GoodIn wsX2_qOf wsX3_isLine := goodIn_r _ [4] (by decide +kernel) (by decide +kernel)
set_option maxRecDepth 20000 in
theorem gX2_qOf_X3_isLine_n31 : GoodIn wsX2_qOf (wsX3_isLine) := ggX2_qOf_X3_isLine
theorem dX2_qOf_0 : decode cX2_qOf 0 = .ok (.iload_n 1, 1) := by decide +kernel
theorem dX2_qOf_1 : decode cX2_qOf 1 = .ok (.invokestatic 31, 3) := by decide +kernel
theorem dX2_qOf_4 : decode cX2_qOf 4 = .ok (.ifCond .eq 12, 3) := by decide +kernel
theorem dX2_qOf_7 : decode cX2_qOf 7 = .ok (.aload_n 0, 1) := by decide +kernel
theorem dX2_qOf_8 : decode cX2_qOf 8 = .ok (.getfield 22, 3) := by decide +kernel
theorem dX2_qOf_11 : decode cX2_qOf 11 = .ok (.iload_n 1, 1) := by decide +kernel
theorem dX2_qOf_12 : decode cX2_qOf 12 = .ok (.iaload, 1) := by decide +kernel
theorem dX2_qOf_13 : decode cX2_qOf 13 = .ok (.goto 4, 3) := by decide +kernel
theorem dX2_qOf_16 : decode cX2_qOf 16 = .ok (.iconst (-1), 1) := by decide +kernel
theorem dX2_qOf_17 : decode cX2_qOf 17 = .ok (.ireturn, 1) := by decide +kernel
set_option maxRecDepth 20000 in
theorem ggX2_rOf_X3_isLine : GoodIn wsX2_rOf wsX3_isLine := goodIn_r _ [4] (by decide +kernel) (by decide +kernel)
set_option maxRecDepth 20000 in
theorem gX2_rOf_X3_isLine_n31 : GoodIn wsX2_rOf (wsX3_isLine) := ggX2_rOf_X3_isLine
theorem dX2_rOf_0 : decode cX2_rOf 0 = .ok (.iload_n 1, 1) := by decide +kernel
theorem dX2_rOf_1 : decode cX2_rOf 1 = .ok (.invokestatic 31, 3) := by decide +kernel
theorem dX2_rOf_4 : decode cX2_rOf 4 = .ok (.ifCond .eq 12, 3) := by decide +kernel
theorem dX2_rOf_7 : decode cX2_rOf 7 = .ok (.aload_n 0, 1) := by decide +kernel
theorem dX2_rOf_8 : decode cX2_rOf 8 = .ok (.getfield 25, 3) := by decide +kernel
theorem dX2_rOf_11 : decode cX2_rOf 11 = .ok (.iload_n 1, 1) := by decide +kernel
theorem dX2_rOf_12 : decode cX2_rOf 12 = .ok (.iaload, 1) := by decide +kernel
theorem dX2_rOf_13 : decode cX2_rOf 13 = .ok (.goto 4, 3) := by decide +kernel
theorem dX2_rOf_16 : decode cX2_rOf 16 = .ok (.iconst (-1), 1) := by decide +kernel
theorem dX2_rOf_17 : decode cX2_rOf 17 = .ok (.ireturn, 1) := by decide +kernel
set_option maxRecDepth 20000 in
theorem ggX2_formulaOf_X3_isLine : GoodIn wsX2_formulaOf wsX3_isLine := goodIn_r _ [4] (by decide +kernel) (by decide +kernel)
set_option maxRecDepth 20000 in
theorem gX2_formulaOf_X3_isLine_n31 : GoodIn wsX2_formulaOf (wsX3_isLine) := ggX2_formulaOf_X3_isLine
theorem dX2_formulaOf_0 : decode cX2_formulaOf 0 = .ok (.iload_n 1, 1) := by decide +kernel
theorem dX2_formulaOf_1 : decode cX2_formulaOf 1 = .ok (.invokestatic 31, 3) := by decide +kernel
theorem dX2_formulaOf_4 : decode cX2_formulaOf 4 = .ok (.ifCond .eq 12, 3) := by decide +kernel
theorem dX2_formulaOf_7 : decode cX2_formulaOf 7 = .ok (.aload_n 0, 1) := by decide +kernel
theorem dX2_formulaOf_8 : decode cX2_formulaOf 8 = .ok (.getfield 28, 3) := by decide +kernel
theorem dX2_formulaOf_11 : decode cX2_formulaOf 11 = .ok (.iload_n 1, 1) := by decide +kernel
theorem dX2_formulaOf_12 : decode cX2_formulaOf 12 = .ok (.iaload, 1) := by decide +kernel
theorem dX2_formulaOf_13 : decode cX2_formulaOf 13 = .ok (.goto 4, 3) := by decide +kernel
theorem dX2_formulaOf_16 : decode cX2_formulaOf 16 = .ok (.iconst (-1), 1) := by decide +kernel
theorem dX2_formulaOf_17 : decode cX2_formulaOf 17 = .ok (.ireturn, 1) := by decide +kernel
set_option maxRecDepth 20000 in
theorem ggX3_init_X1_init : GoodIn wsX3_init wsX1_init := goodIn_r _ [17, 18, 2, 3, 19, 20, 21, 22, 23, 24, 25, 26, 27, 52, 53, 54, 55, 56, 57, 58] (by decide +kernel) (by decide +kernel)
set_option maxRecDepth 20000 in
theorem gX3_init_X1_init_n9 : GoodIn wsX3_init (wsX1_init) := ggX3_init_X1_init
set_option maxRecDepth 20000 in
theorem ggX3_init_X2_init : GoodIn wsX3_init wsX2_init := goodIn_r _ [29, 30, 2, 3, 31, 32, 19, 33, 34, 35, 36, 37, 62, 63, 64, 65, 66, 67] (by decide +kernel) (by decide +kernel)
set_option maxRecDepth 20000 in
theorem gX3_init_X2_init_n18 : GoodIn wsX3_init (wsX2_init) := ggX3_init_X2_init
set_option maxRecDepth 20000 in
theorem ggX3_init_X0_init : GoodIn wsX3_init wsX0_init := goodIn_r _ [40, 41, 2, 3, 19, 42, 43, 44, 31, 45, 46, 47, 48, 49, 50, 14, 51, 68, 69, 70, 71, 72, 73] (by decide +kernel) (by decide +kernel)
set_option maxRecDepth 20000 in
theorem gX3_init_X0_init : GoodIn wsX3_init (wsX0_init) := ggX3_init_X0_init
theorem dX3_init_0 : decode cX3_init 0 = .ok (.aload_n 0, 1) := by decide +kernel
theorem dX3_init_1 : decode cX3_init 1 = .ok (.invokespecial 1, 3) := by decide +kernel
theorem dX3_init_4 : decode cX3_init 4 = .ok (.aload_n 0, 1) := by decide +kernel
theorem dX3_init_5 : decode cX3_init 5 = .ok (.new 7, 3) := by decide +kernel
theorem dX3_init_8 : decode cX3_init 8 = .ok (.dup, 1) := by decide +kernel
theorem dX3_init_9 : decode cX3_init 9 = .ok (.invokespecial 9, 3) := by decide +kernel
theorem dX3_init_12 : decode cX3_init 12 = .ok (.putfield 10, 3) := by decide +kernel
theorem dX3_init_15 : decode cX3_init 15 = .ok (.aload_n 0, 1) := by decide +kernel
theorem dX3_init_16 : decode cX3_init 16 = .ok (.new 16, 3) := by decide +kernel
theorem dX3_init_19 : decode cX3_init 19 = .ok (.dup, 1) := by decide +kernel
theorem dX3_init_20 : decode cX3_init 20 = .ok (.invokespecial 18, 3) := by decide +kernel
theorem dX3_init_23 : decode cX3_init 23 = .ok (.putfield 19, 3) := by decide +kernel
theorem dX3_init_26 : decode cX3_init 26 = .ok (.aload_n 0, 1) := by decide +kernel
theorem dX3_init_27 : decode cX3_init 27 = .ok (.new 23, 3) := by decide +kernel
theorem dX3_init_30 : decode cX3_init 30 = .ok (.dup, 1) := by decide +kernel
theorem dX3_init_31 : decode cX3_init 31 = .ok (.invokespecial 25, 3) := by decide +kernel
theorem dX3_init_34 : decode cX3_init 34 = .ok (.putfield 26, 3) := by decide +kernel
theorem dX3_init_37 : decode cX3_init 37 = .ok (.return_, 1) := by decide +kernel
set_option maxRecDepth 20000 in
theorem ggX3_formula_X1_make : GoodIn wsX3_formula wsX1_make := goodIn_r _ [6, 7, 8, 9, 10, 11, 12, 13, 14, 15, 16, 17, 18, 19, 5, 20, 21, 22, 23, 24, 25, 26, 27, 28, 29, 30, 31, 32, 33, 34, 35, 36, 37, 38, 39, 40, 41, 47, 48, 49, 50, 51, 52, 53] (by decide +kernel) (by decide +kernel)
set_option maxRecDepth 20000 in
theorem gX3_formula_X1_make : GoodIn wsX3_formula (wsV RX3 30 RX1 yX1_make wsX1_make) := goodIn_app (goodIn_of _ (by decide +kernel)) ggX3_formula_X1_make
set_option maxRecDepth 20000 in
theorem ggX3_formula_X3_isLetter : GoodIn wsX3_formula wsX3_isLetter := goodIn_r _ [37] (by decide +kernel) (by decide +kernel)
set_option maxRecDepth 20000 in
theorem gX3_formula_X3_isLetter : GoodIn wsX3_formula (va_wsS RX3 34 yX3_isLetter wsX3_isLetter) := goodIn_app (goodIn_of _ (by decide +kernel)) ggX3_formula_X3_isLetter
set_option maxRecDepth 20000 in
theorem ggX3_formula_X1_has : GoodIn wsX3_formula wsX1_has := goodIn_r _ [28, 11, 47, 48, 49, 50, 51, 52, 53] (by decide +kernel) (by decide +kernel)
set_option maxRecDepth 20000 in
theorem gX3_formula_X1_has : GoodIn wsX3_formula (wsV RX3 38 RX1 yX1_has wsX1_has) := goodIn_app (goodIn_of _ (by decide +kernel)) ggX3_formula_X1_has
theorem dX3_formula_0 : decode cX3_formula 0 = .ok (.iload_n 1, 1) := by decide +kernel
theorem dX3_formula_1 : decode cX3_formula 1 = .ok (.tableswitch 107 0 4 #[35, 46, 69, 69, 69], 35) := by decide +kernel
theorem dX3_formula_36 : decode cX3_formula 36 = .ok (.aload_n 0, 1) := by decide +kernel
theorem dX3_formula_37 : decode cX3_formula 37 = .ok (.getfield 10, 3) := by decide +kernel
theorem dX3_formula_40 : decode cX3_formula 40 = .ok (.iconst 0, 1) := by decide +kernel
theorem dX3_formula_41 : decode cX3_formula 41 = .ok (.iconst (-1), 1) := by decide +kernel
theorem dX3_formula_42 : decode cX3_formula 42 = .ok (.iconst (-1), 1) := by decide +kernel
theorem dX3_formula_43 : decode cX3_formula 43 = .ok (.invokevirtual 30, 3) := by decide +kernel
theorem dX3_formula_46 : decode cX3_formula 46 = .ok (.ireturn, 1) := by decide +kernel
theorem dX3_formula_47 : decode cX3_formula 47 = .ok (.iload_n 2, 1) := by decide +kernel
theorem dX3_formula_48 : decode cX3_formula 48 = .ok (.invokestatic 34, 3) := by decide +kernel
theorem dX3_formula_51 : decode cX3_formula 51 = .ok (.ifCond .eq 16, 3) := by decide +kernel
theorem dX3_formula_54 : decode cX3_formula 54 = .ok (.aload_n 0, 1) := by decide +kernel
theorem dX3_formula_55 : decode cX3_formula 55 = .ok (.getfield 10, 3) := by decide +kernel
theorem dX3_formula_58 : decode cX3_formula 58 = .ok (.iconst 1, 1) := by decide +kernel
theorem dX3_formula_59 : decode cX3_formula 59 = .ok (.iload_n 2, 1) := by decide +kernel
theorem dX3_formula_60 : decode cX3_formula 60 = .ok (.iconst (-1), 1) := by decide +kernel
theorem dX3_formula_61 : decode cX3_formula 61 = .ok (.invokevirtual 30, 3) := by decide +kernel
theorem dX3_formula_64 : decode cX3_formula 64 = .ok (.goto 5, 3) := by decide +kernel
theorem dX3_formula_67 : decode cX3_formula 67 = .ok (.bipush (-3), 2) := by decide +kernel
theorem dX3_formula_69 : decode cX3_formula 69 = .ok (.ireturn, 1) := by decide +kernel
theorem dX3_formula_70 : decode cX3_formula 70 = .ok (.aload_n 0, 1) := by decide +kernel
theorem dX3_formula_71 : decode cX3_formula 71 = .ok (.getfield 10, 3) := by decide +kernel
theorem dX3_formula_74 : decode cX3_formula 74 = .ok (.iload_n 2, 1) := by decide +kernel
theorem dX3_formula_75 : decode cX3_formula 75 = .ok (.invokevirtual 38, 3) := by decide +kernel
theorem dX3_formula_78 : decode cX3_formula 78 = .ok (.ifCond .eq 27, 3) := by decide +kernel
theorem dX3_formula_81 : decode cX3_formula 81 = .ok (.aload_n 0, 1) := by decide +kernel
theorem dX3_formula_82 : decode cX3_formula 82 = .ok (.getfield 10, 3) := by decide +kernel
theorem dX3_formula_85 : decode cX3_formula 85 = .ok (.iload_n 3, 1) := by decide +kernel
theorem dX3_formula_86 : decode cX3_formula 86 = .ok (.invokevirtual 38, 3) := by decide +kernel
theorem dX3_formula_89 : decode cX3_formula 89 = .ok (.ifCond .eq 16, 3) := by decide +kernel
theorem dX3_formula_92 : decode cX3_formula 92 = .ok (.aload_n 0, 1) := by decide +kernel
theorem dX3_formula_93 : decode cX3_formula 93 = .ok (.getfield 10, 3) := by decide +kernel
theorem dX3_formula_96 : decode cX3_formula 96 = .ok (.iload_n 1, 1) := by decide +kernel
theorem dX3_formula_97 : decode cX3_formula 97 = .ok (.iload_n 2, 1) := by decide +kernel
theorem dX3_formula_98 : decode cX3_formula 98 = .ok (.iload_n 3, 1) := by decide +kernel
theorem dX3_formula_99 : decode cX3_formula 99 = .ok (.invokevirtual 30, 3) := by decide +kernel
theorem dX3_formula_102 : decode cX3_formula 102 = .ok (.goto 5, 3) := by decide +kernel
theorem dX3_formula_105 : decode cX3_formula 105 = .ok (.bipush (-2), 2) := by decide +kernel
theorem dX3_formula_107 : decode cX3_formula 107 = .ok (.ireturn, 1) := by decide +kernel
theorem dX3_formula_108 : decode cX3_formula 108 = .ok (.bipush (-3), 2) := by decide +kernel
theorem dX3_formula_110 : decode cX3_formula 110 = .ok (.ireturn, 1) := by decide +kernel
set_option maxRecDepth 20000 in
theorem ggX3_about_X1_has : GoodIn wsX3_about wsX1_has := goodIn_r _ [6, 7, 32, 33, 34, 35, 36, 37, 38] (by decide +kernel) (by decide +kernel)
set_option maxRecDepth 20000 in
theorem gX3_about_X1_has : GoodIn wsX3_about (wsV RX3 38 RX1 yX1_has wsX1_has) := goodIn_app (goodIn_of _ (by decide +kernel)) ggX3_about_X1_has
set_option maxRecDepth 20000 in
theorem ggX3_about_X1_kindOf : GoodIn wsX3_about wsX1_kindOf := goodIn_r _ [11, 12, 13, 3, 4, 5, 6, 7, 32, 33, 34, 35, 36, 37, 38] (by decide +kernel) (by decide +kernel)
set_option maxRecDepth 20000 in
theorem gX3_about_X1_kindOf : GoodIn wsX3_about (wsV RX3 41 RX1 yX1_kindOf wsX1_kindOf) := goodIn_app (goodIn_of _ (by decide +kernel)) ggX3_about_X1_kindOf
set_option maxRecDepth 20000 in
theorem ggX3_about_X1_firstOf : GoodIn wsX3_about wsX1_firstOf := goodIn_r _ [17, 18, 13, 3, 4, 5, 6, 7, 32, 33, 34, 35, 36, 37, 38] (by decide +kernel) (by decide +kernel)
set_option maxRecDepth 20000 in
theorem gX3_about_X1_firstOf : GoodIn wsX3_about (wsV RX3 45 RX1 yX1_firstOf wsX1_firstOf) := goodIn_app (goodIn_of _ (by decide +kernel)) ggX3_about_X1_firstOf
set_option maxRecDepth 20000 in
theorem ggX3_about_X1_secondOf : GoodIn wsX3_about wsX1_secondOf := goodIn_r _ [22, 23, 13, 3, 4, 5, 6, 7, 32, 33, 34, 35, 36, 37, 38] (by decide +kernel) (by decide +kernel)
set_option maxRecDepth 20000 in
theorem gX3_about_X1_secondOf : GoodIn wsX3_about (wsV RX3 48 RX1 yX1_secondOf wsX1_secondOf) := goodIn_app (goodIn_of _ (by decide +kernel)) ggX3_about_X1_secondOf
set_option maxRecDepth 20000 in
theorem ggX3_about_X1_heightOf : GoodIn wsX3_about wsX1_heightOf := goodIn_r _ [27, 28, 13, 3, 4, 5, 6, 7, 32, 33, 34, 35, 36, 37, 38] (by decide +kernel) (by decide +kernel)
set_option maxRecDepth 20000 in
theorem gX3_about_X1_heightOf : GoodIn wsX3_about (wsV RX3 51 RX1 yX1_heightOf wsX1_heightOf) := goodIn_app (goodIn_of _ (by decide +kernel)) ggX3_about_X1_heightOf
theorem dX3_about_0 : decode cX3_about 0 = .ok (.aload_n 0, 1) := by decide +kernel
theorem dX3_about_1 : decode cX3_about 1 = .ok (.getfield 10, 3) := by decide +kernel
theorem dX3_about_4 : decode cX3_about 4 = .ok (.iload_n 1, 1) := by decide +kernel
theorem dX3_about_5 : decode cX3_about 5 = .ok (.invokevirtual 38, 3) := by decide +kernel
theorem dX3_about_8 : decode cX3_about 8 = .ok (.ifCond .ne 6, 3) := by decide +kernel
theorem dX3_about_11 : decode cX3_about 11 = .ok (.bipush (-2), 2) := by decide +kernel
theorem dX3_about_13 : decode cX3_about 13 = .ok (.ireturn, 1) := by decide +kernel
theorem dX3_about_14 : decode cX3_about 14 = .ok (.iload_n 2, 1) := by decide +kernel
theorem dX3_about_15 : decode cX3_about 15 = .ok (.tableswitch 65 0 3 #[29, 38, 47, 56], 29) := by decide +kernel
theorem dX3_about_44 : decode cX3_about 44 = .ok (.aload_n 0, 1) := by decide +kernel
theorem dX3_about_45 : decode cX3_about 45 = .ok (.getfield 10, 3) := by decide +kernel
theorem dX3_about_48 : decode cX3_about 48 = .ok (.iload_n 1, 1) := by decide +kernel
theorem dX3_about_49 : decode cX3_about 49 = .ok (.invokevirtual 41, 3) := by decide +kernel
theorem dX3_about_52 : decode cX3_about 52 = .ok (.ireturn, 1) := by decide +kernel
theorem dX3_about_53 : decode cX3_about 53 = .ok (.aload_n 0, 1) := by decide +kernel
theorem dX3_about_54 : decode cX3_about 54 = .ok (.getfield 10, 3) := by decide +kernel
theorem dX3_about_57 : decode cX3_about 57 = .ok (.iload_n 1, 1) := by decide +kernel
theorem dX3_about_58 : decode cX3_about 58 = .ok (.invokevirtual 45, 3) := by decide +kernel
theorem dX3_about_61 : decode cX3_about 61 = .ok (.ireturn, 1) := by decide +kernel
theorem dX3_about_62 : decode cX3_about 62 = .ok (.aload_n 0, 1) := by decide +kernel
theorem dX3_about_63 : decode cX3_about 63 = .ok (.getfield 10, 3) := by decide +kernel
theorem dX3_about_66 : decode cX3_about 66 = .ok (.iload_n 1, 1) := by decide +kernel
theorem dX3_about_67 : decode cX3_about 67 = .ok (.invokevirtual 48, 3) := by decide +kernel
theorem dX3_about_70 : decode cX3_about 70 = .ok (.ireturn, 1) := by decide +kernel
theorem dX3_about_71 : decode cX3_about 71 = .ok (.aload_n 0, 1) := by decide +kernel
theorem dX3_about_72 : decode cX3_about 72 = .ok (.getfield 10, 3) := by decide +kernel
theorem dX3_about_75 : decode cX3_about 75 = .ok (.iload_n 1, 1) := by decide +kernel
theorem dX3_about_76 : decode cX3_about 76 = .ok (.invokevirtual 51, 3) := by decide +kernel
theorem dX3_about_79 : decode cX3_about 79 = .ok (.ireturn, 1) := by decide +kernel
theorem dX3_about_80 : decode cX3_about 80 = .ok (.bipush (-3), 2) := by decide +kernel
theorem dX3_about_82 : decode cX3_about 82 = .ok (.ireturn, 1) := by decide +kernel
set_option maxRecDepth 20000 in
theorem ggX3_value_X1_has : GoodIn wsX3_value wsX1_has := goodIn_r _ [6, 7, 17, 18, 19, 20, 21, 22, 23] (by decide +kernel) (by decide +kernel)
set_option maxRecDepth 20000 in
theorem gX3_value_X1_has : GoodIn wsX3_value (wsV RX3 38 RX1 yX1_has wsX1_has) := goodIn_app (goodIn_of _ (by decide +kernel)) ggX3_value_X1_has
set_option maxRecDepth 20000 in
theorem ggX3_value_X1_tableOf : GoodIn wsX3_value wsX1_tableOf := goodIn_r _ [11, 12, 13, 3, 4, 5, 6, 7, 17, 18, 19, 20, 21, 22, 23] (by decide +kernel) (by decide +kernel)
set_option maxRecDepth 20000 in
theorem gX3_value_X1_tableOf : GoodIn wsX3_value (wsV RX3 54 RX1 yX1_tableOf wsX1_tableOf) := goodIn_app (goodIn_of _ (by decide +kernel)) ggX3_value_X1_tableOf
theorem dX3_value_0 : decode cX3_value 0 = .ok (.aload_n 0, 1) := by decide +kernel
theorem dX3_value_1 : decode cX3_value 1 = .ok (.getfield 10, 3) := by decide +kernel
theorem dX3_value_4 : decode cX3_value 4 = .ok (.iload_n 1, 1) := by decide +kernel
theorem dX3_value_5 : decode cX3_value 5 = .ok (.invokevirtual 38, 3) := by decide +kernel
theorem dX3_value_8 : decode cX3_value 8 = .ok (.ifCond .ne 6, 3) := by decide +kernel
theorem dX3_value_11 : decode cX3_value 11 = .ok (.bipush (-2), 2) := by decide +kernel
theorem dX3_value_13 : decode cX3_value 13 = .ok (.ireturn, 1) := by decide +kernel
theorem dX3_value_14 : decode cX3_value 14 = .ok (.iload_n 2, 1) := by decide +kernel
theorem dX3_value_15 : decode cX3_value 15 = .ok (.ifCond .lt 9, 3) := by decide +kernel
theorem dX3_value_18 : decode cX3_value 18 = .ok (.iload_n 2, 1) := by decide +kernel
theorem dX3_value_19 : decode cX3_value 19 = .ok (.bipush 64, 2) := by decide +kernel
theorem dX3_value_21 : decode cX3_value 21 = .ok (.if_icmp .lt 6, 3) := by decide +kernel
theorem dX3_value_24 : decode cX3_value 24 = .ok (.bipush (-3), 2) := by decide +kernel
theorem dX3_value_26 : decode cX3_value 26 = .ok (.ireturn, 1) := by decide +kernel
theorem dX3_value_27 : decode cX3_value 27 = .ok (.aload_n 0, 1) := by decide +kernel
theorem dX3_value_28 : decode cX3_value 28 = .ok (.getfield 10, 3) := by decide +kernel
theorem dX3_value_31 : decode cX3_value 31 = .ok (.iload_n 1, 1) := by decide +kernel
theorem dX3_value_32 : decode cX3_value 32 = .ok (.invokevirtual 54, 3) := by decide +kernel
theorem dX3_value_35 : decode cX3_value 35 = .ok (.iload_n 2, 1) := by decide +kernel
theorem dX3_value_36 : decode cX3_value 36 = .ok (.lushr, 1) := by decide +kernel
theorem dX3_value_37 : decode cX3_value 37 = .ok (.lconst 1, 1) := by decide +kernel
theorem dX3_value_38 : decode cX3_value 38 = .ok (.land, 1) := by decide +kernel
theorem dX3_value_39 : decode cX3_value 39 = .ok (.l2i, 1) := by decide +kernel
theorem dX3_value_40 : decode cX3_value 40 = .ok (.ireturn, 1) := by decide +kernel
set_option maxRecDepth 20000 in
theorem ggX3_truths_X1_has : GoodIn wsX3_truths wsX1_has := goodIn_r _ [6, 7, 24, 25, 26, 27, 28, 29, 30] (by decide +kernel) (by decide +kernel)
set_option maxRecDepth 20000 in
theorem gX3_truths_X1_has : GoodIn wsX3_truths (wsV RX3 38 RX1 yX1_has wsX1_has) := goodIn_app (goodIn_of _ (by decide +kernel)) ggX3_truths_X1_has
set_option maxRecDepth 20000 in
theorem ggX3_truths_X1_tableOf : GoodIn wsX3_truths wsX1_tableOf := goodIn_r _ [11, 12, 13, 3, 4, 5, 6, 7, 24, 25, 26, 27, 28, 29, 30] (by decide +kernel) (by decide +kernel)
set_option maxRecDepth 20000 in
theorem gX3_truths_X1_tableOf : GoodIn wsX3_truths (wsV RX3 54 RX1 yX1_tableOf wsX1_tableOf) := goodIn_app (goodIn_of _ (by decide +kernel)) ggX3_truths_X1_tableOf
set_option maxRecDepth 20000 in
theorem ggX3_truths_J13_bitCount_95d88 : GoodIn wsX3_truths wsJ13_bitCount_95d88 := goodIn_r _ [17, 18, 19, 20] (by decide +kernel) (by decide +kernel)
set_option maxRecDepth 20000 in
theorem gX3_truths_J13_bitCount_95d88 : GoodIn wsX3_truths (va_wsS RX3 58 yJ13_bitCount_95d88 wsJ13_bitCount_95d88) := goodIn_app (goodIn_of _ (by decide +kernel)) ggX3_truths_J13_bitCount_95d88
theorem dX3_truths_0 : decode cX3_truths 0 = .ok (.aload_n 0, 1) := by decide +kernel
theorem dX3_truths_1 : decode cX3_truths 1 = .ok (.getfield 10, 3) := by decide +kernel
theorem dX3_truths_4 : decode cX3_truths 4 = .ok (.iload_n 1, 1) := by decide +kernel
theorem dX3_truths_5 : decode cX3_truths 5 = .ok (.invokevirtual 38, 3) := by decide +kernel
theorem dX3_truths_8 : decode cX3_truths 8 = .ok (.ifCond .eq 17, 3) := by decide +kernel
theorem dX3_truths_11 : decode cX3_truths 11 = .ok (.aload_n 0, 1) := by decide +kernel
theorem dX3_truths_12 : decode cX3_truths 12 = .ok (.getfield 10, 3) := by decide +kernel
theorem dX3_truths_15 : decode cX3_truths 15 = .ok (.iload_n 1, 1) := by decide +kernel
theorem dX3_truths_16 : decode cX3_truths 16 = .ok (.invokevirtual 54, 3) := by decide +kernel
theorem dX3_truths_19 : decode cX3_truths 19 = .ok (.invokestatic 58, 3) := by decide +kernel
theorem dX3_truths_22 : decode cX3_truths 22 = .ok (.goto 5, 3) := by decide +kernel
theorem dX3_truths_25 : decode cX3_truths 25 = .ok (.bipush (-2), 2) := by decide +kernel
theorem dX3_truths_27 : decode cX3_truths 27 = .ok (.ireturn, 1) := by decide +kernel
set_option maxRecDepth 20000 in
theorem ggX3_instead_X1_has : GoodIn wsX3_instead wsX1_has := goodIn_r _ [6, 7, 60, 61, 62, 63, 64, 65, 66] (by decide +kernel) (by decide +kernel)
set_option maxRecDepth 20000 in
theorem gX3_instead_X1_has : GoodIn wsX3_instead (wsV RX3 38 RX1 yX1_has wsX1_has) := goodIn_app (goodIn_of _ (by decide +kernel)) ggX3_instead_X1_has
set_option maxRecDepth 20000 in
theorem ggX3_instead_X3_isLetter : GoodIn wsX3_instead wsX3_isLetter := goodIn_r _ [11] (by decide +kernel) (by decide +kernel)
set_option maxRecDepth 20000 in
theorem gX3_instead_X3_isLetter : GoodIn wsX3_instead (va_wsS RX3 34 yX3_isLetter wsX3_isLetter) := goodIn_app (goodIn_of _ (by decide +kernel)) ggX3_instead_X3_isLetter
set_option maxRecDepth 20000 in
theorem ggX3_instead_X1_replace : GoodIn wsX3_instead wsX1_replace := goodIn_r _ [15, 16, 17, 18, 19, 20, 21, 22, 23, 5, 24, 25, 26, 27, 28, 3, 4, 6, 7, 29, 30, 31, 32, 33, 34, 35, 36, 37, 38, 39, 40, 41, 42, 43, 44, 45, 46, 47, 48, 49, 50, 51, 52, 9, 10, 11, 53, 54, 55, 56, 60, 61, 62, 63, 64, 65, 66] (by decide +kernel) (by decide +kernel)
set_option maxRecDepth 20000 in
theorem gX3_instead_X1_replace : GoodIn wsX3_instead (wsV RX3 64 RX1 yX1_replace wsX1_replace) := goodIn_app (goodIn_of _ (by decide +kernel)) ggX3_instead_X1_replace
theorem dX3_instead_0 : decode cX3_instead 0 = .ok (.aload_n 0, 1) := by decide +kernel
theorem dX3_instead_1 : decode cX3_instead 1 = .ok (.getfield 10, 3) := by decide +kernel
theorem dX3_instead_4 : decode cX3_instead 4 = .ok (.iload_n 1, 1) := by decide +kernel
theorem dX3_instead_5 : decode cX3_instead 5 = .ok (.invokevirtual 38, 3) := by decide +kernel
theorem dX3_instead_8 : decode cX3_instead 8 = .ok (.ifCond .eq 14, 3) := by decide +kernel
theorem dX3_instead_11 : decode cX3_instead 11 = .ok (.aload_n 0, 1) := by decide +kernel
theorem dX3_instead_12 : decode cX3_instead 12 = .ok (.getfield 10, 3) := by decide +kernel
theorem dX3_instead_15 : decode cX3_instead 15 = .ok (.iload_n 3, 1) := by decide +kernel
theorem dX3_instead_16 : decode cX3_instead 16 = .ok (.invokevirtual 38, 3) := by decide +kernel
theorem dX3_instead_19 : decode cX3_instead 19 = .ok (.ifCond .ne 6, 3) := by decide +kernel
theorem dX3_instead_22 : decode cX3_instead 22 = .ok (.bipush (-2), 2) := by decide +kernel
theorem dX3_instead_24 : decode cX3_instead 24 = .ok (.ireturn, 1) := by decide +kernel
theorem dX3_instead_25 : decode cX3_instead 25 = .ok (.iload_n 2, 1) := by decide +kernel
theorem dX3_instead_26 : decode cX3_instead 26 = .ok (.invokestatic 34, 3) := by decide +kernel
theorem dX3_instead_29 : decode cX3_instead 29 = .ok (.ifCond .eq 16, 3) := by decide +kernel
theorem dX3_instead_32 : decode cX3_instead 32 = .ok (.aload_n 0, 1) := by decide +kernel
theorem dX3_instead_33 : decode cX3_instead 33 = .ok (.getfield 10, 3) := by decide +kernel
theorem dX3_instead_36 : decode cX3_instead 36 = .ok (.iload_n 1, 1) := by decide +kernel
theorem dX3_instead_37 : decode cX3_instead 37 = .ok (.iload_n 2, 1) := by decide +kernel
theorem dX3_instead_38 : decode cX3_instead 38 = .ok (.iload_n 3, 1) := by decide +kernel
theorem dX3_instead_39 : decode cX3_instead 39 = .ok (.invokevirtual 64, 3) := by decide +kernel
theorem dX3_instead_42 : decode cX3_instead 42 = .ok (.goto 5, 3) := by decide +kernel
theorem dX3_instead_45 : decode cX3_instead 45 = .ok (.bipush (-3), 2) := by decide +kernel
theorem dX3_instead_47 : decode cX3_instead 47 = .ok (.ireturn, 1) := by decide +kernel
set_option maxRecDepth 20000 in
theorem ggX3_lay_X3_isLine : GoodIn wsX3_lay wsX3_isLine := goodIn_r _ [5] (by decide +kernel) (by decide +kernel)
set_option maxRecDepth 20000 in
theorem gX3_lay_X3_isLine : GoodIn wsX3_lay (va_wsS RX3 67 yX3_isLine wsX3_isLine) := goodIn_app (goodIn_of _ (by decide +kernel)) ggX3_lay_X3_isLine
set_option maxRecDepth 20000 in
theorem ggX3_lay_X2_isLaid : GoodIn wsX3_lay wsX2_isLaid := goodIn_r _ [10, 11, 3, 4, 5, 24, 25, 26, 27, 28, 29] (by decide +kernel) (by decide +kernel)
set_option maxRecDepth 20000 in
theorem gX3_lay_X2_isLaid : GoodIn wsX3_lay (wsV RX3 70 RX2 yX2_isLaid wsX2_isLaid) := goodIn_app (goodIn_of _ (by decide +kernel)) ggX3_lay_X2_isLaid
set_option maxRecDepth 20000 in
theorem ggX3_lay_X2_put : GoodIn wsX3_lay wsX2_put := goodIn_r _ [15, 11, 16, 17, 18, 19, 20, 3, 4, 5, 24, 25, 26, 27, 28, 29] (by decide +kernel) (by decide +kernel)
set_option maxRecDepth 20000 in
theorem gX3_lay_X2_put : GoodIn wsX3_lay (wsV RX3 73 RX2 yX2_put wsX2_put) := goodIn_app (goodIn_of _ (by decide +kernel)) ggX3_lay_X2_put
theorem dX3_lay_0 : decode cX3_lay 0 = .ok (.iload_n 1, 1) := by decide +kernel
theorem dX3_lay_1 : decode cX3_lay 1 = .ok (.invokestatic 67, 3) := by decide +kernel
theorem dX3_lay_4 : decode cX3_lay 4 = .ok (.ifCond .ne 6, 3) := by decide +kernel
theorem dX3_lay_7 : decode cX3_lay 7 = .ok (.bipush (-3), 2) := by decide +kernel
theorem dX3_lay_9 : decode cX3_lay 9 = .ok (.ireturn, 1) := by decide +kernel
theorem dX3_lay_10 : decode cX3_lay 10 = .ok (.aload_n 0, 1) := by decide +kernel
theorem dX3_lay_11 : decode cX3_lay 11 = .ok (.getfield 19, 3) := by decide +kernel
theorem dX3_lay_14 : decode cX3_lay 14 = .ok (.iload_n 1, 1) := by decide +kernel
theorem dX3_lay_15 : decode cX3_lay 15 = .ok (.invokevirtual 70, 3) := by decide +kernel
theorem dX3_lay_18 : decode cX3_lay 18 = .ok (.istore 7, 2) := by decide +kernel
theorem dX3_lay_20 : decode cX3_lay 20 = .ok (.aload_n 0, 1) := by decide +kernel
theorem dX3_lay_21 : decode cX3_lay 21 = .ok (.getfield 19, 3) := by decide +kernel
theorem dX3_lay_24 : decode cX3_lay 24 = .ok (.iload_n 1, 1) := by decide +kernel
theorem dX3_lay_25 : decode cX3_lay 25 = .ok (.iload_n 2, 1) := by decide +kernel
theorem dX3_lay_26 : decode cX3_lay 26 = .ok (.iload_n 3, 1) := by decide +kernel
theorem dX3_lay_27 : decode cX3_lay 27 = .ok (.iload 4, 2) := by decide +kernel
theorem dX3_lay_29 : decode cX3_lay 29 = .ok (.iload 5, 2) := by decide +kernel
theorem dX3_lay_31 : decode cX3_lay 31 = .ok (.iload 6, 2) := by decide +kernel
theorem dX3_lay_33 : decode cX3_lay 33 = .ok (.invokevirtual 73, 3) := by decide +kernel
theorem dX3_lay_36 : decode cX3_lay 36 = .ok (.iload 7, 2) := by decide +kernel
theorem dX3_lay_38 : decode cX3_lay 38 = .ok (.ifCond .eq 7, 3) := by decide +kernel
theorem dX3_lay_41 : decode cX3_lay 41 = .ok (.iconst 0, 1) := by decide +kernel
theorem dX3_lay_42 : decode cX3_lay 42 = .ok (.goto 4, 3) := by decide +kernel
theorem dX3_lay_45 : decode cX3_lay 45 = .ok (.iconst 1, 1) := by decide +kernel
theorem dX3_lay_46 : decode cX3_lay 46 = .ok (.ireturn, 1) := by decide +kernel
set_option maxRecDepth 20000 in
theorem ggX3_take_X3_isLine : GoodIn wsX3_take wsX3_isLine := goodIn_r _ [5] (by decide +kernel) (by decide +kernel)
set_option maxRecDepth 20000 in
theorem gX3_take_X3_isLine : GoodIn wsX3_take (va_wsS RX3 67 yX3_isLine wsX3_isLine) := goodIn_app (goodIn_of _ (by decide +kernel)) ggX3_take_X3_isLine
set_option maxRecDepth 20000 in
theorem ggX3_take_X2_isLaid : GoodIn wsX3_take wsX2_isLaid := goodIn_r _ [10, 11, 3, 4, 5, 19, 20, 21, 22, 23, 24] (by decide +kernel) (by decide +kernel)
set_option maxRecDepth 20000 in
theorem gX3_take_X2_isLaid : GoodIn wsX3_take (wsV RX3 70 RX2 yX2_isLaid wsX2_isLaid) := goodIn_app (goodIn_of _ (by decide +kernel)) ggX3_take_X2_isLaid
set_option maxRecDepth 20000 in
theorem ggX3_take_X2_clear : GoodIn wsX3_take wsX2_clear := goodIn_r _ [15, 11, 3, 4, 5, 19, 20, 21, 22, 23, 24] (by decide +kernel) (by decide +kernel)
set_option maxRecDepth 20000 in
theorem gX3_take_X2_clear : GoodIn wsX3_take (wsV RX3 77 RX2 yX2_clear wsX2_clear) := goodIn_app (goodIn_of _ (by decide +kernel)) ggX3_take_X2_clear
theorem dX3_take_0 : decode cX3_take 0 = .ok (.iload_n 1, 1) := by decide +kernel
theorem dX3_take_1 : decode cX3_take 1 = .ok (.invokestatic 67, 3) := by decide +kernel
theorem dX3_take_4 : decode cX3_take 4 = .ok (.ifCond .ne 6, 3) := by decide +kernel
theorem dX3_take_7 : decode cX3_take 7 = .ok (.bipush (-3), 2) := by decide +kernel
theorem dX3_take_9 : decode cX3_take 9 = .ok (.ireturn, 1) := by decide +kernel
theorem dX3_take_10 : decode cX3_take 10 = .ok (.aload_n 0, 1) := by decide +kernel
theorem dX3_take_11 : decode cX3_take 11 = .ok (.getfield 19, 3) := by decide +kernel
theorem dX3_take_14 : decode cX3_take 14 = .ok (.iload_n 1, 1) := by decide +kernel
theorem dX3_take_15 : decode cX3_take 15 = .ok (.invokevirtual 70, 3) := by decide +kernel
theorem dX3_take_18 : decode cX3_take 18 = .ok (.istore_n 2, 1) := by decide +kernel
theorem dX3_take_19 : decode cX3_take 19 = .ok (.aload_n 0, 1) := by decide +kernel
theorem dX3_take_20 : decode cX3_take 20 = .ok (.getfield 19, 3) := by decide +kernel
theorem dX3_take_23 : decode cX3_take 23 = .ok (.iload_n 1, 1) := by decide +kernel
theorem dX3_take_24 : decode cX3_take 24 = .ok (.invokevirtual 77, 3) := by decide +kernel
theorem dX3_take_27 : decode cX3_take 27 = .ok (.iload_n 2, 1) := by decide +kernel
theorem dX3_take_28 : decode cX3_take 28 = .ok (.ifCond .eq 7, 3) := by decide +kernel
theorem dX3_take_31 : decode cX3_take 31 = .ok (.iconst 1, 1) := by decide +kernel
theorem dX3_take_32 : decode cX3_take 32 = .ok (.goto 4, 3) := by decide +kernel
theorem dX3_take_35 : decode cX3_take 35 = .ok (.iconst 0, 1) := by decide +kernel
theorem dX3_take_36 : decode cX3_take 36 = .ok (.ireturn, 1) := by decide +kernel
set_option maxRecDepth 20000 in
theorem ggX3_check_X1_count : GoodIn wsX3_check wsX1_count := goodIn_r _ [8, 9, 194, 195, 196, 197, 198, 199, 200] (by decide +kernel) (by decide +kernel)
set_option maxRecDepth 20000 in
theorem gX3_check_X1_count : GoodIn wsX3_check (wsV RX3 81 RX1 yX1_count wsX1_count) := goodIn_app (goodIn_of _ (by decide +kernel)) ggX3_check_X1_count
set_option maxRecDepth 20000 in
theorem ggX3_check_X0_forget : GoodIn wsX3_check wsX0_forget := goodIn_r _ [14, 15, 16, 17, 18, 19, 201, 202, 203, 204, 205, 206] (by decide +kernel) (by decide +kernel)
set_option maxRecDepth 20000 in
theorem gX3_check_X0_forget : GoodIn wsX3_check (wsV RX3 85 RX0 yX0_forget wsX0_forget) := goodIn_app (goodIn_of _ (by decide +kernel)) ggX3_check_X0_forget
set_option maxRecDepth 20000 in
theorem ggX3_check_X2_isLaid : GoodIn wsX3_check wsX2_isLaid := goodIn_r _ [24, 25, 26, 27, 28, 207, 208, 209, 210, 211, 212] (by decide +kernel) (by decide +kernel)
set_option maxRecDepth 20000 in
theorem gX3_check_X2_isLaid : GoodIn wsX3_check (wsV RX3 70 RX2 yX2_isLaid wsX2_isLaid) := goodIn_app (goodIn_of _ (by decide +kernel)) ggX3_check_X2_isLaid
set_option maxRecDepth 20000 in
theorem ggX3_check_X3_lookAt : GoodIn wsX3_check wsX3_lookAt := goodIn_r _ [32, 2, 3, 33, 34, 35, 27, 36, 37, 38, 39, 40, 23, 41, 42, 26, 28, 43, 44, 45, 46, 1, 47, 48, 49, 50, 51, 52, 53, 54, 55, 56, 57, 58, 59, 13, 60, 18, 61, 62, 63, 64, 65, 66, 67, 68, 69, 70, 71, 72, 73, 74, 75, 76, 77, 78, 79, 80, 81, 7, 82, 9, 83, 84, 85, 86, 16, 87, 88, 89, 90, 91, 92, 93, 94, 95, 96, 97, 98, 99, 100, 101, 102, 103, 104, 105, 106, 107, 108, 109, 110, 111, 112, 113, 114, 115, 116, 117, 118, 119, 120, 121, 122, 15, 17, 123, 124, 125, 126, 19, 127, 128, 129, 130, 131, 132, 133, 134, 135, 136, 137, 138, 139, 140, 141, 142, 143, 144, 145, 146, 147, 148, 149, 150, 151, 152, 153, 154, 155, 156, 157, 158, 159, 160, 161, 162, 163, 164, 165, 166, 167, 168, 169, 170, 171, 172, 173, 174, 175, 176, 177, 178, 179, 180, 181, 191, 192, 193, 207, 208, 209, 210, 211, 212, 201, 202, 203, 204, 205, 206, 194, 195, 196, 197, 198, 199, 200] (by decide +kernel) (by decide +kernel)
set_option maxRecDepth 20000 in
theorem gX3_check_X3_lookAt : GoodIn wsX3_check (wsV RX3 88 RX3 yX3_lookAt wsX3_lookAt) := goodIn_app (goodIn_of _ (by decide +kernel)) ggX3_check_X3_lookAt
set_option maxRecDepth 20000 in
theorem ggX3_check_X0_sumUp : GoodIn wsX3_check wsX0_sumUp := goodIn_r _ [185, 186, 187, 188, 189, 13, 190, 119, 120, 121, 122, 15, 17, 26, 27, 28, 201, 202, 203, 204, 205, 206] (by decide +kernel) (by decide +kernel)
set_option maxRecDepth 20000 in
theorem gX3_check_X0_sumUp : GoodIn wsX3_check (wsV RX3 91 RX0 yX0_sumUp wsX0_sumUp) := goodIn_app (goodIn_of _ (by decide +kernel)) ggX3_check_X0_sumUp
theorem dX3_check_0 : decode cX3_check 0 = .ok (.aload_n 0, 1) := by decide +kernel
theorem dX3_check_1 : decode cX3_check 1 = .ok (.getfield 10, 3) := by decide +kernel
theorem dX3_check_4 : decode cX3_check 4 = .ok (.invokevirtual 81, 3) := by decide +kernel
theorem dX3_check_7 : decode cX3_check 7 = .ok (.istore_n 1, 1) := by decide +kernel
theorem dX3_check_8 : decode cX3_check 8 = .ok (.iconst 0, 1) := by decide +kernel
theorem dX3_check_9 : decode cX3_check 9 = .ok (.istore_n 2, 1) := by decide +kernel
theorem dX3_check_10 : decode cX3_check 10 = .ok (.iconst 0, 1) := by decide +kernel
theorem dX3_check_11 : decode cX3_check 11 = .ok (.istore_n 3, 1) := by decide +kernel
theorem dX3_check_12 : decode cX3_check 12 = .ok (.aload_n 0, 1) := by decide +kernel
theorem dX3_check_13 : decode cX3_check 13 = .ok (.getfield 26, 3) := by decide +kernel
theorem dX3_check_16 : decode cX3_check 16 = .ok (.invokevirtual 85, 3) := by decide +kernel
theorem dX3_check_19 : decode cX3_check 19 = .ok (.iload_n 3, 1) := by decide +kernel
theorem dX3_check_20 : decode cX3_check 20 = .ok (.bipush 60, 2) := by decide +kernel
theorem dX3_check_22 : decode cX3_check 22 = .ok (.if_icmp .ge 33, 3) := by decide +kernel
theorem dX3_check_25 : decode cX3_check 25 = .ok (.aload_n 0, 1) := by decide +kernel
theorem dX3_check_26 : decode cX3_check 26 = .ok (.getfield 19, 3) := by decide +kernel
theorem dX3_check_29 : decode cX3_check 29 = .ok (.iload_n 3, 1) := by decide +kernel
theorem dX3_check_30 : decode cX3_check 30 = .ok (.invokevirtual 70, 3) := by decide +kernel
theorem dX3_check_33 : decode cX3_check 33 = .ok (.ifCond .eq 22, 3) := by decide +kernel
theorem dX3_check_36 : decode cX3_check 36 = .ok (.aload_n 0, 1) := by decide +kernel
theorem dX3_check_37 : decode cX3_check 37 = .ok (.iload_n 3, 1) := by decide +kernel
theorem dX3_check_38 : decode cX3_check 38 = .ok (.invokevirtual 88, 3) := by decide +kernel
theorem dX3_check_41 : decode cX3_check 41 = .ok (.istore_n 2, 1) := by decide +kernel
theorem dX3_check_42 : decode cX3_check 42 = .ok (.iload_n 2, 1) := by decide +kernel
theorem dX3_check_43 : decode cX3_check 43 = .ok (.ifCond .eq 6, 3) := by decide +kernel
theorem dX3_check_46 : decode cX3_check 46 = .ok (.goto 9, 3) := by decide +kernel
theorem dX3_check_49 : decode cX3_check 49 = .ok (.iinc 3 1, 3) := by decide +kernel
theorem dX3_check_52 : decode cX3_check 52 = .ok (.goto (-33), 3) := by decide +kernel
theorem dX3_check_55 : decode cX3_check 55 = .ok (.aload_n 0, 1) := by decide +kernel
theorem dX3_check_56 : decode cX3_check 56 = .ok (.getfield 26, 3) := by decide +kernel
theorem dX3_check_59 : decode cX3_check 59 = .ok (.iload_n 2, 1) := by decide +kernel
theorem dX3_check_60 : decode cX3_check 60 = .ok (.iload_n 3, 1) := by decide +kernel
theorem dX3_check_61 : decode cX3_check 61 = .ok (.aload_n 0, 1) := by decide +kernel
theorem dX3_check_62 : decode cX3_check 62 = .ok (.getfield 10, 3) := by decide +kernel
theorem dX3_check_65 : decode cX3_check 65 = .ok (.invokevirtual 81, 3) := by decide +kernel
theorem dX3_check_68 : decode cX3_check 68 = .ok (.iload_n 1, 1) := by decide +kernel
theorem dX3_check_69 : decode cX3_check 69 = .ok (.isub, 1) := by decide +kernel
theorem dX3_check_70 : decode cX3_check 70 = .ok (.invokevirtual 91, 3) := by decide +kernel
theorem dX3_check_73 : decode cX3_check 73 = .ok (.iload_n 3, 1) := by decide +kernel
theorem dX3_check_74 : decode cX3_check 74 = .ok (.ireturn, 1) := by decide +kernel
set_option maxRecDepth 20000 in
theorem ggX3_told_X0_summaryOf : GoodIn wsX3_told wsX0_summaryOf := goodIn_r _ [6, 7, 11, 12, 13, 14, 15, 16] (by decide +kernel) (by decide +kernel)
set_option maxRecDepth 20000 in
theorem gX3_told_X0_summaryOf : GoodIn wsX3_told (wsV RX3 95 RX0 yX0_summaryOf wsX0_summaryOf) := goodIn_app (goodIn_of _ (by decide +kernel)) ggX3_told_X0_summaryOf
theorem dX3_told_0 : decode cX3_told 0 = .ok (.iload_n 1, 1) := by decide +kernel
theorem dX3_told_1 : decode cX3_told 1 = .ok (.ifCond .lt 19, 3) := by decide +kernel
theorem dX3_told_4 : decode cX3_told 4 = .ok (.iload_n 1, 1) := by decide +kernel
theorem dX3_told_5 : decode cX3_told 5 = .ok (.iconst 4, 1) := by decide +kernel
theorem dX3_told_6 : decode cX3_told 6 = .ok (.if_icmp .ge 14, 3) := by decide +kernel
theorem dX3_told_9 : decode cX3_told 9 = .ok (.aload_n 0, 1) := by decide +kernel
theorem dX3_told_10 : decode cX3_told 10 = .ok (.getfield 26, 3) := by decide +kernel
theorem dX3_told_13 : decode cX3_told 13 = .ok (.iload_n 1, 1) := by decide +kernel
theorem dX3_told_14 : decode cX3_told 14 = .ok (.invokevirtual 95, 3) := by decide +kernel
theorem dX3_told_17 : decode cX3_told 17 = .ok (.goto 5, 3) := by decide +kernel
theorem dX3_told_20 : decode cX3_told 20 = .ok (.bipush (-3), 2) := by decide +kernel
theorem dX3_told_22 : decode cX3_told 22 = .ok (.ireturn, 1) := by decide +kernel
set_option maxRecDepth 20000 in
theorem ggX3_head_X3_isLine : GoodIn wsX3_head wsX3_isLine := goodIn_r _ [5] (by decide +kernel) (by decide +kernel)
set_option maxRecDepth 20000 in
theorem gX3_head_X3_isLine : GoodIn wsX3_head (va_wsS RX3 67 yX3_isLine wsX3_isLine) := goodIn_app (goodIn_of _ (by decide +kernel)) ggX3_head_X3_isLine
set_option maxRecDepth 20000 in
theorem ggX3_head_X0_headOf : GoodIn wsX3_head wsX0_headOf := goodIn_r _ [10, 11, 3, 4, 5, 15, 16, 17, 18, 19, 20] (by decide +kernel) (by decide +kernel)
set_option maxRecDepth 20000 in
theorem gX3_head_X0_headOf : GoodIn wsX3_head (wsV RX3 98 RX0 yX0_headOf wsX0_headOf) := goodIn_app (goodIn_of _ (by decide +kernel)) ggX3_head_X0_headOf
theorem dX3_head_0 : decode cX3_head 0 = .ok (.iload_n 1, 1) := by decide +kernel
theorem dX3_head_1 : decode cX3_head 1 = .ok (.invokestatic 67, 3) := by decide +kernel
theorem dX3_head_4 : decode cX3_head 4 = .ok (.ifCond .eq 14, 3) := by decide +kernel
theorem dX3_head_7 : decode cX3_head 7 = .ok (.aload_n 0, 1) := by decide +kernel
theorem dX3_head_8 : decode cX3_head 8 = .ok (.getfield 26, 3) := by decide +kernel
theorem dX3_head_11 : decode cX3_head 11 = .ok (.iload_n 1, 1) := by decide +kernel
theorem dX3_head_12 : decode cX3_head 12 = .ok (.invokevirtual 98, 3) := by decide +kernel
theorem dX3_head_15 : decode cX3_head 15 = .ok (.goto 5, 3) := by decide +kernel
theorem dX3_head_18 : decode cX3_head 18 = .ok (.bipush (-3), 2) := by decide +kernel
theorem dX3_head_20 : decode cX3_head 20 = .ok (.ireturn, 1) := by decide +kernel
set_option maxRecDepth 20000 in
theorem ggX3_force_X3_isLine : GoodIn wsX3_force wsX3_isLine := goodIn_r _ [5] (by decide +kernel) (by decide +kernel)
set_option maxRecDepth 20000 in
theorem gX3_force_X3_isLine : GoodIn wsX3_force (va_wsS RX3 67 yX3_isLine wsX3_isLine) := goodIn_app (goodIn_of _ (by decide +kernel)) ggX3_force_X3_isLine
set_option maxRecDepth 20000 in
theorem ggX3_force_X0_isInForce : GoodIn wsX3_force wsX0_isInForce := goodIn_r _ [10, 11, 3, 4, 5, 15, 16, 17, 18, 19, 20] (by decide +kernel) (by decide +kernel)
set_option maxRecDepth 20000 in
theorem gX3_force_X0_isInForce : GoodIn wsX3_force (wsV RX3 101 RX0 yX0_isInForce wsX0_isInForce) := goodIn_app (goodIn_of _ (by decide +kernel)) ggX3_force_X0_isInForce
theorem dX3_force_0 : decode cX3_force 0 = .ok (.iload_n 1, 1) := by decide +kernel
theorem dX3_force_1 : decode cX3_force 1 = .ok (.invokestatic 67, 3) := by decide +kernel
theorem dX3_force_4 : decode cX3_force 4 = .ok (.ifCond .ne 6, 3) := by decide +kernel
theorem dX3_force_7 : decode cX3_force 7 = .ok (.bipush (-3), 2) := by decide +kernel
theorem dX3_force_9 : decode cX3_force 9 = .ok (.ireturn, 1) := by decide +kernel
theorem dX3_force_10 : decode cX3_force 10 = .ok (.aload_n 0, 1) := by decide +kernel
theorem dX3_force_11 : decode cX3_force 11 = .ok (.getfield 26, 3) := by decide +kernel
theorem dX3_force_14 : decode cX3_force 14 = .ok (.iload_n 1, 1) := by decide +kernel
theorem dX3_force_15 : decode cX3_force 15 = .ok (.invokevirtual 101, 3) := by decide +kernel
theorem dX3_force_18 : decode cX3_force 18 = .ok (.ifCond .eq 7, 3) := by decide +kernel
theorem dX3_force_21 : decode cX3_force 21 = .ok (.iconst 1, 1) := by decide +kernel
theorem dX3_force_22 : decode cX3_force 22 = .ok (.goto 4, 3) := by decide +kernel
theorem dX3_force_25 : decode cX3_force 25 = .ok (.iconst 0, 1) := by decide +kernel
theorem dX3_force_26 : decode cX3_force 26 = .ok (.ireturn, 1) := by decide +kernel
set_option maxRecDepth 20000 in
theorem ggX3_hangs_X3_isLine : GoodIn wsX3_hangs wsX3_isLine := goodIn_r _ [5] (by decide +kernel) (by decide +kernel)
set_option maxRecDepth 20000 in
theorem gX3_hangs_X3_isLine : GoodIn wsX3_hangs (va_wsS RX3 67 yX3_isLine wsX3_isLine) := goodIn_app (goodIn_of _ (by decide +kernel)) ggX3_hangs_X3_isLine
set_option maxRecDepth 20000 in
theorem ggX3_hangs_X0_groundOf : GoodIn wsX3_hangs wsX0_groundOf := goodIn_r _ [10, 11, 12, 13, 9, 14, 15, 3, 4, 5, 16, 17, 18, 19, 20, 21, 22, 23, 24, 25, 26, 27, 28, 29, 30, 31, 32, 33, 37, 38, 39, 40, 41, 42] (by decide +kernel) (by decide +kernel)
set_option maxRecDepth 20000 in
theorem gX3_hangs_X0_groundOf : GoodIn wsX3_hangs (wsV RX3 104 RX0 yX0_groundOf wsX0_groundOf) := goodIn_app (goodIn_of _ (by decide +kernel)) ggX3_hangs_X0_groundOf
theorem dX3_hangs_0 : decode cX3_hangs 0 = .ok (.iload_n 1, 1) := by decide +kernel
theorem dX3_hangs_1 : decode cX3_hangs 1 = .ok (.invokestatic 67, 3) := by decide +kernel
theorem dX3_hangs_4 : decode cX3_hangs 4 = .ok (.ifCond .eq 15, 3) := by decide +kernel
theorem dX3_hangs_7 : decode cX3_hangs 7 = .ok (.aload_n 0, 1) := by decide +kernel
theorem dX3_hangs_8 : decode cX3_hangs 8 = .ok (.getfield 26, 3) := by decide +kernel
theorem dX3_hangs_11 : decode cX3_hangs 11 = .ok (.iload_n 1, 1) := by decide +kernel
theorem dX3_hangs_12 : decode cX3_hangs 12 = .ok (.iload_n 2, 1) := by decide +kernel
theorem dX3_hangs_13 : decode cX3_hangs 13 = .ok (.invokevirtual 104, 3) := by decide +kernel
theorem dX3_hangs_16 : decode cX3_hangs 16 = .ok (.goto 5, 3) := by decide +kernel
theorem dX3_hangs_19 : decode cX3_hangs 19 = .ok (.bipush (-3), 2) := by decide +kernel
theorem dX3_hangs_21 : decode cX3_hangs 21 = .ok (.ireturn, 1) := by decide +kernel
set_option maxRecDepth 20000 in
theorem ggX3_sound_X3_isLine : GoodIn wsX3_sound wsX3_isLine := goodIn_r _ [7] (by decide +kernel) (by decide +kernel)
set_option maxRecDepth 20000 in
theorem gX3_sound_X3_isLine : GoodIn wsX3_sound (va_wsS RX3 67 yX3_isLine wsX3_isLine) := goodIn_app (goodIn_of _ (by decide +kernel)) ggX3_sound_X3_isLine
set_option maxRecDepth 20000 in
theorem ggX3_sound_X0_headOf : GoodIn wsX3_sound wsX0_headOf := goodIn_r _ [12, 13, 5, 6, 7, 50, 51, 52, 53, 54, 55] (by decide +kernel) (by decide +kernel)
set_option maxRecDepth 20000 in
theorem gX3_sound_X0_headOf : GoodIn wsX3_sound (wsV RX3 98 RX0 yX0_headOf wsX0_headOf) := goodIn_app (goodIn_of _ (by decide +kernel)) ggX3_sound_X0_headOf
set_option maxRecDepth 20000 in
theorem ggX3_sound_X3_groundsTable : GoodIn wsX3_sound wsX3_groundsTable := goodIn_r _ [17, 3, 1, 2, 18, 19, 20, 11, 21, 22, 23, 24, 25, 26, 5, 6, 7, 27, 28, 29, 30, 31, 32, 33, 34, 35, 8, 9, 10, 12, 13, 36, 37, 38, 39, 40, 41, 42, 43, 44, 45, 46, 47, 48, 49, 50, 51, 52, 53, 54, 55, 56, 57, 58, 59, 60, 61, 62] (by decide +kernel) (by decide +kernel)
set_option maxRecDepth 20000 in
theorem gX3_sound_X3_groundsTable : GoodIn wsX3_sound (wsV RX3 108 RX3 yX3_groundsTable wsX3_groundsTable) := goodIn_app (goodIn_of _ (by decide +kernel)) ggX3_sound_X3_groundsTable
set_option maxRecDepth 20000 in
theorem ggX3_sound_X1_tableOf : GoodIn wsX3_sound wsX1_tableOf := goodIn_r _ [40, 41, 42, 43, 44, 39, 45, 46, 56, 57, 58, 59, 60, 61, 62] (by decide +kernel) (by decide +kernel)
set_option maxRecDepth 20000 in
theorem gX3_sound_X1_tableOf : GoodIn wsX3_sound (wsV RX3 54 RX1 yX1_tableOf wsX1_tableOf) := goodIn_app (goodIn_of _ (by decide +kernel)) ggX3_sound_X1_tableOf
theorem dX3_sound_0 : decode cX3_sound 0 = .ok (.iload_n 1, 1) := by decide +kernel
theorem dX3_sound_1 : decode cX3_sound 1 = .ok (.invokestatic 67, 3) := by decide +kernel
theorem dX3_sound_4 : decode cX3_sound 4 = .ok (.ifCond .ne 6, 3) := by decide +kernel
theorem dX3_sound_7 : decode cX3_sound 7 = .ok (.bipush (-3), 2) := by decide +kernel
theorem dX3_sound_9 : decode cX3_sound 9 = .ok (.ireturn, 1) := by decide +kernel
theorem dX3_sound_10 : decode cX3_sound 10 = .ok (.aload_n 0, 1) := by decide +kernel
theorem dX3_sound_11 : decode cX3_sound 11 = .ok (.getfield 26, 3) := by decide +kernel
theorem dX3_sound_14 : decode cX3_sound 14 = .ok (.iload_n 1, 1) := by decide +kernel
theorem dX3_sound_15 : decode cX3_sound 15 = .ok (.invokevirtual 98, 3) := by decide +kernel
theorem dX3_sound_18 : decode cX3_sound 18 = .ok (.iconst (-1), 1) := by decide +kernel
theorem dX3_sound_19 : decode cX3_sound 19 = .ok (.if_icmp .ne 5, 3) := by decide +kernel
theorem dX3_sound_22 : decode cX3_sound 22 = .ok (.iconst (-1), 1) := by decide +kernel
theorem dX3_sound_23 : decode cX3_sound 23 = .ok (.ireturn, 1) := by decide +kernel
theorem dX3_sound_24 : decode cX3_sound 24 = .ok (.aload_n 0, 1) := by decide +kernel
theorem dX3_sound_25 : decode cX3_sound 25 = .ok (.iload_n 1, 1) := by decide +kernel
theorem dX3_sound_26 : decode cX3_sound 26 = .ok (.invokevirtual 108, 3) := by decide +kernel
theorem dX3_sound_29 : decode cX3_sound 29 = .ok (.aload_n 0, 1) := by decide +kernel
theorem dX3_sound_30 : decode cX3_sound 30 = .ok (.getfield 10, 3) := by decide +kernel
theorem dX3_sound_33 : decode cX3_sound 33 = .ok (.aload_n 0, 1) := by decide +kernel
theorem dX3_sound_34 : decode cX3_sound 34 = .ok (.getfield 26, 3) := by decide +kernel
theorem dX3_sound_37 : decode cX3_sound 37 = .ok (.iload_n 1, 1) := by decide +kernel
theorem dX3_sound_38 : decode cX3_sound 38 = .ok (.invokevirtual 98, 3) := by decide +kernel
theorem dX3_sound_41 : decode cX3_sound 41 = .ok (.invokevirtual 54, 3) := by decide +kernel
theorem dX3_sound_44 : decode cX3_sound 44 = .ok (.ldc2_w 111, 3) := by decide +kernel
theorem dX3_sound_47 : decode cX3_sound 47 = .ok (.lxor, 1) := by decide +kernel
theorem dX3_sound_48 : decode cX3_sound 48 = .ok (.land, 1) := by decide +kernel
theorem dX3_sound_49 : decode cX3_sound 49 = .ok (.lconst 0, 1) := by decide +kernel
theorem dX3_sound_50 : decode cX3_sound 50 = .ok (.lcmp, 1) := by decide +kernel
theorem dX3_sound_51 : decode cX3_sound 51 = .ok (.ifCond .ne 7, 3) := by decide +kernel
theorem dX3_sound_54 : decode cX3_sound 54 = .ok (.iconst 1, 1) := by decide +kernel
theorem dX3_sound_55 : decode cX3_sound 55 = .ok (.goto 4, 3) := by decide +kernel
theorem dX3_sound_58 : decode cX3_sound 58 = .ok (.iconst 0, 1) := by decide +kernel
theorem dX3_sound_59 : decode cX3_sound 59 = .ok (.ireturn, 1) := by decide +kernel
set_option maxRecDepth 20000 in
theorem ggX3_formulas_X1_count : GoodIn wsX3_formulas wsX1_count := goodIn_r _ [6, 7, 11, 12, 13, 14, 15, 16, 17] (by decide +kernel) (by decide +kernel)
set_option maxRecDepth 20000 in
theorem gX3_formulas_X1_count : GoodIn wsX3_formulas (wsV RX3 81 RX1 yX1_count wsX1_count) := goodIn_app (goodIn_of _ (by decide +kernel)) ggX3_formulas_X1_count
theorem dX3_formulas_0 : decode cX3_formulas 0 = .ok (.aload_n 0, 1) := by decide +kernel
theorem dX3_formulas_1 : decode cX3_formulas 1 = .ok (.getfield 10, 3) := by decide +kernel
theorem dX3_formulas_4 : decode cX3_formulas 4 = .ok (.invokevirtual 81, 3) := by decide +kernel
theorem dX3_formulas_7 : decode cX3_formulas 7 = .ok (.ireturn, 1) := by decide +kernel
set_option maxRecDepth 20000 in
theorem ggX3_lookAt_X3_reasonAgainst : GoodIn wsX3_lookAt wsX3_reasonAgainst := goodIn_r _ [7, 2, 8, 1, 9, 10, 11, 12, 13, 14, 15, 6, 16, 17, 18, 19, 20, 21, 22, 23, 24, 25, 26, 27, 28, 29, 30, 31, 32, 33, 34, 35, 36, 37, 38, 39, 40, 41, 42, 43, 44, 45, 46, 47, 48, 49, 50, 51, 52, 53, 54, 55, 56, 57, 58, 59, 60, 61, 62, 63, 64, 65, 66, 67, 68, 69, 70, 71, 72, 73, 74, 75, 76, 77, 78, 79, 80, 81, 82, 83, 84, 85, 86, 87, 88, 89, 90, 91, 92, 93, 94, 95, 96, 97, 98, 99, 100, 101, 102, 103, 104, 105, 106, 107, 108, 109, 110, 111, 112, 113, 114, 115, 116, 117, 118, 119, 120, 121, 165, 166, 167, 168, 169, 170, 171, 172, 173, 174, 175, 176, 177, 178, 179, 180, 181, 182, 183, 184, 185, 186] (by decide +kernel) (by decide +kernel)
set_option maxRecDepth 20000 in
theorem gX3_lookAt_X3_reasonAgainst : GoodIn wsX3_lookAt (wsV RX3 113 RX3 yX3_reasonAgainst wsX3_reasonAgainst) := goodIn_app (goodIn_of _ (by decide +kernel)) ggX3_lookAt_X3_reasonAgainst
set_option maxRecDepth 20000 in
theorem ggX3_lookAt_X3_conclude : GoodIn wsX3_lookAt wsX3_conclude := goodIn_r _ [125, 2, 1, 21, 22, 23, 24, 12, 25, 26, 15, 6, 16, 62, 63, 64, 35, 65, 66, 51, 52, 53, 54, 55, 9, 10, 11, 13, 14, 38, 39, 40, 41, 42, 126, 127, 128, 59, 129, 130, 131, 132, 133, 61, 75, 90, 85, 134, 135, 136, 137, 138, 139, 140, 141, 142, 143, 76, 57, 58, 60, 144, 145, 146, 147, 148, 149, 150, 151, 152, 153, 154, 155, 86, 87, 88, 89, 81, 82, 83, 84, 114, 115, 116, 117, 118, 119, 120, 121, 104, 165, 166, 167, 168, 169, 170, 171, 172, 173, 174, 175, 176, 177, 178, 179, 180, 181, 182, 183, 184, 185, 186] (by decide +kernel) (by decide +kernel)
set_option maxRecDepth 20000 in
theorem gX3_lookAt_X3_conclude : GoodIn wsX3_lookAt (wsV RX3 116 RX3 yX3_conclude wsX3_conclude) := goodIn_app (goodIn_of _ (by decide +kernel)) ggX3_lookAt_X3_conclude
set_option maxRecDepth 20000 in
theorem ggX3_lookAt_X2_ruleOf : GoodIn wsX3_lookAt wsX2_ruleOf := goodIn_r _ [13, 14, 15, 6, 16, 168, 169, 170, 171, 172, 173] (by decide +kernel) (by decide +kernel)
set_option maxRecDepth 20000 in
theorem gX3_lookAt_X2_ruleOf : GoodIn wsX3_lookAt (wsV RX3 119 RX2 yX2_ruleOf wsX2_ruleOf) := goodIn_app (goodIn_of _ (by decide +kernel)) ggX3_lookAt_X2_ruleOf
set_option maxRecDepth 20000 in
theorem ggX3_lookAt_X0_keep : GoodIn wsX3_lookAt wsX0_keep := goodIn_r _ [159, 103, 66, 37, 15, 6, 16, 160, 96, 97, 35, 98, 99, 100, 101, 102, 104, 161, 162, 163, 164, 109, 174, 175, 176, 177, 178, 179] (by decide +kernel) (by decide +kernel)
set_option maxRecDepth 20000 in
theorem gX3_lookAt_X0_keep : GoodIn wsX3_lookAt (wsV RX3 122 RX0 yX0_keep wsX0_keep) := goodIn_app (goodIn_of _ (by decide +kernel)) ggX3_lookAt_X0_keep
theorem dX3_lookAt_0 : decode cX3_lookAt 0 = .ok (.aload_n 0, 1) := by decide +kernel
theorem dX3_lookAt_1 : decode cX3_lookAt 1 = .ok (.iload_n 1, 1) := by decide +kernel
theorem dX3_lookAt_2 : decode cX3_lookAt 2 = .ok (.invokevirtual 113, 3) := by decide +kernel
theorem dX3_lookAt_5 : decode cX3_lookAt 5 = .ok (.istore_n 2, 1) := by decide +kernel
theorem dX3_lookAt_6 : decode cX3_lookAt 6 = .ok (.iload_n 2, 1) := by decide +kernel
theorem dX3_lookAt_7 : decode cX3_lookAt 7 = .ok (.ifCond .eq 5, 3) := by decide +kernel
theorem dX3_lookAt_10 : decode cX3_lookAt 10 = .ok (.iload_n 2, 1) := by decide +kernel
theorem dX3_lookAt_11 : decode cX3_lookAt 11 = .ok (.ireturn, 1) := by decide +kernel
theorem dX3_lookAt_12 : decode cX3_lookAt 12 = .ok (.aload_n 0, 1) := by decide +kernel
theorem dX3_lookAt_13 : decode cX3_lookAt 13 = .ok (.iload_n 1, 1) := by decide +kernel
theorem dX3_lookAt_14 : decode cX3_lookAt 14 = .ok (.invokevirtual 116, 3) := by decide +kernel
theorem dX3_lookAt_17 : decode cX3_lookAt 17 = .ok (.istore_n 3, 1) := by decide +kernel
theorem dX3_lookAt_18 : decode cX3_lookAt 18 = .ok (.iload_n 3, 1) := by decide +kernel
theorem dX3_lookAt_19 : decode cX3_lookAt 19 = .ok (.bipush (-4), 2) := by decide +kernel
theorem dX3_lookAt_21 : decode cX3_lookAt 21 = .ok (.if_icmp .ne 6, 3) := by decide +kernel
theorem dX3_lookAt_24 : decode cX3_lookAt 24 = .ok (.bipush 7, 2) := by decide +kernel
theorem dX3_lookAt_26 : decode cX3_lookAt 26 = .ok (.ireturn, 1) := by decide +kernel
theorem dX3_lookAt_27 : decode cX3_lookAt 27 = .ok (.aload_n 0, 1) := by decide +kernel
theorem dX3_lookAt_28 : decode cX3_lookAt 28 = .ok (.getfield 26, 3) := by decide +kernel
theorem dX3_lookAt_31 : decode cX3_lookAt 31 = .ok (.iload_n 1, 1) := by decide +kernel
theorem dX3_lookAt_32 : decode cX3_lookAt 32 = .ok (.aload_n 0, 1) := by decide +kernel
theorem dX3_lookAt_33 : decode cX3_lookAt 33 = .ok (.getfield 19, 3) := by decide +kernel
theorem dX3_lookAt_36 : decode cX3_lookAt 36 = .ok (.iload_n 1, 1) := by decide +kernel
theorem dX3_lookAt_37 : decode cX3_lookAt 37 = .ok (.invokevirtual 119, 3) := by decide +kernel
theorem dX3_lookAt_40 : decode cX3_lookAt 40 = .ok (.iload_n 3, 1) := by decide +kernel
theorem dX3_lookAt_41 : decode cX3_lookAt 41 = .ok (.invokevirtual 122, 3) := by decide +kernel
theorem dX3_lookAt_44 : decode cX3_lookAt 44 = .ok (.iconst 0, 1) := by decide +kernel
theorem dX3_lookAt_45 : decode cX3_lookAt 45 = .ok (.ireturn, 1) := by decide +kernel
set_option maxRecDepth 20000 in
theorem ggX3_reasonAgainst_X2_ruleOf : GoodIn wsX3_reasonAgainst wsX2_ruleOf := goodIn_r _ [8, 9, 10, 11, 12, 121, 122, 123, 124, 125, 126] (by decide +kernel) (by decide +kernel)
set_option maxRecDepth 20000 in
theorem gX3_reasonAgainst_X2_ruleOf : GoodIn wsX3_reasonAgainst (wsV RX3 119 RX2 yX2_ruleOf wsX2_ruleOf) := goodIn_app (goodIn_of _ (by decide +kernel)) ggX3_reasonAgainst_X2_ruleOf
set_option maxRecDepth 20000 in
theorem ggX3_reasonAgainst_X3_reasonAgainstNumbers : GoodIn wsX3_reasonAgainst wsX3_reasonAgainstNumbers := goodIn_r _ [16, 1, 17, 18, 19, 20, 7, 21, 22, 10, 11, 12, 23, 24, 25, 26, 3, 27, 28, 29, 30, 31, 32, 33, 34, 35, 36, 37, 38, 39, 40, 41, 42, 43, 44, 45, 46, 47, 48, 49, 50, 51, 52, 53, 54, 55, 56, 57, 118, 119, 120, 121, 122, 123, 124, 125, 126, 127, 128, 129, 130, 131, 132, 133, 134, 135, 136, 137, 138, 139] (by decide +kernel) (by decide +kernel)
set_option maxRecDepth 20000 in
theorem gX3_reasonAgainst_X3_reasonAgainstNumbers : GoodIn wsX3_reasonAgainst (wsV RX3 129 RX3 yX3_reasonAgainstNumbers wsX3_reasonAgainstNumbers) := goodIn_app (goodIn_of _ (by decide +kernel)) ggX3_reasonAgainst_X3_reasonAgainstNumbers
set_option maxRecDepth 20000 in
theorem ggX3_reasonAgainst_X2_pOf : GoodIn wsX3_reasonAgainst wsX2_pOf := goodIn_r _ [21, 22, 10, 11, 12, 121, 122, 123, 124, 125, 126] (by decide +kernel) (by decide +kernel)
set_option maxRecDepth 20000 in
theorem gX3_reasonAgainst_X2_pOf : GoodIn wsX3_reasonAgainst (wsV RX3 132 RX2 yX2_pOf wsX2_pOf) := goodIn_app (goodIn_of _ (by decide +kernel)) ggX3_reasonAgainst_X2_pOf
set_option maxRecDepth 20000 in
theorem ggX3_reasonAgainst_X0_headOf : GoodIn wsX3_reasonAgainst wsX0_headOf := goodIn_r _ [61, 62, 10, 11, 12, 127, 128, 129, 130, 131, 132] (by decide +kernel) (by decide +kernel)
set_option maxRecDepth 20000 in
theorem gX3_reasonAgainst_X0_headOf : GoodIn wsX3_reasonAgainst (wsV RX3 98 RX0 yX0_headOf wsX0_headOf) := goodIn_app (goodIn_of _ (by decide +kernel)) ggX3_reasonAgainst_X0_headOf
set_option maxRecDepth 20000 in
theorem ggX3_reasonAgainst_X3_isFormRight : GoodIn wsX3_reasonAgainst wsX3_isFormRight := goodIn_r _ [66, 17, 67, 68, 69, 55, 70, 71, 72, 53, 54, 56, 57, 73, 74, 75, 11, 76, 77, 78, 79, 80, 81, 82, 83, 84, 85, 86, 118, 119, 120, 133, 134, 135, 136, 137, 138, 139] (by decide +kernel) (by decide +kernel)
set_option maxRecDepth 20000 in
theorem gX3_reasonAgainst_X3_isFormRight : GoodIn wsX3_reasonAgainst (wsV RX3 135 RX3 yX3_isFormRight wsX3_isFormRight) := goodIn_app (goodIn_of _ (by decide +kernel)) ggX3_reasonAgainst_X3_isFormRight
set_option maxRecDepth 20000 in
theorem ggX3_reasonAgainst_X3_areBoxesRight : GoodIn wsX3_reasonAgainst wsX3_areBoxesRight := goodIn_r _ [90, 3, 1, 91, 92, 93, 31, 94, 95, 96, 97, 98, 99, 100, 10, 11, 12, 34, 35, 36, 7, 37, 38, 101, 102, 103, 104, 105, 39, 40, 41, 42, 43, 18, 19, 20, 21, 22, 118, 119, 120, 127, 128, 129, 130, 131, 132, 121, 122, 123, 124, 125, 126] (by decide +kernel) (by decide +kernel)
set_option maxRecDepth 20000 in
theorem gX3_reasonAgainst_X3_areBoxesRight : GoodIn wsX3_reasonAgainst (wsV RX3 139 RX3 yX3_areBoxesRight wsX3_areBoxesRight) := goodIn_app (goodIn_of _ (by decide +kernel)) ggX3_reasonAgainst_X3_areBoxesRight
set_option maxRecDepth 20000 in
theorem ggX3_reasonAgainst_X3_areAllLike : GoodIn wsX3_reasonAgainst wsX3_areAllLike := goodIn_r _ [109, 3, 1, 17, 18, 19, 20, 7, 21, 22, 10, 11, 12, 58, 59, 60, 31, 61, 62, 34, 35, 36, 37, 38, 39, 40, 41, 42, 43, 82, 83, 84, 55, 85, 86, 72, 53, 54, 56, 57, 77, 78, 79, 80, 81, 110, 111, 112, 113, 114, 115, 116, 117, 100, 118, 119, 120, 121, 122, 123, 124, 125, 126, 127, 128, 129, 130, 131, 132, 133, 134, 135, 136, 137, 138, 139] (by decide +kernel) (by decide +kernel)
set_option maxRecDepth 20000 in
theorem gX3_reasonAgainst_X3_areAllLike : GoodIn wsX3_reasonAgainst (wsV RX3 142 RX3 yX3_areAllLike wsX3_areAllLike) := goodIn_app (goodIn_of _ (by decide +kernel)) ggX3_reasonAgainst_X3_areAllLike
theorem dX3_reasonAgainst_0 : decode cX3_reasonAgainst 0 = .ok (.aload_n 0, 1) := by decide +kernel
theorem dX3_reasonAgainst_1 : decode cX3_reasonAgainst 1 = .ok (.getfield 19, 3) := by decide +kernel
theorem dX3_reasonAgainst_4 : decode cX3_reasonAgainst 4 = .ok (.iload_n 1, 1) := by decide +kernel
theorem dX3_reasonAgainst_5 : decode cX3_reasonAgainst 5 = .ok (.invokevirtual 119, 3) := by decide +kernel
theorem dX3_reasonAgainst_8 : decode cX3_reasonAgainst 8 = .ok (.istore_n 2, 1) := by decide +kernel
theorem dX3_reasonAgainst_9 : decode cX3_reasonAgainst 9 = .ok (.iload_n 2, 1) := by decide +kernel
theorem dX3_reasonAgainst_10 : decode cX3_reasonAgainst 10 = .ok (.ifCond .lt 11, 3) := by decide +kernel
theorem dX3_reasonAgainst_13 : decode cX3_reasonAgainst 13 = .ok (.iload_n 2, 1) := by decide +kernel
theorem dX3_reasonAgainst_14 : decode cX3_reasonAgainst 14 = .ok (.getstatic 125, 3) := by decide +kernel
theorem dX3_reasonAgainst_17 : decode cX3_reasonAgainst 17 = .ok (.arraylength, 1) := by decide +kernel
theorem dX3_reasonAgainst_18 : decode cX3_reasonAgainst 18 = .ok (.if_icmp .lt 6, 3) := by decide +kernel
theorem dX3_reasonAgainst_21 : decode cX3_reasonAgainst 21 = .ok (.bipush 8, 2) := by decide +kernel
theorem dX3_reasonAgainst_23 : decode cX3_reasonAgainst 23 = .ok (.ireturn, 1) := by decide +kernel
theorem dX3_reasonAgainst_24 : decode cX3_reasonAgainst 24 = .ok (.aload_n 0, 1) := by decide +kernel
theorem dX3_reasonAgainst_25 : decode cX3_reasonAgainst 25 = .ok (.iload_n 1, 1) := by decide +kernel
theorem dX3_reasonAgainst_26 : decode cX3_reasonAgainst 26 = .ok (.iload_n 2, 1) := by decide +kernel
theorem dX3_reasonAgainst_27 : decode cX3_reasonAgainst 27 = .ok (.getstatic 125, 3) := by decide +kernel
theorem dX3_reasonAgainst_30 : decode cX3_reasonAgainst 30 = .ok (.iload_n 2, 1) := by decide +kernel
theorem dX3_reasonAgainst_31 : decode cX3_reasonAgainst 31 = .ok (.iaload, 1) := by decide +kernel
theorem dX3_reasonAgainst_32 : decode cX3_reasonAgainst 32 = .ok (.invokevirtual 129, 3) := by decide +kernel
theorem dX3_reasonAgainst_35 : decode cX3_reasonAgainst 35 = .ok (.istore_n 3, 1) := by decide +kernel
theorem dX3_reasonAgainst_36 : decode cX3_reasonAgainst 36 = .ok (.iload_n 3, 1) := by decide +kernel
theorem dX3_reasonAgainst_37 : decode cX3_reasonAgainst 37 = .ok (.ifCond .eq 5, 3) := by decide +kernel
theorem dX3_reasonAgainst_40 : decode cX3_reasonAgainst 40 = .ok (.iload_n 3, 1) := by decide +kernel
theorem dX3_reasonAgainst_41 : decode cX3_reasonAgainst 41 = .ok (.ireturn, 1) := by decide +kernel
theorem dX3_reasonAgainst_42 : decode cX3_reasonAgainst 42 = .ok (.aload_n 0, 1) := by decide +kernel
theorem dX3_reasonAgainst_43 : decode cX3_reasonAgainst 43 = .ok (.iload_n 2, 1) := by decide +kernel
theorem dX3_reasonAgainst_44 : decode cX3_reasonAgainst 44 = .ok (.aload_n 0, 1) := by decide +kernel
theorem dX3_reasonAgainst_45 : decode cX3_reasonAgainst 45 = .ok (.getfield 26, 3) := by decide +kernel
theorem dX3_reasonAgainst_48 : decode cX3_reasonAgainst 48 = .ok (.aload_n 0, 1) := by decide +kernel
theorem dX3_reasonAgainst_49 : decode cX3_reasonAgainst 49 = .ok (.getfield 19, 3) := by decide +kernel
theorem dX3_reasonAgainst_52 : decode cX3_reasonAgainst 52 = .ok (.iload_n 1, 1) := by decide +kernel
theorem dX3_reasonAgainst_53 : decode cX3_reasonAgainst 53 = .ok (.invokevirtual 132, 3) := by decide +kernel
theorem dX3_reasonAgainst_56 : decode cX3_reasonAgainst 56 = .ok (.invokevirtual 98, 3) := by decide +kernel
theorem dX3_reasonAgainst_59 : decode cX3_reasonAgainst 59 = .ok (.invokevirtual 135, 3) := by decide +kernel
theorem dX3_reasonAgainst_62 : decode cX3_reasonAgainst 62 = .ok (.ifCond .ne 5, 3) := by decide +kernel
theorem dX3_reasonAgainst_65 : decode cX3_reasonAgainst 65 = .ok (.iconst 4, 1) := by decide +kernel
theorem dX3_reasonAgainst_66 : decode cX3_reasonAgainst 66 = .ok (.ireturn, 1) := by decide +kernel
theorem dX3_reasonAgainst_67 : decode cX3_reasonAgainst 67 = .ok (.aload_n 0, 1) := by decide +kernel
theorem dX3_reasonAgainst_68 : decode cX3_reasonAgainst 68 = .ok (.iload_n 1, 1) := by decide +kernel
theorem dX3_reasonAgainst_69 : decode cX3_reasonAgainst 69 = .ok (.iload_n 2, 1) := by decide +kernel
theorem dX3_reasonAgainst_70 : decode cX3_reasonAgainst 70 = .ok (.invokevirtual 139, 3) := by decide +kernel
theorem dX3_reasonAgainst_73 : decode cX3_reasonAgainst 73 = .ok (.ifCond .ne 5, 3) := by decide +kernel
theorem dX3_reasonAgainst_76 : decode cX3_reasonAgainst 76 = .ok (.iconst 5, 1) := by decide +kernel
theorem dX3_reasonAgainst_77 : decode cX3_reasonAgainst 77 = .ok (.ireturn, 1) := by decide +kernel
theorem dX3_reasonAgainst_78 : decode cX3_reasonAgainst 78 = .ok (.aload_n 0, 1) := by decide +kernel
theorem dX3_reasonAgainst_79 : decode cX3_reasonAgainst 79 = .ok (.iload_n 1, 1) := by decide +kernel
theorem dX3_reasonAgainst_80 : decode cX3_reasonAgainst 80 = .ok (.iload_n 2, 1) := by decide +kernel
theorem dX3_reasonAgainst_81 : decode cX3_reasonAgainst 81 = .ok (.invokevirtual 142, 3) := by decide +kernel
theorem dX3_reasonAgainst_84 : decode cX3_reasonAgainst 84 = .ok (.ifCond .eq 7, 3) := by decide +kernel
theorem dX3_reasonAgainst_87 : decode cX3_reasonAgainst 87 = .ok (.iconst 0, 1) := by decide +kernel
theorem dX3_reasonAgainst_88 : decode cX3_reasonAgainst 88 = .ok (.goto 5, 3) := by decide +kernel
theorem dX3_reasonAgainst_91 : decode cX3_reasonAgainst 91 = .ok (.bipush 6, 2) := by decide +kernel
theorem dX3_reasonAgainst_93 : decode cX3_reasonAgainst 93 = .ok (.ireturn, 1) := by decide +kernel
set_option maxRecDepth 20000 in
theorem ggX3_reasonAgainstNumbers_X2_pOf : GoodIn wsX3_reasonAgainstNumbers wsX2_pOf := goodIn_r _ [7, 8, 9, 10, 11, 51, 52, 53, 54, 55, 56] (by decide +kernel) (by decide +kernel)
set_option maxRecDepth 20000 in
theorem gX3_reasonAgainstNumbers_X2_pOf : GoodIn wsX3_reasonAgainstNumbers (wsV RX3 132 RX2 yX2_pOf wsX2_pOf) := goodIn_app (goodIn_of _ (by decide +kernel)) ggX3_reasonAgainstNumbers_X2_pOf
set_option maxRecDepth 20000 in
theorem ggX3_reasonAgainstNumbers_X3_reasonAgainstLine : GoodIn wsX3_reasonAgainstNumbers wsX3_reasonAgainstLine := goodIn_r _ [15, 16, 17, 9, 10, 11, 18, 19, 20, 21, 22, 23, 48, 49, 50, 57, 58, 59, 60, 61, 62] (by decide +kernel) (by decide +kernel)
set_option maxRecDepth 20000 in
theorem gX3_reasonAgainstNumbers_X3_reasonAgainstLine : GoodIn wsX3_reasonAgainstNumbers (wsV RX3 145 RX3 yX3_reasonAgainstLine wsX3_reasonAgainstLine) := goodIn_app (goodIn_of _ (by decide +kernel)) ggX3_reasonAgainstNumbers_X3_reasonAgainstLine
set_option maxRecDepth 20000 in
theorem ggX3_reasonAgainstNumbers_X2_qOf : GoodIn wsX3_reasonAgainstNumbers wsX2_qOf := goodIn_r _ [27, 28, 9, 10, 11, 51, 52, 53, 54, 55, 56] (by decide +kernel) (by decide +kernel)
set_option maxRecDepth 20000 in
theorem gX3_reasonAgainstNumbers_X2_qOf : GoodIn wsX3_reasonAgainstNumbers (wsV RX3 149 RX2 yX2_qOf wsX2_qOf) := goodIn_app (goodIn_of _ (by decide +kernel)) ggX3_reasonAgainstNumbers_X2_qOf
set_option maxRecDepth 20000 in
theorem ggX3_reasonAgainstNumbers_X2_rOf : GoodIn wsX3_reasonAgainstNumbers wsX2_rOf := goodIn_r _ [32, 33, 9, 10, 11, 51, 52, 53, 54, 55, 56] (by decide +kernel) (by decide +kernel)
set_option maxRecDepth 20000 in
theorem gX3_reasonAgainstNumbers_X2_rOf : GoodIn wsX3_reasonAgainstNumbers (wsV RX3 152 RX2 yX2_rOf wsX2_rOf) := goodIn_app (goodIn_of _ (by decide +kernel)) ggX3_reasonAgainstNumbers_X2_rOf
set_option maxRecDepth 20000 in
theorem ggX3_reasonAgainstNumbers_X3_takesFormula : GoodIn wsX3_reasonAgainstNumbers wsX3_takesFormula := goodIn_r _ [36] (by decide +kernel) (by decide +kernel)
set_option maxRecDepth 20000 in
theorem gX3_reasonAgainstNumbers_X3_takesFormula : GoodIn wsX3_reasonAgainstNumbers (va_wsS RX3 155 yX3_takesFormula wsX3_takesFormula) := goodIn_app (goodIn_of _ (by decide +kernel)) ggX3_reasonAgainstNumbers_X3_takesFormula
set_option maxRecDepth 20000 in
theorem ggX3_reasonAgainstNumbers_X2_formulaOf : GoodIn wsX3_reasonAgainstNumbers wsX2_formulaOf := goodIn_r _ [40, 41, 9, 10, 11, 51, 52, 53, 54, 55, 56] (by decide +kernel) (by decide +kernel)
set_option maxRecDepth 20000 in
theorem gX3_reasonAgainstNumbers_X2_formulaOf : GoodIn wsX3_reasonAgainstNumbers (wsV RX3 158 RX2 yX2_formulaOf wsX2_formulaOf) := goodIn_app (goodIn_of _ (by decide +kernel)) ggX3_reasonAgainstNumbers_X2_formulaOf
set_option maxRecDepth 20000 in
theorem ggX3_reasonAgainstNumbers_X1_has : GoodIn wsX3_reasonAgainstNumbers wsX1_has := goodIn_r _ [46, 47, 63, 64, 65, 66, 67, 68, 69] (by decide +kernel) (by decide +kernel)
set_option maxRecDepth 20000 in
theorem gX3_reasonAgainstNumbers_X1_has : GoodIn wsX3_reasonAgainstNumbers (wsV RX3 38 RX1 yX1_has wsX1_has) := goodIn_app (goodIn_of _ (by decide +kernel)) ggX3_reasonAgainstNumbers_X1_has
theorem dX3_reasonAgainstNumbers_0 : decode cX3_reasonAgainstNumbers 0 = .ok (.iconst 0, 1) := by decide +kernel
theorem dX3_reasonAgainstNumbers_1 : decode cX3_reasonAgainstNumbers 1 = .ok (.istore 4, 2) := by decide +kernel
theorem dX3_reasonAgainstNumbers_3 : decode cX3_reasonAgainstNumbers 3 = .ok (.iload_n 3, 1) := by decide +kernel
theorem dX3_reasonAgainstNumbers_4 : decode cX3_reasonAgainstNumbers 4 = .ok (.iconst 1, 1) := by decide +kernel
theorem dX3_reasonAgainstNumbers_5 : decode cX3_reasonAgainstNumbers 5 = .ok (.if_icmp .lt 29, 3) := by decide +kernel
theorem dX3_reasonAgainstNumbers_8 : decode cX3_reasonAgainstNumbers 8 = .ok (.aload_n 0, 1) := by decide +kernel
theorem dX3_reasonAgainstNumbers_9 : decode cX3_reasonAgainstNumbers 9 = .ok (.iload_n 1, 1) := by decide +kernel
theorem dX3_reasonAgainstNumbers_10 : decode cX3_reasonAgainstNumbers 10 = .ok (.aload_n 0, 1) := by decide +kernel
theorem dX3_reasonAgainstNumbers_11 : decode cX3_reasonAgainstNumbers 11 = .ok (.getfield 19, 3) := by decide +kernel
theorem dX3_reasonAgainstNumbers_14 : decode cX3_reasonAgainstNumbers 14 = .ok (.iload_n 1, 1) := by decide +kernel
theorem dX3_reasonAgainstNumbers_15 : decode cX3_reasonAgainstNumbers 15 = .ok (.invokevirtual 132, 3) := by decide +kernel
theorem dX3_reasonAgainstNumbers_18 : decode cX3_reasonAgainstNumbers 18 = .ok (.iload_n 2, 1) := by decide +kernel
theorem dX3_reasonAgainstNumbers_19 : decode cX3_reasonAgainstNumbers 19 = .ok (.bipush 10, 2) := by decide +kernel
theorem dX3_reasonAgainstNumbers_21 : decode cX3_reasonAgainstNumbers 21 = .ok (.if_icmp .eq 7, 3) := by decide +kernel
theorem dX3_reasonAgainstNumbers_24 : decode cX3_reasonAgainstNumbers 24 = .ok (.iconst 1, 1) := by decide +kernel
theorem dX3_reasonAgainstNumbers_25 : decode cX3_reasonAgainstNumbers 25 = .ok (.goto 4, 3) := by decide +kernel
theorem dX3_reasonAgainstNumbers_28 : decode cX3_reasonAgainstNumbers 28 = .ok (.iconst 0, 1) := by decide +kernel
theorem dX3_reasonAgainstNumbers_29 : decode cX3_reasonAgainstNumbers 29 = .ok (.invokevirtual 145, 3) := by decide +kernel
theorem dX3_reasonAgainstNumbers_32 : decode cX3_reasonAgainstNumbers 32 = .ok (.istore 4, 2) := by decide +kernel
theorem dX3_reasonAgainstNumbers_34 : decode cX3_reasonAgainstNumbers 34 = .ok (.iload 4, 2) := by decide +kernel
theorem dX3_reasonAgainstNumbers_36 : decode cX3_reasonAgainstNumbers 36 = .ok (.ifCond .ne 34, 3) := by decide +kernel
theorem dX3_reasonAgainstNumbers_39 : decode cX3_reasonAgainstNumbers 39 = .ok (.iload_n 3, 1) := by decide +kernel
theorem dX3_reasonAgainstNumbers_40 : decode cX3_reasonAgainstNumbers 40 = .ok (.iconst 2, 1) := by decide +kernel
theorem dX3_reasonAgainstNumbers_41 : decode cX3_reasonAgainstNumbers 41 = .ok (.if_icmp .lt 29, 3) := by decide +kernel
theorem dX3_reasonAgainstNumbers_44 : decode cX3_reasonAgainstNumbers 44 = .ok (.aload_n 0, 1) := by decide +kernel
theorem dX3_reasonAgainstNumbers_45 : decode cX3_reasonAgainstNumbers 45 = .ok (.iload_n 1, 1) := by decide +kernel
theorem dX3_reasonAgainstNumbers_46 : decode cX3_reasonAgainstNumbers 46 = .ok (.aload_n 0, 1) := by decide +kernel
theorem dX3_reasonAgainstNumbers_47 : decode cX3_reasonAgainstNumbers 47 = .ok (.getfield 19, 3) := by decide +kernel
theorem dX3_reasonAgainstNumbers_50 : decode cX3_reasonAgainstNumbers 50 = .ok (.iload_n 1, 1) := by decide +kernel
theorem dX3_reasonAgainstNumbers_51 : decode cX3_reasonAgainstNumbers 51 = .ok (.invokevirtual 149, 3) := by decide +kernel
theorem dX3_reasonAgainstNumbers_54 : decode cX3_reasonAgainstNumbers 54 = .ok (.iload_n 2, 1) := by decide +kernel
theorem dX3_reasonAgainstNumbers_55 : decode cX3_reasonAgainstNumbers 55 = .ok (.bipush 9, 2) := by decide +kernel
theorem dX3_reasonAgainstNumbers_57 : decode cX3_reasonAgainstNumbers 57 = .ok (.if_icmp .eq 7, 3) := by decide +kernel
theorem dX3_reasonAgainstNumbers_60 : decode cX3_reasonAgainstNumbers 60 = .ok (.iconst 1, 1) := by decide +kernel
theorem dX3_reasonAgainstNumbers_61 : decode cX3_reasonAgainstNumbers 61 = .ok (.goto 4, 3) := by decide +kernel
theorem dX3_reasonAgainstNumbers_64 : decode cX3_reasonAgainstNumbers 64 = .ok (.iconst 0, 1) := by decide +kernel
theorem dX3_reasonAgainstNumbers_65 : decode cX3_reasonAgainstNumbers 65 = .ok (.invokevirtual 145, 3) := by decide +kernel
theorem dX3_reasonAgainstNumbers_68 : decode cX3_reasonAgainstNumbers 68 = .ok (.istore 4, 2) := by decide +kernel
theorem dX3_reasonAgainstNumbers_70 : decode cX3_reasonAgainstNumbers 70 = .ok (.iload 4, 2) := by decide +kernel
theorem dX3_reasonAgainstNumbers_72 : decode cX3_reasonAgainstNumbers 72 = .ok (.ifCond .ne 34, 3) := by decide +kernel
theorem dX3_reasonAgainstNumbers_75 : decode cX3_reasonAgainstNumbers 75 = .ok (.iload_n 3, 1) := by decide +kernel
theorem dX3_reasonAgainstNumbers_76 : decode cX3_reasonAgainstNumbers 76 = .ok (.iconst 3, 1) := by decide +kernel
theorem dX3_reasonAgainstNumbers_77 : decode cX3_reasonAgainstNumbers 77 = .ok (.if_icmp .lt 29, 3) := by decide +kernel
theorem dX3_reasonAgainstNumbers_80 : decode cX3_reasonAgainstNumbers 80 = .ok (.aload_n 0, 1) := by decide +kernel
theorem dX3_reasonAgainstNumbers_81 : decode cX3_reasonAgainstNumbers 81 = .ok (.iload_n 1, 1) := by decide +kernel
theorem dX3_reasonAgainstNumbers_82 : decode cX3_reasonAgainstNumbers 82 = .ok (.aload_n 0, 1) := by decide +kernel
theorem dX3_reasonAgainstNumbers_83 : decode cX3_reasonAgainstNumbers 83 = .ok (.getfield 19, 3) := by decide +kernel
theorem dX3_reasonAgainstNumbers_86 : decode cX3_reasonAgainstNumbers 86 = .ok (.iload_n 1, 1) := by decide +kernel
theorem dX3_reasonAgainstNumbers_87 : decode cX3_reasonAgainstNumbers 87 = .ok (.invokevirtual 152, 3) := by decide +kernel
theorem dX3_reasonAgainstNumbers_90 : decode cX3_reasonAgainstNumbers 90 = .ok (.iload_n 2, 1) := by decide +kernel
theorem dX3_reasonAgainstNumbers_91 : decode cX3_reasonAgainstNumbers 91 = .ok (.bipush 9, 2) := by decide +kernel
theorem dX3_reasonAgainstNumbers_93 : decode cX3_reasonAgainstNumbers 93 = .ok (.if_icmp .eq 7, 3) := by decide +kernel
theorem dX3_reasonAgainstNumbers_96 : decode cX3_reasonAgainstNumbers 96 = .ok (.iconst 1, 1) := by decide +kernel
theorem dX3_reasonAgainstNumbers_97 : decode cX3_reasonAgainstNumbers 97 = .ok (.goto 4, 3) := by decide +kernel
theorem dX3_reasonAgainstNumbers_100 : decode cX3_reasonAgainstNumbers 100 = .ok (.iconst 0, 1) := by decide +kernel
theorem dX3_reasonAgainstNumbers_101 : decode cX3_reasonAgainstNumbers 101 = .ok (.invokevirtual 145, 3) := by decide +kernel
theorem dX3_reasonAgainstNumbers_104 : decode cX3_reasonAgainstNumbers 104 = .ok (.istore 4, 2) := by decide +kernel
theorem dX3_reasonAgainstNumbers_106 : decode cX3_reasonAgainstNumbers 106 = .ok (.iload 4, 2) := by decide +kernel
theorem dX3_reasonAgainstNumbers_108 : decode cX3_reasonAgainstNumbers 108 = .ok (.ifCond .ne 31, 3) := by decide +kernel
theorem dX3_reasonAgainstNumbers_111 : decode cX3_reasonAgainstNumbers 111 = .ok (.iload_n 2, 1) := by decide +kernel
theorem dX3_reasonAgainstNumbers_112 : decode cX3_reasonAgainstNumbers 112 = .ok (.invokestatic 155, 3) := by decide +kernel
theorem dX3_reasonAgainstNumbers_115 : decode cX3_reasonAgainstNumbers 115 = .ok (.ifCond .eq 24, 3) := by decide +kernel
theorem dX3_reasonAgainstNumbers_118 : decode cX3_reasonAgainstNumbers 118 = .ok (.aload_n 0, 1) := by decide +kernel
theorem dX3_reasonAgainstNumbers_119 : decode cX3_reasonAgainstNumbers 119 = .ok (.getfield 10, 3) := by decide +kernel
theorem dX3_reasonAgainstNumbers_122 : decode cX3_reasonAgainstNumbers 122 = .ok (.aload_n 0, 1) := by decide +kernel
theorem dX3_reasonAgainstNumbers_123 : decode cX3_reasonAgainstNumbers 123 = .ok (.getfield 19, 3) := by decide +kernel
theorem dX3_reasonAgainstNumbers_126 : decode cX3_reasonAgainstNumbers 126 = .ok (.iload_n 1, 1) := by decide +kernel
theorem dX3_reasonAgainstNumbers_127 : decode cX3_reasonAgainstNumbers 127 = .ok (.invokevirtual 158, 3) := by decide +kernel
theorem dX3_reasonAgainstNumbers_130 : decode cX3_reasonAgainstNumbers 130 = .ok (.invokevirtual 38, 3) := by decide +kernel
theorem dX3_reasonAgainstNumbers_133 : decode cX3_reasonAgainstNumbers 133 = .ok (.ifCond .ne 6, 3) := by decide +kernel
theorem dX3_reasonAgainstNumbers_136 : decode cX3_reasonAgainstNumbers 136 = .ok (.iconst 1, 1) := by decide +kernel
theorem dX3_reasonAgainstNumbers_137 : decode cX3_reasonAgainstNumbers 137 = .ok (.istore 4, 2) := by decide +kernel
theorem dX3_reasonAgainstNumbers_139 : decode cX3_reasonAgainstNumbers 139 = .ok (.iload 4, 2) := by decide +kernel
theorem dX3_reasonAgainstNumbers_141 : decode cX3_reasonAgainstNumbers 141 = .ok (.ireturn, 1) := by decide +kernel
set_option maxRecDepth 20000 in
theorem ggX3_reasonAgainstLine_X3_isLine : GoodIn wsX3_reasonAgainstLine wsX3_isLine := goodIn_r _ [5] (by decide +kernel) (by decide +kernel)
set_option maxRecDepth 20000 in
theorem gX3_reasonAgainstLine_X3_isLine : GoodIn wsX3_reasonAgainstLine (va_wsS RX3 67 yX3_isLine wsX3_isLine) := goodIn_app (goodIn_of _ (by decide +kernel)) ggX3_reasonAgainstLine_X3_isLine
set_option maxRecDepth 20000 in
theorem ggX3_reasonAgainstLine_X0_isInForce : GoodIn wsX3_reasonAgainstLine wsX0_isInForce := goodIn_r _ [10, 11, 3, 4, 5, 15, 16, 17, 18, 19, 20] (by decide +kernel) (by decide +kernel)
set_option maxRecDepth 20000 in
theorem gX3_reasonAgainstLine_X0_isInForce : GoodIn wsX3_reasonAgainstLine (wsV RX3 101 RX0 yX0_isInForce wsX0_isInForce) := goodIn_app (goodIn_of _ (by decide +kernel)) ggX3_reasonAgainstLine_X0_isInForce
theorem dX3_reasonAgainstLine_0 : decode cX3_reasonAgainstLine 0 = .ok (.iload_n 2, 1) := by decide +kernel
theorem dX3_reasonAgainstLine_1 : decode cX3_reasonAgainstLine 1 = .ok (.invokestatic 67, 3) := by decide +kernel
theorem dX3_reasonAgainstLine_4 : decode cX3_reasonAgainstLine 4 = .ok (.ifCond .ne 5, 3) := by decide +kernel
theorem dX3_reasonAgainstLine_7 : decode cX3_reasonAgainstLine 7 = .ok (.iconst 1, 1) := by decide +kernel
theorem dX3_reasonAgainstLine_8 : decode cX3_reasonAgainstLine 8 = .ok (.ireturn, 1) := by decide +kernel
theorem dX3_reasonAgainstLine_9 : decode cX3_reasonAgainstLine 9 = .ok (.iload_n 2, 1) := by decide +kernel
theorem dX3_reasonAgainstLine_10 : decode cX3_reasonAgainstLine 10 = .ok (.iload_n 1, 1) := by decide +kernel
theorem dX3_reasonAgainstLine_11 : decode cX3_reasonAgainstLine 11 = .ok (.if_icmp .lt 5, 3) := by decide +kernel
theorem dX3_reasonAgainstLine_14 : decode cX3_reasonAgainstLine 14 = .ok (.iconst 2, 1) := by decide +kernel
theorem dX3_reasonAgainstLine_15 : decode cX3_reasonAgainstLine 15 = .ok (.ireturn, 1) := by decide +kernel
theorem dX3_reasonAgainstLine_16 : decode cX3_reasonAgainstLine 16 = .ok (.iload_n 3, 1) := by decide +kernel
theorem dX3_reasonAgainstLine_17 : decode cX3_reasonAgainstLine 17 = .ok (.ifCond .eq 18, 3) := by decide +kernel
theorem dX3_reasonAgainstLine_20 : decode cX3_reasonAgainstLine 20 = .ok (.aload_n 0, 1) := by decide +kernel
theorem dX3_reasonAgainstLine_21 : decode cX3_reasonAgainstLine 21 = .ok (.getfield 26, 3) := by decide +kernel
theorem dX3_reasonAgainstLine_24 : decode cX3_reasonAgainstLine 24 = .ok (.iload_n 2, 1) := by decide +kernel
theorem dX3_reasonAgainstLine_25 : decode cX3_reasonAgainstLine 25 = .ok (.invokevirtual 101, 3) := by decide +kernel
theorem dX3_reasonAgainstLine_28 : decode cX3_reasonAgainstLine 28 = .ok (.ifCond .ne 7, 3) := by decide +kernel
theorem dX3_reasonAgainstLine_31 : decode cX3_reasonAgainstLine 31 = .ok (.iconst 3, 1) := by decide +kernel
theorem dX3_reasonAgainstLine_32 : decode cX3_reasonAgainstLine 32 = .ok (.goto 4, 3) := by decide +kernel
theorem dX3_reasonAgainstLine_35 : decode cX3_reasonAgainstLine 35 = .ok (.iconst 0, 1) := by decide +kernel
theorem dX3_reasonAgainstLine_36 : decode cX3_reasonAgainstLine 36 = .ok (.ireturn, 1) := by decide +kernel
theorem dX3_takesFormula_0 : decode cX3_takesFormula 0 = .ok (.iload_n 0, 1) := by decide +kernel
theorem dX3_takesFormula_1 : decode cX3_takesFormula 1 = .ok (.ifCond .eq 26, 3) := by decide +kernel
theorem dX3_takesFormula_4 : decode cX3_takesFormula 4 = .ok (.iload_n 0, 1) := by decide +kernel
theorem dX3_takesFormula_5 : decode cX3_takesFormula 5 = .ok (.iconst 1, 1) := by decide +kernel
theorem dX3_takesFormula_6 : decode cX3_takesFormula 6 = .ok (.if_icmp .eq 21, 3) := by decide +kernel
theorem dX3_takesFormula_9 : decode cX3_takesFormula 9 = .ok (.iload_n 0, 1) := by decide +kernel
theorem dX3_takesFormula_10 : decode cX3_takesFormula 10 = .ok (.bipush 7, 2) := by decide +kernel
theorem dX3_takesFormula_12 : decode cX3_takesFormula 12 = .ok (.if_icmp .eq 15, 3) := by decide +kernel
theorem dX3_takesFormula_15 : decode cX3_takesFormula 15 = .ok (.iload_n 0, 1) := by decide +kernel
theorem dX3_takesFormula_16 : decode cX3_takesFormula 16 = .ok (.bipush 8, 2) := by decide +kernel
theorem dX3_takesFormula_18 : decode cX3_takesFormula 18 = .ok (.if_icmp .eq 9, 3) := by decide +kernel
theorem dX3_takesFormula_21 : decode cX3_takesFormula 21 = .ok (.iload_n 0, 1) := by decide +kernel
theorem dX3_takesFormula_22 : decode cX3_takesFormula 22 = .ok (.bipush 12, 2) := by decide +kernel
theorem dX3_takesFormula_24 : decode cX3_takesFormula 24 = .ok (.if_icmp .ne 7, 3) := by decide +kernel
theorem dX3_takesFormula_27 : decode cX3_takesFormula 27 = .ok (.iconst 1, 1) := by decide +kernel
theorem dX3_takesFormula_28 : decode cX3_takesFormula 28 = .ok (.goto 4, 3) := by decide +kernel
theorem dX3_takesFormula_31 : decode cX3_takesFormula 31 = .ok (.iconst 0, 1) := by decide +kernel
theorem dX3_takesFormula_32 : decode cX3_takesFormula 32 = .ok (.ireturn, 1) := by decide +kernel
set_option maxRecDepth 20000 in
theorem ggX3_isFormRight_X1_kindOf : GoodIn wsX3_isFormRight wsX1_kindOf := goodIn_r _ [6, 7, 8, 9, 10, 5, 11, 12, 31, 32, 33, 34, 35, 36, 37] (by decide +kernel) (by decide +kernel)
set_option maxRecDepth 20000 in
theorem gX3_isFormRight_X1_kindOf : GoodIn wsX3_isFormRight (wsV RX3 41 RX1 yX1_kindOf wsX1_kindOf) := goodIn_app (goodIn_of _ (by decide +kernel)) ggX3_isFormRight_X1_kindOf
set_option maxRecDepth 20000 in
theorem ggX3_isFormRight_X3_isNegation : GoodIn wsX3_isFormRight wsX3_isNegation := goodIn_r _ [17, 1, 2, 3, 4, 5, 6, 7, 8, 9, 10, 11, 12, 18, 19, 20, 21, 22, 28, 29, 30, 31, 32, 33, 34, 35, 36, 37] (by decide +kernel) (by decide +kernel)
set_option maxRecDepth 20000 in
theorem gX3_isFormRight_X3_isNegation : GoodIn wsX3_isFormRight (wsV RX3 161 RX3 yX3_isNegation wsX3_isNegation) := goodIn_app (goodIn_of _ (by decide +kernel)) ggX3_isFormRight_X3_isNegation
set_option maxRecDepth 20000 in
theorem ggX3_isFormRight_X1_firstOf : GoodIn wsX3_isFormRight wsX1_firstOf := goodIn_r _ [26, 27, 8, 9, 10, 5, 11, 12, 31, 32, 33, 34, 35, 36, 37] (by decide +kernel) (by decide +kernel)
set_option maxRecDepth 20000 in
theorem gX3_isFormRight_X1_firstOf : GoodIn wsX3_isFormRight (wsV RX3 45 RX1 yX1_firstOf wsX1_firstOf) := goodIn_app (goodIn_of _ (by decide +kernel)) ggX3_isFormRight_X1_firstOf
theorem dX3_isFormRight_0 : decode cX3_isFormRight 0 = .ok (.iload_n 1, 1) := by decide +kernel
theorem dX3_isFormRight_1 : decode cX3_isFormRight 1 = .ok (.tableswitch 151 5 13 #[51, 51, 151, 151, 69, 151, 87, 105, 122], 51) := by decide +kernel
theorem dX3_isFormRight_52 : decode cX3_isFormRight 52 = .ok (.aload_n 0, 1) := by decide +kernel
theorem dX3_isFormRight_53 : decode cX3_isFormRight 53 = .ok (.getfield 10, 3) := by decide +kernel
theorem dX3_isFormRight_56 : decode cX3_isFormRight 56 = .ok (.iload_n 2, 1) := by decide +kernel
theorem dX3_isFormRight_57 : decode cX3_isFormRight 57 = .ok (.invokevirtual 41, 3) := by decide +kernel
theorem dX3_isFormRight_60 : decode cX3_isFormRight 60 = .ok (.iconst 2, 1) := by decide +kernel
theorem dX3_isFormRight_61 : decode cX3_isFormRight 61 = .ok (.if_icmp .ne 7, 3) := by decide +kernel
theorem dX3_isFormRight_64 : decode cX3_isFormRight 64 = .ok (.iconst 1, 1) := by decide +kernel
theorem dX3_isFormRight_65 : decode cX3_isFormRight 65 = .ok (.goto 4, 3) := by decide +kernel
theorem dX3_isFormRight_68 : decode cX3_isFormRight 68 = .ok (.iconst 0, 1) := by decide +kernel
theorem dX3_isFormRight_69 : decode cX3_isFormRight 69 = .ok (.ireturn, 1) := by decide +kernel
theorem dX3_isFormRight_70 : decode cX3_isFormRight 70 = .ok (.aload_n 0, 1) := by decide +kernel
theorem dX3_isFormRight_71 : decode cX3_isFormRight 71 = .ok (.getfield 10, 3) := by decide +kernel
theorem dX3_isFormRight_74 : decode cX3_isFormRight 74 = .ok (.iload_n 2, 1) := by decide +kernel
theorem dX3_isFormRight_75 : decode cX3_isFormRight 75 = .ok (.invokevirtual 41, 3) := by decide +kernel
theorem dX3_isFormRight_78 : decode cX3_isFormRight 78 = .ok (.iconst 3, 1) := by decide +kernel
theorem dX3_isFormRight_79 : decode cX3_isFormRight 79 = .ok (.if_icmp .ne 7, 3) := by decide +kernel
theorem dX3_isFormRight_82 : decode cX3_isFormRight 82 = .ok (.iconst 1, 1) := by decide +kernel
theorem dX3_isFormRight_83 : decode cX3_isFormRight 83 = .ok (.goto 4, 3) := by decide +kernel
theorem dX3_isFormRight_86 : decode cX3_isFormRight 86 = .ok (.iconst 0, 1) := by decide +kernel
theorem dX3_isFormRight_87 : decode cX3_isFormRight 87 = .ok (.ireturn, 1) := by decide +kernel
theorem dX3_isFormRight_88 : decode cX3_isFormRight 88 = .ok (.aload_n 0, 1) := by decide +kernel
theorem dX3_isFormRight_89 : decode cX3_isFormRight 89 = .ok (.getfield 10, 3) := by decide +kernel
theorem dX3_isFormRight_92 : decode cX3_isFormRight 92 = .ok (.iload_n 2, 1) := by decide +kernel
theorem dX3_isFormRight_93 : decode cX3_isFormRight 93 = .ok (.invokevirtual 41, 3) := by decide +kernel
theorem dX3_isFormRight_96 : decode cX3_isFormRight 96 = .ok (.iconst 4, 1) := by decide +kernel
theorem dX3_isFormRight_97 : decode cX3_isFormRight 97 = .ok (.if_icmp .ne 7, 3) := by decide +kernel
theorem dX3_isFormRight_100 : decode cX3_isFormRight 100 = .ok (.iconst 1, 1) := by decide +kernel
theorem dX3_isFormRight_101 : decode cX3_isFormRight 101 = .ok (.goto 4, 3) := by decide +kernel
theorem dX3_isFormRight_104 : decode cX3_isFormRight 104 = .ok (.iconst 0, 1) := by decide +kernel
theorem dX3_isFormRight_105 : decode cX3_isFormRight 105 = .ok (.ireturn, 1) := by decide +kernel
theorem dX3_isFormRight_106 : decode cX3_isFormRight 106 = .ok (.aload_n 0, 1) := by decide +kernel
theorem dX3_isFormRight_107 : decode cX3_isFormRight 107 = .ok (.getfield 10, 3) := by decide +kernel
theorem dX3_isFormRight_110 : decode cX3_isFormRight 110 = .ok (.iload_n 2, 1) := by decide +kernel
theorem dX3_isFormRight_111 : decode cX3_isFormRight 111 = .ok (.invokevirtual 41, 3) := by decide +kernel
theorem dX3_isFormRight_114 : decode cX3_isFormRight 114 = .ok (.ifCond .ne 7, 3) := by decide +kernel
theorem dX3_isFormRight_117 : decode cX3_isFormRight 117 = .ok (.iconst 1, 1) := by decide +kernel
theorem dX3_isFormRight_118 : decode cX3_isFormRight 118 = .ok (.goto 4, 3) := by decide +kernel
theorem dX3_isFormRight_121 : decode cX3_isFormRight 121 = .ok (.iconst 0, 1) := by decide +kernel
theorem dX3_isFormRight_122 : decode cX3_isFormRight 122 = .ok (.ireturn, 1) := by decide +kernel
theorem dX3_isFormRight_123 : decode cX3_isFormRight 123 = .ok (.aload_n 0, 1) := by decide +kernel
theorem dX3_isFormRight_124 : decode cX3_isFormRight 124 = .ok (.iload_n 2, 1) := by decide +kernel
theorem dX3_isFormRight_125 : decode cX3_isFormRight 125 = .ok (.invokevirtual 161, 3) := by decide +kernel
theorem dX3_isFormRight_128 : decode cX3_isFormRight 128 = .ok (.ifCond .eq 22, 3) := by decide +kernel
theorem dX3_isFormRight_131 : decode cX3_isFormRight 131 = .ok (.aload_n 0, 1) := by decide +kernel
theorem dX3_isFormRight_132 : decode cX3_isFormRight 132 = .ok (.aload_n 0, 1) := by decide +kernel
theorem dX3_isFormRight_133 : decode cX3_isFormRight 133 = .ok (.getfield 10, 3) := by decide +kernel
theorem dX3_isFormRight_136 : decode cX3_isFormRight 136 = .ok (.iload_n 2, 1) := by decide +kernel
theorem dX3_isFormRight_137 : decode cX3_isFormRight 137 = .ok (.invokevirtual 45, 3) := by decide +kernel
theorem dX3_isFormRight_140 : decode cX3_isFormRight 140 = .ok (.invokevirtual 161, 3) := by decide +kernel
theorem dX3_isFormRight_143 : decode cX3_isFormRight 143 = .ok (.ifCond .eq 7, 3) := by decide +kernel
theorem dX3_isFormRight_146 : decode cX3_isFormRight 146 = .ok (.iconst 1, 1) := by decide +kernel
theorem dX3_isFormRight_147 : decode cX3_isFormRight 147 = .ok (.goto 4, 3) := by decide +kernel
theorem dX3_isFormRight_150 : decode cX3_isFormRight 150 = .ok (.iconst 0, 1) := by decide +kernel
theorem dX3_isFormRight_151 : decode cX3_isFormRight 151 = .ok (.ireturn, 1) := by decide +kernel
theorem dX3_isFormRight_152 : decode cX3_isFormRight 152 = .ok (.iconst 1, 1) := by decide +kernel
theorem dX3_isFormRight_153 : decode cX3_isFormRight 153 = .ok (.ireturn, 1) := by decide +kernel
set_option maxRecDepth 20000 in
theorem ggX3_isNegation_X1_kindOf : GoodIn wsX3_isNegation wsX1_kindOf := goodIn_r _ [6, 7, 8, 9, 10, 5, 11, 12, 21, 22, 23, 24, 25, 26, 27] (by decide +kernel) (by decide +kernel)
set_option maxRecDepth 20000 in
theorem gX3_isNegation_X1_kindOf : GoodIn wsX3_isNegation (wsV RX3 41 RX1 yX1_kindOf wsX1_kindOf) := goodIn_app (goodIn_of _ (by decide +kernel)) ggX3_isNegation_X1_kindOf
set_option maxRecDepth 20000 in
theorem ggX3_isNegation_X1_secondOf : GoodIn wsX3_isNegation wsX1_secondOf := goodIn_r _ [16, 17, 8, 9, 10, 5, 11, 12, 21, 22, 23, 24, 25, 26, 27] (by decide +kernel) (by decide +kernel)
set_option maxRecDepth 20000 in
theorem gX3_isNegation_X1_secondOf : GoodIn wsX3_isNegation (wsV RX3 48 RX1 yX1_secondOf wsX1_secondOf) := goodIn_app (goodIn_of _ (by decide +kernel)) ggX3_isNegation_X1_secondOf
theorem dX3_isNegation_0 : decode cX3_isNegation 0 = .ok (.aload_n 0, 1) := by decide +kernel
theorem dX3_isNegation_1 : decode cX3_isNegation 1 = .ok (.getfield 10, 3) := by decide +kernel
theorem dX3_isNegation_4 : decode cX3_isNegation 4 = .ok (.iload_n 1, 1) := by decide +kernel
theorem dX3_isNegation_5 : decode cX3_isNegation 5 = .ok (.invokevirtual 41, 3) := by decide +kernel
theorem dX3_isNegation_8 : decode cX3_isNegation 8 = .ok (.iconst 4, 1) := by decide +kernel
theorem dX3_isNegation_9 : decode cX3_isNegation 9 = .ok (.if_icmp .ne 25, 3) := by decide +kernel
theorem dX3_isNegation_12 : decode cX3_isNegation 12 = .ok (.aload_n 0, 1) := by decide +kernel
theorem dX3_isNegation_13 : decode cX3_isNegation 13 = .ok (.getfield 10, 3) := by decide +kernel
theorem dX3_isNegation_16 : decode cX3_isNegation 16 = .ok (.aload_n 0, 1) := by decide +kernel
theorem dX3_isNegation_17 : decode cX3_isNegation 17 = .ok (.getfield 10, 3) := by decide +kernel
theorem dX3_isNegation_20 : decode cX3_isNegation 20 = .ok (.iload_n 1, 1) := by decide +kernel
theorem dX3_isNegation_21 : decode cX3_isNegation 21 = .ok (.invokevirtual 48, 3) := by decide +kernel
theorem dX3_isNegation_24 : decode cX3_isNegation 24 = .ok (.invokevirtual 41, 3) := by decide +kernel
theorem dX3_isNegation_27 : decode cX3_isNegation 27 = .ok (.ifCond .ne 7, 3) := by decide +kernel
theorem dX3_isNegation_30 : decode cX3_isNegation 30 = .ok (.iconst 1, 1) := by decide +kernel
theorem dX3_isNegation_31 : decode cX3_isNegation 31 = .ok (.goto 4, 3) := by decide +kernel
theorem dX3_isNegation_34 : decode cX3_isNegation 34 = .ok (.iconst 0, 1) := by decide +kernel
theorem dX3_isNegation_35 : decode cX3_isNegation 35 = .ok (.ireturn, 1) := by decide +kernel
set_option maxRecDepth 20000 in
theorem ggX3_areBoxesRight_X0_innermostOpen : GoodIn wsX3_areBoxesRight wsX0_innermostOpen := goodIn_r _ [7, 8, 9, 10, 6, 11, 12, 13, 14, 15, 16, 41, 42, 43, 44, 45, 46] (by decide +kernel) (by decide +kernel)
set_option maxRecDepth 20000 in
theorem gX3_areBoxesRight_X0_innermostOpen : GoodIn wsX3_areBoxesRight (wsV RX3 164 RX0 yX0_innermostOpen wsX0_innermostOpen) := goodIn_app (goodIn_of _ (by decide +kernel)) ggX3_areBoxesRight_X0_innermostOpen
set_option maxRecDepth 20000 in
theorem ggX3_areBoxesRight_X2_qOf : GoodIn wsX3_areBoxesRight wsX2_qOf := goodIn_r _ [21, 22, 14, 15, 16, 47, 48, 49, 50, 51, 52] (by decide +kernel) (by decide +kernel)
set_option maxRecDepth 20000 in
theorem gX3_areBoxesRight_X2_qOf : GoodIn wsX3_areBoxesRight (wsV RX3 149 RX2 yX2_qOf wsX2_qOf) := goodIn_app (goodIn_of _ (by decide +kernel)) ggX3_areBoxesRight_X2_qOf
set_option maxRecDepth 20000 in
theorem ggX3_areBoxesRight_X0_isUsableBox : GoodIn wsX3_areBoxesRight wsX0_isUsableBox := goodIn_r _ [26, 27, 14, 15, 16, 41, 42, 43, 44, 45, 46] (by decide +kernel) (by decide +kernel)
set_option maxRecDepth 20000 in
theorem gX3_areBoxesRight_X0_isUsableBox : GoodIn wsX3_areBoxesRight (wsV RX3 167 RX0 yX0_isUsableBox wsX0_isUsableBox) := goodIn_app (goodIn_of _ (by decide +kernel)) ggX3_areBoxesRight_X0_isUsableBox
set_option maxRecDepth 20000 in
theorem ggX3_areBoxesRight_X2_rOf : GoodIn wsX3_areBoxesRight wsX2_rOf := goodIn_r _ [31, 32, 14, 15, 16, 47, 48, 49, 50, 51, 52] (by decide +kernel) (by decide +kernel)
set_option maxRecDepth 20000 in
theorem gX3_areBoxesRight_X2_rOf : GoodIn wsX3_areBoxesRight (wsV RX3 152 RX2 yX2_rOf wsX2_rOf) := goodIn_app (goodIn_of _ (by decide +kernel)) ggX3_areBoxesRight_X2_rOf
set_option maxRecDepth 20000 in
theorem ggX3_areBoxesRight_X2_pOf : GoodIn wsX3_areBoxesRight wsX2_pOf := goodIn_r _ [36, 37, 14, 15, 16, 47, 48, 49, 50, 51, 52] (by decide +kernel) (by decide +kernel)
set_option maxRecDepth 20000 in
theorem gX3_areBoxesRight_X2_pOf : GoodIn wsX3_areBoxesRight (wsV RX3 132 RX2 yX2_pOf wsX2_pOf) := goodIn_app (goodIn_of _ (by decide +kernel)) ggX3_areBoxesRight_X2_pOf
theorem dX3_areBoxesRight_0 : decode cX3_areBoxesRight 0 = .ok (.iload_n 2, 1) := by decide +kernel
theorem dX3_areBoxesRight_1 : decode cX3_areBoxesRight 1 = .ok (.lookupswitch 110 #[(2, 35), (9, 52), (10, 94)], 35) := by decide +kernel
theorem dX3_areBoxesRight_36 : decode cX3_areBoxesRight 36 = .ok (.aload_n 0, 1) := by decide +kernel
theorem dX3_areBoxesRight_37 : decode cX3_areBoxesRight 37 = .ok (.getfield 26, 3) := by decide +kernel
theorem dX3_areBoxesRight_40 : decode cX3_areBoxesRight 40 = .ok (.invokevirtual 164, 3) := by decide +kernel
theorem dX3_areBoxesRight_43 : decode cX3_areBoxesRight 43 = .ok (.iconst (-1), 1) := by decide +kernel
theorem dX3_areBoxesRight_44 : decode cX3_areBoxesRight 44 = .ok (.if_icmp .eq 7, 3) := by decide +kernel
theorem dX3_areBoxesRight_47 : decode cX3_areBoxesRight 47 = .ok (.iconst 1, 1) := by decide +kernel
theorem dX3_areBoxesRight_48 : decode cX3_areBoxesRight 48 = .ok (.goto 4, 3) := by decide +kernel
theorem dX3_areBoxesRight_51 : decode cX3_areBoxesRight 51 = .ok (.iconst 0, 1) := by decide +kernel
theorem dX3_areBoxesRight_52 : decode cX3_areBoxesRight 52 = .ok (.ireturn, 1) := by decide +kernel
theorem dX3_areBoxesRight_53 : decode cX3_areBoxesRight 53 = .ok (.aload_n 0, 1) := by decide +kernel
theorem dX3_areBoxesRight_54 : decode cX3_areBoxesRight 54 = .ok (.getfield 26, 3) := by decide +kernel
theorem dX3_areBoxesRight_57 : decode cX3_areBoxesRight 57 = .ok (.aload_n 0, 1) := by decide +kernel
theorem dX3_areBoxesRight_58 : decode cX3_areBoxesRight 58 = .ok (.getfield 19, 3) := by decide +kernel
theorem dX3_areBoxesRight_61 : decode cX3_areBoxesRight 61 = .ok (.iload_n 1, 1) := by decide +kernel
theorem dX3_areBoxesRight_62 : decode cX3_areBoxesRight 62 = .ok (.invokevirtual 149, 3) := by decide +kernel
theorem dX3_areBoxesRight_65 : decode cX3_areBoxesRight 65 = .ok (.invokevirtual 167, 3) := by decide +kernel
theorem dX3_areBoxesRight_68 : decode cX3_areBoxesRight 68 = .ok (.ifCond .eq 25, 3) := by decide +kernel
theorem dX3_areBoxesRight_71 : decode cX3_areBoxesRight 71 = .ok (.aload_n 0, 1) := by decide +kernel
theorem dX3_areBoxesRight_72 : decode cX3_areBoxesRight 72 = .ok (.getfield 26, 3) := by decide +kernel
theorem dX3_areBoxesRight_75 : decode cX3_areBoxesRight 75 = .ok (.aload_n 0, 1) := by decide +kernel
theorem dX3_areBoxesRight_76 : decode cX3_areBoxesRight 76 = .ok (.getfield 19, 3) := by decide +kernel
theorem dX3_areBoxesRight_79 : decode cX3_areBoxesRight 79 = .ok (.iload_n 1, 1) := by decide +kernel
theorem dX3_areBoxesRight_80 : decode cX3_areBoxesRight 80 = .ok (.invokevirtual 152, 3) := by decide +kernel
theorem dX3_areBoxesRight_83 : decode cX3_areBoxesRight 83 = .ok (.invokevirtual 167, 3) := by decide +kernel
theorem dX3_areBoxesRight_86 : decode cX3_areBoxesRight 86 = .ok (.ifCond .eq 7, 3) := by decide +kernel
theorem dX3_areBoxesRight_89 : decode cX3_areBoxesRight 89 = .ok (.iconst 1, 1) := by decide +kernel
theorem dX3_areBoxesRight_90 : decode cX3_areBoxesRight 90 = .ok (.goto 4, 3) := by decide +kernel
theorem dX3_areBoxesRight_93 : decode cX3_areBoxesRight 93 = .ok (.iconst 0, 1) := by decide +kernel
theorem dX3_areBoxesRight_94 : decode cX3_areBoxesRight 94 = .ok (.ireturn, 1) := by decide +kernel
theorem dX3_areBoxesRight_95 : decode cX3_areBoxesRight 95 = .ok (.aload_n 0, 1) := by decide +kernel
theorem dX3_areBoxesRight_96 : decode cX3_areBoxesRight 96 = .ok (.getfield 26, 3) := by decide +kernel
theorem dX3_areBoxesRight_99 : decode cX3_areBoxesRight 99 = .ok (.aload_n 0, 1) := by decide +kernel
theorem dX3_areBoxesRight_100 : decode cX3_areBoxesRight 100 = .ok (.getfield 19, 3) := by decide +kernel
theorem dX3_areBoxesRight_103 : decode cX3_areBoxesRight 103 = .ok (.iload_n 1, 1) := by decide +kernel
theorem dX3_areBoxesRight_104 : decode cX3_areBoxesRight 104 = .ok (.invokevirtual 132, 3) := by decide +kernel
theorem dX3_areBoxesRight_107 : decode cX3_areBoxesRight 107 = .ok (.invokevirtual 167, 3) := by decide +kernel
theorem dX3_areBoxesRight_110 : decode cX3_areBoxesRight 110 = .ok (.ireturn, 1) := by decide +kernel
theorem dX3_areBoxesRight_111 : decode cX3_areBoxesRight 111 = .ok (.iconst 1, 1) := by decide +kernel
theorem dX3_areBoxesRight_112 : decode cX3_areBoxesRight 112 = .ok (.ireturn, 1) := by decide +kernel
set_option maxRecDepth 20000 in
theorem ggX3_areAllLike_X2_pOf : GoodIn wsX3_areAllLike wsX2_pOf := goodIn_r _ [8, 9, 10, 11, 12, 57, 58, 59, 60, 61, 62] (by decide +kernel) (by decide +kernel)
set_option maxRecDepth 20000 in
theorem gX3_areAllLike_X2_pOf : GoodIn wsX3_areAllLike (wsV RX3 132 RX2 yX2_pOf wsX2_pOf) := goodIn_app (goodIn_of _ (by decide +kernel)) ggX3_areAllLike_X2_pOf
set_option maxRecDepth 20000 in
theorem ggX3_areAllLike_X0_headOf : GoodIn wsX3_areAllLike wsX0_headOf := goodIn_r _ [17, 18, 10, 11, 12, 63, 64, 65, 66, 67, 68] (by decide +kernel) (by decide +kernel)
set_option maxRecDepth 20000 in
theorem gX3_areAllLike_X0_headOf : GoodIn wsX3_areAllLike (wsV RX3 98 RX0 yX0_headOf wsX0_headOf) := goodIn_app (goodIn_of _ (by decide +kernel)) ggX3_areAllLike_X0_headOf
set_option maxRecDepth 20000 in
theorem ggX3_areAllLike_X2_qOf : GoodIn wsX3_areAllLike wsX2_qOf := goodIn_r _ [22, 23, 10, 11, 12, 57, 58, 59, 60, 61, 62] (by decide +kernel) (by decide +kernel)
set_option maxRecDepth 20000 in
theorem gX3_areAllLike_X2_qOf : GoodIn wsX3_areAllLike (wsV RX3 149 RX2 yX2_qOf wsX2_qOf) := goodIn_app (goodIn_of _ (by decide +kernel)) ggX3_areAllLike_X2_qOf
set_option maxRecDepth 20000 in
theorem ggX3_areAllLike_X2_rOf : GoodIn wsX3_areAllLike wsX2_rOf := goodIn_r _ [27, 28, 10, 11, 12, 57, 58, 59, 60, 61, 62] (by decide +kernel) (by decide +kernel)
set_option maxRecDepth 20000 in
theorem gX3_areAllLike_X2_rOf : GoodIn wsX3_areAllLike (wsV RX3 152 RX2 yX2_rOf wsX2_rOf) := goodIn_app (goodIn_of _ (by decide +kernel)) ggX3_areAllLike_X2_rOf
set_option maxRecDepth 20000 in
theorem ggX3_areAllLike_X1_firstOf : GoodIn wsX3_areAllLike wsX1_firstOf := goodIn_r _ [33, 34, 35, 36, 37, 32, 38, 39, 69, 70, 71, 72, 73, 74, 75] (by decide +kernel) (by decide +kernel)
set_option maxRecDepth 20000 in
theorem gX3_areAllLike_X1_firstOf : GoodIn wsX3_areAllLike (wsV RX3 45 RX1 yX1_firstOf wsX1_firstOf) := goodIn_app (goodIn_of _ (by decide +kernel)) ggX3_areAllLike_X1_firstOf
set_option maxRecDepth 20000 in
theorem ggX3_areAllLike_X1_secondOf : GoodIn wsX3_areAllLike wsX1_secondOf := goodIn_r _ [43, 44, 35, 36, 37, 32, 38, 39, 69, 70, 71, 72, 73, 74, 75] (by decide +kernel) (by decide +kernel)
set_option maxRecDepth 20000 in
theorem gX3_areAllLike_X1_secondOf : GoodIn wsX3_areAllLike (wsV RX3 48 RX1 yX1_secondOf wsX1_secondOf) := goodIn_app (goodIn_of _ (by decide +kernel)) ggX3_areAllLike_X1_secondOf
set_option maxRecDepth 20000 in
theorem ggX3_areAllLike_X3_heldAtEnd : GoodIn wsX3_areAllLike wsX3_heldAtEnd := goodIn_r _ [48, 1, 49, 50, 51, 16, 52, 53, 10, 11, 12, 13, 14, 15, 17, 18, 54, 55, 56, 63, 64, 65, 66, 67, 68] (by decide +kernel) (by decide +kernel)
set_option maxRecDepth 20000 in
theorem gX3_areAllLike_X3_heldAtEnd : GoodIn wsX3_areAllLike (wsV RX3 170 RX3 yX3_heldAtEnd wsX3_heldAtEnd) := goodIn_app (goodIn_of _ (by decide +kernel)) ggX3_areAllLike_X3_heldAtEnd
theorem dX3_areAllLike_0 : decode cX3_areAllLike 0 = .ok (.aload_n 0, 1) := by decide +kernel
theorem dX3_areAllLike_1 : decode cX3_areAllLike 1 = .ok (.getfield 26, 3) := by decide +kernel
theorem dX3_areAllLike_4 : decode cX3_areAllLike 4 = .ok (.aload_n 0, 1) := by decide +kernel
theorem dX3_areAllLike_5 : decode cX3_areAllLike 5 = .ok (.getfield 19, 3) := by decide +kernel
theorem dX3_areAllLike_8 : decode cX3_areAllLike 8 = .ok (.iload_n 1, 1) := by decide +kernel
theorem dX3_areAllLike_9 : decode cX3_areAllLike 9 = .ok (.invokevirtual 132, 3) := by decide +kernel
theorem dX3_areAllLike_12 : decode cX3_areAllLike 12 = .ok (.invokevirtual 98, 3) := by decide +kernel
theorem dX3_areAllLike_15 : decode cX3_areAllLike 15 = .ok (.istore_n 3, 1) := by decide +kernel
theorem dX3_areAllLike_16 : decode cX3_areAllLike 16 = .ok (.aload_n 0, 1) := by decide +kernel
theorem dX3_areAllLike_17 : decode cX3_areAllLike 17 = .ok (.getfield 19, 3) := by decide +kernel
theorem dX3_areAllLike_20 : decode cX3_areAllLike 20 = .ok (.iload_n 1, 1) := by decide +kernel
theorem dX3_areAllLike_21 : decode cX3_areAllLike 21 = .ok (.invokevirtual 149, 3) := by decide +kernel
theorem dX3_areAllLike_24 : decode cX3_areAllLike 24 = .ok (.istore 4, 2) := by decide +kernel
theorem dX3_areAllLike_26 : decode cX3_areAllLike 26 = .ok (.aload_n 0, 1) := by decide +kernel
theorem dX3_areAllLike_27 : decode cX3_areAllLike 27 = .ok (.getfield 19, 3) := by decide +kernel
theorem dX3_areAllLike_30 : decode cX3_areAllLike 30 = .ok (.iload_n 1, 1) := by decide +kernel
theorem dX3_areAllLike_31 : decode cX3_areAllLike 31 = .ok (.invokevirtual 152, 3) := by decide +kernel
theorem dX3_areAllLike_34 : decode cX3_areAllLike 34 = .ok (.istore 5, 2) := by decide +kernel
theorem dX3_areAllLike_36 : decode cX3_areAllLike 36 = .ok (.iload_n 2, 1) := by decide +kernel
theorem dX3_areAllLike_37 : decode cX3_areAllLike 37 = .ok (.lookupswitch 114 #[(9, 27), (11, 88)], 27) := by decide +kernel
theorem dX3_areAllLike_64 : decode cX3_areAllLike 64 = .ok (.aload_n 0, 1) := by decide +kernel
theorem dX3_areAllLike_65 : decode cX3_areAllLike 65 = .ok (.getfield 26, 3) := by decide +kernel
theorem dX3_areAllLike_68 : decode cX3_areAllLike 68 = .ok (.iload 4, 2) := by decide +kernel
theorem dX3_areAllLike_70 : decode cX3_areAllLike 70 = .ok (.invokevirtual 98, 3) := by decide +kernel
theorem dX3_areAllLike_73 : decode cX3_areAllLike 73 = .ok (.aload_n 0, 1) := by decide +kernel
theorem dX3_areAllLike_74 : decode cX3_areAllLike 74 = .ok (.getfield 10, 3) := by decide +kernel
theorem dX3_areAllLike_77 : decode cX3_areAllLike 77 = .ok (.iload_n 3, 1) := by decide +kernel
theorem dX3_areAllLike_78 : decode cX3_areAllLike 78 = .ok (.invokevirtual 45, 3) := by decide +kernel
theorem dX3_areAllLike_81 : decode cX3_areAllLike 81 = .ok (.if_icmp .ne 42, 3) := by decide +kernel
theorem dX3_areAllLike_84 : decode cX3_areAllLike 84 = .ok (.aload_n 0, 1) := by decide +kernel
theorem dX3_areAllLike_85 : decode cX3_areAllLike 85 = .ok (.getfield 26, 3) := by decide +kernel
theorem dX3_areAllLike_88 : decode cX3_areAllLike 88 = .ok (.iload 5, 2) := by decide +kernel
theorem dX3_areAllLike_90 : decode cX3_areAllLike 90 = .ok (.invokevirtual 98, 3) := by decide +kernel
theorem dX3_areAllLike_93 : decode cX3_areAllLike 93 = .ok (.aload_n 0, 1) := by decide +kernel
theorem dX3_areAllLike_94 : decode cX3_areAllLike 94 = .ok (.getfield 10, 3) := by decide +kernel
theorem dX3_areAllLike_97 : decode cX3_areAllLike 97 = .ok (.iload_n 3, 1) := by decide +kernel
theorem dX3_areAllLike_98 : decode cX3_areAllLike 98 = .ok (.invokevirtual 48, 3) := by decide +kernel
theorem dX3_areAllLike_101 : decode cX3_areAllLike 101 = .ok (.if_icmp .ne 22, 3) := by decide +kernel
theorem dX3_areAllLike_104 : decode cX3_areAllLike 104 = .ok (.aload_n 0, 1) := by decide +kernel
theorem dX3_areAllLike_105 : decode cX3_areAllLike 105 = .ok (.iload 4, 2) := by decide +kernel
theorem dX3_areAllLike_107 : decode cX3_areAllLike 107 = .ok (.invokevirtual 170, 3) := by decide +kernel
theorem dX3_areAllLike_110 : decode cX3_areAllLike 110 = .ok (.aload_n 0, 1) := by decide +kernel
theorem dX3_areAllLike_111 : decode cX3_areAllLike 111 = .ok (.iload 5, 2) := by decide +kernel
theorem dX3_areAllLike_113 : decode cX3_areAllLike 113 = .ok (.invokevirtual 170, 3) := by decide +kernel
theorem dX3_areAllLike_116 : decode cX3_areAllLike 116 = .ok (.if_icmp .ne 7, 3) := by decide +kernel
theorem dX3_areAllLike_119 : decode cX3_areAllLike 119 = .ok (.iconst 1, 1) := by decide +kernel
theorem dX3_areAllLike_120 : decode cX3_areAllLike 120 = .ok (.goto 4, 3) := by decide +kernel
theorem dX3_areAllLike_123 : decode cX3_areAllLike 123 = .ok (.iconst 0, 1) := by decide +kernel
theorem dX3_areAllLike_124 : decode cX3_areAllLike 124 = .ok (.ireturn, 1) := by decide +kernel
theorem dX3_areAllLike_125 : decode cX3_areAllLike 125 = .ok (.aload_n 0, 1) := by decide +kernel
theorem dX3_areAllLike_126 : decode cX3_areAllLike 126 = .ok (.getfield 26, 3) := by decide +kernel
theorem dX3_areAllLike_129 : decode cX3_areAllLike 129 = .ok (.iload 4, 2) := by decide +kernel
theorem dX3_areAllLike_131 : decode cX3_areAllLike 131 = .ok (.invokevirtual 98, 3) := by decide +kernel
theorem dX3_areAllLike_134 : decode cX3_areAllLike 134 = .ok (.aload_n 0, 1) := by decide +kernel
theorem dX3_areAllLike_135 : decode cX3_areAllLike 135 = .ok (.getfield 10, 3) := by decide +kernel
theorem dX3_areAllLike_138 : decode cX3_areAllLike 138 = .ok (.iload_n 3, 1) := by decide +kernel
theorem dX3_areAllLike_139 : decode cX3_areAllLike 139 = .ok (.invokevirtual 45, 3) := by decide +kernel
theorem dX3_areAllLike_142 : decode cX3_areAllLike 142 = .ok (.if_icmp .ne 7, 3) := by decide +kernel
theorem dX3_areAllLike_145 : decode cX3_areAllLike 145 = .ok (.iconst 1, 1) := by decide +kernel
theorem dX3_areAllLike_146 : decode cX3_areAllLike 146 = .ok (.goto 4, 3) := by decide +kernel
theorem dX3_areAllLike_149 : decode cX3_areAllLike 149 = .ok (.iconst 0, 1) := by decide +kernel
theorem dX3_areAllLike_150 : decode cX3_areAllLike 150 = .ok (.ireturn, 1) := by decide +kernel
theorem dX3_areAllLike_151 : decode cX3_areAllLike 151 = .ok (.iconst 1, 1) := by decide +kernel
theorem dX3_areAllLike_152 : decode cX3_areAllLike 152 = .ok (.ireturn, 1) := by decide +kernel
set_option maxRecDepth 20000 in
theorem ggX3_heldAtEnd_X0_endOf : GoodIn wsX3_heldAtEnd wsX0_endOf := goodIn_r _ [6, 7, 8, 9, 10, 19, 20, 21, 22, 23, 24] (by decide +kernel) (by decide +kernel)
set_option maxRecDepth 20000 in
theorem gX3_heldAtEnd_X0_endOf : GoodIn wsX3_heldAtEnd (wsV RX3 173 RX0 yX0_endOf wsX0_endOf) := goodIn_app (goodIn_of _ (by decide +kernel)) ggX3_heldAtEnd_X0_endOf
set_option maxRecDepth 20000 in
theorem ggX3_heldAtEnd_X0_headOf : GoodIn wsX3_heldAtEnd wsX0_headOf := goodIn_r _ [14, 15, 8, 9, 10, 19, 20, 21, 22, 23, 24] (by decide +kernel) (by decide +kernel)
set_option maxRecDepth 20000 in
theorem gX3_heldAtEnd_X0_headOf : GoodIn wsX3_heldAtEnd (wsV RX3 98 RX0 yX0_headOf wsX0_headOf) := goodIn_app (goodIn_of _ (by decide +kernel)) ggX3_heldAtEnd_X0_headOf
theorem dX3_heldAtEnd_0 : decode cX3_heldAtEnd 0 = .ok (.aload_n 0, 1) := by decide +kernel
theorem dX3_heldAtEnd_1 : decode cX3_heldAtEnd 1 = .ok (.getfield 26, 3) := by decide +kernel
theorem dX3_heldAtEnd_4 : decode cX3_heldAtEnd 4 = .ok (.aload_n 0, 1) := by decide +kernel
theorem dX3_heldAtEnd_5 : decode cX3_heldAtEnd 5 = .ok (.getfield 26, 3) := by decide +kernel
theorem dX3_heldAtEnd_8 : decode cX3_heldAtEnd 8 = .ok (.iload_n 1, 1) := by decide +kernel
theorem dX3_heldAtEnd_9 : decode cX3_heldAtEnd 9 = .ok (.invokevirtual 173, 3) := by decide +kernel
theorem dX3_heldAtEnd_12 : decode cX3_heldAtEnd 12 = .ok (.invokevirtual 98, 3) := by decide +kernel
theorem dX3_heldAtEnd_15 : decode cX3_heldAtEnd 15 = .ok (.ireturn, 1) := by decide +kernel
set_option maxRecDepth 20000 in
theorem ggX3_conclude_X2_pOf : GoodIn wsX3_conclude wsX2_pOf := goodIn_r _ [8, 9, 10, 11, 12, 93, 94, 95, 96, 97, 98] (by decide +kernel) (by decide +kernel)
set_option maxRecDepth 20000 in
theorem gX3_conclude_X2_pOf : GoodIn wsX3_conclude (wsV RX3 132 RX2 yX2_pOf wsX2_pOf) := goodIn_app (goodIn_of _ (by decide +kernel)) ggX3_conclude_X2_pOf
set_option maxRecDepth 20000 in
theorem ggX3_conclude_X0_headOf : GoodIn wsX3_conclude wsX0_headOf := goodIn_r _ [17, 18, 10, 11, 12, 99, 100, 101, 102, 103, 104] (by decide +kernel) (by decide +kernel)
set_option maxRecDepth 20000 in
theorem gX3_conclude_X0_headOf : GoodIn wsX3_conclude (wsV RX3 98 RX0 yX0_headOf wsX0_headOf) := goodIn_app (goodIn_of _ (by decide +kernel)) ggX3_conclude_X0_headOf
set_option maxRecDepth 20000 in
theorem ggX3_conclude_X2_formulaOf : GoodIn wsX3_conclude wsX2_formulaOf := goodIn_r _ [22, 23, 10, 11, 12, 93, 94, 95, 96, 97, 98] (by decide +kernel) (by decide +kernel)
set_option maxRecDepth 20000 in
theorem gX3_conclude_X2_formulaOf : GoodIn wsX3_conclude (wsV RX3 158 RX2 yX2_formulaOf wsX2_formulaOf) := goodIn_app (goodIn_of _ (by decide +kernel)) ggX3_conclude_X2_formulaOf
set_option maxRecDepth 20000 in
theorem ggX3_conclude_X2_ruleOf : GoodIn wsX3_conclude wsX2_ruleOf := goodIn_r _ [27, 28, 10, 11, 12, 93, 94, 95, 96, 97, 98] (by decide +kernel) (by decide +kernel)
set_option maxRecDepth 20000 in
theorem gX3_conclude_X2_ruleOf : GoodIn wsX3_conclude (wsV RX3 119 RX2 yX2_ruleOf wsX2_ruleOf) := goodIn_app (goodIn_of _ (by decide +kernel)) ggX3_conclude_X2_ruleOf
set_option maxRecDepth 20000 in
theorem ggX3_conclude_X2_qOf : GoodIn wsX3_conclude wsX2_qOf := goodIn_r _ [32, 33, 10, 11, 12, 93, 94, 95, 96, 97, 98] (by decide +kernel) (by decide +kernel)
set_option maxRecDepth 20000 in
theorem gX3_conclude_X2_qOf : GoodIn wsX3_conclude (wsV RX3 149 RX2 yX2_qOf wsX2_qOf) := goodIn_app (goodIn_of _ (by decide +kernel)) ggX3_conclude_X2_qOf
set_option maxRecDepth 20000 in
theorem ggX3_conclude_X1_make : GoodIn wsX3_conclude wsX1_make := goodIn_r _ [38, 39, 40, 41, 42, 43, 44, 45, 46, 47, 48, 49, 50, 51, 37, 52, 53, 54, 55, 56, 57, 58, 59, 60, 61, 62, 63, 64, 65, 66, 67, 11, 68, 69, 70, 71, 72, 105, 106, 107, 108, 109, 110, 111] (by decide +kernel) (by decide +kernel)
set_option maxRecDepth 20000 in
theorem gX3_conclude_X1_make : GoodIn wsX3_conclude (wsV RX3 30 RX1 yX1_make wsX1_make) := goodIn_app (goodIn_of _ (by decide +kernel)) ggX3_conclude_X1_make
set_option maxRecDepth 20000 in
theorem ggX3_conclude_X1_firstOf : GoodIn wsX3_conclude wsX1_firstOf := goodIn_r _ [76, 45, 57, 58, 59, 37, 60, 43, 105, 106, 107, 108, 109, 110, 111] (by decide +kernel) (by decide +kernel)
set_option maxRecDepth 20000 in
theorem gX3_conclude_X1_firstOf : GoodIn wsX3_conclude (wsV RX3 45 RX1 yX1_firstOf wsX1_firstOf) := goodIn_app (goodIn_of _ (by decide +kernel)) ggX3_conclude_X1_firstOf
set_option maxRecDepth 20000 in
theorem ggX3_conclude_X1_secondOf : GoodIn wsX3_conclude wsX1_secondOf := goodIn_r _ [80, 46, 57, 58, 59, 37, 60, 43, 105, 106, 107, 108, 109, 110, 111] (by decide +kernel) (by decide +kernel)
set_option maxRecDepth 20000 in
theorem gX3_conclude_X1_secondOf : GoodIn wsX3_conclude (wsV RX3 48 RX1 yX1_secondOf wsX1_secondOf) := goodIn_app (goodIn_of _ (by decide +kernel)) ggX3_conclude_X1_secondOf
set_option maxRecDepth 20000 in
theorem ggX3_conclude_X3_heldAtEnd : GoodIn wsX3_conclude wsX3_heldAtEnd := goodIn_r _ [84, 2, 85, 86, 87, 16, 88, 89, 10, 11, 12, 13, 14, 15, 17, 18, 90, 91, 92, 99, 100, 101, 102, 103, 104] (by decide +kernel) (by decide +kernel)
set_option maxRecDepth 20000 in
theorem gX3_conclude_X3_heldAtEnd : GoodIn wsX3_conclude (wsV RX3 170 RX3 yX3_heldAtEnd wsX3_heldAtEnd) := goodIn_app (goodIn_of _ (by decide +kernel)) ggX3_conclude_X3_heldAtEnd
theorem dX3_conclude_0 : decode cX3_conclude 0 = .ok (.aload_n 0, 1) := by decide +kernel
theorem dX3_conclude_1 : decode cX3_conclude 1 = .ok (.getfield 19, 3) := by decide +kernel
theorem dX3_conclude_4 : decode cX3_conclude 4 = .ok (.iload_n 1, 1) := by decide +kernel
theorem dX3_conclude_5 : decode cX3_conclude 5 = .ok (.invokevirtual 132, 3) := by decide +kernel
theorem dX3_conclude_8 : decode cX3_conclude 8 = .ok (.istore_n 2, 1) := by decide +kernel
theorem dX3_conclude_9 : decode cX3_conclude 9 = .ok (.aload_n 0, 1) := by decide +kernel
theorem dX3_conclude_10 : decode cX3_conclude 10 = .ok (.getfield 26, 3) := by decide +kernel
theorem dX3_conclude_13 : decode cX3_conclude 13 = .ok (.iload_n 2, 1) := by decide +kernel
theorem dX3_conclude_14 : decode cX3_conclude 14 = .ok (.invokevirtual 98, 3) := by decide +kernel
theorem dX3_conclude_17 : decode cX3_conclude 17 = .ok (.istore_n 3, 1) := by decide +kernel
theorem dX3_conclude_18 : decode cX3_conclude 18 = .ok (.aload_n 0, 1) := by decide +kernel
theorem dX3_conclude_19 : decode cX3_conclude 19 = .ok (.getfield 19, 3) := by decide +kernel
theorem dX3_conclude_22 : decode cX3_conclude 22 = .ok (.iload_n 1, 1) := by decide +kernel
theorem dX3_conclude_23 : decode cX3_conclude 23 = .ok (.invokevirtual 158, 3) := by decide +kernel
theorem dX3_conclude_26 : decode cX3_conclude 26 = .ok (.istore 4, 2) := by decide +kernel
theorem dX3_conclude_28 : decode cX3_conclude 28 = .ok (.aload_n 0, 1) := by decide +kernel
theorem dX3_conclude_29 : decode cX3_conclude 29 = .ok (.getfield 19, 3) := by decide +kernel
theorem dX3_conclude_32 : decode cX3_conclude 32 = .ok (.iload_n 1, 1) := by decide +kernel
theorem dX3_conclude_33 : decode cX3_conclude 33 = .ok (.invokevirtual 119, 3) := by decide +kernel
theorem dX3_conclude_36 : decode cX3_conclude 36 = .ok (.tableswitch 188 0 13 #[72, 72, 188, 75, 77, 102, 111, 120, 132, 144, 157, 111, 72, 172], 72) := by decide +kernel
theorem dX3_conclude_108 : decode cX3_conclude 108 = .ok (.iload 4, 2) := by decide +kernel
theorem dX3_conclude_110 : decode cX3_conclude 110 = .ok (.ireturn, 1) := by decide +kernel
theorem dX3_conclude_111 : decode cX3_conclude 111 = .ok (.iload_n 3, 1) := by decide +kernel
theorem dX3_conclude_112 : decode cX3_conclude 112 = .ok (.ireturn, 1) := by decide +kernel
theorem dX3_conclude_113 : decode cX3_conclude 113 = .ok (.aload_n 0, 1) := by decide +kernel
theorem dX3_conclude_114 : decode cX3_conclude 114 = .ok (.getfield 10, 3) := by decide +kernel
theorem dX3_conclude_117 : decode cX3_conclude 117 = .ok (.iconst 2, 1) := by decide +kernel
theorem dX3_conclude_118 : decode cX3_conclude 118 = .ok (.iload_n 3, 1) := by decide +kernel
theorem dX3_conclude_119 : decode cX3_conclude 119 = .ok (.aload_n 0, 1) := by decide +kernel
theorem dX3_conclude_120 : decode cX3_conclude 120 = .ok (.getfield 26, 3) := by decide +kernel
theorem dX3_conclude_123 : decode cX3_conclude 123 = .ok (.aload_n 0, 1) := by decide +kernel
theorem dX3_conclude_124 : decode cX3_conclude 124 = .ok (.getfield 19, 3) := by decide +kernel
theorem dX3_conclude_127 : decode cX3_conclude 127 = .ok (.iload_n 1, 1) := by decide +kernel
theorem dX3_conclude_128 : decode cX3_conclude 128 = .ok (.invokevirtual 149, 3) := by decide +kernel
theorem dX3_conclude_131 : decode cX3_conclude 131 = .ok (.invokevirtual 98, 3) := by decide +kernel
theorem dX3_conclude_134 : decode cX3_conclude 134 = .ok (.invokevirtual 30, 3) := by decide +kernel
theorem dX3_conclude_137 : decode cX3_conclude 137 = .ok (.ireturn, 1) := by decide +kernel
theorem dX3_conclude_138 : decode cX3_conclude 138 = .ok (.aload_n 0, 1) := by decide +kernel
theorem dX3_conclude_139 : decode cX3_conclude 139 = .ok (.getfield 10, 3) := by decide +kernel
theorem dX3_conclude_142 : decode cX3_conclude 142 = .ok (.iload_n 3, 1) := by decide +kernel
theorem dX3_conclude_143 : decode cX3_conclude 143 = .ok (.invokevirtual 45, 3) := by decide +kernel
theorem dX3_conclude_146 : decode cX3_conclude 146 = .ok (.ireturn, 1) := by decide +kernel
theorem dX3_conclude_147 : decode cX3_conclude 147 = .ok (.aload_n 0, 1) := by decide +kernel
theorem dX3_conclude_148 : decode cX3_conclude 148 = .ok (.getfield 10, 3) := by decide +kernel
theorem dX3_conclude_151 : decode cX3_conclude 151 = .ok (.iload_n 3, 1) := by decide +kernel
theorem dX3_conclude_152 : decode cX3_conclude 152 = .ok (.invokevirtual 48, 3) := by decide +kernel
theorem dX3_conclude_155 : decode cX3_conclude 155 = .ok (.ireturn, 1) := by decide +kernel
theorem dX3_conclude_156 : decode cX3_conclude 156 = .ok (.aload_n 0, 1) := by decide +kernel
theorem dX3_conclude_157 : decode cX3_conclude 157 = .ok (.getfield 10, 3) := by decide +kernel
theorem dX3_conclude_160 : decode cX3_conclude 160 = .ok (.iconst 3, 1) := by decide +kernel
theorem dX3_conclude_161 : decode cX3_conclude 161 = .ok (.iload_n 3, 1) := by decide +kernel
theorem dX3_conclude_162 : decode cX3_conclude 162 = .ok (.iload 4, 2) := by decide +kernel
theorem dX3_conclude_164 : decode cX3_conclude 164 = .ok (.invokevirtual 30, 3) := by decide +kernel
theorem dX3_conclude_167 : decode cX3_conclude 167 = .ok (.ireturn, 1) := by decide +kernel
theorem dX3_conclude_168 : decode cX3_conclude 168 = .ok (.aload_n 0, 1) := by decide +kernel
theorem dX3_conclude_169 : decode cX3_conclude 169 = .ok (.getfield 10, 3) := by decide +kernel
theorem dX3_conclude_172 : decode cX3_conclude 172 = .ok (.iconst 3, 1) := by decide +kernel
theorem dX3_conclude_173 : decode cX3_conclude 173 = .ok (.iload 4, 2) := by decide +kernel
theorem dX3_conclude_175 : decode cX3_conclude 175 = .ok (.iload_n 3, 1) := by decide +kernel
theorem dX3_conclude_176 : decode cX3_conclude 176 = .ok (.invokevirtual 30, 3) := by decide +kernel
theorem dX3_conclude_179 : decode cX3_conclude 179 = .ok (.ireturn, 1) := by decide +kernel
theorem dX3_conclude_180 : decode cX3_conclude 180 = .ok (.aload_n 0, 1) := by decide +kernel
theorem dX3_conclude_181 : decode cX3_conclude 181 = .ok (.aload_n 0, 1) := by decide +kernel
theorem dX3_conclude_182 : decode cX3_conclude 182 = .ok (.getfield 19, 3) := by decide +kernel
theorem dX3_conclude_185 : decode cX3_conclude 185 = .ok (.iload_n 1, 1) := by decide +kernel
theorem dX3_conclude_186 : decode cX3_conclude 186 = .ok (.invokevirtual 149, 3) := by decide +kernel
theorem dX3_conclude_189 : decode cX3_conclude 189 = .ok (.invokevirtual 170, 3) := by decide +kernel
theorem dX3_conclude_192 : decode cX3_conclude 192 = .ok (.ireturn, 1) := by decide +kernel
theorem dX3_conclude_193 : decode cX3_conclude 193 = .ok (.aload_n 0, 1) := by decide +kernel
theorem dX3_conclude_194 : decode cX3_conclude 194 = .ok (.getfield 10, 3) := by decide +kernel
theorem dX3_conclude_197 : decode cX3_conclude 197 = .ok (.iconst 4, 1) := by decide +kernel
theorem dX3_conclude_198 : decode cX3_conclude 198 = .ok (.iload_n 3, 1) := by decide +kernel
theorem dX3_conclude_199 : decode cX3_conclude 199 = .ok (.aload_n 0, 1) := by decide +kernel
theorem dX3_conclude_200 : decode cX3_conclude 200 = .ok (.iload_n 2, 1) := by decide +kernel
theorem dX3_conclude_201 : decode cX3_conclude 201 = .ok (.invokevirtual 170, 3) := by decide +kernel
theorem dX3_conclude_204 : decode cX3_conclude 204 = .ok (.invokevirtual 30, 3) := by decide +kernel
theorem dX3_conclude_207 : decode cX3_conclude 207 = .ok (.ireturn, 1) := by decide +kernel
theorem dX3_conclude_208 : decode cX3_conclude 208 = .ok (.aload_n 0, 1) := by decide +kernel
theorem dX3_conclude_209 : decode cX3_conclude 209 = .ok (.getfield 10, 3) := by decide +kernel
theorem dX3_conclude_212 : decode cX3_conclude 212 = .ok (.aload_n 0, 1) := by decide +kernel
theorem dX3_conclude_213 : decode cX3_conclude 213 = .ok (.getfield 10, 3) := by decide +kernel
theorem dX3_conclude_216 : decode cX3_conclude 216 = .ok (.iload_n 3, 1) := by decide +kernel
theorem dX3_conclude_217 : decode cX3_conclude 217 = .ok (.invokevirtual 45, 3) := by decide +kernel
theorem dX3_conclude_220 : decode cX3_conclude 220 = .ok (.invokevirtual 45, 3) := by decide +kernel
theorem dX3_conclude_223 : decode cX3_conclude 223 = .ok (.ireturn, 1) := by decide +kernel
theorem dX3_conclude_224 : decode cX3_conclude 224 = .ok (.iconst (-1), 1) := by decide +kernel
theorem dX3_conclude_225 : decode cX3_conclude 225 = .ok (.ireturn, 1) := by decide +kernel
set_option maxRecDepth 20000 in
theorem ggX3_groundsTable_X0_isGround : GoodIn wsX3_groundsTable wsX0_isGround := goodIn_r _ [8, 9, 10, 11, 7, 12, 13, 14, 15, 16, 17, 18, 19, 20, 21, 22, 23, 24, 25, 45, 46, 47, 48, 49, 50] (by decide +kernel) (by decide +kernel)
set_option maxRecDepth 20000 in
theorem gX3_groundsTable_X0_isGround : GoodIn wsX3_groundsTable (wsV RX3 176 RX0 yX0_isGround wsX0_isGround) := goodIn_app (goodIn_of _ (by decide +kernel)) ggX3_groundsTable_X0_isGround
set_option maxRecDepth 20000 in
theorem ggX3_groundsTable_X0_headOf : GoodIn wsX3_groundsTable wsX0_headOf := goodIn_r _ [29, 30, 14, 15, 16, 45, 46, 47, 48, 49, 50] (by decide +kernel) (by decide +kernel)
set_option maxRecDepth 20000 in
theorem gX3_groundsTable_X0_headOf : GoodIn wsX3_groundsTable (wsV RX3 98 RX0 yX0_headOf wsX0_headOf) := goodIn_app (goodIn_of _ (by decide +kernel)) ggX3_groundsTable_X0_headOf
set_option maxRecDepth 20000 in
theorem ggX3_groundsTable_X1_tableOf : GoodIn wsX3_groundsTable wsX1_tableOf := goodIn_r _ [35, 36, 37, 38, 39, 34, 40, 41, 51, 52, 53, 54, 55, 56, 57] (by decide +kernel) (by decide +kernel)
set_option maxRecDepth 20000 in
theorem gX3_groundsTable_X1_tableOf : GoodIn wsX3_groundsTable (wsV RX3 54 RX1 yX1_tableOf wsX1_tableOf) := goodIn_app (goodIn_of _ (by decide +kernel)) ggX3_groundsTable_X1_tableOf
theorem dX3_groundsTable_0 : decode cX3_groundsTable 0 = .ok (.ldc2_w 111, 3) := by decide +kernel
theorem dX3_groundsTable_3 : decode cX3_groundsTable 3 = .ok (.lstore_n 2, 1) := by decide +kernel
theorem dX3_groundsTable_4 : decode cX3_groundsTable 4 = .ok (.iconst 0, 1) := by decide +kernel
theorem dX3_groundsTable_5 : decode cX3_groundsTable 5 = .ok (.istore 4, 2) := by decide +kernel
theorem dX3_groundsTable_7 : decode cX3_groundsTable 7 = .ok (.iload 4, 2) := by decide +kernel
theorem dX3_groundsTable_9 : decode cX3_groundsTable 9 = .ok (.iload_n 1, 1) := by decide +kernel
theorem dX3_groundsTable_10 : decode cX3_groundsTable 10 = .ok (.if_icmp .gt 48, 3) := by decide +kernel
theorem dX3_groundsTable_13 : decode cX3_groundsTable 13 = .ok (.iload 4, 2) := by decide +kernel
theorem dX3_groundsTable_15 : decode cX3_groundsTable 15 = .ok (.bipush 60, 2) := by decide +kernel
theorem dX3_groundsTable_17 : decode cX3_groundsTable 17 = .ok (.if_icmp .ge 41, 3) := by decide +kernel
theorem dX3_groundsTable_20 : decode cX3_groundsTable 20 = .ok (.aload_n 0, 1) := by decide +kernel
theorem dX3_groundsTable_21 : decode cX3_groundsTable 21 = .ok (.getfield 26, 3) := by decide +kernel
theorem dX3_groundsTable_24 : decode cX3_groundsTable 24 = .ok (.iload 4, 2) := by decide +kernel
theorem dX3_groundsTable_26 : decode cX3_groundsTable 26 = .ok (.iload_n 1, 1) := by decide +kernel
theorem dX3_groundsTable_27 : decode cX3_groundsTable 27 = .ok (.invokevirtual 176, 3) := by decide +kernel
theorem dX3_groundsTable_30 : decode cX3_groundsTable 30 = .ok (.ifCond .eq 22, 3) := by decide +kernel
theorem dX3_groundsTable_33 : decode cX3_groundsTable 33 = .ok (.lload_n 2, 1) := by decide +kernel
theorem dX3_groundsTable_34 : decode cX3_groundsTable 34 = .ok (.aload_n 0, 1) := by decide +kernel
theorem dX3_groundsTable_35 : decode cX3_groundsTable 35 = .ok (.getfield 10, 3) := by decide +kernel
theorem dX3_groundsTable_38 : decode cX3_groundsTable 38 = .ok (.aload_n 0, 1) := by decide +kernel
theorem dX3_groundsTable_39 : decode cX3_groundsTable 39 = .ok (.getfield 26, 3) := by decide +kernel
theorem dX3_groundsTable_42 : decode cX3_groundsTable 42 = .ok (.iload 4, 2) := by decide +kernel
theorem dX3_groundsTable_44 : decode cX3_groundsTable 44 = .ok (.invokevirtual 98, 3) := by decide +kernel
theorem dX3_groundsTable_47 : decode cX3_groundsTable 47 = .ok (.invokevirtual 54, 3) := by decide +kernel
theorem dX3_groundsTable_50 : decode cX3_groundsTable 50 = .ok (.land, 1) := by decide +kernel
theorem dX3_groundsTable_51 : decode cX3_groundsTable 51 = .ok (.lstore_n 2, 1) := by decide +kernel
theorem dX3_groundsTable_52 : decode cX3_groundsTable 52 = .ok (.iinc 4 1, 3) := by decide +kernel
theorem dX3_groundsTable_55 : decode cX3_groundsTable 55 = .ok (.goto (-48), 3) := by decide +kernel
theorem dX3_groundsTable_58 : decode cX3_groundsTable 58 = .ok (.lload_n 2, 1) := by decide +kernel
theorem dX3_groundsTable_59 : decode cX3_groundsTable 59 = .ok (.lreturn, 1) := by decide +kernel
theorem dX3_isLine_0 : decode cX3_isLine 0 = .ok (.iload_n 0, 1) := by decide +kernel
theorem dX3_isLine_1 : decode cX3_isLine 1 = .ok (.ifCond .lt 13, 3) := by decide +kernel
theorem dX3_isLine_4 : decode cX3_isLine 4 = .ok (.iload_n 0, 1) := by decide +kernel
theorem dX3_isLine_5 : decode cX3_isLine 5 = .ok (.bipush 60, 2) := by decide +kernel
theorem dX3_isLine_7 : decode cX3_isLine 7 = .ok (.if_icmp .ge 7, 3) := by decide +kernel
theorem dX3_isLine_10 : decode cX3_isLine 10 = .ok (.iconst 1, 1) := by decide +kernel
theorem dX3_isLine_11 : decode cX3_isLine 11 = .ok (.goto 4, 3) := by decide +kernel
theorem dX3_isLine_14 : decode cX3_isLine 14 = .ok (.iconst 0, 1) := by decide +kernel
theorem dX3_isLine_15 : decode cX3_isLine 15 = .ok (.ireturn, 1) := by decide +kernel
theorem dX3_isLetter_0 : decode cX3_isLetter 0 = .ok (.iload_n 0, 1) := by decide +kernel
theorem dX3_isLetter_1 : decode cX3_isLetter 1 = .ok (.ifCond .lt 13, 3) := by decide +kernel
theorem dX3_isLetter_4 : decode cX3_isLetter 4 = .ok (.iload_n 0, 1) := by decide +kernel
theorem dX3_isLetter_5 : decode cX3_isLetter 5 = .ok (.bipush 6, 2) := by decide +kernel
theorem dX3_isLetter_7 : decode cX3_isLetter 7 = .ok (.if_icmp .ge 7, 3) := by decide +kernel
theorem dX3_isLetter_10 : decode cX3_isLetter 10 = .ok (.iconst 1, 1) := by decide +kernel
theorem dX3_isLetter_11 : decode cX3_isLetter 11 = .ok (.goto 4, 3) := by decide +kernel
theorem dX3_isLetter_14 : decode cX3_isLetter 14 = .ok (.iconst 0, 1) := by decide +kernel
theorem dX3_isLetter_15 : decode cX3_isLetter 15 = .ok (.ireturn, 1) := by decide +kernel
end
section
theorem dJ13_bitCount_95d88_0 : decode cJ13_bitCount_95d88 0 = .ok (.lload_n 0, 1) := by decide +kernel
theorem dJ13_bitCount_95d88_1 : decode cJ13_bitCount_95d88 1 = .ok (.lload_n 0, 1) := by decide +kernel
theorem dJ13_bitCount_95d88_2 : decode cJ13_bitCount_95d88 2 = .ok (.iconst 1, 1) := by decide +kernel
theorem dJ13_bitCount_95d88_3 : decode cJ13_bitCount_95d88 3 = .ok (.lushr, 1) := by decide +kernel
theorem dJ13_bitCount_95d88_4 : decode cJ13_bitCount_95d88 4 = .ok (.ldc2_w 314, 3) := by decide +kernel
theorem dJ13_bitCount_95d88_7 : decode cJ13_bitCount_95d88 7 = .ok (.land, 1) := by decide +kernel
theorem dJ13_bitCount_95d88_8 : decode cJ13_bitCount_95d88 8 = .ok (.lsub, 1) := by decide +kernel
theorem dJ13_bitCount_95d88_9 : decode cJ13_bitCount_95d88 9 = .ok (.lstore_n 0, 1) := by decide +kernel
theorem dJ13_bitCount_95d88_10 : decode cJ13_bitCount_95d88 10 = .ok (.lload_n 0, 1) := by decide +kernel
theorem dJ13_bitCount_95d88_11 : decode cJ13_bitCount_95d88 11 = .ok (.ldc2_w 316, 3) := by decide +kernel
theorem dJ13_bitCount_95d88_14 : decode cJ13_bitCount_95d88 14 = .ok (.land, 1) := by decide +kernel
theorem dJ13_bitCount_95d88_15 : decode cJ13_bitCount_95d88 15 = .ok (.lload_n 0, 1) := by decide +kernel
theorem dJ13_bitCount_95d88_16 : decode cJ13_bitCount_95d88 16 = .ok (.iconst 2, 1) := by decide +kernel
theorem dJ13_bitCount_95d88_17 : decode cJ13_bitCount_95d88 17 = .ok (.lushr, 1) := by decide +kernel
theorem dJ13_bitCount_95d88_18 : decode cJ13_bitCount_95d88 18 = .ok (.ldc2_w 316, 3) := by decide +kernel
theorem dJ13_bitCount_95d88_21 : decode cJ13_bitCount_95d88 21 = .ok (.land, 1) := by decide +kernel
theorem dJ13_bitCount_95d88_22 : decode cJ13_bitCount_95d88 22 = .ok (.ladd, 1) := by decide +kernel
theorem dJ13_bitCount_95d88_23 : decode cJ13_bitCount_95d88 23 = .ok (.lstore_n 0, 1) := by decide +kernel
theorem dJ13_bitCount_95d88_24 : decode cJ13_bitCount_95d88 24 = .ok (.lload_n 0, 1) := by decide +kernel
theorem dJ13_bitCount_95d88_25 : decode cJ13_bitCount_95d88 25 = .ok (.lload_n 0, 1) := by decide +kernel
theorem dJ13_bitCount_95d88_26 : decode cJ13_bitCount_95d88 26 = .ok (.iconst 4, 1) := by decide +kernel
theorem dJ13_bitCount_95d88_27 : decode cJ13_bitCount_95d88 27 = .ok (.lushr, 1) := by decide +kernel
theorem dJ13_bitCount_95d88_28 : decode cJ13_bitCount_95d88 28 = .ok (.ladd, 1) := by decide +kernel
theorem dJ13_bitCount_95d88_29 : decode cJ13_bitCount_95d88 29 = .ok (.ldc2_w 318, 3) := by decide +kernel
theorem dJ13_bitCount_95d88_32 : decode cJ13_bitCount_95d88 32 = .ok (.land, 1) := by decide +kernel
theorem dJ13_bitCount_95d88_33 : decode cJ13_bitCount_95d88 33 = .ok (.lstore_n 0, 1) := by decide +kernel
theorem dJ13_bitCount_95d88_34 : decode cJ13_bitCount_95d88 34 = .ok (.lload_n 0, 1) := by decide +kernel
theorem dJ13_bitCount_95d88_35 : decode cJ13_bitCount_95d88 35 = .ok (.lload_n 0, 1) := by decide +kernel
theorem dJ13_bitCount_95d88_36 : decode cJ13_bitCount_95d88 36 = .ok (.bipush 8, 2) := by decide +kernel
theorem dJ13_bitCount_95d88_38 : decode cJ13_bitCount_95d88 38 = .ok (.lushr, 1) := by decide +kernel
theorem dJ13_bitCount_95d88_39 : decode cJ13_bitCount_95d88 39 = .ok (.ladd, 1) := by decide +kernel
theorem dJ13_bitCount_95d88_40 : decode cJ13_bitCount_95d88 40 = .ok (.lstore_n 0, 1) := by decide +kernel
theorem dJ13_bitCount_95d88_41 : decode cJ13_bitCount_95d88 41 = .ok (.lload_n 0, 1) := by decide +kernel
theorem dJ13_bitCount_95d88_42 : decode cJ13_bitCount_95d88 42 = .ok (.lload_n 0, 1) := by decide +kernel
theorem dJ13_bitCount_95d88_43 : decode cJ13_bitCount_95d88 43 = .ok (.bipush 16, 2) := by decide +kernel
theorem dJ13_bitCount_95d88_45 : decode cJ13_bitCount_95d88 45 = .ok (.lushr, 1) := by decide +kernel
theorem dJ13_bitCount_95d88_46 : decode cJ13_bitCount_95d88 46 = .ok (.ladd, 1) := by decide +kernel
theorem dJ13_bitCount_95d88_47 : decode cJ13_bitCount_95d88 47 = .ok (.lstore_n 0, 1) := by decide +kernel
theorem dJ13_bitCount_95d88_48 : decode cJ13_bitCount_95d88 48 = .ok (.lload_n 0, 1) := by decide +kernel
theorem dJ13_bitCount_95d88_49 : decode cJ13_bitCount_95d88 49 = .ok (.lload_n 0, 1) := by decide +kernel
theorem dJ13_bitCount_95d88_50 : decode cJ13_bitCount_95d88 50 = .ok (.bipush 32, 2) := by decide +kernel
theorem dJ13_bitCount_95d88_52 : decode cJ13_bitCount_95d88 52 = .ok (.lushr, 1) := by decide +kernel
theorem dJ13_bitCount_95d88_53 : decode cJ13_bitCount_95d88 53 = .ok (.ladd, 1) := by decide +kernel
theorem dJ13_bitCount_95d88_54 : decode cJ13_bitCount_95d88 54 = .ok (.lstore_n 0, 1) := by decide +kernel
theorem dJ13_bitCount_95d88_55 : decode cJ13_bitCount_95d88 55 = .ok (.lload_n 0, 1) := by decide +kernel
theorem dJ13_bitCount_95d88_56 : decode cJ13_bitCount_95d88 56 = .ok (.l2i, 1) := by decide +kernel
theorem dJ13_bitCount_95d88_57 : decode cJ13_bitCount_95d88 57 = .ok (.bipush 127, 2) := by decide +kernel
theorem dJ13_bitCount_95d88_59 : decode cJ13_bitCount_95d88 59 = .ok (.iand, 1) := by decide +kernel
theorem dJ13_bitCount_95d88_60 : decode cJ13_bitCount_95d88 60 = .ok (.ireturn, 1) := by decide +kernel
theorem dJ9_max_7cf53_0 : decode cJ9_max_7cf53 0 = .ok (.iload_n 0, 1) := by decide +kernel
theorem dJ9_max_7cf53_1 : decode cJ9_max_7cf53 1 = .ok (.iload_n 1, 1) := by decide +kernel
theorem dJ9_max_7cf53_2 : decode cJ9_max_7cf53 2 = .ok (.if_icmp .lt 7, 3) := by decide +kernel
theorem dJ9_max_7cf53_5 : decode cJ9_max_7cf53 5 = .ok (.iload_n 0, 1) := by decide +kernel
theorem dJ9_max_7cf53_6 : decode cJ9_max_7cf53 6 = .ok (.goto 4, 3) := by decide +kernel
theorem dJ9_max_7cf53_9 : decode cJ9_max_7cf53 9 = .ok (.iload_n 1, 1) := by decide +kernel
theorem dJ9_max_7cf53_10 : decode cJ9_max_7cf53 10 = .ok (.ireturn, 1) := by decide +kernel
theorem dJ7_fill_53178_0 : decode cJ7_fill_53178 0 = .ok (.iconst 0, 1) := by decide +kernel
theorem dJ7_fill_53178_1 : decode cJ7_fill_53178 1 = .ok (.istore_n 2, 1) := by decide +kernel
theorem dJ7_fill_53178_2 : decode cJ7_fill_53178 2 = .ok (.aload_n 0, 1) := by decide +kernel
theorem dJ7_fill_53178_3 : decode cJ7_fill_53178 3 = .ok (.arraylength, 1) := by decide +kernel
theorem dJ7_fill_53178_4 : decode cJ7_fill_53178 4 = .ok (.istore_n 3, 1) := by decide +kernel
theorem dJ7_fill_53178_5 : decode cJ7_fill_53178 5 = .ok (.iload_n 2, 1) := by decide +kernel
theorem dJ7_fill_53178_6 : decode cJ7_fill_53178 6 = .ok (.iload_n 3, 1) := by decide +kernel
theorem dJ7_fill_53178_7 : decode cJ7_fill_53178 7 = .ok (.if_icmp .ge 13, 3) := by decide +kernel
theorem dJ7_fill_53178_10 : decode cJ7_fill_53178 10 = .ok (.aload_n 0, 1) := by decide +kernel
theorem dJ7_fill_53178_11 : decode cJ7_fill_53178 11 = .ok (.iload_n 2, 1) := by decide +kernel
theorem dJ7_fill_53178_12 : decode cJ7_fill_53178 12 = .ok (.iload_n 1, 1) := by decide +kernel
theorem dJ7_fill_53178_13 : decode cJ7_fill_53178 13 = .ok (.iastore, 1) := by decide +kernel
theorem dJ7_fill_53178_14 : decode cJ7_fill_53178 14 = .ok (.iinc 2 1, 3) := by decide +kernel
theorem dJ7_fill_53178_17 : decode cJ7_fill_53178 17 = .ok (.goto (-12), 3) := by decide +kernel
theorem dJ7_fill_53178_20 : decode cJ7_fill_53178 20 = .ok (.return_, 1) := by decide +kernel
end
section
/-! THE BASE: binding, indices, the two worlds, the rows of calls -/
def pz_bnd {α β : Type} (x : α) (f : α → β) : β := f x
theorem pz_be {α β : Type} {x y : α} {f : α → β} (h : y = x) : pz_bnd x f = f y := by rw [h]; rfl
theorem pz_zero : (0 : Int32).toInt = 0 := rfl
theorem pz_in {f c : Int32} {n : Nat} (h0 : ¬ f < 0) (h1 : f < c) (hc : c.toInt ≤ n) : vp_in f n := by
  rw [Int32.lt_iff_toInt_lt] at h0 h1
  rw [pz_zero] at h0
  rw [vp_in_iff]; omega
theorem pz_inI {f : Int32} {n : Nat} (h0 : 0 ≤ f.toInt) (h1 : f.toInt < n) : vp_in f n := vp_in_iff.mpr ⟨h0, h1⟩
theorem pz_ne {x y : Int32} (h : ¬ x = y) : x.toInt ≠ y.toInt := fun q => h (Int32.toInt_inj.mp q)
/-- the cells of a world: those at q 0, .., q (n - 1) -/
def pz_A (n : Nat) (q : Nat → Nat) : Nat → Prop := fun a => ∃ i, i < n ∧ a = q i
def pz_I (n : Nat) (q : Nat → Nat) : Prop := ∀ i j, i < n → j < n → q i = q j → i = j
theorem pz_at {q : Nat → Nat} {n : Nat} {ws : va_W} (hm : ws.map Prod.fst = (List.range n).map q) {k : Nat} {e : Nat × va_E} (h : ws[k]? = some e) : k < n ∧ e.1 = q k := by
  have h1 : (ws.map Prod.fst)[k]? = some e.1 := by rw [List.getElem?_map, h]; rfl
  rw [hm, List.getElem?_map] at h1
  cases hr : (List.range n)[k]? with
  | none => rw [hr] at h1; cases h1
  | some i =>
    rw [hr] at h1
    obtain ⟨hk, he⟩ := List.getElem?_eq_some_iff.mp hr
    rw [List.getElem_range] at he
    subst he
    exact ⟨by simpa using hk, (Option.some.inj h1).symm⟩
theorem pz_D {q : Nat → Nat} {n : Nat} (hq : pz_I n q) {ws : va_W} (hm : ws.map Prod.fst = (List.range n).map q) : va_D (pz_A n q) ws := by
  refine ⟨fun i j a b ha hb hab => ?_, fun k a ha => ?_⟩
  · obtain ⟨h1, e1⟩ := pz_at hm ha
    obtain ⟨h2, e2⟩ := pz_at hm hb
    exact hq i j h1 h2 (by rw [← e1, ← e2]; exact hab)
  · obtain ⟨h1, e1⟩ := pz_at hm ha
    exact ⟨k, h1, e1⟩
/-- what a switch does -/
def pz_off (dflt lo hi : Int) (offs : Array Int) (x : Int32) : Int := if x.toInt < lo ∨ hi < x.toInt then dflt else (offs[(x.toInt - lo).toNat]?).getD dflt
section PzSwitch
variable {p : Program} {l : Launch} {e : Env} {R : Room} {s : State} {m : MethodId} {args : Array Value} {below : List Frame} {meth : Method} {c : Code} {H : Heap} {locs : List Loc} {cells slots : Nat} {Q : State → Prop} {cc : ByteArray} {pc : Nat} {ls : Array Slot} {rest : List Value}
theorem pz_table (hexec : p.tables.exec = Jvm.exec) (hb : c.code = cc) {dflt lo hi : Int} {offs : Array Int} {len : Nat} {x : Int32} {off : Int} {tgt : Nat} (hdg : decode cc pc = .ok (.tableswitch dflt lo hi offs, len)) (hz : offs.size = (hi - lo + 1).toNat) (ho : pz_off dflt lo hi offs x = off) (ht : (pc : Int) + off = (tgt : Int))
    (k : W p l e R s m args below meth c H locs cells slots Q (F0 m tgt ls rest)) : W p l e R s m args below meth c H locs cells slots Q (F0 m pc ls (.int x :: rest)) := by
  unfold pz_off at ho
  by_cases hr : x.toInt < lo ∨ hi < x.toInt
  · rw [if_pos hr] at ho
    subst ho
    exact lv_tableOut hexec hb hdg hr ht k
  · rw [if_neg hr] at ho
    have hlt : (x.toInt - lo).toNat < offs.size := by rw [hz]; omega
    rw [Array.getElem?_eq_getElem hlt, Option.getD_some] at ho
    exact lv_tableIn hexec hb hdg (fun h => hr (Or.inl h)) (fun h => hr (Or.inr h)) ((Array.getElem?_eq_getElem hlt).trans (congrArg some ho)) ht k
theorem pz_cases {P : Prop} {G : Prop} (a : P → G) (b : ¬ P → G) : G := (Classical.em P).elim a b
end PzSwitch
section PzCalls
variable {p : Program} {l : Launch} {e : Env} {R : Room} {s : State} {m : MethodId} {args : Array Value} {below : List Frame} {meth : Method} {c : Code} {H : Heap} {locs : List Loc} {cells slots : Nat} {Q : State → Prop}
variable {y : MethodName} {bytes cc : ByteArray} {maxL nL n index pc : Nat} {ret : Option FieldType} {ws : List Cond} {rm : Room} {Ts : List Cond} {own C host : String} {b : Addr} {As rest st0 : List Value} {ls : Array Slot}
variable {S : Type} {Wf : S → va_W} {W0 : va_W} {K : State → Prop} {A : Nat → Prop} {D : va_G}
theorem pz_Vi {post : Int32 → S → Prop} (hX : CallFix p m c cc nL s args Ts own) (hM : Met l y ws rm (va_Pc (.ref b :: As) (fun U => va_P D vwCl W0 U.heap ∧ K U)) (va_Qi post (fun u t => va_P D vwCl (Wf u) t.heap) A) 0 0 A) (cw : CallW R s args own C index y bytes maxL ret ws rm 0 0 n) (hKc : ∀ U g mk a, K U → K (U.calling g mk a)) (hKg : ∀ U : State, U.heap = H → s.WarmedH U.vm → K U) (hrecv : ∃ cell : Cell, H[b]? = some cell ∧ cell.vm.isStatics = false ∧ s.vm.findClass C = some cell.cls) (hP : va_P D vwCl W0 H) (hS : va_S A s.heap H locs) (hn : As.length = n) (hsz : ls.size = nL) (hst : st0 = As.reverse ++ .ref b :: rest) (hrm : (rest.map fun v => v.category).sum ≤ 8) (hdg : decode cc pc = .ok (.invokevirtual index, 3)) (hf : cells ≤ R.cells ∧ slots ≤ R.slots)
    (kk : ∀ (r : Int32) (u : S) (H1 : Heap) (locs1 : List Loc), post r u → va_P D vwCl (Wf u) H1 → va_S A s.heap H1 locs1 → W p l e R s m args below meth c H1 locs1 cells slots Q (F0 m (pc + 3) ls (.int r :: rest))) : W p l e R s m args below meth c H locs cells slots Q (F0 m pc ls st0) :=
  va_calli (va_runV hX hM cw ⟨fun a U g mk q => ⟨q.1, q.2.1, hKc U g mk a q.2.2⟩, hrecv, fun U hU hW => ⟨rfl, by rw [hU]; exact hP, hKg U hU hW⟩⟩ rfl hn hsz hst (lv_room hrm) hdg hf) hS (fun q _ h => h) (fun q h => h) (fun r u t H1 locs1 ht hvm hp hB _ _ hS1 => kk r u H1 locs1 hp (by rw [← ht]; exact hB) hS1)
theorem pz_Vl {post : Int64 → S → Prop} (hX : CallFix p m c cc nL s args Ts own) (hM : Met l y ws rm (va_Pc (.ref b :: As) (fun U => va_P D vwCl W0 U.heap ∧ K U)) (va_Ql post (fun u t => va_P D vwCl (Wf u) t.heap) A) 0 0 A) (cw : CallW R s args own C index y bytes maxL ret ws rm 0 0 n) (hKc : ∀ U g mk a, K U → K (U.calling g mk a)) (hKg : ∀ U : State, U.heap = H → s.WarmedH U.vm → K U) (hrecv : ∃ cell : Cell, H[b]? = some cell ∧ cell.vm.isStatics = false ∧ s.vm.findClass C = some cell.cls) (hP : va_P D vwCl W0 H) (hS : va_S A s.heap H locs) (hn : As.length = n) (hsz : ls.size = nL) (hst : st0 = As.reverse ++ .ref b :: rest) (hrm : (rest.map fun v => v.category).sum ≤ 8) (hdg : decode cc pc = .ok (.invokevirtual index, 3)) (hf : cells ≤ R.cells ∧ slots ≤ R.slots)
    (kk : ∀ (r : Int64) (u : S) (H1 : Heap) (locs1 : List Loc), post r u → va_P D vwCl (Wf u) H1 → va_S A s.heap H1 locs1 → W p l e R s m args below meth c H1 locs1 cells slots Q (F0 m (pc + 3) ls (.long r :: rest))) : W p l e R s m args below meth c H locs cells slots Q (F0 m pc ls st0) :=
  va_calll (va_runV hX hM cw ⟨fun a U g mk q => ⟨q.1, q.2.1, hKc U g mk a q.2.2⟩, hrecv, fun U hU hW => ⟨rfl, by rw [hU]; exact hP, hKg U hU hW⟩⟩ rfl hn hsz hst (lv_room hrm) hdg hf) hS (fun q _ h => h) (fun q h => h) (fun r u t H1 locs1 ht hvm hp hB _ _ hS1 => kk r u H1 locs1 hp (by rw [← ht]; exact hB) hS1)
theorem pz_Vv {post : S → Prop} (hX : CallFix p m c cc nL s args Ts own) (hM : Met l y ws rm (va_Pc (.ref b :: As) (fun U => va_P D vwCl W0 U.heap ∧ K U)) (va_Qv post (fun u t => va_P D vwCl (Wf u) t.heap) A) 0 0 A) (cw : CallW R s args own C index y bytes maxL ret ws rm 0 0 n) (hKc : ∀ U g mk a, K U → K (U.calling g mk a)) (hKg : ∀ U : State, U.heap = H → s.WarmedH U.vm → K U) (hrecv : ∃ cell : Cell, H[b]? = some cell ∧ cell.vm.isStatics = false ∧ s.vm.findClass C = some cell.cls) (hP : va_P D vwCl W0 H) (hS : va_S A s.heap H locs) (hn : As.length = n) (hsz : ls.size = nL) (hst : st0 = As.reverse ++ .ref b :: rest) (hrm : (rest.map fun v => v.category).sum ≤ 8) (hdg : decode cc pc = .ok (.invokevirtual index, 3)) (hf : cells ≤ R.cells ∧ slots ≤ R.slots)
    (kk : ∀ (u : S) (H1 : Heap) (locs1 : List Loc), post u → va_P D vwCl (Wf u) H1 → va_S A s.heap H1 locs1 → W p l e R s m args below meth c H1 locs1 cells slots Q (F0 m (pc + 3) ls rest)) : W p l e R s m args below meth c H locs cells slots Q (F0 m pc ls st0) :=
  va_callv (va_runV hX hM cw ⟨fun a U g mk q => ⟨q.1, q.2.1, hKc U g mk a q.2.2⟩, hrecv, fun U hU hW => ⟨rfl, by rw [hU]; exact hP, hKg U hU hW⟩⟩ rfl hn hsz hst (lv_room hrm) hdg hf) hS (fun q _ h => h) (fun q h => h) (fun u t H1 locs1 ht hvm hp hB _ _ hS1 => kk u H1 locs1 hp (by rw [← ht]; exact hB) hS1)
/-- static calls: the heap stays as it is, the answer is that of a function -/
theorem pz_Si {post : Int32 → Unit → Prop} (hX : CallFix p m c cc nL s args Ts own) (hM : Met l y ws rm (va_Pc As (fun _ => True)) (va_Qi post (fun _ _ => True) (fun _ => False)) 0 0 (fun _ => False)) (cw : CallB R s args own index y bytes maxL ret ws rm 0 0 n ∧ (Cond.static y).before args s = true) (hP : va_P D vwCl W0 H) (hS : va_S A s.heap H locs) (hn : As.length = n) (hsz : ls.size = nL) (hst : st0 = As.reverse ++ rest) (hrm : (rest.map fun v => v.category).sum ≤ 8) (hdg : decode cc pc = .ok (.invokestatic index, 3)) (hf : cells ≤ R.cells ∧ slots ≤ R.slots)
    (kk : ∀ (r : Int32) (H1 : Heap) (locs1 : List Loc), post r () → va_P D vwCl W0 H1 → va_S A s.heap H1 locs1 → W p l e R s m args below meth c H1 locs1 cells slots Q (F0 m (pc + 3) ls (.int r :: rest))) : W p l e R s m args below meth c H locs cells slots Q (F0 m pc ls st0) :=
  va_calli (va_runS hX hM cw ⟨fun a U g mk q => ⟨q.1, trivial⟩, fun U hU hW => ⟨rfl, trivial⟩⟩ rfl hn hsz hst (lv_room hrm) hdg hf) hS (fun q _ h => h.elim) (fun q h => h.elim) (fun r u t H1 locs1 ht hvm hp hB _ hk hS1 => kk r H1 locs1 hp (hP.kept (fun i a ha => hk a.1 (hP i a ha).lt (fun h => h))) hS1)
theorem pz_SNi {post : Int32 → Unit → Prop} (hX : CallFix p m c cc nL s args Ts own) (hM : Met l y ws rm (va_Pc As (fun _ => True)) (va_Qi post (fun _ _ => True) (fun _ => False)) 0 0 (fun _ => False)) (cw : va_CN R s args own index y host bytes maxL ret ws rm 0 0 n ∧ (Cond.static y).before args s = true ∧ True) (hP : va_P D vwCl W0 H) (hS : va_S A s.heap H locs) (hn : As.length = n) (hsz : ls.size = nL) (hst : st0 = As.reverse ++ rest) (hrm : (rest.map fun v => v.category).sum ≤ 8) (hdg : decode cc pc = .ok (.invokestatic index, 3)) (hf : cells ≤ R.cells ∧ slots ≤ R.slots)
    (kk : ∀ (r : Int32) (H1 : Heap) (locs1 : List Loc), post r () → va_P D vwCl W0 H1 → va_S A s.heap H1 locs1 → W p l e R s m args below meth c H1 locs1 cells slots Q (F0 m (pc + 3) ls (.int r :: rest))) : W p l e R s m args below meth c H locs cells slots Q (F0 m pc ls st0) :=
  va_calli (va_runSN hX hM cw ⟨fun a U g mk q => ⟨q.1, trivial⟩, fun U hU hW => ⟨rfl, trivial⟩⟩ rfl hn hsz hst (lv_room hrm) hdg hf) hS (fun q _ h => h.elim) (fun q h => h.elim) (fun r u t H1 locs1 ht hvm hp hB _ hk hS1 => kk r H1 locs1 hp (hP.kept (fun i a ha => hk a.1 (hP i a ha).lt (fun h => h))) hS1)
end PzCalls
/-! the world of the class -/
def pz_LT (j : Nat) : Int32 := ([0, 0, 0, 1, 2, 1, 1, 1, 1, 3, 1, 2, 1, 1] : List Int32).getD j 0
def pz_LB (j : Nat) : Int64 := ([-6148914691236517206, -3689348814741910324, -1085102592571150096, -71777214294589696, -281470681808896, -4294967296] : List Int64).getD j 0
def pz_X (q : Nat → Nat) (k : Nat → ClassId) (cnt : Int32) (kinds firsts seconds heights : Nat → Int32) (tables : Nat → Int64) (replaced laid rules ps qs rs fs frules heads ends inforce usable summ : Nat → Int32) : va_W :=
  [(q 0, .inr (3, [.ref (q 1), .ref (q 2), .ref (q 3)])), (q 1, .inr (1, [.ref (q 4), .ref (q 5), .ref (q 6), .ref (q 7), .ref (q 8), .ref (q 9), .int cnt])), (q 2, .inr (2, [.ref (q 10), .ref (q 11), .ref (q 12), .ref (q 13), .ref (q 14), .ref (q 15)])), (q 3, .inr (0, [.ref (q 16), .ref (q 17), .ref (q 18), .ref (q 19), .ref (q 20), .ref (q 21)])),
   (q 4, .inl (k 0, 80, .inl kinds)), (q 5, .inl (k 0, 80, .inl firsts)), (q 6, .inl (k 0, 80, .inl seconds)), (q 7, .inl (k 0, 80, .inl heights)), (q 8, .inl (k 1, 80, .inr (.inl tables))), (q 9, .inl (k 0, 80, .inl replaced)),
   (q 10, .inl (k 2, 60, .inl laid)), (q 11, .inl (k 0, 60, .inl rules)), (q 12, .inl (k 0, 60, .inl ps)), (q 13, .inl (k 0, 60, .inl qs)), (q 14, .inl (k 0, 60, .inl rs)), (q 15, .inl (k 0, 60, .inl fs)),
   (q 16, .inl (k 0, 60, .inl frules)), (q 17, .inl (k 0, 60, .inl heads)), (q 18, .inl (k 0, 60, .inl ends)), (q 19, .inl (k 2, 60, .inl inforce)), (q 20, .inl (k 2, 60, .inl usable)), (q 21, .inl (k 0, 4, .inl summ))]
def pz_M (q : Nat → Nat) (k : Nat → ClassId) (formulas : Int32) (kind left right height laid rules ps qs rs fs : Nat → Int32) (checked stopped reason made opened : Int32) (ruleThen heads boxOf shutBy around : Nat → Int32) (inner : Int32) (truth turned pile : Nat → Int32) : va_W :=
  [(q 0, .inr (4, [.int formulas, .ref (q 1), .ref (q 2), .ref (q 3), .ref (q 4), .ref (q 5), .ref (q 6), .ref (q 7), .ref (q 8), .ref (q 9), .ref (q 10), .int checked, .int stopped, .int reason, .int made, .int opened, .ref (q 11), .ref (q 12), .ref (q 13), .ref (q 14), .ref (q 15), .int inner, .ref (q 16), .ref (q 17), .ref (q 18)])),
   (q 1, .inl (k 0, 80, .inl kind)), (q 2, .inl (k 0, 80, .inl left)), (q 3, .inl (k 0, 80, .inl right)), (q 4, .inl (k 0, 80, .inl height)), (q 5, .inl (k 2, 60, .inl laid)), (q 6, .inl (k 0, 60, .inl rules)), (q 7, .inl (k 0, 60, .inl ps)), (q 8, .inl (k 0, 60, .inl qs)), (q 9, .inl (k 0, 60, .inl rs)), (q 10, .inl (k 0, 60, .inl fs)),
   (q 11, .inl (k 0, 60, .inl ruleThen)), (q 12, .inl (k 0, 60, .inl heads)), (q 13, .inl (k 0, 60, .inl boxOf)), (q 14, .inl (k 0, 60, .inl shutBy)), (q 15, .inl (k 0, 60, .inl around)), (q 16, .inl (k 2, 80, .inl truth)), (q 17, .inl (k 0, 80, .inl turned)), (q 18, .inl (k 0, 200, .inl pile))]
def pz_ty (k : Nat → ClassId) : List (ClassId × FieldType) := [(k 0, .int), (k 1, .long), (k 2, .boolean)]
/-- what stays: the classes, the links between nest mates, the static arrays (at t 0, t 1), the cells apart -/
def pz_KX (D : va_G) (q : Nat → Nat) (k : Nat → ClassId) (t : Nat → Nat) (U : State) : Prop :=
  va_K D vwCl (pz_ty k) U ∧ va_Nw (.methodLinkNest RX0 38 yX3_isLine "BoxProofs") U ∧ va_Nw (.methodLinkNest RX1 57 yX3_isLetter "BoxProofs") U ∧ va_Nw (.methodLinkNest RX2 31 yX3_isLine "BoxProofs") U ∧ va_Z RX3 "LINES_TAKEN" "[I" (.ref (t 0)) (pz_A 22 q) U U.heap ∧ va_T .int (t 0) 14 (fun j => .int (pz_LT j)) (pz_A 22 q) U U.heap ∧ va_Z RX1 "LETTER_TABLES" "[J" (.ref (t 1)) (pz_A 22 q) U U.heap ∧ va_T .long (t 1) 6 (fun j => .long (pz_LB j)) (pz_A 22 q) U U.heap ∧ pz_I 22 q
theorem pz_KX.go {D : va_G} {q : Nat → Nat} {k : Nat → ClassId} {t : Nat → Nat} {s : State} (h : pz_KX D q k t s) {H : Heap} {locs : List Loc} (hS : va_S (pz_A 22 q) s.heap H locs) (U : State) (hU : U.heap = H) (hW : s.WarmedH U.vm) : pz_KX D q k t U := by
  obtain ⟨h1, h2, h3, h4, h5, h6, h7, h8, h9⟩ := h
  have hk : ∀ a : Nat, a < s.heap.size → ¬ pz_A 22 q a → U.heap[a]? = s.heap[a]? := fun a ha hn => by rw [hU]; exact hS.2.1 a ha hn
  exact ⟨h1.moved hW.alike, h2.warmM hW, h3.warmM hW, h4.warmM hW, (h5.moved hW.alike).kept hk, (h6.moved hW.alike).kept hk, (h7.moved hW.alike).kept hk, (h8.moved hW.alike).kept hk, h9⟩
theorem pz_KX.call {D : va_G} {q : Nat → Nat} {k : Nat → ClassId} {t : Nat → Nat} (U : State) (g : JFrame) (mk : MethodId) (a : Array Value) (h : pz_KX D q k t U) : pz_KX D q k t (U.calling g mk a) := by
  obtain ⟨h1, h2, h3, h4, h5, h6, h7, h8, h9⟩ := h
  exact ⟨va_K.moved (u := U) (Vm.Alike.refl U.vm) h1, va_Nw.same rfl (u := U) rfl h2, va_Nw.same rfl (u := U) rfl h3, va_Nw.same rfl (u := U) rfl h4, va_Z.moved (u := U) (Vm.Alike.refl U.vm) h5, va_T.moved (u := U) (Vm.Alike.refl U.vm) h6, va_Z.moved (u := U) (Vm.Alike.refl U.vm) h7, va_T.moved (u := U) (Vm.Alike.refl U.vm) h8, h9⟩
def pz_KM (D : va_G) (q : Nat → Nat) (k : Nat → ClassId) (U : State) : Prop := va_K D vwCl (pz_ty k) U ∧ pz_I 19 q
theorem pz_KM.go {D : va_G} {q : Nat → Nat} {k : Nat → ClassId} {s : State} (h : pz_KM D q k s) {H : Heap} (U : State) (_ : U.heap = H) (hW : s.WarmedH U.vm) : pz_KM D q k U := ⟨h.1.moved hW.alike, h.2⟩
theorem pz_KM.call {D : va_G} {q : Nat → Nat} {k : Nat → ClassId} (U : State) (g : JFrame) (mk : MethodId) (a : Array Value) (h : pz_KM D q k U) : pz_KM D q k (U.calling g mk a) := ⟨va_K.moved (u := U) (Vm.Alike.refl U.vm) h.1, h.2⟩
/-- what a walk of a method stands on -/
def pz_C (p : Program) (s : State) (m : MethodId) (args : Array Value) (meth : Method) (c : Code) (cc : ByteArray) (ws : List Cond) (own : String) (nL : Nat) (ret : Option FieldType) : Prop :=
  p.tables.exec = Jvm.exec ∧ c.code = cc ∧ c.maxLocals = nL ∧ s.vm.findClass own = some m.cls ∧ (∀ w ∈ ws, w.before args s = true) ∧ meth.sig.returnType = ret ∧ meth.locks = false
/-- how many formulas there are: in their bounds -/
def pz_c (cnt : Int32) : Prop := 0 ≤ cnt.toInt ∧ cnt.toInt ≤ 80
theorem pz_hp {D : va_G} {cl : List vw_C} {ws : va_W} {t : State} {H : Heap} (ht : t.heap = H) (h : va_P D cl ws H) : va_P D cl ws t.heap := by rw [ht]; exact h
theorem pz_nle {x y : Int32} (h : ¬ y ≤ x) : x.toInt < y.toInt := by rw [Int32.le_iff_toInt_le] at h; omega
theorem pz_nlt {x y : Int32} (h : ¬ x < y) : y.toInt ≤ x.toInt := by rw [Int32.lt_iff_toInt_lt] at h; omega
theorem pz_inc {x : Int32} (h : x.toInt < 2147483647) : (x + 1).toInt = x.toInt + 1 := by
  have h0 := Int32.le_toInt x
  rw [Int32.toInt_add]
  have e : (1 : Int32).toInt = 1 := rfl
  rw [e, Int.bmod_eq_of_le (by omega) (by omega)]
theorem pz_dec {x : Int32} (h : -2147483648 < x.toInt) : (x + (-1)).toInt = x.toInt - 1 := by
  have h0 := Int32.toInt_lt x
  rw [Int32.toInt_add]
  have e : (-1 : Int32).toInt = -1 := rfl
  rw [e, Int.bmod_eq_of_le (by omega) (by omega)]
  omega
theorem pz_incf {cnt x : Int32} (hc : pz_c cnt) (h : ¬ cnt ≤ x) : (x + 1).toInt = x.toInt + 1 ∧ x.toInt < 80 := by
  have a := pz_nle h
  have b := hc.2
  exact ⟨pz_inc (by omega), by omega⟩
theorem pz_cin {cnt : Int32} (hc : pz_c cnt) (h : ¬ (80 : Int32) ≤ cnt) : vp_in cnt 80 := by
  have a := pz_nle h
  have e : (80 : Int32).toInt = 80 := rfl
  rw [e] at a
  exact pz_inI hc.1 a
section PzCalls2
variable {p : Program} {l : Launch} {e : Env} {R : Room} {s : State} {m : MethodId} {args : Array Value} {below : List Frame} {meth : Method} {c : Code} {H : Heap} {locs : List Loc} {cells slots : Nat} {Q : State → Prop}
variable {y : MethodName} {bytes cc : ByteArray} {maxL nL n index pc : Nat} {ret : Option FieldType} {ws : List Cond} {rm : Room} {Ts : List Cond} {own C host : String} {b : Addr} {As rest st0 : List Value} {ls : Array Slot}
variable {S : Type} {Wf : S → va_W} {W0 : va_W} {K : State → Prop} {A : Nat → Prop} {D : va_G}
theorem pz_SWv {post : S → Prop} (hX : CallFix p m c cc nL s args Ts own) (hM : Met l y ws rm (va_Pc As (fun U => va_P D vwCl W0 U.heap ∧ K U)) (va_Qv post (fun u t => va_P D vwCl (Wf u) t.heap) A) 0 0 A) (cw : CallB R s args own index y bytes maxL ret ws rm 0 0 n ∧ (Cond.static y).before args s = true) (hKc : ∀ U g mk a, K U → K (U.calling g mk a)) (hKg : ∀ U : State, U.heap = H → s.WarmedH U.vm → K U) (hP : va_P D vwCl W0 H) (hS : va_S A s.heap H locs) (hn : As.length = n) (hsz : ls.size = nL) (hst : st0 = As.reverse ++ rest) (hrm : (rest.map fun v => v.category).sum ≤ 8) (hdg : decode cc pc = .ok (.invokestatic index, 3)) (hf : cells ≤ R.cells ∧ slots ≤ R.slots)
    (kk : ∀ (u : S) (H1 : Heap) (locs1 : List Loc), post u → va_P D vwCl (Wf u) H1 → va_S A s.heap H1 locs1 → W p l e R s m args below meth c H1 locs1 cells slots Q (F0 m (pc + 3) ls rest)) : W p l e R s m args below meth c H locs cells slots Q (F0 m pc ls st0) :=
  va_callv (va_runS hX hM cw ⟨fun a U g mk q => ⟨q.1, q.2.1, hKc U g mk a q.2.2⟩, fun U hU hW => ⟨rfl, by rw [hU]; exact hP, hKg U hU hW⟩⟩ rfl hn hsz hst (lv_room hrm) hdg hf) hS (fun q _ h => h) (fun q h => h) (fun u t H1 locs1 ht hvm hp hB _ _ hS1 => kk u H1 locs1 hp (by rw [← ht]; exact hB) hS1)
end PzCalls2
theorem pz_n60 {x : Int32} (h : ¬ (60 : Int32) ≤ x) : x.toInt < 60 := by
  have a := pz_nle h
  have e : (60 : Int32).toInt = 60 := rfl
  rwa [e] at a
theorem pz_n0 {x : Int32} (h : ¬ x < 0) : 0 ≤ x.toInt := by
  have a := pz_nlt h
  rwa [pz_zero] at a
theorem pz_up60 {x : Int32} (h : ¬ (60 : Int32) ≤ x) : (x + 1).toInt = x.toInt + 1 ∧ x.toInt < 60 := ⟨pz_inc (by have := pz_n60 h; omega), pz_n60 h⟩
theorem pz_bi {α β : Type} {P : β → Prop} {x : α} {f : α → β} (h : ∀ y, y = x → P (f y)) : P (pz_bnd x f) := h x rfl
theorem pz_it {β : Type} {P : β → Prop} {c : Prop} [Decidable c] {t e : β} (a : c → P t) (b : ¬ c → P e) : P (if c then t else e) := by
  by_cases h : c
  · rw [if_pos h]; exact a h
  · rw [if_neg h]; exact b h
end
section
-- == X3_isLine
def f_X3_isLine (x0 : Int32) : Int32 := if x0 < 0 then (0) else (if 60 ≤ x0 then (0) else (1))
set_option maxHeartbeats 4000000 in
set_option maxRecDepth 100000 in
theorem c_X3_isLine (l : Launch)   (x0 : Int32)  : Met l yX3_isLine wsX3_isLine ({ frames := 0, cells := 0, slots := 0, locals := 0 }) (va_Pc [.int (x0)] (fun _ => True)) (va_Qi (fun r (_ : Unit) => r = (f_X3_isLine x0)) (fun _ _ => True) (fun _ => False)) 0 0 (fun _ => False) := by
  refine Met.ofW (cc := cX3_isLine) (maxL := 1) (ret := (some .boolean)) (by decide) rfl ?_
  intro p e s m args below meth c s₁ B hml hv
  obtain ⟨rfl, -⟩ := hv
  have hx := B.exec
  have hb := B.bytes
  have hr := B.returns
  have hts := atoms_spec (ws := wsX3_isLine) B.pre
  have hown : s.vm.findClass RX3 = some m.cls := findClass_of_methodNamed B.named
  have hlocks := B.notSynchronized
  have hC : pz_C p s m ([.int (x0)] : List Value).toArray meth c cX3_isLine wsX3_isLine RX3 1 (some .boolean) := ⟨hx, hb, hml, hown, hts, hr, hlocks⟩
  have hS : va_S (fun _ => False) s.heap s.heap [] := va_S.rf
  have hl := lv_entry [.int (x0)] (n := 1) (Nat.le_of_ble_eq_true rfl)
  rw [lg_entry_eq]
  generalize (lg_sl [.int (x0)] ++ List.replicate (1 - (lg_sl [.int (x0)]).length) Slot.unset).toArray = ls at hl ⊢
  have hl : lv_has ls 1 [(0, .int (x0))] := hl
  generalize hF : f_X3_isLine x0 = G
  replace hF := hF.symm
  unfold f_X3_isLine at hF
  refine lv_iload_n hx hb dX3_isLine_0 rfl (lv_at hl 0 rfl) ?_
  refine lv_if_lt (tgt := 14) hx hb dX3_isLine_1 (by decide) (fun c_1 => ?_) (fun c_1 => ?_)
  · have hF := hF.trans (if_pos c_1)
    refine lv_iconst (v := 0) hx hb dX3_isLine_14 (by decide) ?_
    exact W.zret (v := 0) hx hb hr rfl (fun t ht hW => ⟨⟨0, (), rfl, hF.symm, trivial⟩, hS.F ht⟩) hS.2.2 dX3_isLine_15 hlocks
  · have hF := hF.trans (if_neg c_1)
    refine lv_iload_n hx hb dX3_isLine_4 rfl (lv_at hl 0 rfl) ?_
    refine lv_bipush (v := 60) hx hb dX3_isLine_5 (by decide) ?_
    refine lv_icmp_ge (tgt := 14) hx hb dX3_isLine_7 (by decide) (fun c_2 => ?_) (fun c_2 => ?_)
    · have hF := hF.trans (if_pos c_2)
      refine lv_iconst (v := 0) hx hb dX3_isLine_14 (by decide) ?_
      exact W.zret (v := 0) hx hb hr rfl (fun t ht hW => ⟨⟨0, (), rfl, hF.symm, trivial⟩, hS.F ht⟩) hS.2.2 dX3_isLine_15 hlocks
    · have hF := hF.trans (if_neg c_2)
      refine lv_iconst (v := 1) hx hb dX3_isLine_10 (by decide) ?_
      refine lv_goto (tgt := 15) hx hb dX3_isLine_11 (by decide) ?_
      exact W.zret (v := 1) hx hb hr rfl (fun t ht hW => ⟨⟨1, (), rfl, hF.symm, trivial⟩, hS.F ht⟩) hS.2.2 dX3_isLine_15 hlocks

theorem pz_line {r k : Int32} (h : r = f_X3_isLine k) (h0 : ¬ r = 0) : vp_in k 60 := by
  rw [h] at h0; unfold f_X3_isLine at h0
  by_cases c1 : k < 0
  · rw [if_pos c1] at h0; exact absurd rfl h0
  · rw [if_neg c1] at h0
    by_cases c2 : (60 : Int32) ≤ k
    · rw [if_pos c2] at h0; exact absurd rfl h0
    · exact pz_in c1 (c := 60) (by rw [Int32.lt_iff_toInt_lt]; rw [Int32.le_iff_toInt_le] at c2; omega) (by decide)

-- == X3_isLetter
def f_X3_isLetter (x0 : Int32) : Int32 := if x0 < 0 then (0) else (if 6 ≤ x0 then (0) else (1))
set_option maxHeartbeats 4000000 in
set_option maxRecDepth 100000 in
theorem c_X3_isLetter (l : Launch)   (x0 : Int32)  : Met l yX3_isLetter wsX3_isLetter ({ frames := 0, cells := 0, slots := 0, locals := 0 }) (va_Pc [.int (x0)] (fun _ => True)) (va_Qi (fun r (_ : Unit) => r = (f_X3_isLetter x0)) (fun _ _ => True) (fun _ => False)) 0 0 (fun _ => False) := by
  refine Met.ofW (cc := cX3_isLetter) (maxL := 1) (ret := (some .boolean)) (by decide) rfl ?_
  intro p e s m args below meth c s₁ B hml hv
  obtain ⟨rfl, -⟩ := hv
  have hx := B.exec
  have hb := B.bytes
  have hr := B.returns
  have hts := atoms_spec (ws := wsX3_isLetter) B.pre
  have hown : s.vm.findClass RX3 = some m.cls := findClass_of_methodNamed B.named
  have hlocks := B.notSynchronized
  have hC : pz_C p s m ([.int (x0)] : List Value).toArray meth c cX3_isLetter wsX3_isLetter RX3 1 (some .boolean) := ⟨hx, hb, hml, hown, hts, hr, hlocks⟩
  have hS : va_S (fun _ => False) s.heap s.heap [] := va_S.rf
  have hl := lv_entry [.int (x0)] (n := 1) (Nat.le_of_ble_eq_true rfl)
  rw [lg_entry_eq]
  generalize (lg_sl [.int (x0)] ++ List.replicate (1 - (lg_sl [.int (x0)]).length) Slot.unset).toArray = ls at hl ⊢
  have hl : lv_has ls 1 [(0, .int (x0))] := hl
  generalize hF : f_X3_isLetter x0 = G
  replace hF := hF.symm
  unfold f_X3_isLetter at hF
  refine lv_iload_n hx hb dX3_isLetter_0 rfl (lv_at hl 0 rfl) ?_
  refine lv_if_lt (tgt := 14) hx hb dX3_isLetter_1 (by decide) (fun c_1 => ?_) (fun c_1 => ?_)
  · have hF := hF.trans (if_pos c_1)
    refine lv_iconst (v := 0) hx hb dX3_isLetter_14 (by decide) ?_
    exact W.zret (v := 0) hx hb hr rfl (fun t ht hW => ⟨⟨0, (), rfl, hF.symm, trivial⟩, hS.F ht⟩) hS.2.2 dX3_isLetter_15 hlocks
  · have hF := hF.trans (if_neg c_1)
    refine lv_iload_n hx hb dX3_isLetter_4 rfl (lv_at hl 0 rfl) ?_
    refine lv_bipush (v := 6) hx hb dX3_isLetter_5 (by decide) ?_
    refine lv_icmp_ge (tgt := 14) hx hb dX3_isLetter_7 (by decide) (fun c_2 => ?_) (fun c_2 => ?_)
    · have hF := hF.trans (if_pos c_2)
      refine lv_iconst (v := 0) hx hb dX3_isLetter_14 (by decide) ?_
      exact W.zret (v := 0) hx hb hr rfl (fun t ht hW => ⟨⟨0, (), rfl, hF.symm, trivial⟩, hS.F ht⟩) hS.2.2 dX3_isLetter_15 hlocks
    · have hF := hF.trans (if_neg c_2)
      refine lv_iconst (v := 1) hx hb dX3_isLetter_10 (by decide) ?_
      refine lv_goto (tgt := 15) hx hb dX3_isLetter_11 (by decide) ?_
      exact W.zret (v := 1) hx hb hr rfl (fun t ht hW => ⟨⟨1, (), rfl, hF.symm, trivial⟩, hS.F ht⟩) hS.2.2 dX3_isLetter_15 hlocks

theorem pz_letter {r k : Int32} (h : r = f_X3_isLetter k) (h0 : ¬ r = 0) : vp_in k 6 := by
  rw [h] at h0; unfold f_X3_isLetter at h0
  by_cases c1 : k < 0
  · rw [if_pos c1] at h0; exact absurd rfl h0
  · rw [if_neg c1] at h0
    by_cases c2 : (6 : Int32) ≤ k
    · rw [if_pos c2] at h0; exact absurd rfl h0
    · exact pz_in c1 (c := 6) (by rw [Int32.lt_iff_toInt_lt]; rw [Int32.le_iff_toInt_le] at c2; omega) (by decide)

-- == X3_takesFormula
def f_X3_takesFormula (x0 : Int32) : Int32 := if x0 = 0 then (1) else (if x0 = 1 then (1) else (if x0 = 7 then (1) else (if x0 = 8 then (1) else (if x0 = 12 then (1) else (0)))))
set_option maxHeartbeats 4000000 in
set_option maxRecDepth 100000 in
theorem c_X3_takesFormula (l : Launch)   (x0 : Int32)  : Met l yX3_takesFormula wsX3_takesFormula ({ frames := 0, cells := 0, slots := 0, locals := 0 }) (va_Pc [.int (x0)] (fun _ => True)) (va_Qi (fun r (_ : Unit) => r = (f_X3_takesFormula x0)) (fun _ _ => True) (fun _ => False)) 0 0 (fun _ => False) := by
  refine Met.ofW (cc := cX3_takesFormula) (maxL := 1) (ret := (some .boolean)) (by decide) rfl ?_
  intro p e s m args below meth c s₁ B hml hv
  obtain ⟨rfl, -⟩ := hv
  have hx := B.exec
  have hb := B.bytes
  have hr := B.returns
  have hts := atoms_spec (ws := wsX3_takesFormula) B.pre
  have hown : s.vm.findClass RX3 = some m.cls := findClass_of_methodNamed B.named
  have hlocks := B.notSynchronized
  have hC : pz_C p s m ([.int (x0)] : List Value).toArray meth c cX3_takesFormula wsX3_takesFormula RX3 1 (some .boolean) := ⟨hx, hb, hml, hown, hts, hr, hlocks⟩
  have hS : va_S (fun _ => False) s.heap s.heap [] := va_S.rf
  have hl := lv_entry [.int (x0)] (n := 1) (Nat.le_of_ble_eq_true rfl)
  rw [lg_entry_eq]
  generalize (lg_sl [.int (x0)] ++ List.replicate (1 - (lg_sl [.int (x0)]).length) Slot.unset).toArray = ls at hl ⊢
  have hl : lv_has ls 1 [(0, .int (x0))] := hl
  generalize hF : f_X3_takesFormula x0 = G
  replace hF := hF.symm
  unfold f_X3_takesFormula at hF
  refine lv_iload_n hx hb dX3_takesFormula_0 rfl (lv_at hl 0 rfl) ?_
  refine lv_if_eq (tgt := 27) hx hb dX3_takesFormula_1 (by decide) (fun c_1 => ?_) (fun c_1 => ?_)
  · have hF := hF.trans (if_pos c_1)
    refine lv_iconst (v := 1) hx hb dX3_takesFormula_27 (by decide) ?_
    refine lv_goto (tgt := 32) hx hb dX3_takesFormula_28 (by decide) ?_
    exact W.zret (v := 1) hx hb hr rfl (fun t ht hW => ⟨⟨1, (), rfl, hF.symm, trivial⟩, hS.F ht⟩) hS.2.2 dX3_takesFormula_32 hlocks
  · have hF := hF.trans (if_neg c_1)
    refine lv_iload_n hx hb dX3_takesFormula_4 rfl (lv_at hl 0 rfl) ?_
    refine lv_iconst (v := 1) hx hb dX3_takesFormula_5 (by decide) ?_
    refine lv_icmp_eq (tgt := 27) hx hb dX3_takesFormula_6 (by decide) (fun c_2 => ?_) (fun c_2 => ?_)
    · have hF := hF.trans (if_pos c_2)
      refine lv_iconst (v := 1) hx hb dX3_takesFormula_27 (by decide) ?_
      refine lv_goto (tgt := 32) hx hb dX3_takesFormula_28 (by decide) ?_
      exact W.zret (v := 1) hx hb hr rfl (fun t ht hW => ⟨⟨1, (), rfl, hF.symm, trivial⟩, hS.F ht⟩) hS.2.2 dX3_takesFormula_32 hlocks
    · have hF := hF.trans (if_neg c_2)
      refine lv_iload_n hx hb dX3_takesFormula_9 rfl (lv_at hl 0 rfl) ?_
      refine lv_bipush (v := 7) hx hb dX3_takesFormula_10 (by decide) ?_
      refine lv_icmp_eq (tgt := 27) hx hb dX3_takesFormula_12 (by decide) (fun c_3 => ?_) (fun c_3 => ?_)
      · have hF := hF.trans (if_pos c_3)
        refine lv_iconst (v := 1) hx hb dX3_takesFormula_27 (by decide) ?_
        refine lv_goto (tgt := 32) hx hb dX3_takesFormula_28 (by decide) ?_
        exact W.zret (v := 1) hx hb hr rfl (fun t ht hW => ⟨⟨1, (), rfl, hF.symm, trivial⟩, hS.F ht⟩) hS.2.2 dX3_takesFormula_32 hlocks
      · have hF := hF.trans (if_neg c_3)
        refine lv_iload_n hx hb dX3_takesFormula_15 rfl (lv_at hl 0 rfl) ?_
        refine lv_bipush (v := 8) hx hb dX3_takesFormula_16 (by decide) ?_
        refine lv_icmp_eq (tgt := 27) hx hb dX3_takesFormula_18 (by decide) (fun c_4 => ?_) (fun c_4 => ?_)
        · have hF := hF.trans (if_pos c_4)
          refine lv_iconst (v := 1) hx hb dX3_takesFormula_27 (by decide) ?_
          refine lv_goto (tgt := 32) hx hb dX3_takesFormula_28 (by decide) ?_
          exact W.zret (v := 1) hx hb hr rfl (fun t ht hW => ⟨⟨1, (), rfl, hF.symm, trivial⟩, hS.F ht⟩) hS.2.2 dX3_takesFormula_32 hlocks
        · have hF := hF.trans (if_neg c_4)
          refine lv_iload_n hx hb dX3_takesFormula_21 rfl (lv_at hl 0 rfl) ?_
          refine lv_bipush (v := 12) hx hb dX3_takesFormula_22 (by decide) ?_
          refine lv_icmp_ne (tgt := 31) hx hb dX3_takesFormula_24 (by decide) (fun c_5 => ?_) (fun c_5 => ?_)
          · have hF := hF.trans (if_neg c_5)
            refine lv_iconst (v := 0) hx hb dX3_takesFormula_31 (by decide) ?_
            exact W.zret (v := 0) hx hb hr rfl (fun t ht hW => ⟨⟨0, (), rfl, hF.symm, trivial⟩, hS.F ht⟩) hS.2.2 dX3_takesFormula_32 hlocks
          · have hF := hF.trans (if_pos c_5)
            refine lv_iconst (v := 1) hx hb dX3_takesFormula_27 (by decide) ?_
            refine lv_goto (tgt := 32) hx hb dX3_takesFormula_28 (by decide) ?_
            exact W.zret (v := 1) hx hb hr rfl (fun t ht hW => ⟨⟨1, (), rfl, hF.symm, trivial⟩, hS.F ht⟩) hS.2.2 dX3_takesFormula_32 hlocks

-- == X2_isLaid
def f_X2_isLaid (laid : Nat → Int32) (x1 : Int32) : Int32 := pz_bnd (f_X3_isLine x1) (fun z_1 => if z_1 = 0 then (0) else (if (laid (x1).toNatClampNeg) = 0 then (0) else (1)))
theorem fl_X2_isLaid_9 : Cond.fieldLink RX2 9 "BoxProofs$Lines" "laid" "[Z" ∈ wsX2_isLaid := by decide +kernel
theorem hdS_X3_isLine : yX3_isLine.cls ≠ "java/lang/invoke/MethodHandle" ∧ yX3_isLine.cls ≠ "java/lang/invoke/VarHandle" ∧ (parseMethodDescriptor yX3_isLine.desc).map (fun d => d.parameters.length) = some 1 := by decide +kernel
theorem in_X2_isLaid_X2 : ∀ w ∈ wsX20, w ∈ wsX2_isLaid := by decide +kernel
theorem mm_X2_isLaid_Cond_initialized_RX3 : Cond.initialized RX3 ∈ wsX2_isLaid := by decide +kernel
theorem mm_X2_isLaid_Cond_static_yX3_isLine : Cond.static yX3_isLine ∈ wsX2_isLaid := by decide +kernel
set_option maxHeartbeats 4000000 in
set_option maxRecDepth 100000 in
theorem c_X2_isLaid (l : Launch) (D : va_G) (q : Nat → Nat) (k : Nat → ClassId) (t : Nat → Nat) (cnt : Int32) (kinds : Nat → Int32) (firsts : Nat → Int32) (seconds : Nat → Int32) (heights : Nat → Int32) (tables : Nat → Int64) (replaced : Nat → Int32) (laid : Nat → Int32) (rules : Nat → Int32) (ps : Nat → Int32) (qs : Nat → Int32) (rs : Nat → Int32) (fs : Nat → Int32) (frules : Nat → Int32) (heads : Nat → Int32) (ends : Nat → Int32) (inforce : Nat → Int32) (usable : Nat → Int32) (summ : Nat → Int32) (x1 : Int32)  : Met l yX2_isLaid wsX2_isLaid ({ frames := 1, cells := 0, slots := 0, locals := 20 }) (va_Pc [.ref (q 2), .int (x1)] (fun U => va_P D vwCl (pz_X q k cnt kinds firsts seconds heights tables replaced laid rules ps qs rs fs frules heads ends inforce usable summ) U.heap ∧ pz_KX D q k t U)) (va_Qi (fun r (_ : Unit) => r = (f_X2_isLaid laid x1)) (fun _ t => va_P D vwCl (pz_X q k cnt kinds firsts seconds heights tables replaced laid rules ps qs rs fs frules heads ends inforce usable summ) t.heap) (pz_A 22 q)) 0 0 (pz_A 22 q) := by
  refine Met.ofW (cc := cX2_isLaid) (maxL := 2) (ret := (some .boolean)) (by decide) rfl ?_
  intro p e s m args below meth c s₁ B hml hv
  obtain ⟨rfl, hP, hKX⟩ := hv
  have hx := B.exec
  have hb := B.bytes
  have hr := B.returns
  have hts := atoms_spec (ws := wsX2_isLaid) B.pre
  have hown : s.vm.findClass RX2 = some m.cls := findClass_of_methodNamed B.named
  have hlocks := B.notSynchronized
  have hC : pz_C p s m ([.ref (q 2), .int (x1)] : List Value).toArray meth c cX2_isLaid wsX2_isLaid RX2 2 (some .boolean) := ⟨hx, hb, hml, hown, hts, hr, hlocks⟩
  have hK := hKX.1
  have hS : va_S (pz_A 22 q) s.heap s.heap [] := va_S.rf
  have hl := lv_entry [.ref (q 2), .int (x1)] (n := 2) (Nat.le_of_ble_eq_true rfl)
  rw [lg_entry_eq]
  generalize (lg_sl [.ref (q 2), .int (x1)] ++ List.replicate (2 - (lg_sl [.ref (q 2), .int (x1)]).length) Slot.unset).toArray = ls at hl ⊢
  have hl : lv_has ls 2 [(0, .ref (q 2)), (1, .int (x1))] := hl
  generalize hF : f_X2_isLaid laid x1 = G
  replace hF := hF.symm
  unfold f_X2_isLaid at hF
  refine lv_iload_n hx hb dX2_isLaid_0 rfl (lv_at hl 1 rfl) ?_
  refine pz_SNi (As := [.int (x1)]) (rest := []) ⟨hx, hb, hml, hown, hts⟩ (c_X3_isLine l x1) ⟨va_cnB 1 hts gX2_isLaid_X3_isLine_n31 rfl rfl rfl hKX.2.2.2.1 (hts _ mm_X2_isLaid_Cond_initialized_RX3) hdS_X3_isLine ⟨Nat.le_of_ble_eq_true rfl, Nat.le_of_ble_eq_true rfl⟩, hts _ mm_X2_isLaid_Cond_static_yX3_isLine, trivial⟩ hP hS rfl hl.1 rfl (Nat.le_of_ble_eq_true rfl) dX2_isLaid_1 ⟨Nat.zero_le _, Nat.zero_le _⟩ (fun r_1 H locs hF_1 hP hS => ?_)
  have hF := hF.trans (pz_be hF_1)
  refine lv_if_eq (tgt := 20) hx hb dX2_isLaid_4 (by decide) (fun c_2 => ?_) (fun c_2 => ?_)
  · have hF := hF.trans (if_pos c_2)
    refine lv_iconst (v := 0) hx hb dX2_isLaid_20 (by decide) ?_
    exact W.zret (v := 0) hx hb hr rfl (fun t ht hW => ⟨⟨0, (), rfl, hF.symm, pz_hp ht hP⟩, hS.F ht⟩) hS.2.2 dX2_isLaid_21 hlocks
  · have hF := hF.trans (if_neg c_2)
    refine lv_aload_n hx hb dX2_isLaid_7 rfl (lv_at hl 0 rfl) ?_
    refine va_get (D := D) (ci := 2) (v := .ref (q 10)) (C := RX2) (T := TX2) (N := 6) hx hb hts in_X2_isLaid_X2 hown hK hP 2 rfl rfl 0 (by decide) (hts _ fl_X2_isLaid_9) (fun _ h9 => h9) rfl dX2_isLaid_8 ?_
    refine lv_iload_n hx hb dX2_isLaid_11 rfl (lv_at hl 1 rfl) ?_
    have hi_3 : vp_in x1 60 := by first | exact pz_line ‹_› ‹_› | assumption
    refine va_zald hx hb hK hP 10 2 rfl rfl hi_3 dX2_isLaid_12 ?_
    refine lv_if_eq (tgt := 20) hx hb dX2_isLaid_13 (by decide) (fun c_4 => ?_) (fun c_4 => ?_)
    · have hF := hF.trans (if_pos c_4)
      refine lv_iconst (v := 0) hx hb dX2_isLaid_20 (by decide) ?_
      exact W.zret (v := 0) hx hb hr rfl (fun t ht hW => ⟨⟨0, (), rfl, hF.symm, pz_hp ht hP⟩, hS.F ht⟩) hS.2.2 dX2_isLaid_21 hlocks
    · have hF := hF.trans (if_neg c_4)
      refine lv_iconst (v := 1) hx hb dX2_isLaid_16 (by decide) ?_
      refine lv_goto (tgt := 21) hx hb dX2_isLaid_17 (by decide) ?_
      exact W.zret (v := 1) hx hb hr rfl (fun t ht hW => ⟨⟨1, (), rfl, hF.symm, pz_hp ht hP⟩, hS.F ht⟩) hS.2.2 dX2_isLaid_21 hlocks

-- == X2_put
def f_X2_put (laid : Nat → Int32) (rules : Nat → Int32) (ps : Nat → Int32) (qs : Nat → Int32) (rs : Nat → Int32) (fs : Nat → Int32) (x1 : Int32) (x2 : Int32) (x3 : Int32) (x4 : Int32) (x5 : Int32) (x6 : Int32) : (Nat → Int32) × (Nat → Int32) × (Nat → Int32) × (Nat → Int32) × (Nat → Int32) × (Nat → Int32) := pz_bnd (f_X3_isLine x1) (fun z_1 => if z_1 = 0 then ((laid, rules, ps, qs, rs, fs)) else (((upd laid (x1).toNatClampNeg 1), (upd rules (x1).toNatClampNeg x2), (upd ps (x1).toNatClampNeg x3), (upd qs (x1).toNatClampNeg x4), (upd rs (x1).toNatClampNeg x5), (upd fs (x1).toNatClampNeg x6))))
theorem fl_X2_put_15 : Cond.fieldLink RX2 15 "BoxProofs$Lines" "rules" "[I" ∈ wsX2_put := by decide +kernel
theorem fl_X2_put_19 : Cond.fieldLink RX2 19 "BoxProofs$Lines" "ps" "[I" ∈ wsX2_put := by decide +kernel
theorem fl_X2_put_22 : Cond.fieldLink RX2 22 "BoxProofs$Lines" "qs" "[I" ∈ wsX2_put := by decide +kernel
theorem fl_X2_put_25 : Cond.fieldLink RX2 25 "BoxProofs$Lines" "rs" "[I" ∈ wsX2_put := by decide +kernel
theorem fl_X2_put_28 : Cond.fieldLink RX2 28 "BoxProofs$Lines" "fs" "[I" ∈ wsX2_put := by decide +kernel
theorem fl_X2_put_9 : Cond.fieldLink RX2 9 "BoxProofs$Lines" "laid" "[Z" ∈ wsX2_put := by decide +kernel
theorem in_X2_put_X2 : ∀ w ∈ wsX20, w ∈ wsX2_put := by decide +kernel
theorem mm_X2_put_Cond_initialized_RX3 : Cond.initialized RX3 ∈ wsX2_put := by decide +kernel
theorem mm_X2_put_Cond_static_yX3_isLine : Cond.static yX3_isLine ∈ wsX2_put := by decide +kernel
set_option maxHeartbeats 4000000 in
set_option maxRecDepth 100000 in
theorem c_X2_put (l : Launch) (D : va_G) (q : Nat → Nat) (k : Nat → ClassId) (t : Nat → Nat) (cnt : Int32) (kinds : Nat → Int32) (firsts : Nat → Int32) (seconds : Nat → Int32) (heights : Nat → Int32) (tables : Nat → Int64) (replaced : Nat → Int32) (laid : Nat → Int32) (rules : Nat → Int32) (ps : Nat → Int32) (qs : Nat → Int32) (rs : Nat → Int32) (fs : Nat → Int32) (frules : Nat → Int32) (heads : Nat → Int32) (ends : Nat → Int32) (inforce : Nat → Int32) (usable : Nat → Int32) (summ : Nat → Int32) (x1 : Int32) (x2 : Int32) (x3 : Int32) (x4 : Int32) (x5 : Int32) (x6 : Int32)  : Met l yX2_put wsX2_put ({ frames := 1, cells := 0, slots := 0, locals := 20 }) (va_Pc [.ref (q 2), .int (x1), .int (x2), .int (x3), .int (x4), .int (x5), .int (x6)] (fun U => va_P D vwCl (pz_X q k cnt kinds firsts seconds heights tables replaced laid rules ps qs rs fs frules heads ends inforce usable summ) U.heap ∧ pz_KX D q k t U)) (va_Qv (fun (u : (Nat → Int32) × (Nat → Int32) × (Nat → Int32) × (Nat → Int32) × (Nat → Int32) × (Nat → Int32)) => u = (f_X2_put laid rules ps qs rs fs x1 x2 x3 x4 x5 x6)) (fun u t => va_P D vwCl (pz_X q k cnt kinds firsts seconds heights tables replaced u.1 u.2.1 u.2.2.1 u.2.2.2.1 u.2.2.2.2.1 u.2.2.2.2.2 frules heads ends inforce usable summ) t.heap) (pz_A 22 q)) 0 0 (pz_A 22 q) := by
  refine Met.ofW (cc := cX2_put) (maxL := 7) (ret := none) (by decide) rfl ?_
  intro p e s m args below meth c s₁ B hml hv
  obtain ⟨rfl, hP, hKX⟩ := hv
  have hx := B.exec
  have hb := B.bytes
  have hr := B.returns
  have hts := atoms_spec (ws := wsX2_put) B.pre
  have hown : s.vm.findClass RX2 = some m.cls := findClass_of_methodNamed B.named
  have hlocks := B.notSynchronized
  have hC : pz_C p s m ([.ref (q 2), .int (x1), .int (x2), .int (x3), .int (x4), .int (x5), .int (x6)] : List Value).toArray meth c cX2_put wsX2_put RX2 7 none := ⟨hx, hb, hml, hown, hts, hr, hlocks⟩
  have hK := hKX.1
  have hS : va_S (pz_A 22 q) s.heap s.heap [] := va_S.rf
  have hl := lv_entry [.ref (q 2), .int (x1), .int (x2), .int (x3), .int (x4), .int (x5), .int (x6)] (n := 7) (Nat.le_of_ble_eq_true rfl)
  rw [lg_entry_eq]
  generalize (lg_sl [.ref (q 2), .int (x1), .int (x2), .int (x3), .int (x4), .int (x5), .int (x6)] ++ List.replicate (7 - (lg_sl [.ref (q 2), .int (x1), .int (x2), .int (x3), .int (x4), .int (x5), .int (x6)]).length) Slot.unset).toArray = ls at hl ⊢
  have hl : lv_has ls 7 [(0, .ref (q 2)), (1, .int (x1)), (2, .int (x2)), (3, .int (x3)), (4, .int (x4)), (5, .int (x5)), (6, .int (x6))] := hl
  generalize hF : f_X2_put laid rules ps qs rs fs x1 x2 x3 x4 x5 x6 = G
  replace hF := hF.symm
  unfold f_X2_put at hF
  refine lv_iload_n hx hb dX2_put_0 rfl (lv_at hl 1 rfl) ?_
  refine pz_SNi (As := [.int (x1)]) (rest := []) ⟨hx, hb, hml, hown, hts⟩ (c_X3_isLine l x1) ⟨va_cnB 1 hts gX2_put_X3_isLine_n31 rfl rfl rfl hKX.2.2.2.1 (hts _ mm_X2_put_Cond_initialized_RX3) hdS_X3_isLine ⟨Nat.le_of_ble_eq_true rfl, Nat.le_of_ble_eq_true rfl⟩, hts _ mm_X2_put_Cond_static_yX3_isLine, trivial⟩ hP hS rfl hl.1 rfl (Nat.le_of_ble_eq_true rfl) dX2_put_1 ⟨Nat.zero_le _, Nat.zero_le _⟩ (fun r_1 H locs hF_1 hP hS => ?_)
  have hF := hF.trans (pz_be hF_1)
  refine lv_if_eq (tgt := 52) hx hb dX2_put_4 (by decide) (fun c_2 => ?_) (fun c_2 => ?_)
  · have hF := hF.trans (if_pos c_2)
    exact W.vret hx hb hr (fun t ht hW => ⟨⟨(laid, rules, ps, qs, rs, fs), rfl, hF.symm, pz_hp ht hP⟩, hS.F ht⟩) hS.2.2 dX2_put_52 hlocks
  · have hF := hF.trans (if_neg c_2)
    refine lv_aload_n hx hb dX2_put_7 rfl (lv_at hl 0 rfl) ?_
    refine va_get (D := D) (ci := 2) (v := .ref (q 10)) (C := RX2) (T := TX2) (N := 6) hx hb hts in_X2_put_X2 hown hK hP 2 rfl rfl 0 (by decide) (hts _ fl_X2_put_9) (fun _ h9 => h9) rfl dX2_put_8 ?_
    refine lv_iload_n hx hb dX2_put_11 rfl (lv_at hl 1 rfl) ?_
    refine lv_iconst (v := 1) hx hb dX2_put_12 (by decide) ?_
    have hi_3 : vp_in x1 60 := by first | exact pz_line ‹_› ‹_› | assumption
    refine va_zast hx hb hK hP (pz_D hKX.2.2.2.2.2.2.2.2 rfl) hS 10 2 rfl rfl hi_3 dX2_put_13 (fun H locs hP _ hS => ?_)
    have hP : va_P D vwCl (pz_X q k cnt kinds firsts seconds heights tables replaced (upd laid (x1).toNatClampNeg 1) rules ps qs rs fs frules heads ends inforce usable summ) H := hP
    refine lv_aload_n hx hb dX2_put_14 rfl (lv_at hl 0 rfl) ?_
    refine va_get (D := D) (ci := 2) (v := .ref (q 11)) (C := RX2) (T := TX2) (N := 6) hx hb hts in_X2_put_X2 hown hK hP 2 rfl rfl 1 (by decide) (hts _ fl_X2_put_15) (fun _ h9 => h9) rfl dX2_put_15 ?_
    refine lv_iload_n hx hb dX2_put_18 rfl (lv_at hl 1 rfl) ?_
    refine lv_iload_n hx hb dX2_put_19 rfl (lv_at hl 2 rfl) ?_
    have hi_4 : vp_in x1 60 := by first | exact pz_line ‹_› ‹_› | assumption
    refine va_iast hx hb hK hP (pz_D hKX.2.2.2.2.2.2.2.2 rfl) hS 11 0 rfl rfl hi_4 dX2_put_20 (fun H locs hP _ hS => ?_)
    have hP : va_P D vwCl (pz_X q k cnt kinds firsts seconds heights tables replaced (upd laid (x1).toNatClampNeg 1) (upd rules (x1).toNatClampNeg x2) ps qs rs fs frules heads ends inforce usable summ) H := hP
    refine lv_aload_n hx hb dX2_put_21 rfl (lv_at hl 0 rfl) ?_
    refine va_get (D := D) (ci := 2) (v := .ref (q 12)) (C := RX2) (T := TX2) (N := 6) hx hb hts in_X2_put_X2 hown hK hP 2 rfl rfl 2 (by decide) (hts _ fl_X2_put_19) (fun _ h9 => h9) rfl dX2_put_22 ?_
    refine lv_iload_n hx hb dX2_put_25 rfl (lv_at hl 1 rfl) ?_
    refine lv_iload_n hx hb dX2_put_26 rfl (lv_at hl 3 rfl) ?_
    have hi_5 : vp_in x1 60 := by first | exact pz_line ‹_› ‹_› | assumption
    refine va_iast hx hb hK hP (pz_D hKX.2.2.2.2.2.2.2.2 rfl) hS 12 0 rfl rfl hi_5 dX2_put_27 (fun H locs hP _ hS => ?_)
    have hP : va_P D vwCl (pz_X q k cnt kinds firsts seconds heights tables replaced (upd laid (x1).toNatClampNeg 1) (upd rules (x1).toNatClampNeg x2) (upd ps (x1).toNatClampNeg x3) qs rs fs frules heads ends inforce usable summ) H := hP
    refine lv_aload_n hx hb dX2_put_28 rfl (lv_at hl 0 rfl) ?_
    refine va_get (D := D) (ci := 2) (v := .ref (q 13)) (C := RX2) (T := TX2) (N := 6) hx hb hts in_X2_put_X2 hown hK hP 2 rfl rfl 3 (by decide) (hts _ fl_X2_put_22) (fun _ h9 => h9) rfl dX2_put_29 ?_
    refine lv_iload_n hx hb dX2_put_32 rfl (lv_at hl 1 rfl) ?_
    refine lv_iload hx hb dX2_put_33 (lv_at hl 4 rfl) ?_
    have hi_6 : vp_in x1 60 := by first | exact pz_line ‹_› ‹_› | assumption
    refine va_iast hx hb hK hP (pz_D hKX.2.2.2.2.2.2.2.2 rfl) hS 13 0 rfl rfl hi_6 dX2_put_35 (fun H locs hP _ hS => ?_)
    have hP : va_P D vwCl (pz_X q k cnt kinds firsts seconds heights tables replaced (upd laid (x1).toNatClampNeg 1) (upd rules (x1).toNatClampNeg x2) (upd ps (x1).toNatClampNeg x3) (upd qs (x1).toNatClampNeg x4) rs fs frules heads ends inforce usable summ) H := hP
    refine lv_aload_n hx hb dX2_put_36 rfl (lv_at hl 0 rfl) ?_
    refine va_get (D := D) (ci := 2) (v := .ref (q 14)) (C := RX2) (T := TX2) (N := 6) hx hb hts in_X2_put_X2 hown hK hP 2 rfl rfl 4 (by decide) (hts _ fl_X2_put_25) (fun _ h9 => h9) rfl dX2_put_37 ?_
    refine lv_iload_n hx hb dX2_put_40 rfl (lv_at hl 1 rfl) ?_
    refine lv_iload hx hb dX2_put_41 (lv_at hl 5 rfl) ?_
    have hi_7 : vp_in x1 60 := by first | exact pz_line ‹_› ‹_› | assumption
    refine va_iast hx hb hK hP (pz_D hKX.2.2.2.2.2.2.2.2 rfl) hS 14 0 rfl rfl hi_7 dX2_put_43 (fun H locs hP _ hS => ?_)
    have hP : va_P D vwCl (pz_X q k cnt kinds firsts seconds heights tables replaced (upd laid (x1).toNatClampNeg 1) (upd rules (x1).toNatClampNeg x2) (upd ps (x1).toNatClampNeg x3) (upd qs (x1).toNatClampNeg x4) (upd rs (x1).toNatClampNeg x5) fs frules heads ends inforce usable summ) H := hP
    refine lv_aload_n hx hb dX2_put_44 rfl (lv_at hl 0 rfl) ?_
    refine va_get (D := D) (ci := 2) (v := .ref (q 15)) (C := RX2) (T := TX2) (N := 6) hx hb hts in_X2_put_X2 hown hK hP 2 rfl rfl 5 (by decide) (hts _ fl_X2_put_28) (fun _ h9 => h9) rfl dX2_put_45 ?_
    refine lv_iload_n hx hb dX2_put_48 rfl (lv_at hl 1 rfl) ?_
    refine lv_iload hx hb dX2_put_49 (lv_at hl 6 rfl) ?_
    have hi_8 : vp_in x1 60 := by first | exact pz_line ‹_› ‹_› | assumption
    refine va_iast hx hb hK hP (pz_D hKX.2.2.2.2.2.2.2.2 rfl) hS 15 0 rfl rfl hi_8 dX2_put_51 (fun H locs hP _ hS => ?_)
    have hP : va_P D vwCl (pz_X q k cnt kinds firsts seconds heights tables replaced (upd laid (x1).toNatClampNeg 1) (upd rules (x1).toNatClampNeg x2) (upd ps (x1).toNatClampNeg x3) (upd qs (x1).toNatClampNeg x4) (upd rs (x1).toNatClampNeg x5) (upd fs (x1).toNatClampNeg x6) frules heads ends inforce usable summ) H := hP
    exact W.vret hx hb hr (fun t ht hW => ⟨⟨((upd laid (x1).toNatClampNeg 1), (upd rules (x1).toNatClampNeg x2), (upd ps (x1).toNatClampNeg x3), (upd qs (x1).toNatClampNeg x4), (upd rs (x1).toNatClampNeg x5), (upd fs (x1).toNatClampNeg x6)), rfl, hF.symm, pz_hp ht hP⟩, hS.F ht⟩) hS.2.2 dX2_put_52 hlocks

-- == X2_clear
def f_X2_clear (laid : Nat → Int32) (x1 : Int32) : (Nat → Int32) := pz_bnd (f_X3_isLine x1) (fun z_1 => if z_1 = 0 then (laid) else ((upd laid (x1).toNatClampNeg 0)))
theorem fl_X2_clear_9 : Cond.fieldLink RX2 9 "BoxProofs$Lines" "laid" "[Z" ∈ wsX2_clear := by decide +kernel
theorem in_X2_clear_X2 : ∀ w ∈ wsX20, w ∈ wsX2_clear := by decide +kernel
theorem mm_X2_clear_Cond_initialized_RX3 : Cond.initialized RX3 ∈ wsX2_clear := by decide +kernel
theorem mm_X2_clear_Cond_static_yX3_isLine : Cond.static yX3_isLine ∈ wsX2_clear := by decide +kernel
set_option maxHeartbeats 4000000 in
set_option maxRecDepth 100000 in
theorem c_X2_clear (l : Launch) (D : va_G) (q : Nat → Nat) (k : Nat → ClassId) (t : Nat → Nat) (cnt : Int32) (kinds : Nat → Int32) (firsts : Nat → Int32) (seconds : Nat → Int32) (heights : Nat → Int32) (tables : Nat → Int64) (replaced : Nat → Int32) (laid : Nat → Int32) (rules : Nat → Int32) (ps : Nat → Int32) (qs : Nat → Int32) (rs : Nat → Int32) (fs : Nat → Int32) (frules : Nat → Int32) (heads : Nat → Int32) (ends : Nat → Int32) (inforce : Nat → Int32) (usable : Nat → Int32) (summ : Nat → Int32) (x1 : Int32)  : Met l yX2_clear wsX2_clear ({ frames := 1, cells := 0, slots := 0, locals := 20 }) (va_Pc [.ref (q 2), .int (x1)] (fun U => va_P D vwCl (pz_X q k cnt kinds firsts seconds heights tables replaced laid rules ps qs rs fs frules heads ends inforce usable summ) U.heap ∧ pz_KX D q k t U)) (va_Qv (fun (u : (Nat → Int32)) => u = (f_X2_clear laid x1)) (fun u t => va_P D vwCl (pz_X q k cnt kinds firsts seconds heights tables replaced u rules ps qs rs fs frules heads ends inforce usable summ) t.heap) (pz_A 22 q)) 0 0 (pz_A 22 q) := by
  refine Met.ofW (cc := cX2_clear) (maxL := 2) (ret := none) (by decide) rfl ?_
  intro p e s m args below meth c s₁ B hml hv
  obtain ⟨rfl, hP, hKX⟩ := hv
  have hx := B.exec
  have hb := B.bytes
  have hr := B.returns
  have hts := atoms_spec (ws := wsX2_clear) B.pre
  have hown : s.vm.findClass RX2 = some m.cls := findClass_of_methodNamed B.named
  have hlocks := B.notSynchronized
  have hC : pz_C p s m ([.ref (q 2), .int (x1)] : List Value).toArray meth c cX2_clear wsX2_clear RX2 2 none := ⟨hx, hb, hml, hown, hts, hr, hlocks⟩
  have hK := hKX.1
  have hS : va_S (pz_A 22 q) s.heap s.heap [] := va_S.rf
  have hl := lv_entry [.ref (q 2), .int (x1)] (n := 2) (Nat.le_of_ble_eq_true rfl)
  rw [lg_entry_eq]
  generalize (lg_sl [.ref (q 2), .int (x1)] ++ List.replicate (2 - (lg_sl [.ref (q 2), .int (x1)]).length) Slot.unset).toArray = ls at hl ⊢
  have hl : lv_has ls 2 [(0, .ref (q 2)), (1, .int (x1))] := hl
  generalize hF : f_X2_clear laid x1 = G
  replace hF := hF.symm
  unfold f_X2_clear at hF
  refine lv_iload_n hx hb dX2_clear_0 rfl (lv_at hl 1 rfl) ?_
  refine pz_SNi (As := [.int (x1)]) (rest := []) ⟨hx, hb, hml, hown, hts⟩ (c_X3_isLine l x1) ⟨va_cnB 1 hts gX2_clear_X3_isLine_n31 rfl rfl rfl hKX.2.2.2.1 (hts _ mm_X2_clear_Cond_initialized_RX3) hdS_X3_isLine ⟨Nat.le_of_ble_eq_true rfl, Nat.le_of_ble_eq_true rfl⟩, hts _ mm_X2_clear_Cond_static_yX3_isLine, trivial⟩ hP hS rfl hl.1 rfl (Nat.le_of_ble_eq_true rfl) dX2_clear_1 ⟨Nat.zero_le _, Nat.zero_le _⟩ (fun r_1 H locs hF_1 hP hS => ?_)
  have hF := hF.trans (pz_be hF_1)
  refine lv_if_eq (tgt := 14) hx hb dX2_clear_4 (by decide) (fun c_2 => ?_) (fun c_2 => ?_)
  · have hF := hF.trans (if_pos c_2)
    exact W.vret hx hb hr (fun t ht hW => ⟨⟨laid, rfl, hF.symm, pz_hp ht hP⟩, hS.F ht⟩) hS.2.2 dX2_clear_14 hlocks
  · have hF := hF.trans (if_neg c_2)
    refine lv_aload_n hx hb dX2_clear_7 rfl (lv_at hl 0 rfl) ?_
    refine va_get (D := D) (ci := 2) (v := .ref (q 10)) (C := RX2) (T := TX2) (N := 6) hx hb hts in_X2_clear_X2 hown hK hP 2 rfl rfl 0 (by decide) (hts _ fl_X2_clear_9) (fun _ h9 => h9) rfl dX2_clear_8 ?_
    refine lv_iload_n hx hb dX2_clear_11 rfl (lv_at hl 1 rfl) ?_
    refine lv_iconst (v := 0) hx hb dX2_clear_12 (by decide) ?_
    have hi_3 : vp_in x1 60 := by first | exact pz_line ‹_› ‹_› | assumption
    refine va_zast hx hb hK hP (pz_D hKX.2.2.2.2.2.2.2.2 rfl) hS 10 2 rfl rfl hi_3 dX2_clear_13 (fun H locs hP _ hS => ?_)
    have hP : va_P D vwCl (pz_X q k cnt kinds firsts seconds heights tables replaced (upd laid (x1).toNatClampNeg 0) rules ps qs rs fs frules heads ends inforce usable summ) H := hP
    exact W.vret hx hb hr (fun t ht hW => ⟨⟨(upd laid (x1).toNatClampNeg 0), rfl, hF.symm, pz_hp ht hP⟩, hS.F ht⟩) hS.2.2 dX2_clear_14 hlocks

-- == X2_ruleOf
def f_X2_ruleOf (rules : Nat → Int32) (x1 : Int32) : Int32 := pz_bnd (f_X3_isLine x1) (fun z_1 => if z_1 = 0 then ((-1)) else ((rules (x1).toNatClampNeg)))
theorem fl_X2_ruleOf_15 : Cond.fieldLink RX2 15 "BoxProofs$Lines" "rules" "[I" ∈ wsX2_ruleOf := by decide +kernel
theorem in_X2_ruleOf_X2 : ∀ w ∈ wsX20, w ∈ wsX2_ruleOf := by decide +kernel
theorem mm_X2_ruleOf_Cond_initialized_RX3 : Cond.initialized RX3 ∈ wsX2_ruleOf := by decide +kernel
theorem mm_X2_ruleOf_Cond_static_yX3_isLine : Cond.static yX3_isLine ∈ wsX2_ruleOf := by decide +kernel
set_option maxHeartbeats 4000000 in
set_option maxRecDepth 100000 in
theorem c_X2_ruleOf (l : Launch) (D : va_G) (q : Nat → Nat) (k : Nat → ClassId) (t : Nat → Nat) (cnt : Int32) (kinds : Nat → Int32) (firsts : Nat → Int32) (seconds : Nat → Int32) (heights : Nat → Int32) (tables : Nat → Int64) (replaced : Nat → Int32) (laid : Nat → Int32) (rules : Nat → Int32) (ps : Nat → Int32) (qs : Nat → Int32) (rs : Nat → Int32) (fs : Nat → Int32) (frules : Nat → Int32) (heads : Nat → Int32) (ends : Nat → Int32) (inforce : Nat → Int32) (usable : Nat → Int32) (summ : Nat → Int32) (x1 : Int32)  : Met l yX2_ruleOf wsX2_ruleOf ({ frames := 1, cells := 0, slots := 0, locals := 20 }) (va_Pc [.ref (q 2), .int (x1)] (fun U => va_P D vwCl (pz_X q k cnt kinds firsts seconds heights tables replaced laid rules ps qs rs fs frules heads ends inforce usable summ) U.heap ∧ pz_KX D q k t U)) (va_Qi (fun r (_ : Unit) => r = (f_X2_ruleOf rules x1)) (fun _ t => va_P D vwCl (pz_X q k cnt kinds firsts seconds heights tables replaced laid rules ps qs rs fs frules heads ends inforce usable summ) t.heap) (pz_A 22 q)) 0 0 (pz_A 22 q) := by
  refine Met.ofW (cc := cX2_ruleOf) (maxL := 2) (ret := (some .int)) (by decide) rfl ?_
  intro p e s m args below meth c s₁ B hml hv
  obtain ⟨rfl, hP, hKX⟩ := hv
  have hx := B.exec
  have hb := B.bytes
  have hr := B.returns
  have hts := atoms_spec (ws := wsX2_ruleOf) B.pre
  have hown : s.vm.findClass RX2 = some m.cls := findClass_of_methodNamed B.named
  have hlocks := B.notSynchronized
  have hC : pz_C p s m ([.ref (q 2), .int (x1)] : List Value).toArray meth c cX2_ruleOf wsX2_ruleOf RX2 2 (some .int) := ⟨hx, hb, hml, hown, hts, hr, hlocks⟩
  have hK := hKX.1
  have hS : va_S (pz_A 22 q) s.heap s.heap [] := va_S.rf
  have hl := lv_entry [.ref (q 2), .int (x1)] (n := 2) (Nat.le_of_ble_eq_true rfl)
  rw [lg_entry_eq]
  generalize (lg_sl [.ref (q 2), .int (x1)] ++ List.replicate (2 - (lg_sl [.ref (q 2), .int (x1)]).length) Slot.unset).toArray = ls at hl ⊢
  have hl : lv_has ls 2 [(0, .ref (q 2)), (1, .int (x1))] := hl
  generalize hF : f_X2_ruleOf rules x1 = G
  replace hF := hF.symm
  unfold f_X2_ruleOf at hF
  refine lv_iload_n hx hb dX2_ruleOf_0 rfl (lv_at hl 1 rfl) ?_
  refine pz_SNi (As := [.int (x1)]) (rest := []) ⟨hx, hb, hml, hown, hts⟩ (c_X3_isLine l x1) ⟨va_cnB 1 hts gX2_ruleOf_X3_isLine_n31 rfl rfl rfl hKX.2.2.2.1 (hts _ mm_X2_ruleOf_Cond_initialized_RX3) hdS_X3_isLine ⟨Nat.le_of_ble_eq_true rfl, Nat.le_of_ble_eq_true rfl⟩, hts _ mm_X2_ruleOf_Cond_static_yX3_isLine, trivial⟩ hP hS rfl hl.1 rfl (Nat.le_of_ble_eq_true rfl) dX2_ruleOf_1 ⟨Nat.zero_le _, Nat.zero_le _⟩ (fun r_1 H locs hF_1 hP hS => ?_)
  have hF := hF.trans (pz_be hF_1)
  refine lv_if_eq (tgt := 16) hx hb dX2_ruleOf_4 (by decide) (fun c_2 => ?_) (fun c_2 => ?_)
  · have hF := hF.trans (if_pos c_2)
    refine lv_iconst (v := (-1)) hx hb dX2_ruleOf_16 (by decide) ?_
    exact W.iret (v := (-1)) hx hb hr (fun t ht hW => ⟨⟨(-1), (), rfl, hF.symm, pz_hp ht hP⟩, hS.F ht⟩) hS.2.2 dX2_ruleOf_17 hlocks
  · have hF := hF.trans (if_neg c_2)
    refine lv_aload_n hx hb dX2_ruleOf_7 rfl (lv_at hl 0 rfl) ?_
    refine va_get (D := D) (ci := 2) (v := .ref (q 11)) (C := RX2) (T := TX2) (N := 6) hx hb hts in_X2_ruleOf_X2 hown hK hP 2 rfl rfl 1 (by decide) (hts _ fl_X2_ruleOf_15) (fun _ h9 => h9) rfl dX2_ruleOf_8 ?_
    refine lv_iload_n hx hb dX2_ruleOf_11 rfl (lv_at hl 1 rfl) ?_
    have hi_3 : vp_in x1 60 := by first | exact pz_line ‹_› ‹_› | assumption
    refine va_iald hx hb hK hP 11 0 rfl rfl hi_3 dX2_ruleOf_12 ?_
    refine lv_goto (tgt := 17) hx hb dX2_ruleOf_13 (by decide) ?_
    exact W.iret (v := (rules (x1).toNatClampNeg)) hx hb hr (fun t ht hW => ⟨⟨(rules (x1).toNatClampNeg), (), rfl, hF.symm, pz_hp ht hP⟩, hS.F ht⟩) hS.2.2 dX2_ruleOf_17 hlocks

-- == X2_pOf
def f_X2_pOf (ps : Nat → Int32) (x1 : Int32) : Int32 := pz_bnd (f_X3_isLine x1) (fun z_1 => if z_1 = 0 then ((-1)) else ((ps (x1).toNatClampNeg)))
theorem fl_X2_pOf_19 : Cond.fieldLink RX2 19 "BoxProofs$Lines" "ps" "[I" ∈ wsX2_pOf := by decide +kernel
theorem in_X2_pOf_X2 : ∀ w ∈ wsX20, w ∈ wsX2_pOf := by decide +kernel
theorem mm_X2_pOf_Cond_initialized_RX3 : Cond.initialized RX3 ∈ wsX2_pOf := by decide +kernel
theorem mm_X2_pOf_Cond_static_yX3_isLine : Cond.static yX3_isLine ∈ wsX2_pOf := by decide +kernel
set_option maxHeartbeats 4000000 in
set_option maxRecDepth 100000 in
theorem c_X2_pOf (l : Launch) (D : va_G) (q : Nat → Nat) (k : Nat → ClassId) (t : Nat → Nat) (cnt : Int32) (kinds : Nat → Int32) (firsts : Nat → Int32) (seconds : Nat → Int32) (heights : Nat → Int32) (tables : Nat → Int64) (replaced : Nat → Int32) (laid : Nat → Int32) (rules : Nat → Int32) (ps : Nat → Int32) (qs : Nat → Int32) (rs : Nat → Int32) (fs : Nat → Int32) (frules : Nat → Int32) (heads : Nat → Int32) (ends : Nat → Int32) (inforce : Nat → Int32) (usable : Nat → Int32) (summ : Nat → Int32) (x1 : Int32)  : Met l yX2_pOf wsX2_pOf ({ frames := 1, cells := 0, slots := 0, locals := 20 }) (va_Pc [.ref (q 2), .int (x1)] (fun U => va_P D vwCl (pz_X q k cnt kinds firsts seconds heights tables replaced laid rules ps qs rs fs frules heads ends inforce usable summ) U.heap ∧ pz_KX D q k t U)) (va_Qi (fun r (_ : Unit) => r = (f_X2_pOf ps x1)) (fun _ t => va_P D vwCl (pz_X q k cnt kinds firsts seconds heights tables replaced laid rules ps qs rs fs frules heads ends inforce usable summ) t.heap) (pz_A 22 q)) 0 0 (pz_A 22 q) := by
  refine Met.ofW (cc := cX2_pOf) (maxL := 2) (ret := (some .int)) (by decide) rfl ?_
  intro p e s m args below meth c s₁ B hml hv
  obtain ⟨rfl, hP, hKX⟩ := hv
  have hx := B.exec
  have hb := B.bytes
  have hr := B.returns
  have hts := atoms_spec (ws := wsX2_pOf) B.pre
  have hown : s.vm.findClass RX2 = some m.cls := findClass_of_methodNamed B.named
  have hlocks := B.notSynchronized
  have hC : pz_C p s m ([.ref (q 2), .int (x1)] : List Value).toArray meth c cX2_pOf wsX2_pOf RX2 2 (some .int) := ⟨hx, hb, hml, hown, hts, hr, hlocks⟩
  have hK := hKX.1
  have hS : va_S (pz_A 22 q) s.heap s.heap [] := va_S.rf
  have hl := lv_entry [.ref (q 2), .int (x1)] (n := 2) (Nat.le_of_ble_eq_true rfl)
  rw [lg_entry_eq]
  generalize (lg_sl [.ref (q 2), .int (x1)] ++ List.replicate (2 - (lg_sl [.ref (q 2), .int (x1)]).length) Slot.unset).toArray = ls at hl ⊢
  have hl : lv_has ls 2 [(0, .ref (q 2)), (1, .int (x1))] := hl
  generalize hF : f_X2_pOf ps x1 = G
  replace hF := hF.symm
  unfold f_X2_pOf at hF
  refine lv_iload_n hx hb dX2_pOf_0 rfl (lv_at hl 1 rfl) ?_
  refine pz_SNi (As := [.int (x1)]) (rest := []) ⟨hx, hb, hml, hown, hts⟩ (c_X3_isLine l x1) ⟨va_cnB 1 hts gX2_pOf_X3_isLine_n31 rfl rfl rfl hKX.2.2.2.1 (hts _ mm_X2_pOf_Cond_initialized_RX3) hdS_X3_isLine ⟨Nat.le_of_ble_eq_true rfl, Nat.le_of_ble_eq_true rfl⟩, hts _ mm_X2_pOf_Cond_static_yX3_isLine, trivial⟩ hP hS rfl hl.1 rfl (Nat.le_of_ble_eq_true rfl) dX2_pOf_1 ⟨Nat.zero_le _, Nat.zero_le _⟩ (fun r_1 H locs hF_1 hP hS => ?_)
  have hF := hF.trans (pz_be hF_1)
  refine lv_if_eq (tgt := 16) hx hb dX2_pOf_4 (by decide) (fun c_2 => ?_) (fun c_2 => ?_)
  · have hF := hF.trans (if_pos c_2)
    refine lv_iconst (v := (-1)) hx hb dX2_pOf_16 (by decide) ?_
    exact W.iret (v := (-1)) hx hb hr (fun t ht hW => ⟨⟨(-1), (), rfl, hF.symm, pz_hp ht hP⟩, hS.F ht⟩) hS.2.2 dX2_pOf_17 hlocks
  · have hF := hF.trans (if_neg c_2)
    refine lv_aload_n hx hb dX2_pOf_7 rfl (lv_at hl 0 rfl) ?_
    refine va_get (D := D) (ci := 2) (v := .ref (q 12)) (C := RX2) (T := TX2) (N := 6) hx hb hts in_X2_pOf_X2 hown hK hP 2 rfl rfl 2 (by decide) (hts _ fl_X2_pOf_19) (fun _ h9 => h9) rfl dX2_pOf_8 ?_
    refine lv_iload_n hx hb dX2_pOf_11 rfl (lv_at hl 1 rfl) ?_
    have hi_3 : vp_in x1 60 := by first | exact pz_line ‹_› ‹_› | assumption
    refine va_iald hx hb hK hP 12 0 rfl rfl hi_3 dX2_pOf_12 ?_
    refine lv_goto (tgt := 17) hx hb dX2_pOf_13 (by decide) ?_
    exact W.iret (v := (ps (x1).toNatClampNeg)) hx hb hr (fun t ht hW => ⟨⟨(ps (x1).toNatClampNeg), (), rfl, hF.symm, pz_hp ht hP⟩, hS.F ht⟩) hS.2.2 dX2_pOf_17 hlocks

-- == X2_qOf
def f_X2_qOf (qs : Nat → Int32) (x1 : Int32) : Int32 := pz_bnd (f_X3_isLine x1) (fun z_1 => if z_1 = 0 then ((-1)) else ((qs (x1).toNatClampNeg)))
theorem fl_X2_qOf_22 : Cond.fieldLink RX2 22 "BoxProofs$Lines" "qs" "[I" ∈ wsX2_qOf := by decide +kernel
theorem in_X2_qOf_X2 : ∀ w ∈ wsX20, w ∈ wsX2_qOf := by decide +kernel
theorem mm_X2_qOf_Cond_initialized_RX3 : Cond.initialized RX3 ∈ wsX2_qOf := by decide +kernel
theorem mm_X2_qOf_Cond_static_yX3_isLine : Cond.static yX3_isLine ∈ wsX2_qOf := by decide +kernel
set_option maxHeartbeats 4000000 in
set_option maxRecDepth 100000 in
theorem c_X2_qOf (l : Launch) (D : va_G) (q : Nat → Nat) (k : Nat → ClassId) (t : Nat → Nat) (cnt : Int32) (kinds : Nat → Int32) (firsts : Nat → Int32) (seconds : Nat → Int32) (heights : Nat → Int32) (tables : Nat → Int64) (replaced : Nat → Int32) (laid : Nat → Int32) (rules : Nat → Int32) (ps : Nat → Int32) (qs : Nat → Int32) (rs : Nat → Int32) (fs : Nat → Int32) (frules : Nat → Int32) (heads : Nat → Int32) (ends : Nat → Int32) (inforce : Nat → Int32) (usable : Nat → Int32) (summ : Nat → Int32) (x1 : Int32)  : Met l yX2_qOf wsX2_qOf ({ frames := 1, cells := 0, slots := 0, locals := 20 }) (va_Pc [.ref (q 2), .int (x1)] (fun U => va_P D vwCl (pz_X q k cnt kinds firsts seconds heights tables replaced laid rules ps qs rs fs frules heads ends inforce usable summ) U.heap ∧ pz_KX D q k t U)) (va_Qi (fun r (_ : Unit) => r = (f_X2_qOf qs x1)) (fun _ t => va_P D vwCl (pz_X q k cnt kinds firsts seconds heights tables replaced laid rules ps qs rs fs frules heads ends inforce usable summ) t.heap) (pz_A 22 q)) 0 0 (pz_A 22 q) := by
  refine Met.ofW (cc := cX2_qOf) (maxL := 2) (ret := (some .int)) (by decide) rfl ?_
  intro p e s m args below meth c s₁ B hml hv
  obtain ⟨rfl, hP, hKX⟩ := hv
  have hx := B.exec
  have hb := B.bytes
  have hr := B.returns
  have hts := atoms_spec (ws := wsX2_qOf) B.pre
  have hown : s.vm.findClass RX2 = some m.cls := findClass_of_methodNamed B.named
  have hlocks := B.notSynchronized
  have hC : pz_C p s m ([.ref (q 2), .int (x1)] : List Value).toArray meth c cX2_qOf wsX2_qOf RX2 2 (some .int) := ⟨hx, hb, hml, hown, hts, hr, hlocks⟩
  have hK := hKX.1
  have hS : va_S (pz_A 22 q) s.heap s.heap [] := va_S.rf
  have hl := lv_entry [.ref (q 2), .int (x1)] (n := 2) (Nat.le_of_ble_eq_true rfl)
  rw [lg_entry_eq]
  generalize (lg_sl [.ref (q 2), .int (x1)] ++ List.replicate (2 - (lg_sl [.ref (q 2), .int (x1)]).length) Slot.unset).toArray = ls at hl ⊢
  have hl : lv_has ls 2 [(0, .ref (q 2)), (1, .int (x1))] := hl
  generalize hF : f_X2_qOf qs x1 = G
  replace hF := hF.symm
  unfold f_X2_qOf at hF
  refine lv_iload_n hx hb dX2_qOf_0 rfl (lv_at hl 1 rfl) ?_
  refine pz_SNi (As := [.int (x1)]) (rest := []) ⟨hx, hb, hml, hown, hts⟩ (c_X3_isLine l x1) ⟨va_cnB 1 hts gX2_qOf_X3_isLine_n31 rfl rfl rfl hKX.2.2.2.1 (hts _ mm_X2_qOf_Cond_initialized_RX3) hdS_X3_isLine ⟨Nat.le_of_ble_eq_true rfl, Nat.le_of_ble_eq_true rfl⟩, hts _ mm_X2_qOf_Cond_static_yX3_isLine, trivial⟩ hP hS rfl hl.1 rfl (Nat.le_of_ble_eq_true rfl) dX2_qOf_1 ⟨Nat.zero_le _, Nat.zero_le _⟩ (fun r_1 H locs hF_1 hP hS => ?_)
  have hF := hF.trans (pz_be hF_1)
  refine lv_if_eq (tgt := 16) hx hb dX2_qOf_4 (by decide) (fun c_2 => ?_) (fun c_2 => ?_)
  · have hF := hF.trans (if_pos c_2)
    refine lv_iconst (v := (-1)) hx hb dX2_qOf_16 (by decide) ?_
    exact W.iret (v := (-1)) hx hb hr (fun t ht hW => ⟨⟨(-1), (), rfl, hF.symm, pz_hp ht hP⟩, hS.F ht⟩) hS.2.2 dX2_qOf_17 hlocks
  · have hF := hF.trans (if_neg c_2)
    refine lv_aload_n hx hb dX2_qOf_7 rfl (lv_at hl 0 rfl) ?_
    refine va_get (D := D) (ci := 2) (v := .ref (q 13)) (C := RX2) (T := TX2) (N := 6) hx hb hts in_X2_qOf_X2 hown hK hP 2 rfl rfl 3 (by decide) (hts _ fl_X2_qOf_22) (fun _ h9 => h9) rfl dX2_qOf_8 ?_
    refine lv_iload_n hx hb dX2_qOf_11 rfl (lv_at hl 1 rfl) ?_
    have hi_3 : vp_in x1 60 := by first | exact pz_line ‹_› ‹_› | assumption
    refine va_iald hx hb hK hP 13 0 rfl rfl hi_3 dX2_qOf_12 ?_
    refine lv_goto (tgt := 17) hx hb dX2_qOf_13 (by decide) ?_
    exact W.iret (v := (qs (x1).toNatClampNeg)) hx hb hr (fun t ht hW => ⟨⟨(qs (x1).toNatClampNeg), (), rfl, hF.symm, pz_hp ht hP⟩, hS.F ht⟩) hS.2.2 dX2_qOf_17 hlocks

-- == X2_rOf
def f_X2_rOf (rs : Nat → Int32) (x1 : Int32) : Int32 := pz_bnd (f_X3_isLine x1) (fun z_1 => if z_1 = 0 then ((-1)) else ((rs (x1).toNatClampNeg)))
theorem fl_X2_rOf_25 : Cond.fieldLink RX2 25 "BoxProofs$Lines" "rs" "[I" ∈ wsX2_rOf := by decide +kernel
theorem in_X2_rOf_X2 : ∀ w ∈ wsX20, w ∈ wsX2_rOf := by decide +kernel
theorem mm_X2_rOf_Cond_initialized_RX3 : Cond.initialized RX3 ∈ wsX2_rOf := by decide +kernel
theorem mm_X2_rOf_Cond_static_yX3_isLine : Cond.static yX3_isLine ∈ wsX2_rOf := by decide +kernel
set_option maxHeartbeats 4000000 in
set_option maxRecDepth 100000 in
theorem c_X2_rOf (l : Launch) (D : va_G) (q : Nat → Nat) (k : Nat → ClassId) (t : Nat → Nat) (cnt : Int32) (kinds : Nat → Int32) (firsts : Nat → Int32) (seconds : Nat → Int32) (heights : Nat → Int32) (tables : Nat → Int64) (replaced : Nat → Int32) (laid : Nat → Int32) (rules : Nat → Int32) (ps : Nat → Int32) (qs : Nat → Int32) (rs : Nat → Int32) (fs : Nat → Int32) (frules : Nat → Int32) (heads : Nat → Int32) (ends : Nat → Int32) (inforce : Nat → Int32) (usable : Nat → Int32) (summ : Nat → Int32) (x1 : Int32)  : Met l yX2_rOf wsX2_rOf ({ frames := 1, cells := 0, slots := 0, locals := 20 }) (va_Pc [.ref (q 2), .int (x1)] (fun U => va_P D vwCl (pz_X q k cnt kinds firsts seconds heights tables replaced laid rules ps qs rs fs frules heads ends inforce usable summ) U.heap ∧ pz_KX D q k t U)) (va_Qi (fun r (_ : Unit) => r = (f_X2_rOf rs x1)) (fun _ t => va_P D vwCl (pz_X q k cnt kinds firsts seconds heights tables replaced laid rules ps qs rs fs frules heads ends inforce usable summ) t.heap) (pz_A 22 q)) 0 0 (pz_A 22 q) := by
  refine Met.ofW (cc := cX2_rOf) (maxL := 2) (ret := (some .int)) (by decide) rfl ?_
  intro p e s m args below meth c s₁ B hml hv
  obtain ⟨rfl, hP, hKX⟩ := hv
  have hx := B.exec
  have hb := B.bytes
  have hr := B.returns
  have hts := atoms_spec (ws := wsX2_rOf) B.pre
  have hown : s.vm.findClass RX2 = some m.cls := findClass_of_methodNamed B.named
  have hlocks := B.notSynchronized
  have hC : pz_C p s m ([.ref (q 2), .int (x1)] : List Value).toArray meth c cX2_rOf wsX2_rOf RX2 2 (some .int) := ⟨hx, hb, hml, hown, hts, hr, hlocks⟩
  have hK := hKX.1
  have hS : va_S (pz_A 22 q) s.heap s.heap [] := va_S.rf
  have hl := lv_entry [.ref (q 2), .int (x1)] (n := 2) (Nat.le_of_ble_eq_true rfl)
  rw [lg_entry_eq]
  generalize (lg_sl [.ref (q 2), .int (x1)] ++ List.replicate (2 - (lg_sl [.ref (q 2), .int (x1)]).length) Slot.unset).toArray = ls at hl ⊢
  have hl : lv_has ls 2 [(0, .ref (q 2)), (1, .int (x1))] := hl
  generalize hF : f_X2_rOf rs x1 = G
  replace hF := hF.symm
  unfold f_X2_rOf at hF
  refine lv_iload_n hx hb dX2_rOf_0 rfl (lv_at hl 1 rfl) ?_
  refine pz_SNi (As := [.int (x1)]) (rest := []) ⟨hx, hb, hml, hown, hts⟩ (c_X3_isLine l x1) ⟨va_cnB 1 hts gX2_rOf_X3_isLine_n31 rfl rfl rfl hKX.2.2.2.1 (hts _ mm_X2_rOf_Cond_initialized_RX3) hdS_X3_isLine ⟨Nat.le_of_ble_eq_true rfl, Nat.le_of_ble_eq_true rfl⟩, hts _ mm_X2_rOf_Cond_static_yX3_isLine, trivial⟩ hP hS rfl hl.1 rfl (Nat.le_of_ble_eq_true rfl) dX2_rOf_1 ⟨Nat.zero_le _, Nat.zero_le _⟩ (fun r_1 H locs hF_1 hP hS => ?_)
  have hF := hF.trans (pz_be hF_1)
  refine lv_if_eq (tgt := 16) hx hb dX2_rOf_4 (by decide) (fun c_2 => ?_) (fun c_2 => ?_)
  · have hF := hF.trans (if_pos c_2)
    refine lv_iconst (v := (-1)) hx hb dX2_rOf_16 (by decide) ?_
    exact W.iret (v := (-1)) hx hb hr (fun t ht hW => ⟨⟨(-1), (), rfl, hF.symm, pz_hp ht hP⟩, hS.F ht⟩) hS.2.2 dX2_rOf_17 hlocks
  · have hF := hF.trans (if_neg c_2)
    refine lv_aload_n hx hb dX2_rOf_7 rfl (lv_at hl 0 rfl) ?_
    refine va_get (D := D) (ci := 2) (v := .ref (q 14)) (C := RX2) (T := TX2) (N := 6) hx hb hts in_X2_rOf_X2 hown hK hP 2 rfl rfl 4 (by decide) (hts _ fl_X2_rOf_25) (fun _ h9 => h9) rfl dX2_rOf_8 ?_
    refine lv_iload_n hx hb dX2_rOf_11 rfl (lv_at hl 1 rfl) ?_
    have hi_3 : vp_in x1 60 := by first | exact pz_line ‹_› ‹_› | assumption
    refine va_iald hx hb hK hP 14 0 rfl rfl hi_3 dX2_rOf_12 ?_
    refine lv_goto (tgt := 17) hx hb dX2_rOf_13 (by decide) ?_
    exact W.iret (v := (rs (x1).toNatClampNeg)) hx hb hr (fun t ht hW => ⟨⟨(rs (x1).toNatClampNeg), (), rfl, hF.symm, pz_hp ht hP⟩, hS.F ht⟩) hS.2.2 dX2_rOf_17 hlocks

-- == X2_formulaOf
def f_X2_formulaOf (fs : Nat → Int32) (x1 : Int32) : Int32 := pz_bnd (f_X3_isLine x1) (fun z_1 => if z_1 = 0 then ((-1)) else ((fs (x1).toNatClampNeg)))
theorem fl_X2_formulaOf_28 : Cond.fieldLink RX2 28 "BoxProofs$Lines" "fs" "[I" ∈ wsX2_formulaOf := by decide +kernel
theorem in_X2_formulaOf_X2 : ∀ w ∈ wsX20, w ∈ wsX2_formulaOf := by decide +kernel
theorem mm_X2_formulaOf_Cond_initialized_RX3 : Cond.initialized RX3 ∈ wsX2_formulaOf := by decide +kernel
theorem mm_X2_formulaOf_Cond_static_yX3_isLine : Cond.static yX3_isLine ∈ wsX2_formulaOf := by decide +kernel
set_option maxHeartbeats 4000000 in
set_option maxRecDepth 100000 in
theorem c_X2_formulaOf (l : Launch) (D : va_G) (q : Nat → Nat) (k : Nat → ClassId) (t : Nat → Nat) (cnt : Int32) (kinds : Nat → Int32) (firsts : Nat → Int32) (seconds : Nat → Int32) (heights : Nat → Int32) (tables : Nat → Int64) (replaced : Nat → Int32) (laid : Nat → Int32) (rules : Nat → Int32) (ps : Nat → Int32) (qs : Nat → Int32) (rs : Nat → Int32) (fs : Nat → Int32) (frules : Nat → Int32) (heads : Nat → Int32) (ends : Nat → Int32) (inforce : Nat → Int32) (usable : Nat → Int32) (summ : Nat → Int32) (x1 : Int32)  : Met l yX2_formulaOf wsX2_formulaOf ({ frames := 1, cells := 0, slots := 0, locals := 20 }) (va_Pc [.ref (q 2), .int (x1)] (fun U => va_P D vwCl (pz_X q k cnt kinds firsts seconds heights tables replaced laid rules ps qs rs fs frules heads ends inforce usable summ) U.heap ∧ pz_KX D q k t U)) (va_Qi (fun r (_ : Unit) => r = (f_X2_formulaOf fs x1)) (fun _ t => va_P D vwCl (pz_X q k cnt kinds firsts seconds heights tables replaced laid rules ps qs rs fs frules heads ends inforce usable summ) t.heap) (pz_A 22 q)) 0 0 (pz_A 22 q) := by
  refine Met.ofW (cc := cX2_formulaOf) (maxL := 2) (ret := (some .int)) (by decide) rfl ?_
  intro p e s m args below meth c s₁ B hml hv
  obtain ⟨rfl, hP, hKX⟩ := hv
  have hx := B.exec
  have hb := B.bytes
  have hr := B.returns
  have hts := atoms_spec (ws := wsX2_formulaOf) B.pre
  have hown : s.vm.findClass RX2 = some m.cls := findClass_of_methodNamed B.named
  have hlocks := B.notSynchronized
  have hC : pz_C p s m ([.ref (q 2), .int (x1)] : List Value).toArray meth c cX2_formulaOf wsX2_formulaOf RX2 2 (some .int) := ⟨hx, hb, hml, hown, hts, hr, hlocks⟩
  have hK := hKX.1
  have hS : va_S (pz_A 22 q) s.heap s.heap [] := va_S.rf
  have hl := lv_entry [.ref (q 2), .int (x1)] (n := 2) (Nat.le_of_ble_eq_true rfl)
  rw [lg_entry_eq]
  generalize (lg_sl [.ref (q 2), .int (x1)] ++ List.replicate (2 - (lg_sl [.ref (q 2), .int (x1)]).length) Slot.unset).toArray = ls at hl ⊢
  have hl : lv_has ls 2 [(0, .ref (q 2)), (1, .int (x1))] := hl
  generalize hF : f_X2_formulaOf fs x1 = G
  replace hF := hF.symm
  unfold f_X2_formulaOf at hF
  refine lv_iload_n hx hb dX2_formulaOf_0 rfl (lv_at hl 1 rfl) ?_
  refine pz_SNi (As := [.int (x1)]) (rest := []) ⟨hx, hb, hml, hown, hts⟩ (c_X3_isLine l x1) ⟨va_cnB 1 hts gX2_formulaOf_X3_isLine_n31 rfl rfl rfl hKX.2.2.2.1 (hts _ mm_X2_formulaOf_Cond_initialized_RX3) hdS_X3_isLine ⟨Nat.le_of_ble_eq_true rfl, Nat.le_of_ble_eq_true rfl⟩, hts _ mm_X2_formulaOf_Cond_static_yX3_isLine, trivial⟩ hP hS rfl hl.1 rfl (Nat.le_of_ble_eq_true rfl) dX2_formulaOf_1 ⟨Nat.zero_le _, Nat.zero_le _⟩ (fun r_1 H locs hF_1 hP hS => ?_)
  have hF := hF.trans (pz_be hF_1)
  refine lv_if_eq (tgt := 16) hx hb dX2_formulaOf_4 (by decide) (fun c_2 => ?_) (fun c_2 => ?_)
  · have hF := hF.trans (if_pos c_2)
    refine lv_iconst (v := (-1)) hx hb dX2_formulaOf_16 (by decide) ?_
    exact W.iret (v := (-1)) hx hb hr (fun t ht hW => ⟨⟨(-1), (), rfl, hF.symm, pz_hp ht hP⟩, hS.F ht⟩) hS.2.2 dX2_formulaOf_17 hlocks
  · have hF := hF.trans (if_neg c_2)
    refine lv_aload_n hx hb dX2_formulaOf_7 rfl (lv_at hl 0 rfl) ?_
    refine va_get (D := D) (ci := 2) (v := .ref (q 15)) (C := RX2) (T := TX2) (N := 6) hx hb hts in_X2_formulaOf_X2 hown hK hP 2 rfl rfl 5 (by decide) (hts _ fl_X2_formulaOf_28) (fun _ h9 => h9) rfl dX2_formulaOf_8 ?_
    refine lv_iload_n hx hb dX2_formulaOf_11 rfl (lv_at hl 1 rfl) ?_
    have hi_3 : vp_in x1 60 := by first | exact pz_line ‹_› ‹_› | assumption
    refine va_iald hx hb hK hP 15 0 rfl rfl hi_3 dX2_formulaOf_12 ?_
    refine lv_goto (tgt := 17) hx hb dX2_formulaOf_13 (by decide) ?_
    exact W.iret (v := (fs (x1).toNatClampNeg)) hx hb hr (fun t ht hW => ⟨⟨(fs (x1).toNatClampNeg), (), rfl, hF.symm, pz_hp ht hP⟩, hS.F ht⟩) hS.2.2 dX2_formulaOf_17 hlocks
end
section
-- == X1_count
def f_X1_count (cnt : Int32) : Int32 := cnt
theorem fl_X1_count_31 : Cond.fieldLink RX1 31 "BoxProofs$Formulas" "count" "I" ∈ wsX1_count := by decide +kernel
theorem in_X1_count_X1 : ∀ w ∈ wsX10, w ∈ wsX1_count := by decide +kernel
set_option maxHeartbeats 4000000 in
set_option maxRecDepth 100000 in
theorem c_X1_count (l : Launch) (D : va_G) (q : Nat → Nat) (k : Nat → ClassId) (t : Nat → Nat) (cnt : Int32) (kinds : Nat → Int32) (firsts : Nat → Int32) (seconds : Nat → Int32) (heights : Nat → Int32) (tables : Nat → Int64) (replaced : Nat → Int32) (laid : Nat → Int32) (rules : Nat → Int32) (ps : Nat → Int32) (qs : Nat → Int32) (rs : Nat → Int32) (fs : Nat → Int32) (frules : Nat → Int32) (heads : Nat → Int32) (ends : Nat → Int32) (inforce : Nat → Int32) (usable : Nat → Int32) (summ : Nat → Int32)   : Met l yX1_count wsX1_count ({ frames := 0, cells := 0, slots := 0, locals := 0 }) (va_Pc [.ref (q 1)] (fun U => va_P D vwCl (pz_X q k cnt kinds firsts seconds heights tables replaced laid rules ps qs rs fs frules heads ends inforce usable summ) U.heap ∧ pz_KX D q k t U)) (va_Qi (fun r (_ : Unit) => r = (f_X1_count cnt)) (fun _ t => va_P D vwCl (pz_X q k cnt kinds firsts seconds heights tables replaced laid rules ps qs rs fs frules heads ends inforce usable summ) t.heap) (pz_A 22 q)) 0 0 (pz_A 22 q) := by
  refine Met.ofW (cc := cX1_count) (maxL := 1) (ret := (some .int)) (by decide) rfl ?_
  intro p e s m args below meth c s₁ B hml hv
  obtain ⟨rfl, hP, hKX⟩ := hv
  have hx := B.exec
  have hb := B.bytes
  have hr := B.returns
  have hts := atoms_spec (ws := wsX1_count) B.pre
  have hown : s.vm.findClass RX1 = some m.cls := findClass_of_methodNamed B.named
  have hlocks := B.notSynchronized
  have hC : pz_C p s m ([.ref (q 1)] : List Value).toArray meth c cX1_count wsX1_count RX1 1 (some .int) := ⟨hx, hb, hml, hown, hts, hr, hlocks⟩
  have hK := hKX.1
  have hS : va_S (pz_A 22 q) s.heap s.heap [] := va_S.rf
  have hl := lv_entry [.ref (q 1)] (n := 1) (Nat.le_of_ble_eq_true rfl)
  rw [lg_entry_eq]
  generalize (lg_sl [.ref (q 1)] ++ List.replicate (1 - (lg_sl [.ref (q 1)]).length) Slot.unset).toArray = ls at hl ⊢
  have hl : lv_has ls 1 [(0, .ref (q 1))] := hl
  generalize hF : f_X1_count cnt = G
  replace hF := hF.symm
  unfold f_X1_count at hF
  refine lv_aload_n hx hb dX1_count_0 rfl (lv_at hl 0 rfl) ?_
  refine va_get (D := D) (ci := 1) (v := .int (cnt)) (C := RX1) (T := TX1) (N := 7) hx hb hts in_X1_count_X1 hown hK hP 1 rfl rfl 6 (by decide) (hts _ fl_X1_count_31) (fun _ h9 => h9) rfl dX1_count_1 ?_
  exact W.iret (v := cnt) hx hb hr (fun t ht hW => ⟨⟨cnt, (), rfl, hF.symm, pz_hp ht hP⟩, hS.F ht⟩) hS.2.2 dX1_count_4 hlocks

-- == X1_has
def f_X1_has (cnt : Int32) (x1 : Int32) : Int32 := if x1 < 0 then (0) else (if cnt ≤ x1 then (0) else (1))
theorem fl_X1_has_31 : Cond.fieldLink RX1 31 "BoxProofs$Formulas" "count" "I" ∈ wsX1_has := by decide +kernel
theorem in_X1_has_X1 : ∀ w ∈ wsX10, w ∈ wsX1_has := by decide +kernel
set_option maxHeartbeats 4000000 in
set_option maxRecDepth 100000 in
theorem c_X1_has (l : Launch) (D : va_G) (q : Nat → Nat) (k : Nat → ClassId) (t : Nat → Nat) (cnt : Int32) (kinds : Nat → Int32) (firsts : Nat → Int32) (seconds : Nat → Int32) (heights : Nat → Int32) (tables : Nat → Int64) (replaced : Nat → Int32) (laid : Nat → Int32) (rules : Nat → Int32) (ps : Nat → Int32) (qs : Nat → Int32) (rs : Nat → Int32) (fs : Nat → Int32) (frules : Nat → Int32) (heads : Nat → Int32) (ends : Nat → Int32) (inforce : Nat → Int32) (usable : Nat → Int32) (summ : Nat → Int32) (x1 : Int32)  : Met l yX1_has wsX1_has ({ frames := 0, cells := 0, slots := 0, locals := 0 }) (va_Pc [.ref (q 1), .int (x1)] (fun U => va_P D vwCl (pz_X q k cnt kinds firsts seconds heights tables replaced laid rules ps qs rs fs frules heads ends inforce usable summ) U.heap ∧ pz_KX D q k t U)) (va_Qi (fun r (_ : Unit) => r = (f_X1_has cnt x1)) (fun _ t => va_P D vwCl (pz_X q k cnt kinds firsts seconds heights tables replaced laid rules ps qs rs fs frules heads ends inforce usable summ) t.heap) (pz_A 22 q)) 0 0 (pz_A 22 q) := by
  refine Met.ofW (cc := cX1_has) (maxL := 2) (ret := (some .boolean)) (by decide) rfl ?_
  intro p e s m args below meth c s₁ B hml hv
  obtain ⟨rfl, hP, hKX⟩ := hv
  have hx := B.exec
  have hb := B.bytes
  have hr := B.returns
  have hts := atoms_spec (ws := wsX1_has) B.pre
  have hown : s.vm.findClass RX1 = some m.cls := findClass_of_methodNamed B.named
  have hlocks := B.notSynchronized
  have hC : pz_C p s m ([.ref (q 1), .int (x1)] : List Value).toArray meth c cX1_has wsX1_has RX1 2 (some .boolean) := ⟨hx, hb, hml, hown, hts, hr, hlocks⟩
  have hK := hKX.1
  have hS : va_S (pz_A 22 q) s.heap s.heap [] := va_S.rf
  have hl := lv_entry [.ref (q 1), .int (x1)] (n := 2) (Nat.le_of_ble_eq_true rfl)
  rw [lg_entry_eq]
  generalize (lg_sl [.ref (q 1), .int (x1)] ++ List.replicate (2 - (lg_sl [.ref (q 1), .int (x1)]).length) Slot.unset).toArray = ls at hl ⊢
  have hl : lv_has ls 2 [(0, .ref (q 1)), (1, .int (x1))] := hl
  generalize hF : f_X1_has cnt x1 = G
  replace hF := hF.symm
  unfold f_X1_has at hF
  refine lv_iload_n hx hb dX1_has_0 rfl (lv_at hl 1 rfl) ?_
  refine lv_if_lt (tgt := 16) hx hb dX1_has_1 (by decide) (fun c_1 => ?_) (fun c_1 => ?_)
  · have hF := hF.trans (if_pos c_1)
    refine lv_iconst (v := 0) hx hb dX1_has_16 (by decide) ?_
    exact W.zret (v := 0) hx hb hr rfl (fun t ht hW => ⟨⟨0, (), rfl, hF.symm, pz_hp ht hP⟩, hS.F ht⟩) hS.2.2 dX1_has_17 hlocks
  · have hF := hF.trans (if_neg c_1)
    refine lv_iload_n hx hb dX1_has_4 rfl (lv_at hl 1 rfl) ?_
    refine lv_aload_n hx hb dX1_has_5 rfl (lv_at hl 0 rfl) ?_
    refine va_get (D := D) (ci := 1) (v := .int (cnt)) (C := RX1) (T := TX1) (N := 7) hx hb hts in_X1_has_X1 hown hK hP 1 rfl rfl 6 (by decide) (hts _ fl_X1_has_31) (fun _ h9 => h9) rfl dX1_has_6 ?_
    refine lv_icmp_ge (tgt := 16) hx hb dX1_has_9 (by decide) (fun c_2 => ?_) (fun c_2 => ?_)
    · have hF := hF.trans (if_pos c_2)
      refine lv_iconst (v := 0) hx hb dX1_has_16 (by decide) ?_
      exact W.zret (v := 0) hx hb hr rfl (fun t ht hW => ⟨⟨0, (), rfl, hF.symm, pz_hp ht hP⟩, hS.F ht⟩) hS.2.2 dX1_has_17 hlocks
    · have hF := hF.trans (if_neg c_2)
      refine lv_iconst (v := 1) hx hb dX1_has_12 (by decide) ?_
      refine lv_goto (tgt := 17) hx hb dX1_has_13 (by decide) ?_
      exact W.zret (v := 1) hx hb hr rfl (fun t ht hW => ⟨⟨1, (), rfl, hF.symm, pz_hp ht hP⟩, hS.F ht⟩) hS.2.2 dX1_has_17 hlocks

theorem pz_has {r cnt f : Int32} (hc : pz_c cnt) (h : r = f_X1_has cnt f) (h0 : ¬ r = 0) : vp_in f 80 := by
  rw [h] at h0; unfold f_X1_has at h0
  by_cases c1 : f < 0
  · rw [if_pos c1] at h0; exact absurd rfl h0
  · rw [if_neg c1] at h0
    by_cases c2 : cnt ≤ f
    · rw [if_pos c2] at h0; exact absurd rfl h0
    · exact pz_in c1 (c := cnt) (by rw [Int32.lt_iff_toInt_lt]; exact pz_nle c2) hc.2

-- == X1_kindOf
def f_X1_kindOf (cnt : Int32) (kinds : Nat → Int32) (x1 : Int32) : Int32 := pz_bnd (f_X1_has cnt x1) (fun z_1 => if z_1 = 0 then ((-1)) else ((kinds (x1).toNatClampNeg)))
theorem fl_X1_kindOf_9 : Cond.fieldLink RX1 9 "BoxProofs$Formulas" "kinds" "[I" ∈ wsX1_kindOf := by decide +kernel
theorem hdV_X1_has : yX1_has.cls = RX1 ∧ yX1_has.cls ≠ "java/lang/invoke/MethodHandle" ∧ yX1_has.cls ≠ "java/lang/invoke/VarHandle" ∧ (parseMethodDescriptor yX1_has.desc).map (fun d => d.parameters.length) = some 1 := by decide +kernel
theorem in_X1_kindOf_X1 : ∀ w ∈ wsX10, w ∈ wsX1_kindOf := by decide +kernel
set_option maxHeartbeats 4000000 in
set_option maxRecDepth 100000 in
theorem c_X1_kindOf (l : Launch) (D : va_G) (q : Nat → Nat) (k : Nat → ClassId) (t : Nat → Nat) (cnt : Int32) (kinds : Nat → Int32) (firsts : Nat → Int32) (seconds : Nat → Int32) (heights : Nat → Int32) (tables : Nat → Int64) (replaced : Nat → Int32) (laid : Nat → Int32) (rules : Nat → Int32) (ps : Nat → Int32) (qs : Nat → Int32) (rs : Nat → Int32) (fs : Nat → Int32) (frules : Nat → Int32) (heads : Nat → Int32) (ends : Nat → Int32) (inforce : Nat → Int32) (usable : Nat → Int32) (summ : Nat → Int32) (x1 : Int32) (hc : pz_c cnt) : Met l yX1_kindOf wsX1_kindOf ({ frames := 1, cells := 0, slots := 0, locals := 21 }) (va_Pc [.ref (q 1), .int (x1)] (fun U => va_P D vwCl (pz_X q k cnt kinds firsts seconds heights tables replaced laid rules ps qs rs fs frules heads ends inforce usable summ) U.heap ∧ pz_KX D q k t U)) (va_Qi (fun r (_ : Unit) => r = (f_X1_kindOf cnt kinds x1)) (fun _ t => va_P D vwCl (pz_X q k cnt kinds firsts seconds heights tables replaced laid rules ps qs rs fs frules heads ends inforce usable summ) t.heap) (pz_A 22 q)) 0 0 (pz_A 22 q) := by
  refine Met.ofW (cc := cX1_kindOf) (maxL := 2) (ret := (some .int)) (by decide) rfl ?_
  intro p e s m args below meth c s₁ B hml hv
  obtain ⟨rfl, hP, hKX⟩ := hv
  have hx := B.exec
  have hb := B.bytes
  have hr := B.returns
  have hts := atoms_spec (ws := wsX1_kindOf) B.pre
  have hown : s.vm.findClass RX1 = some m.cls := findClass_of_methodNamed B.named
  have hlocks := B.notSynchronized
  have hC : pz_C p s m ([.ref (q 1), .int (x1)] : List Value).toArray meth c cX1_kindOf wsX1_kindOf RX1 2 (some .int) := ⟨hx, hb, hml, hown, hts, hr, hlocks⟩
  have hK := hKX.1
  have hS : va_S (pz_A 22 q) s.heap s.heap [] := va_S.rf
  have hl := lv_entry [.ref (q 1), .int (x1)] (n := 2) (Nat.le_of_ble_eq_true rfl)
  rw [lg_entry_eq]
  generalize (lg_sl [.ref (q 1), .int (x1)] ++ List.replicate (2 - (lg_sl [.ref (q 1), .int (x1)]).length) Slot.unset).toArray = ls at hl ⊢
  have hl : lv_has ls 2 [(0, .ref (q 1)), (1, .int (x1))] := hl
  generalize hF : f_X1_kindOf cnt kinds x1 = G
  replace hF := hF.symm
  unfold f_X1_kindOf at hF
  refine lv_aload_n hx hb dX1_kindOf_0 rfl (lv_at hl 0 rfl) ?_
  refine lv_iload_n hx hb dX1_kindOf_1 rfl (lv_at hl 1 rfl) ?_
  refine pz_Vi (As := [.int (x1)]) (rest := []) ⟨hx, hb, hml, hown, hts⟩ (c_X1_has l D q k t cnt kinds firsts seconds heights tables replaced laid rules ps qs rs fs frules heads ends inforce usable summ x1) (cwV 1 hts gX1_kindOf_X1_has rfl rfl rfl hdV_X1_has ⟨Nat.le_of_ble_eq_true rfl, Nat.le_of_ble_eq_true rfl⟩) pz_KX.call (hKX.go hS) (va_recv hK hP (ci := 1) (q0 := 1) rfl rfl) hP hS rfl hl.1 rfl (Nat.le_of_ble_eq_true rfl) dX1_kindOf_2 ⟨Nat.zero_le _, Nat.zero_le _⟩ (fun r_1 u_1 H locs hF_1 hP hS => ?_)
  have hF := hF.trans (pz_be hF_1)
  refine lv_if_eq (tgt := 17) hx hb dX1_kindOf_5 (by decide) (fun c_2 => ?_) (fun c_2 => ?_)
  · have hF := hF.trans (if_pos c_2)
    refine lv_iconst (v := (-1)) hx hb dX1_kindOf_17 (by decide) ?_
    exact W.iret (v := (-1)) hx hb hr (fun t ht hW => ⟨⟨(-1), (), rfl, hF.symm, pz_hp ht hP⟩, hS.F ht⟩) hS.2.2 dX1_kindOf_18 hlocks
  · have hF := hF.trans (if_neg c_2)
    refine lv_aload_n hx hb dX1_kindOf_8 rfl (lv_at hl 0 rfl) ?_
    refine va_get (D := D) (ci := 1) (v := .ref (q 4)) (C := RX1) (T := TX1) (N := 7) hx hb hts in_X1_kindOf_X1 hown hK hP 1 rfl rfl 0 (by decide) (hts _ fl_X1_kindOf_9) (fun _ h9 => h9) rfl dX1_kindOf_9 ?_
    refine lv_iload_n hx hb dX1_kindOf_12 rfl (lv_at hl 1 rfl) ?_
    have hi_3 : vp_in x1 80 := by first | exact pz_has hc ‹_› ‹_› | assumption
    refine va_iald hx hb hK hP 4 0 rfl rfl hi_3 dX1_kindOf_13 ?_
    refine lv_goto (tgt := 18) hx hb dX1_kindOf_14 (by decide) ?_
    exact W.iret (v := (kinds (x1).toNatClampNeg)) hx hb hr (fun t ht hW => ⟨⟨(kinds (x1).toNatClampNeg), (), rfl, hF.symm, pz_hp ht hP⟩, hS.F ht⟩) hS.2.2 dX1_kindOf_18 hlocks

-- == X1_firstOf
def f_X1_firstOf (cnt : Int32) (firsts : Nat → Int32) (x1 : Int32) : Int32 := pz_bnd (f_X1_has cnt x1) (fun z_1 => if z_1 = 0 then ((-1)) else ((firsts (x1).toNatClampNeg)))
theorem fl_X1_firstOf_15 : Cond.fieldLink RX1 15 "BoxProofs$Formulas" "firsts" "[I" ∈ wsX1_firstOf := by decide +kernel
theorem in_X1_firstOf_X1 : ∀ w ∈ wsX10, w ∈ wsX1_firstOf := by decide +kernel
set_option maxHeartbeats 4000000 in
set_option maxRecDepth 100000 in
theorem c_X1_firstOf (l : Launch) (D : va_G) (q : Nat → Nat) (k : Nat → ClassId) (t : Nat → Nat) (cnt : Int32) (kinds : Nat → Int32) (firsts : Nat → Int32) (seconds : Nat → Int32) (heights : Nat → Int32) (tables : Nat → Int64) (replaced : Nat → Int32) (laid : Nat → Int32) (rules : Nat → Int32) (ps : Nat → Int32) (qs : Nat → Int32) (rs : Nat → Int32) (fs : Nat → Int32) (frules : Nat → Int32) (heads : Nat → Int32) (ends : Nat → Int32) (inforce : Nat → Int32) (usable : Nat → Int32) (summ : Nat → Int32) (x1 : Int32) (hc : pz_c cnt) : Met l yX1_firstOf wsX1_firstOf ({ frames := 1, cells := 0, slots := 0, locals := 21 }) (va_Pc [.ref (q 1), .int (x1)] (fun U => va_P D vwCl (pz_X q k cnt kinds firsts seconds heights tables replaced laid rules ps qs rs fs frules heads ends inforce usable summ) U.heap ∧ pz_KX D q k t U)) (va_Qi (fun r (_ : Unit) => r = (f_X1_firstOf cnt firsts x1)) (fun _ t => va_P D vwCl (pz_X q k cnt kinds firsts seconds heights tables replaced laid rules ps qs rs fs frules heads ends inforce usable summ) t.heap) (pz_A 22 q)) 0 0 (pz_A 22 q) := by
  refine Met.ofW (cc := cX1_firstOf) (maxL := 2) (ret := (some .int)) (by decide) rfl ?_
  intro p e s m args below meth c s₁ B hml hv
  obtain ⟨rfl, hP, hKX⟩ := hv
  have hx := B.exec
  have hb := B.bytes
  have hr := B.returns
  have hts := atoms_spec (ws := wsX1_firstOf) B.pre
  have hown : s.vm.findClass RX1 = some m.cls := findClass_of_methodNamed B.named
  have hlocks := B.notSynchronized
  have hC : pz_C p s m ([.ref (q 1), .int (x1)] : List Value).toArray meth c cX1_firstOf wsX1_firstOf RX1 2 (some .int) := ⟨hx, hb, hml, hown, hts, hr, hlocks⟩
  have hK := hKX.1
  have hS : va_S (pz_A 22 q) s.heap s.heap [] := va_S.rf
  have hl := lv_entry [.ref (q 1), .int (x1)] (n := 2) (Nat.le_of_ble_eq_true rfl)
  rw [lg_entry_eq]
  generalize (lg_sl [.ref (q 1), .int (x1)] ++ List.replicate (2 - (lg_sl [.ref (q 1), .int (x1)]).length) Slot.unset).toArray = ls at hl ⊢
  have hl : lv_has ls 2 [(0, .ref (q 1)), (1, .int (x1))] := hl
  generalize hF : f_X1_firstOf cnt firsts x1 = G
  replace hF := hF.symm
  unfold f_X1_firstOf at hF
  refine lv_aload_n hx hb dX1_firstOf_0 rfl (lv_at hl 0 rfl) ?_
  refine lv_iload_n hx hb dX1_firstOf_1 rfl (lv_at hl 1 rfl) ?_
  refine pz_Vi (As := [.int (x1)]) (rest := []) ⟨hx, hb, hml, hown, hts⟩ (c_X1_has l D q k t cnt kinds firsts seconds heights tables replaced laid rules ps qs rs fs frules heads ends inforce usable summ x1) (cwV 1 hts gX1_firstOf_X1_has rfl rfl rfl hdV_X1_has ⟨Nat.le_of_ble_eq_true rfl, Nat.le_of_ble_eq_true rfl⟩) pz_KX.call (hKX.go hS) (va_recv hK hP (ci := 1) (q0 := 1) rfl rfl) hP hS rfl hl.1 rfl (Nat.le_of_ble_eq_true rfl) dX1_firstOf_2 ⟨Nat.zero_le _, Nat.zero_le _⟩ (fun r_1 u_1 H locs hF_1 hP hS => ?_)
  have hF := hF.trans (pz_be hF_1)
  refine lv_if_eq (tgt := 17) hx hb dX1_firstOf_5 (by decide) (fun c_2 => ?_) (fun c_2 => ?_)
  · have hF := hF.trans (if_pos c_2)
    refine lv_iconst (v := (-1)) hx hb dX1_firstOf_17 (by decide) ?_
    exact W.iret (v := (-1)) hx hb hr (fun t ht hW => ⟨⟨(-1), (), rfl, hF.symm, pz_hp ht hP⟩, hS.F ht⟩) hS.2.2 dX1_firstOf_18 hlocks
  · have hF := hF.trans (if_neg c_2)
    refine lv_aload_n hx hb dX1_firstOf_8 rfl (lv_at hl 0 rfl) ?_
    refine va_get (D := D) (ci := 1) (v := .ref (q 5)) (C := RX1) (T := TX1) (N := 7) hx hb hts in_X1_firstOf_X1 hown hK hP 1 rfl rfl 1 (by decide) (hts _ fl_X1_firstOf_15) (fun _ h9 => h9) rfl dX1_firstOf_9 ?_
    refine lv_iload_n hx hb dX1_firstOf_12 rfl (lv_at hl 1 rfl) ?_
    have hi_3 : vp_in x1 80 := by first | exact pz_has hc ‹_› ‹_› | assumption
    refine va_iald hx hb hK hP 5 0 rfl rfl hi_3 dX1_firstOf_13 ?_
    refine lv_goto (tgt := 18) hx hb dX1_firstOf_14 (by decide) ?_
    exact W.iret (v := (firsts (x1).toNatClampNeg)) hx hb hr (fun t ht hW => ⟨⟨(firsts (x1).toNatClampNeg), (), rfl, hF.symm, pz_hp ht hP⟩, hS.F ht⟩) hS.2.2 dX1_firstOf_18 hlocks

-- == X1_secondOf
def f_X1_secondOf (cnt : Int32) (seconds : Nat → Int32) (x1 : Int32) : Int32 := pz_bnd (f_X1_has cnt x1) (fun z_1 => if z_1 = 0 then ((-1)) else ((seconds (x1).toNatClampNeg)))
theorem fl_X1_secondOf_18 : Cond.fieldLink RX1 18 "BoxProofs$Formulas" "seconds" "[I" ∈ wsX1_secondOf := by decide +kernel
theorem in_X1_secondOf_X1 : ∀ w ∈ wsX10, w ∈ wsX1_secondOf := by decide +kernel
set_option maxHeartbeats 4000000 in
set_option maxRecDepth 100000 in
theorem c_X1_secondOf (l : Launch) (D : va_G) (q : Nat → Nat) (k : Nat → ClassId) (t : Nat → Nat) (cnt : Int32) (kinds : Nat → Int32) (firsts : Nat → Int32) (seconds : Nat → Int32) (heights : Nat → Int32) (tables : Nat → Int64) (replaced : Nat → Int32) (laid : Nat → Int32) (rules : Nat → Int32) (ps : Nat → Int32) (qs : Nat → Int32) (rs : Nat → Int32) (fs : Nat → Int32) (frules : Nat → Int32) (heads : Nat → Int32) (ends : Nat → Int32) (inforce : Nat → Int32) (usable : Nat → Int32) (summ : Nat → Int32) (x1 : Int32) (hc : pz_c cnt) : Met l yX1_secondOf wsX1_secondOf ({ frames := 1, cells := 0, slots := 0, locals := 21 }) (va_Pc [.ref (q 1), .int (x1)] (fun U => va_P D vwCl (pz_X q k cnt kinds firsts seconds heights tables replaced laid rules ps qs rs fs frules heads ends inforce usable summ) U.heap ∧ pz_KX D q k t U)) (va_Qi (fun r (_ : Unit) => r = (f_X1_secondOf cnt seconds x1)) (fun _ t => va_P D vwCl (pz_X q k cnt kinds firsts seconds heights tables replaced laid rules ps qs rs fs frules heads ends inforce usable summ) t.heap) (pz_A 22 q)) 0 0 (pz_A 22 q) := by
  refine Met.ofW (cc := cX1_secondOf) (maxL := 2) (ret := (some .int)) (by decide) rfl ?_
  intro p e s m args below meth c s₁ B hml hv
  obtain ⟨rfl, hP, hKX⟩ := hv
  have hx := B.exec
  have hb := B.bytes
  have hr := B.returns
  have hts := atoms_spec (ws := wsX1_secondOf) B.pre
  have hown : s.vm.findClass RX1 = some m.cls := findClass_of_methodNamed B.named
  have hlocks := B.notSynchronized
  have hC : pz_C p s m ([.ref (q 1), .int (x1)] : List Value).toArray meth c cX1_secondOf wsX1_secondOf RX1 2 (some .int) := ⟨hx, hb, hml, hown, hts, hr, hlocks⟩
  have hK := hKX.1
  have hS : va_S (pz_A 22 q) s.heap s.heap [] := va_S.rf
  have hl := lv_entry [.ref (q 1), .int (x1)] (n := 2) (Nat.le_of_ble_eq_true rfl)
  rw [lg_entry_eq]
  generalize (lg_sl [.ref (q 1), .int (x1)] ++ List.replicate (2 - (lg_sl [.ref (q 1), .int (x1)]).length) Slot.unset).toArray = ls at hl ⊢
  have hl : lv_has ls 2 [(0, .ref (q 1)), (1, .int (x1))] := hl
  generalize hF : f_X1_secondOf cnt seconds x1 = G
  replace hF := hF.symm
  unfold f_X1_secondOf at hF
  refine lv_aload_n hx hb dX1_secondOf_0 rfl (lv_at hl 0 rfl) ?_
  refine lv_iload_n hx hb dX1_secondOf_1 rfl (lv_at hl 1 rfl) ?_
  refine pz_Vi (As := [.int (x1)]) (rest := []) ⟨hx, hb, hml, hown, hts⟩ (c_X1_has l D q k t cnt kinds firsts seconds heights tables replaced laid rules ps qs rs fs frules heads ends inforce usable summ x1) (cwV 1 hts gX1_secondOf_X1_has rfl rfl rfl hdV_X1_has ⟨Nat.le_of_ble_eq_true rfl, Nat.le_of_ble_eq_true rfl⟩) pz_KX.call (hKX.go hS) (va_recv hK hP (ci := 1) (q0 := 1) rfl rfl) hP hS rfl hl.1 rfl (Nat.le_of_ble_eq_true rfl) dX1_secondOf_2 ⟨Nat.zero_le _, Nat.zero_le _⟩ (fun r_1 u_1 H locs hF_1 hP hS => ?_)
  have hF := hF.trans (pz_be hF_1)
  refine lv_if_eq (tgt := 17) hx hb dX1_secondOf_5 (by decide) (fun c_2 => ?_) (fun c_2 => ?_)
  · have hF := hF.trans (if_pos c_2)
    refine lv_iconst (v := (-1)) hx hb dX1_secondOf_17 (by decide) ?_
    exact W.iret (v := (-1)) hx hb hr (fun t ht hW => ⟨⟨(-1), (), rfl, hF.symm, pz_hp ht hP⟩, hS.F ht⟩) hS.2.2 dX1_secondOf_18 hlocks
  · have hF := hF.trans (if_neg c_2)
    refine lv_aload_n hx hb dX1_secondOf_8 rfl (lv_at hl 0 rfl) ?_
    refine va_get (D := D) (ci := 1) (v := .ref (q 6)) (C := RX1) (T := TX1) (N := 7) hx hb hts in_X1_secondOf_X1 hown hK hP 1 rfl rfl 2 (by decide) (hts _ fl_X1_secondOf_18) (fun _ h9 => h9) rfl dX1_secondOf_9 ?_
    refine lv_iload_n hx hb dX1_secondOf_12 rfl (lv_at hl 1 rfl) ?_
    have hi_3 : vp_in x1 80 := by first | exact pz_has hc ‹_› ‹_› | assumption
    refine va_iald hx hb hK hP 6 0 rfl rfl hi_3 dX1_secondOf_13 ?_
    refine lv_goto (tgt := 18) hx hb dX1_secondOf_14 (by decide) ?_
    exact W.iret (v := (seconds (x1).toNatClampNeg)) hx hb hr (fun t ht hW => ⟨⟨(seconds (x1).toNatClampNeg), (), rfl, hF.symm, pz_hp ht hP⟩, hS.F ht⟩) hS.2.2 dX1_secondOf_18 hlocks

-- == X1_heightOf
def f_X1_heightOf (cnt : Int32) (heights : Nat → Int32) (x1 : Int32) : Int32 := pz_bnd (f_X1_has cnt x1) (fun z_1 => if z_1 = 0 then (0) else ((heights (x1).toNatClampNeg)))
theorem fl_X1_heightOf_21 : Cond.fieldLink RX1 21 "BoxProofs$Formulas" "heights" "[I" ∈ wsX1_heightOf := by decide +kernel
theorem in_X1_heightOf_X1 : ∀ w ∈ wsX10, w ∈ wsX1_heightOf := by decide +kernel
set_option maxHeartbeats 4000000 in
set_option maxRecDepth 100000 in
theorem c_X1_heightOf (l : Launch) (D : va_G) (q : Nat → Nat) (k : Nat → ClassId) (t : Nat → Nat) (cnt : Int32) (kinds : Nat → Int32) (firsts : Nat → Int32) (seconds : Nat → Int32) (heights : Nat → Int32) (tables : Nat → Int64) (replaced : Nat → Int32) (laid : Nat → Int32) (rules : Nat → Int32) (ps : Nat → Int32) (qs : Nat → Int32) (rs : Nat → Int32) (fs : Nat → Int32) (frules : Nat → Int32) (heads : Nat → Int32) (ends : Nat → Int32) (inforce : Nat → Int32) (usable : Nat → Int32) (summ : Nat → Int32) (x1 : Int32) (hc : pz_c cnt) : Met l yX1_heightOf wsX1_heightOf ({ frames := 1, cells := 0, slots := 0, locals := 21 }) (va_Pc [.ref (q 1), .int (x1)] (fun U => va_P D vwCl (pz_X q k cnt kinds firsts seconds heights tables replaced laid rules ps qs rs fs frules heads ends inforce usable summ) U.heap ∧ pz_KX D q k t U)) (va_Qi (fun r (_ : Unit) => r = (f_X1_heightOf cnt heights x1)) (fun _ t => va_P D vwCl (pz_X q k cnt kinds firsts seconds heights tables replaced laid rules ps qs rs fs frules heads ends inforce usable summ) t.heap) (pz_A 22 q)) 0 0 (pz_A 22 q) := by
  refine Met.ofW (cc := cX1_heightOf) (maxL := 2) (ret := (some .int)) (by decide) rfl ?_
  intro p e s m args below meth c s₁ B hml hv
  obtain ⟨rfl, hP, hKX⟩ := hv
  have hx := B.exec
  have hb := B.bytes
  have hr := B.returns
  have hts := atoms_spec (ws := wsX1_heightOf) B.pre
  have hown : s.vm.findClass RX1 = some m.cls := findClass_of_methodNamed B.named
  have hlocks := B.notSynchronized
  have hC : pz_C p s m ([.ref (q 1), .int (x1)] : List Value).toArray meth c cX1_heightOf wsX1_heightOf RX1 2 (some .int) := ⟨hx, hb, hml, hown, hts, hr, hlocks⟩
  have hK := hKX.1
  have hS : va_S (pz_A 22 q) s.heap s.heap [] := va_S.rf
  have hl := lv_entry [.ref (q 1), .int (x1)] (n := 2) (Nat.le_of_ble_eq_true rfl)
  rw [lg_entry_eq]
  generalize (lg_sl [.ref (q 1), .int (x1)] ++ List.replicate (2 - (lg_sl [.ref (q 1), .int (x1)]).length) Slot.unset).toArray = ls at hl ⊢
  have hl : lv_has ls 2 [(0, .ref (q 1)), (1, .int (x1))] := hl
  generalize hF : f_X1_heightOf cnt heights x1 = G
  replace hF := hF.symm
  unfold f_X1_heightOf at hF
  refine lv_aload_n hx hb dX1_heightOf_0 rfl (lv_at hl 0 rfl) ?_
  refine lv_iload_n hx hb dX1_heightOf_1 rfl (lv_at hl 1 rfl) ?_
  refine pz_Vi (As := [.int (x1)]) (rest := []) ⟨hx, hb, hml, hown, hts⟩ (c_X1_has l D q k t cnt kinds firsts seconds heights tables replaced laid rules ps qs rs fs frules heads ends inforce usable summ x1) (cwV 1 hts gX1_heightOf_X1_has rfl rfl rfl hdV_X1_has ⟨Nat.le_of_ble_eq_true rfl, Nat.le_of_ble_eq_true rfl⟩) pz_KX.call (hKX.go hS) (va_recv hK hP (ci := 1) (q0 := 1) rfl rfl) hP hS rfl hl.1 rfl (Nat.le_of_ble_eq_true rfl) dX1_heightOf_2 ⟨Nat.zero_le _, Nat.zero_le _⟩ (fun r_1 u_1 H locs hF_1 hP hS => ?_)
  have hF := hF.trans (pz_be hF_1)
  refine lv_if_eq (tgt := 17) hx hb dX1_heightOf_5 (by decide) (fun c_2 => ?_) (fun c_2 => ?_)
  · have hF := hF.trans (if_pos c_2)
    refine lv_iconst (v := 0) hx hb dX1_heightOf_17 (by decide) ?_
    exact W.iret (v := 0) hx hb hr (fun t ht hW => ⟨⟨0, (), rfl, hF.symm, pz_hp ht hP⟩, hS.F ht⟩) hS.2.2 dX1_heightOf_18 hlocks
  · have hF := hF.trans (if_neg c_2)
    refine lv_aload_n hx hb dX1_heightOf_8 rfl (lv_at hl 0 rfl) ?_
    refine va_get (D := D) (ci := 1) (v := .ref (q 7)) (C := RX1) (T := TX1) (N := 7) hx hb hts in_X1_heightOf_X1 hown hK hP 1 rfl rfl 3 (by decide) (hts _ fl_X1_heightOf_21) (fun _ h9 => h9) rfl dX1_heightOf_9 ?_
    refine lv_iload_n hx hb dX1_heightOf_12 rfl (lv_at hl 1 rfl) ?_
    have hi_3 : vp_in x1 80 := by first | exact pz_has hc ‹_› ‹_› | assumption
    refine va_iald hx hb hK hP 7 0 rfl rfl hi_3 dX1_heightOf_13 ?_
    refine lv_goto (tgt := 18) hx hb dX1_heightOf_14 (by decide) ?_
    exact W.iret (v := (heights (x1).toNatClampNeg)) hx hb hr (fun t ht hW => ⟨⟨(heights (x1).toNatClampNeg), (), rfl, hF.symm, pz_hp ht hP⟩, hS.F ht⟩) hS.2.2 dX1_heightOf_18 hlocks

-- == X1_tableOf
def f_X1_tableOf (cnt : Int32) (tables : Nat → Int64) (x1 : Int32) : Int64 := pz_bnd (f_X1_has cnt x1) (fun z_1 => if z_1 = 0 then (0) else ((tables (x1).toNatClampNeg)))
theorem fl_X1_tableOf_24 : Cond.fieldLink RX1 24 "BoxProofs$Formulas" "tables" "[J" ∈ wsX1_tableOf := by decide +kernel
theorem in_X1_tableOf_X1 : ∀ w ∈ wsX10, w ∈ wsX1_tableOf := by decide +kernel
set_option maxHeartbeats 4000000 in
set_option maxRecDepth 100000 in
theorem c_X1_tableOf (l : Launch) (D : va_G) (q : Nat → Nat) (k : Nat → ClassId) (t : Nat → Nat) (cnt : Int32) (kinds : Nat → Int32) (firsts : Nat → Int32) (seconds : Nat → Int32) (heights : Nat → Int32) (tables : Nat → Int64) (replaced : Nat → Int32) (laid : Nat → Int32) (rules : Nat → Int32) (ps : Nat → Int32) (qs : Nat → Int32) (rs : Nat → Int32) (fs : Nat → Int32) (frules : Nat → Int32) (heads : Nat → Int32) (ends : Nat → Int32) (inforce : Nat → Int32) (usable : Nat → Int32) (summ : Nat → Int32) (x1 : Int32) (hc : pz_c cnt) : Met l yX1_tableOf wsX1_tableOf ({ frames := 1, cells := 0, slots := 0, locals := 21 }) (va_Pc [.ref (q 1), .int (x1)] (fun U => va_P D vwCl (pz_X q k cnt kinds firsts seconds heights tables replaced laid rules ps qs rs fs frules heads ends inforce usable summ) U.heap ∧ pz_KX D q k t U)) (va_Ql (fun r (_ : Unit) => r = (f_X1_tableOf cnt tables x1)) (fun _ t => va_P D vwCl (pz_X q k cnt kinds firsts seconds heights tables replaced laid rules ps qs rs fs frules heads ends inforce usable summ) t.heap) (pz_A 22 q)) 0 0 (pz_A 22 q) := by
  refine Met.ofW (cc := cX1_tableOf) (maxL := 2) (ret := (some .long)) (by decide) rfl ?_
  intro p e s m args below meth c s₁ B hml hv
  obtain ⟨rfl, hP, hKX⟩ := hv
  have hx := B.exec
  have hb := B.bytes
  have hr := B.returns
  have hts := atoms_spec (ws := wsX1_tableOf) B.pre
  have hown : s.vm.findClass RX1 = some m.cls := findClass_of_methodNamed B.named
  have hlocks := B.notSynchronized
  have hC : pz_C p s m ([.ref (q 1), .int (x1)] : List Value).toArray meth c cX1_tableOf wsX1_tableOf RX1 2 (some .long) := ⟨hx, hb, hml, hown, hts, hr, hlocks⟩
  have hK := hKX.1
  have hS : va_S (pz_A 22 q) s.heap s.heap [] := va_S.rf
  have hl := lv_entry [.ref (q 1), .int (x1)] (n := 2) (Nat.le_of_ble_eq_true rfl)
  rw [lg_entry_eq]
  generalize (lg_sl [.ref (q 1), .int (x1)] ++ List.replicate (2 - (lg_sl [.ref (q 1), .int (x1)]).length) Slot.unset).toArray = ls at hl ⊢
  have hl : lv_has ls 2 [(0, .ref (q 1)), (1, .int (x1))] := hl
  generalize hF : f_X1_tableOf cnt tables x1 = G
  replace hF := hF.symm
  unfold f_X1_tableOf at hF
  refine lv_aload_n hx hb dX1_tableOf_0 rfl (lv_at hl 0 rfl) ?_
  refine lv_iload_n hx hb dX1_tableOf_1 rfl (lv_at hl 1 rfl) ?_
  refine pz_Vi (As := [.int (x1)]) (rest := []) ⟨hx, hb, hml, hown, hts⟩ (c_X1_has l D q k t cnt kinds firsts seconds heights tables replaced laid rules ps qs rs fs frules heads ends inforce usable summ x1) (cwV 1 hts gX1_tableOf_X1_has rfl rfl rfl hdV_X1_has ⟨Nat.le_of_ble_eq_true rfl, Nat.le_of_ble_eq_true rfl⟩) pz_KX.call (hKX.go hS) (va_recv hK hP (ci := 1) (q0 := 1) rfl rfl) hP hS rfl hl.1 rfl (Nat.le_of_ble_eq_true rfl) dX1_tableOf_2 ⟨Nat.zero_le _, Nat.zero_le _⟩ (fun r_1 u_1 H locs hF_1 hP hS => ?_)
  have hF := hF.trans (pz_be hF_1)
  refine lv_if_eq (tgt := 17) hx hb dX1_tableOf_5 (by decide) (fun c_2 => ?_) (fun c_2 => ?_)
  · have hF := hF.trans (if_pos c_2)
    refine lv_lconst (v := 0) hx hb dX1_tableOf_17 (by decide) ?_
    exact W.lret (v := 0) hx hb hr (fun t ht hW => ⟨⟨0, (), rfl, hF.symm, pz_hp ht hP⟩, hS.F ht⟩) hS.2.2 dX1_tableOf_18 hlocks
  · have hF := hF.trans (if_neg c_2)
    refine lv_aload_n hx hb dX1_tableOf_8 rfl (lv_at hl 0 rfl) ?_
    refine va_get (D := D) (ci := 1) (v := .ref (q 8)) (C := RX1) (T := TX1) (N := 7) hx hb hts in_X1_tableOf_X1 hown hK hP 1 rfl rfl 4 (by decide) (hts _ fl_X1_tableOf_24) (fun _ h9 => h9) rfl dX1_tableOf_9 ?_
    refine lv_iload_n hx hb dX1_tableOf_12 rfl (lv_at hl 1 rfl) ?_
    have hi_3 : vp_in x1 80 := by first | exact pz_has hc ‹_› ‹_› | assumption
    refine va_lald hx hb hK hP 8 1 rfl rfl hi_3 dX1_tableOf_13 ?_
    refine lv_goto (tgt := 18) hx hb dX1_tableOf_14 (by decide) ?_
    exact W.lret (v := (tables (x1).toNatClampNeg)) hx hb hr (fun t ht hW => ⟨⟨(tables (x1).toNatClampNeg), (), rfl, hF.symm, pz_hp ht hP⟩, hS.F ht⟩) hS.2.2 dX1_tableOf_18 hlocks

-- == X1_find
def F_X1_find_3 : Nat → (Int32) → (Nat → Int32) → (Nat → Int32) → (Nat → Int32) → (Int32) → (Int32) → (Int32) → (Int32) → Int32
  | 0, cnt, kinds, firsts, seconds, x1, x2, x3, x4 => 0
  | n + 1, cnt, kinds, firsts, seconds, x1, x2, x3, x4 => if cnt ≤ x4 then ((-1)) else (if (kinds (x4).toNatClampNeg) = x1 then (if (firsts (x4).toNatClampNeg) = x2 then (if (seconds (x4).toNatClampNeg) = x3 then (x4) else (F_X1_find_3 n cnt kinds firsts seconds x1 x2 x3 (x4 + 1))) else (F_X1_find_3 n cnt kinds firsts seconds x1 x2 x3 (x4 + 1))) else (F_X1_find_3 n cnt kinds firsts seconds x1 x2 x3 (x4 + 1)))
def f_X1_find (cnt : Int32) (kinds : Nat → Int32) (firsts : Nat → Int32) (seconds : Nat → Int32) (x1 : Int32) (x2 : Int32) (x3 : Int32) : Int32 := F_X1_find_3 81 cnt kinds firsts seconds x1 x2 x3 0
theorem fl_X1_find_15 : Cond.fieldLink RX1 15 "BoxProofs$Formulas" "firsts" "[I" ∈ wsX1_find := by decide +kernel
theorem fl_X1_find_18 : Cond.fieldLink RX1 18 "BoxProofs$Formulas" "seconds" "[I" ∈ wsX1_find := by decide +kernel
theorem fl_X1_find_31 : Cond.fieldLink RX1 31 "BoxProofs$Formulas" "count" "I" ∈ wsX1_find := by decide +kernel
theorem fl_X1_find_9 : Cond.fieldLink RX1 9 "BoxProofs$Formulas" "kinds" "[I" ∈ wsX1_find := by decide +kernel
theorem in_X1_find_X1 : ∀ w ∈ wsX10, w ∈ wsX1_find := by decide +kernel
set_option maxHeartbeats 4000000 in
set_option maxRecDepth 100000 in
theorem k_X1_find_3 {p : Program} {l : Launch} {e : Env} {s : State} {m : MethodId} {args : Array Value} {below : List Frame} {meth : Method} {c : Code} {D : va_G} {q : Nat → Nat} {k : Nat → ClassId} {t : Nat → Nat} (hC : pz_C p s m args meth c cX1_find wsX1_find RX1 5 (some .int)) (hKX : pz_KX D q k t s) (cnt : Int32) (kinds : Nat → Int32) (firsts : Nat → Int32) (seconds : Nat → Int32) (heights : Nat → Int32) (tables : Nat → Int64) (replaced : Nat → Int32) (laid : Nat → Int32) (rules : Nat → Int32) (ps : Nat → Int32) (qs : Nat → Int32) (rs : Nat → Int32) (fs : Nat → Int32) (frules : Nat → Int32) (heads : Nat → Int32) (ends : Nat → Int32) (inforce : Nat → Int32) (usable : Nat → Int32) (summ : Nat → Int32) {G : Int32} :
    ∀ (n : Nat) (x1 : Int32) (x2 : Int32) (x3 : Int32) (x4 : Int32) (h0 : 0 ≤ x4.toInt) (h1 : x4.toInt ≤ 80) (hn : 81 ≤ x4.toInt + n) (hc : pz_c cnt) (H : Heap) (locs : List Loc) (ls : Array Slot), G = F_X1_find_3 n cnt kinds firsts seconds x1 x2 x3 x4 → va_P D vwCl (pz_X q k cnt kinds firsts seconds heights tables replaced laid rules ps qs rs fs frules heads ends inforce usable summ) H → va_S (pz_A 22 q) s.heap H locs → lv_has ls 5 [(0, .ref (q 1)), (1, .int (x1)), (2, .int (x2)), (3, .int (x3)), (4, .int (x4))] → W p l e (headSpec wsX1_find { frames := 0, cells := 0, slots := 0, locals := 0 }).room s m args below meth c H locs 0 0 (MQ below (va_Qi (fun r (_ : Unit) => r = G) (fun _ t => va_P D vwCl (pz_X q k cnt kinds firsts seconds heights tables replaced laid rules ps qs rs fs frules heads ends inforce usable summ) t.heap) (pz_A 22 q)) args s 0 0 (pz_A 22 q)) (F0 m 3 ls []) := by
  obtain ⟨hx, hb, hml, hown, hts, hr, hlocks⟩ := hC
  have hC : pz_C p s m args meth c cX1_find wsX1_find RX1 5 (some .int) := ⟨hx, hb, hml, hown, hts, hr, hlocks⟩
  have hK := hKX.1
  intro n
  induction n with
  | zero =>
    intro x1 x2 x3 x4 h0 h1 hn hc H locs ls hF hP hS hl
    exact absurd hn (by omega)
  | succ n ih =>
    intro x1 x2 x3 x4 h0 h1 hn hc H locs ls hF hP hS hl
    unfold F_X1_find_3 at hF
    refine lv_iload hx hb dX1_find_3 (lv_at hl 4 rfl) ?_
    refine lv_aload_n hx hb dX1_find_5 rfl (lv_at hl 0 rfl) ?_
    refine va_get (D := D) (ci := 1) (v := .int (cnt)) (C := RX1) (T := TX1) (N := 7) hx hb hts in_X1_find_X1 hown hK hP 1 rfl rfl 6 (by decide) (hts _ fl_X1_find_31) (fun _ h9 => h9) rfl dX1_find_6 ?_
    refine lv_icmp_ge (tgt := 54) hx hb dX1_find_9 (by decide) (fun c_1 => ?_) (fun c_1 => ?_)
    · have hF := hF.trans (if_pos c_1)
      refine lv_iconst (v := (-1)) hx hb dX1_find_54 (by decide) ?_
      exact W.iret (v := (-1)) hx hb hr (fun t ht hW => ⟨⟨(-1), (), rfl, hF.symm, pz_hp ht hP⟩, hS.F ht⟩) hS.2.2 dX1_find_55 hlocks
    · have hF := hF.trans (if_neg c_1)
      refine lv_aload_n hx hb dX1_find_12 rfl (lv_at hl 0 rfl) ?_
      refine va_get (D := D) (ci := 1) (v := .ref (q 4)) (C := RX1) (T := TX1) (N := 7) hx hb hts in_X1_find_X1 hown hK hP 1 rfl rfl 0 (by decide) (hts _ fl_X1_find_9) (fun _ h9 => h9) rfl dX1_find_13 ?_
      refine lv_iload hx hb dX1_find_16 (lv_at hl 4 rfl) ?_
      have hi_2 : vp_in x4 80 := pz_inI h0 (pz_incf hc ‹¬ cnt ≤ x4›).2
      refine va_iald hx hb hK hP 4 0 rfl rfl hi_2 dX1_find_18 ?_
      refine lv_iload_n hx hb dX1_find_19 rfl (lv_at hl 1 rfl) ?_
      refine lv_icmp_ne (tgt := 48) hx hb dX1_find_20 (by decide) (fun c_3 => ?_) (fun c_3 => ?_)
      · have hF := hF.trans (if_neg c_3)
        refine lv_iinc (v := (x4 + 1)) (lv' := [(4, .int ((x4 + 1))), (0, .ref (q 1)), (1, .int (x1)), (2, .int (x2)), (3, .int (x3))]) hx hb dX1_find_48 hl (k := 4) rfl rfl (by decide) rfl (fun ls hl => ?_)
        refine lv_goto (tgt := 3) hx hb dX1_find_51 (by decide) ?_
        exact ih x1 x2 x3 (x4 + 1) (by have e := pz_incf hc ‹¬ cnt ≤ x4›; omega) (by have e := pz_incf hc ‹¬ cnt ≤ x4›; omega) (by have e := pz_incf hc ‹¬ cnt ≤ x4›; omega) hc _ _ _ hF hP hS (lv_sub hl [1, 2, 3, 4, 0] rfl)
      · have hF := hF.trans (if_pos c_3)
        refine lv_aload_n hx hb dX1_find_23 rfl (lv_at hl 0 rfl) ?_
        refine va_get (D := D) (ci := 1) (v := .ref (q 5)) (C := RX1) (T := TX1) (N := 7) hx hb hts in_X1_find_X1 hown hK hP 1 rfl rfl 1 (by decide) (hts _ fl_X1_find_15) (fun _ h9 => h9) rfl dX1_find_24 ?_
        refine lv_iload hx hb dX1_find_27 (lv_at hl 4 rfl) ?_
        have hi_4 : vp_in x4 80 := pz_inI h0 (pz_incf hc ‹¬ cnt ≤ x4›).2
        refine va_iald hx hb hK hP 5 0 rfl rfl hi_4 dX1_find_29 ?_
        refine lv_iload_n hx hb dX1_find_30 rfl (lv_at hl 2 rfl) ?_
        refine lv_icmp_ne (tgt := 48) hx hb dX1_find_31 (by decide) (fun c_5 => ?_) (fun c_5 => ?_)
        · have hF := hF.trans (if_neg c_5)
          refine lv_iinc (v := (x4 + 1)) (lv' := [(4, .int ((x4 + 1))), (0, .ref (q 1)), (1, .int (x1)), (2, .int (x2)), (3, .int (x3))]) hx hb dX1_find_48 hl (k := 4) rfl rfl (by decide) rfl (fun ls hl => ?_)
          refine lv_goto (tgt := 3) hx hb dX1_find_51 (by decide) ?_
          exact ih x1 x2 x3 (x4 + 1) (by have e := pz_incf hc ‹¬ cnt ≤ x4›; omega) (by have e := pz_incf hc ‹¬ cnt ≤ x4›; omega) (by have e := pz_incf hc ‹¬ cnt ≤ x4›; omega) hc _ _ _ hF hP hS (lv_sub hl [1, 2, 3, 4, 0] rfl)
        · have hF := hF.trans (if_pos c_5)
          refine lv_aload_n hx hb dX1_find_34 rfl (lv_at hl 0 rfl) ?_
          refine va_get (D := D) (ci := 1) (v := .ref (q 6)) (C := RX1) (T := TX1) (N := 7) hx hb hts in_X1_find_X1 hown hK hP 1 rfl rfl 2 (by decide) (hts _ fl_X1_find_18) (fun _ h9 => h9) rfl dX1_find_35 ?_
          refine lv_iload hx hb dX1_find_38 (lv_at hl 4 rfl) ?_
          have hi_6 : vp_in x4 80 := pz_inI h0 (pz_incf hc ‹¬ cnt ≤ x4›).2
          refine va_iald hx hb hK hP 6 0 rfl rfl hi_6 dX1_find_40 ?_
          refine lv_iload_n hx hb dX1_find_41 rfl (lv_at hl 3 rfl) ?_
          refine lv_icmp_ne (tgt := 48) hx hb dX1_find_42 (by decide) (fun c_7 => ?_) (fun c_7 => ?_)
          · have hF := hF.trans (if_neg c_7)
            refine lv_iinc (v := (x4 + 1)) (lv' := [(4, .int ((x4 + 1))), (0, .ref (q 1)), (1, .int (x1)), (2, .int (x2)), (3, .int (x3))]) hx hb dX1_find_48 hl (k := 4) rfl rfl (by decide) rfl (fun ls hl => ?_)
            refine lv_goto (tgt := 3) hx hb dX1_find_51 (by decide) ?_
            exact ih x1 x2 x3 (x4 + 1) (by have e := pz_incf hc ‹¬ cnt ≤ x4›; omega) (by have e := pz_incf hc ‹¬ cnt ≤ x4›; omega) (by have e := pz_incf hc ‹¬ cnt ≤ x4›; omega) hc _ _ _ hF hP hS (lv_sub hl [1, 2, 3, 4, 0] rfl)
          · have hF := hF.trans (if_pos c_7)
            refine lv_iload hx hb dX1_find_45 (lv_at hl 4 rfl) ?_
            exact W.iret (v := x4) hx hb hr (fun t ht hW => ⟨⟨x4, (), rfl, hF.symm, pz_hp ht hP⟩, hS.F ht⟩) hS.2.2 dX1_find_47 hlocks
set_option maxHeartbeats 4000000 in
set_option maxRecDepth 100000 in
theorem c_X1_find (l : Launch) (D : va_G) (q : Nat → Nat) (k : Nat → ClassId) (t : Nat → Nat) (cnt : Int32) (kinds : Nat → Int32) (firsts : Nat → Int32) (seconds : Nat → Int32) (heights : Nat → Int32) (tables : Nat → Int64) (replaced : Nat → Int32) (laid : Nat → Int32) (rules : Nat → Int32) (ps : Nat → Int32) (qs : Nat → Int32) (rs : Nat → Int32) (fs : Nat → Int32) (frules : Nat → Int32) (heads : Nat → Int32) (ends : Nat → Int32) (inforce : Nat → Int32) (usable : Nat → Int32) (summ : Nat → Int32) (x1 : Int32) (x2 : Int32) (x3 : Int32) (hc : pz_c cnt) : Met l yX1_find wsX1_find ({ frames := 0, cells := 0, slots := 0, locals := 0 }) (va_Pc [.ref (q 1), .int (x1), .int (x2), .int (x3)] (fun U => va_P D vwCl (pz_X q k cnt kinds firsts seconds heights tables replaced laid rules ps qs rs fs frules heads ends inforce usable summ) U.heap ∧ pz_KX D q k t U)) (va_Qi (fun r (_ : Unit) => r = (f_X1_find cnt kinds firsts seconds x1 x2 x3)) (fun _ t => va_P D vwCl (pz_X q k cnt kinds firsts seconds heights tables replaced laid rules ps qs rs fs frules heads ends inforce usable summ) t.heap) (pz_A 22 q)) 0 0 (pz_A 22 q) := by
  refine Met.ofW (cc := cX1_find) (maxL := 5) (ret := (some .int)) (by decide) rfl ?_
  intro p e s m args below meth c s₁ B hml hv
  obtain ⟨rfl, hP, hKX⟩ := hv
  have hx := B.exec
  have hb := B.bytes
  have hr := B.returns
  have hts := atoms_spec (ws := wsX1_find) B.pre
  have hown : s.vm.findClass RX1 = some m.cls := findClass_of_methodNamed B.named
  have hlocks := B.notSynchronized
  have hC : pz_C p s m ([.ref (q 1), .int (x1), .int (x2), .int (x3)] : List Value).toArray meth c cX1_find wsX1_find RX1 5 (some .int) := ⟨hx, hb, hml, hown, hts, hr, hlocks⟩
  have hK := hKX.1
  have hS : va_S (pz_A 22 q) s.heap s.heap [] := va_S.rf
  have hl := lv_entry [.ref (q 1), .int (x1), .int (x2), .int (x3)] (n := 5) (Nat.le_of_ble_eq_true rfl)
  rw [lg_entry_eq]
  generalize (lg_sl [.ref (q 1), .int (x1), .int (x2), .int (x3)] ++ List.replicate (5 - (lg_sl [.ref (q 1), .int (x1), .int (x2), .int (x3)]).length) Slot.unset).toArray = ls at hl ⊢
  have hl : lv_has ls 5 [(0, .ref (q 1)), (1, .int (x1)), (2, .int (x2)), (3, .int (x3))] := hl
  generalize hF : f_X1_find cnt kinds firsts seconds x1 x2 x3 = G
  replace hF := hF.symm
  unfold f_X1_find at hF
  refine lv_iconst (v := 0) hx hb dX1_find_0 (by decide) ?_
  refine lv_istore (lv' := [(4, .int (0)), (0, .ref (q 1)), (1, .int (x1)), (2, .int (x2)), (3, .int (x3))]) hx hb dX1_find_1 hl (by decide) rfl (fun ls hl => ?_)
  exact k_X1_find_3 hC hKX cnt kinds firsts seconds heights tables replaced laid rules ps qs rs fs frules heads ends inforce usable summ 81 x1 x2 x3 0 (by decide) (by decide) (by decide) hc _ _ _ hF hP hS (lv_sub hl [1, 2, 3, 4, 0] rfl)

-- == X1_tableFor
def f_X1_tableFor (cnt : Int32) (tables : Nat → Int64) (x1 : Int32) (x2 : Int32) (x3 : Int32) : Int64 := if x1 = 1 then (pz_bnd (f_X3_isLetter x2) (fun z_2 => if z_2 = 0 then (0) else ((pz_LB (x2).toNatClampNeg)))) else (if x1 = 2 then (pz_bnd (f_X1_tableOf cnt tables x2) (fun z_6 => pz_bnd (f_X1_tableOf cnt tables x3) (fun z_7 => (z_6 &&& z_7)))) else (if x1 = 3 then (pz_bnd (f_X1_tableOf cnt tables x2) (fun z_9 => pz_bnd (f_X1_tableOf cnt tables x3) (fun z_10 => (z_9 ||| z_10)))) else (if x1 = 4 then (pz_bnd (f_X1_tableOf cnt tables x2) (fun z_12 => pz_bnd (f_X1_tableOf cnt tables x3) (fun z_13 => ((z_12 ^^^ (-1)) ||| z_13)))) else (0))))
theorem fl_X1_tableFor_60 : Cond.fieldLink RX1 60 "BoxProofs$Formulas" "LETTER_TABLES" "[J" ∈ wsX1_tableFor := by decide +kernel
theorem hdS_X3_isLetter : yX3_isLetter.cls ≠ "java/lang/invoke/MethodHandle" ∧ yX3_isLetter.cls ≠ "java/lang/invoke/VarHandle" ∧ (parseMethodDescriptor yX3_isLetter.desc).map (fun d => d.parameters.length) = some 1 := by decide +kernel
theorem hdV_X1_tableOf : yX1_tableOf.cls = RX1 ∧ yX1_tableOf.cls ≠ "java/lang/invoke/MethodHandle" ∧ yX1_tableOf.cls ≠ "java/lang/invoke/VarHandle" ∧ (parseMethodDescriptor yX1_tableOf.desc).map (fun d => d.parameters.length) = some 1 := by decide +kernel
theorem mm_X1_tableFor_Cond_constantLong_RX1_67___1_ : Cond.constantLong RX1 67 (-1) ∈ wsX1_tableFor := by decide +kernel
theorem mm_X1_tableFor_Cond_initialized_RX3 : Cond.initialized RX3 ∈ wsX1_tableFor := by decide +kernel
theorem mm_X1_tableFor_Cond_static_yX3_isLetter : Cond.static yX3_isLetter ∈ wsX1_tableFor := by decide +kernel
set_option maxHeartbeats 4000000 in
set_option maxRecDepth 100000 in
theorem c_X1_tableFor (l : Launch) (D : va_G) (q : Nat → Nat) (k : Nat → ClassId) (t : Nat → Nat) (cnt : Int32) (kinds : Nat → Int32) (firsts : Nat → Int32) (seconds : Nat → Int32) (heights : Nat → Int32) (tables : Nat → Int64) (replaced : Nat → Int32) (laid : Nat → Int32) (rules : Nat → Int32) (ps : Nat → Int32) (qs : Nat → Int32) (rs : Nat → Int32) (fs : Nat → Int32) (frules : Nat → Int32) (heads : Nat → Int32) (ends : Nat → Int32) (inforce : Nat → Int32) (usable : Nat → Int32) (summ : Nat → Int32) (x1 : Int32) (x2 : Int32) (x3 : Int32) (hc : pz_c cnt) : Met l yX1_tableFor wsX1_tableFor ({ frames := 2, cells := 0, slots := 0, locals := 42 }) (va_Pc [.ref (q 1), .int (x1), .int (x2), .int (x3)] (fun U => va_P D vwCl (pz_X q k cnt kinds firsts seconds heights tables replaced laid rules ps qs rs fs frules heads ends inforce usable summ) U.heap ∧ pz_KX D q k t U)) (va_Ql (fun r (_ : Unit) => r = (f_X1_tableFor cnt tables x1 x2 x3)) (fun _ t => va_P D vwCl (pz_X q k cnt kinds firsts seconds heights tables replaced laid rules ps qs rs fs frules heads ends inforce usable summ) t.heap) (pz_A 22 q)) 0 0 (pz_A 22 q) := by
  refine Met.ofW (cc := cX1_tableFor) (maxL := 4) (ret := (some .long)) (by decide) rfl ?_
  intro p e s m args below meth c s₁ B hml hv
  obtain ⟨rfl, hP, hKX⟩ := hv
  have hx := B.exec
  have hb := B.bytes
  have hr := B.returns
  have hts := atoms_spec (ws := wsX1_tableFor) B.pre
  have hown : s.vm.findClass RX1 = some m.cls := findClass_of_methodNamed B.named
  have hlocks := B.notSynchronized
  have hC : pz_C p s m ([.ref (q 1), .int (x1), .int (x2), .int (x3)] : List Value).toArray meth c cX1_tableFor wsX1_tableFor RX1 4 (some .long) := ⟨hx, hb, hml, hown, hts, hr, hlocks⟩
  have hK := hKX.1
  have hS : va_S (pz_A 22 q) s.heap s.heap [] := va_S.rf
  have hl := lv_entry [.ref (q 1), .int (x1), .int (x2), .int (x3)] (n := 4) (Nat.le_of_ble_eq_true rfl)
  rw [lg_entry_eq]
  generalize (lg_sl [.ref (q 1), .int (x1), .int (x2), .int (x3)] ++ List.replicate (4 - (lg_sl [.ref (q 1), .int (x1), .int (x2), .int (x3)]).length) Slot.unset).toArray = ls at hl ⊢
  have hl : lv_has ls 4 [(0, .ref (q 1)), (1, .int (x1)), (2, .int (x2)), (3, .int (x3))] := hl
  generalize hF : f_X1_tableFor cnt tables x1 x2 x3 = G
  replace hF := hF.symm
  unfold f_X1_tableFor at hF
  refine lv_iload_n hx hb dX1_tableFor_0 rfl (lv_at hl 1 rfl) ?_
  refine pz_cases (P := x1 = 1) (fun c_1 => ?_) (fun c_1 => ?_)
  · have hF := hF.trans (if_pos c_1)
    refine pz_table (tgt := 32) (off := 31) hx hb dX1_tableFor_1 rfl (by rw [c_1]; rfl) (by decide) ?_
    refine lv_iload_n hx hb dX1_tableFor_32 rfl (lv_at hl 2 rfl) ?_
    refine pz_SNi (As := [.int (x2)]) (rest := []) ⟨hx, hb, hml, hown, hts⟩ (c_X3_isLetter l x2) ⟨va_cnB 1 hts gX1_tableFor_X3_isLetter_n57 rfl rfl rfl hKX.2.2.1 (hts _ mm_X1_tableFor_Cond_initialized_RX3) hdS_X3_isLetter ⟨Nat.le_of_ble_eq_true rfl, Nat.le_of_ble_eq_true rfl⟩, hts _ mm_X1_tableFor_Cond_static_yX3_isLetter, trivial⟩ hP hS rfl hl.1 rfl (Nat.le_of_ble_eq_true rfl) dX1_tableFor_33 ⟨Nat.zero_le _, Nat.zero_le _⟩ (fun r_2 H locs hF_2 hP hS => ?_)
    have hF := hF.trans (pz_be hF_2)
    refine lv_if_eq (tgt := 47) hx hb dX1_tableFor_36 (by decide) (fun c_3 => ?_) (fun c_3 => ?_)
    · have hF := hF.trans (if_pos c_3)
      refine lv_lconst (v := 0) hx hb dX1_tableFor_47 (by decide) ?_
      exact W.lret (v := 0) hx hb hr (fun t ht hW => ⟨⟨0, (), rfl, hF.symm, pz_hp ht hP⟩, hS.F ht⟩) hS.2.2 dX1_tableFor_48 hlocks
    · have hF := hF.trans (if_neg c_3)
      refine va_gets hx hb hKX.2.2.2.2.2.2.1 hS hown (hts _ fl_X1_tableFor_60) (fun _ h9 => h9) dX1_tableFor_39 ?_
      refine lv_iload_n hx hb dX1_tableFor_42 rfl (lv_at hl 2 rfl) ?_
      have hi_4 : vp_in x2 6 := by first | exact pz_letter ‹_› ‹_› | assumption
      refine va_tl hx hb hKX.2.2.2.2.2.2.2.1 hS hi_4 (v := .long (pz_LB (x2).toNatClampNeg)) rfl dX1_tableFor_43 ?_
      refine lv_goto (tgt := 48) hx hb dX1_tableFor_44 (by decide) ?_
      exact W.lret (v := (pz_LB (x2).toNatClampNeg)) hx hb hr (fun t ht hW => ⟨⟨(pz_LB (x2).toNatClampNeg), (), rfl, hF.symm, pz_hp ht hP⟩, hS.F ht⟩) hS.2.2 dX1_tableFor_48 hlocks
  · have hF := hF.trans (if_neg c_1)
    refine pz_cases (P := x1 = 2) (fun c_5 => ?_) (fun c_5 => ?_)
    · have hF := hF.trans (if_pos c_5)
      refine pz_table (tgt := 49) (off := 48) hx hb dX1_tableFor_1 rfl (by rw [c_5]; rfl) (by decide) ?_
      refine lv_aload_n hx hb dX1_tableFor_49 rfl (lv_at hl 0 rfl) ?_
      refine lv_iload_n hx hb dX1_tableFor_50 rfl (lv_at hl 2 rfl) ?_
      refine pz_Vl (As := [.int (x2)]) (rest := []) ⟨hx, hb, hml, hown, hts⟩ (c_X1_tableOf l D q k t cnt kinds firsts seconds heights tables replaced laid rules ps qs rs fs frules heads ends inforce usable summ x2 hc) (cwV 1 hts gX1_tableFor_X1_tableOf rfl rfl rfl hdV_X1_tableOf ⟨Nat.le_of_ble_eq_true rfl, Nat.le_of_ble_eq_true rfl⟩) pz_KX.call (hKX.go hS) (va_recv hK hP (ci := 1) (q0 := 1) rfl rfl) hP hS rfl hl.1 rfl (Nat.le_of_ble_eq_true rfl) dX1_tableFor_51 ⟨Nat.zero_le _, Nat.zero_le _⟩ (fun r_6 u_6 H locs hF_6 hP hS => ?_)
      have hF := hF.trans (pz_be hF_6)
      refine lv_aload_n hx hb dX1_tableFor_54 rfl (lv_at hl 0 rfl) ?_
      refine lv_iload_n hx hb dX1_tableFor_55 rfl (lv_at hl 3 rfl) ?_
      refine pz_Vl (As := [.int (x3)]) (rest := [.long (r_6)]) ⟨hx, hb, hml, hown, hts⟩ (c_X1_tableOf l D q k t cnt kinds firsts seconds heights tables replaced laid rules ps qs rs fs frules heads ends inforce usable summ x3 hc) (cwV 1 hts gX1_tableFor_X1_tableOf rfl rfl rfl hdV_X1_tableOf ⟨Nat.le_of_ble_eq_true rfl, Nat.le_of_ble_eq_true rfl⟩) pz_KX.call (hKX.go hS) (va_recv hK hP (ci := 1) (q0 := 1) rfl rfl) hP hS rfl hl.1 rfl (Nat.le_of_ble_eq_true rfl) dX1_tableFor_56 ⟨Nat.zero_le _, Nat.zero_le _⟩ (fun r_7 u_7 H locs hF_7 hP hS => ?_)
      have hF := hF.trans (pz_be hF_7)
      refine lv_land hx hb dX1_tableFor_59 ?_
      exact W.lret (v := (r_6 &&& r_7)) hx hb hr (fun t ht hW => ⟨⟨(r_6 &&& r_7), (), rfl, hF.symm, pz_hp ht hP⟩, hS.F ht⟩) hS.2.2 dX1_tableFor_60 hlocks
    · have hF := hF.trans (if_neg c_5)
      refine pz_cases (P := x1 = 3) (fun c_8 => ?_) (fun c_8 => ?_)
      · have hF := hF.trans (if_pos c_8)
        refine pz_table (tgt := 61) (off := 60) hx hb dX1_tableFor_1 rfl (by rw [c_8]; rfl) (by decide) ?_
        refine lv_aload_n hx hb dX1_tableFor_61 rfl (lv_at hl 0 rfl) ?_
        refine lv_iload_n hx hb dX1_tableFor_62 rfl (lv_at hl 2 rfl) ?_
        refine pz_Vl (As := [.int (x2)]) (rest := []) ⟨hx, hb, hml, hown, hts⟩ (c_X1_tableOf l D q k t cnt kinds firsts seconds heights tables replaced laid rules ps qs rs fs frules heads ends inforce usable summ x2 hc) (cwV 1 hts gX1_tableFor_X1_tableOf rfl rfl rfl hdV_X1_tableOf ⟨Nat.le_of_ble_eq_true rfl, Nat.le_of_ble_eq_true rfl⟩) pz_KX.call (hKX.go hS) (va_recv hK hP (ci := 1) (q0 := 1) rfl rfl) hP hS rfl hl.1 rfl (Nat.le_of_ble_eq_true rfl) dX1_tableFor_63 ⟨Nat.zero_le _, Nat.zero_le _⟩ (fun r_9 u_9 H locs hF_9 hP hS => ?_)
        have hF := hF.trans (pz_be hF_9)
        refine lv_aload_n hx hb dX1_tableFor_66 rfl (lv_at hl 0 rfl) ?_
        refine lv_iload_n hx hb dX1_tableFor_67 rfl (lv_at hl 3 rfl) ?_
        refine pz_Vl (As := [.int (x3)]) (rest := [.long (r_9)]) ⟨hx, hb, hml, hown, hts⟩ (c_X1_tableOf l D q k t cnt kinds firsts seconds heights tables replaced laid rules ps qs rs fs frules heads ends inforce usable summ x3 hc) (cwV 1 hts gX1_tableFor_X1_tableOf rfl rfl rfl hdV_X1_tableOf ⟨Nat.le_of_ble_eq_true rfl, Nat.le_of_ble_eq_true rfl⟩) pz_KX.call (hKX.go hS) (va_recv hK hP (ci := 1) (q0 := 1) rfl rfl) hP hS rfl hl.1 rfl (Nat.le_of_ble_eq_true rfl) dX1_tableFor_68 ⟨Nat.zero_le _, Nat.zero_le _⟩ (fun r_10 u_10 H locs hF_10 hP hS => ?_)
        have hF := hF.trans (pz_be hF_10)
        refine lv_lor hx hb dX1_tableFor_71 ?_
        exact W.lret (v := (r_9 ||| r_10)) hx hb hr (fun t ht hW => ⟨⟨(r_9 ||| r_10), (), rfl, hF.symm, pz_hp ht hP⟩, hS.F ht⟩) hS.2.2 dX1_tableFor_72 hlocks
      · have hF := hF.trans (if_neg c_8)
        refine pz_cases (P := x1 = 4) (fun c_11 => ?_) (fun c_11 => ?_)
        · have hF := hF.trans (if_pos c_11)
          refine pz_table (tgt := 73) (off := 72) hx hb dX1_tableFor_1 rfl (by rw [c_11]; rfl) (by decide) ?_
          refine lv_aload_n hx hb dX1_tableFor_73 rfl (lv_at hl 0 rfl) ?_
          refine lv_iload_n hx hb dX1_tableFor_74 rfl (lv_at hl 2 rfl) ?_
          refine pz_Vl (As := [.int (x2)]) (rest := []) ⟨hx, hb, hml, hown, hts⟩ (c_X1_tableOf l D q k t cnt kinds firsts seconds heights tables replaced laid rules ps qs rs fs frules heads ends inforce usable summ x2 hc) (cwV 1 hts gX1_tableFor_X1_tableOf rfl rfl rfl hdV_X1_tableOf ⟨Nat.le_of_ble_eq_true rfl, Nat.le_of_ble_eq_true rfl⟩) pz_KX.call (hKX.go hS) (va_recv hK hP (ci := 1) (q0 := 1) rfl rfl) hP hS rfl hl.1 rfl (Nat.le_of_ble_eq_true rfl) dX1_tableFor_75 ⟨Nat.zero_le _, Nat.zero_le _⟩ (fun r_12 u_12 H locs hF_12 hP hS => ?_)
          have hF := hF.trans (pz_be hF_12)
          refine lv_ldc2 hx hb hown (hts _ mm_X1_tableFor_Cond_constantLong_RX1_67___1_) dX1_tableFor_78 ?_
          refine lv_lxor hx hb dX1_tableFor_81 ?_
          refine lv_aload_n hx hb dX1_tableFor_82 rfl (lv_at hl 0 rfl) ?_
          refine lv_iload_n hx hb dX1_tableFor_83 rfl (lv_at hl 3 rfl) ?_
          refine pz_Vl (As := [.int (x3)]) (rest := [.long ((r_12 ^^^ (-1)))]) ⟨hx, hb, hml, hown, hts⟩ (c_X1_tableOf l D q k t cnt kinds firsts seconds heights tables replaced laid rules ps qs rs fs frules heads ends inforce usable summ x3 hc) (cwV 1 hts gX1_tableFor_X1_tableOf rfl rfl rfl hdV_X1_tableOf ⟨Nat.le_of_ble_eq_true rfl, Nat.le_of_ble_eq_true rfl⟩) pz_KX.call (hKX.go hS) (va_recv hK hP (ci := 1) (q0 := 1) rfl rfl) hP hS rfl hl.1 rfl (Nat.le_of_ble_eq_true rfl) dX1_tableFor_84 ⟨Nat.zero_le _, Nat.zero_le _⟩ (fun r_13 u_13 H locs hF_13 hP hS => ?_)
          have hF := hF.trans (pz_be hF_13)
          refine lv_lor hx hb dX1_tableFor_87 ?_
          exact W.lret (v := ((r_12 ^^^ (-1)) ||| r_13)) hx hb hr (fun t ht hW => ⟨⟨((r_12 ^^^ (-1)) ||| r_13), (), rfl, hF.symm, pz_hp ht hP⟩, hS.F ht⟩) hS.2.2 dX1_tableFor_88 hlocks
        · have hF := hF.trans (if_neg c_11)
          have ho : pz_off (88) (1) (4) #[31, 48, 60, 72] x1 = 88 := by
            unfold pz_off
            split
            · rfl
            · have hz : (x1).toInt = 1 ∨ (x1).toInt = 2 ∨ (x1).toInt = 3 ∨ (x1).toInt = 4 := by omega
              rcases hz with hz | hz | hz | hz
              · exact absurd (Int32.toInt_inj.mp (hz.trans (show (1 : Int) = (1 : Int32).toInt from rfl))) c_1
              · exact absurd (Int32.toInt_inj.mp (hz.trans (show (2 : Int) = (2 : Int32).toInt from rfl))) c_5
              · exact absurd (Int32.toInt_inj.mp (hz.trans (show (3 : Int) = (3 : Int32).toInt from rfl))) c_8
              · exact absurd (Int32.toInt_inj.mp (hz.trans (show (4 : Int) = (4 : Int32).toInt from rfl))) c_11
          refine pz_table (tgt := 89) hx hb dX1_tableFor_1 rfl ho (by decide) ?_
          refine lv_lconst (v := 0) hx hb dX1_tableFor_89 (by decide) ?_
          exact W.lret (v := 0) hx hb hr (fun t ht hW => ⟨⟨0, (), rfl, hF.symm, pz_hp ht hP⟩, hS.F ht⟩) hS.2.2 dX1_tableFor_90 hlocks

-- == X1_make
def F_X1_make_44 (cnt : Int32) (kinds : Nat → Int32) (firsts : Nat → Int32) (seconds : Nat → Int32) (heights : Nat → Int32) (tables : Nat → Int64) (x1 : Int32) (x2 : Int32) (x3 : Int32) (x4 : Int32) (x5 : Int32) : Int32 × (Int32) × (Nat → Int32) × (Nat → Int32) × (Nat → Int32) × (Nat → Int32) × (Nat → Int64) := if 80 ≤ cnt then (((-4), cnt, kinds, firsts, seconds, heights, tables)) else (if x5 ≤ 12 then (pz_bnd (f_X1_tableFor cnt tables x1 x2 x3) (fun z_7 => (((cnt + 1) - 1), (cnt + 1), (upd kinds (cnt).toNatClampNeg x1), (upd firsts (cnt).toNatClampNeg x2), (upd seconds (cnt).toNatClampNeg x3), (upd heights (cnt).toNatClampNeg x5), (vp_updL tables (cnt).toNatClampNeg z_7)))) else (((-4), cnt, kinds, firsts, seconds, heights, tables)))
def f_X1_make (cnt : Int32) (kinds : Nat → Int32) (firsts : Nat → Int32) (seconds : Nat → Int32) (heights : Nat → Int32) (tables : Nat → Int64) (x1 : Int32) (x2 : Int32) (x3 : Int32) : Int32 × (Int32) × (Nat → Int32) × (Nat → Int32) × (Nat → Int32) × (Nat → Int32) × (Nat → Int64) := pz_bnd (f_X1_find cnt kinds firsts seconds x1 x2 x3) (fun z_9 => if z_9 = (-1) then (if 2 ≤ x1 then (pz_bnd (f_X1_heightOf cnt heights x2) (fun z_12 => pz_bnd (f_X1_heightOf cnt heights x3) (fun z_13 => F_X1_make_44 cnt kinds firsts seconds heights tables x1 x2 x3 z_9 (1 + (if z_12 < z_13 then z_13 else z_12))))) else (F_X1_make_44 cnt kinds firsts seconds heights tables x1 x2 x3 z_9 1)) else ((z_9, cnt, kinds, firsts, seconds, heights, tables)))
theorem fl_X1_make_15 : Cond.fieldLink RX1 15 "BoxProofs$Formulas" "firsts" "[I" ∈ wsX1_make := by decide +kernel
theorem fl_X1_make_18 : Cond.fieldLink RX1 18 "BoxProofs$Formulas" "seconds" "[I" ∈ wsX1_make := by decide +kernel
theorem fl_X1_make_21 : Cond.fieldLink RX1 21 "BoxProofs$Formulas" "heights" "[I" ∈ wsX1_make := by decide +kernel
theorem fl_X1_make_24 : Cond.fieldLink RX1 24 "BoxProofs$Formulas" "tables" "[J" ∈ wsX1_make := by decide +kernel
theorem fl_X1_make_31 : Cond.fieldLink RX1 31 "BoxProofs$Formulas" "count" "I" ∈ wsX1_make := by decide +kernel
theorem fl_X1_make_9 : Cond.fieldLink RX1 9 "BoxProofs$Formulas" "kinds" "[I" ∈ wsX1_make := by decide +kernel
theorem hdV_X1_find : yX1_find.cls = RX1 ∧ yX1_find.cls ≠ "java/lang/invoke/MethodHandle" ∧ yX1_find.cls ≠ "java/lang/invoke/VarHandle" ∧ (parseMethodDescriptor yX1_find.desc).map (fun d => d.parameters.length) = some 3 := by decide +kernel
theorem hdV_X1_heightOf : yX1_heightOf.cls = RX1 ∧ yX1_heightOf.cls ≠ "java/lang/invoke/MethodHandle" ∧ yX1_heightOf.cls ≠ "java/lang/invoke/VarHandle" ∧ (parseMethodDescriptor yX1_heightOf.desc).map (fun d => d.parameters.length) = some 1 := by decide +kernel
theorem hdV_X1_tableFor : yX1_tableFor.cls = RX1 ∧ yX1_tableFor.cls ≠ "java/lang/invoke/MethodHandle" ∧ yX1_tableFor.cls ≠ "java/lang/invoke/VarHandle" ∧ (parseMethodDescriptor yX1_tableFor.desc).map (fun d => d.parameters.length) = some 3 := by decide +kernel
theorem in_X1_make_X1 : ∀ w ∈ wsX10, w ∈ wsX1_make := by decide +kernel
theorem mm_X1_make_Cond_code_Lib_Math_max_name_Lib_Math_max_code_2__some__int_ : Cond.code Lib.Math.max.name Lib.Math.max.code 2 (some .int) ∈ wsX1_make := by decide +kernel
theorem mm_X1_make_Cond_initialized__java_lang_Math_ : Cond.initialized "java/lang/Math" ∈ wsX1_make := by decide +kernel
theorem mm_X1_make_Cond_methodLink_RX1_47_Lib_Math_max_name : Cond.methodLink RX1 47 Lib.Math.max.name ∈ wsX1_make := by decide +kernel
theorem mm_X1_make_Cond_static_Lib_Math_max_name : Cond.static Lib.Math.max.name ∈ wsX1_make := by decide +kernel
set_option maxHeartbeats 4000000 in
set_option maxRecDepth 100000 in
theorem k_X1_make_44 {p : Program} {l : Launch} {e : Env} {s : State} {m : MethodId} {args : Array Value} {below : List Frame} {meth : Method} {c : Code} {D : va_G} {q : Nat → Nat} {k : Nat → ClassId} {t : Nat → Nat} (hC : pz_C p s m args meth c cX1_make wsX1_make RX1 6 (some .int)) (hKX : pz_KX D q k t s) (replaced : Nat → Int32) (laid : Nat → Int32) (rules : Nat → Int32) (ps : Nat → Int32) (qs : Nat → Int32) (rs : Nat → Int32) (fs : Nat → Int32) (frules : Nat → Int32) (heads : Nat → Int32) (ends : Nat → Int32) (inforce : Nat → Int32) (usable : Nat → Int32) (summ : Nat → Int32) {G : Int32 × (Int32) × (Nat → Int32) × (Nat → Int32) × (Nat → Int32) × (Nat → Int32) × (Nat → Int64)} :
    ∀ (cnt : Int32) (kinds : Nat → Int32) (firsts : Nat → Int32) (seconds : Nat → Int32) (heights : Nat → Int32) (tables : Nat → Int64) (x1 : Int32) (x2 : Int32) (x3 : Int32) (x4 : Int32) (x5 : Int32)  (hc : pz_c cnt) (H : Heap) (locs : List Loc) (ls : Array Slot), G = F_X1_make_44 cnt kinds firsts seconds heights tables x1 x2 x3 x4 x5 → va_P D vwCl (pz_X q k cnt kinds firsts seconds heights tables replaced laid rules ps qs rs fs frules heads ends inforce usable summ) H → va_S (pz_A 22 q) s.heap H locs → lv_has ls 6 [(0, .ref (q 1)), (1, .int (x1)), (2, .int (x2)), (3, .int (x3)), (4, .int (x4)), (5, .int (x5))] → W p l e (headSpec wsX1_make { frames := 3, cells := 0, slots := 0, locals := 65 }).room s m args below meth c H locs 0 0 (MQ below (va_Qi (fun r (u : (Int32) × (Nat → Int32) × (Nat → Int32) × (Nat → Int32) × (Nat → Int32) × (Nat → Int64)) => (r, u) = G) (fun u t => va_P D vwCl (pz_X q k u.1 u.2.1 u.2.2.1 u.2.2.2.1 u.2.2.2.2.1 u.2.2.2.2.2 replaced laid rules ps qs rs fs frules heads ends inforce usable summ) t.heap) (pz_A 22 q)) args s 0 0 (pz_A 22 q)) (F0 m 44 ls []) := by
  obtain ⟨hx, hb, hml, hown, hts, hr, hlocks⟩ := hC
  have hC : pz_C p s m args meth c cX1_make wsX1_make RX1 6 (some .int) := ⟨hx, hb, hml, hown, hts, hr, hlocks⟩
  have hK := hKX.1
  intro cnt kinds firsts seconds heights tables x1 x2 x3 x4 x5 hc H locs ls hF hP hS hl
  unfold F_X1_make_44 at hF
  refine lv_aload_n hx hb dX1_make_44 rfl (lv_at hl 0 rfl) ?_
  refine va_get (D := D) (ci := 1) (v := .int (cnt)) (C := RX1) (T := TX1) (N := 7) hx hb hts in_X1_make_X1 hown hK hP 1 rfl rfl 6 (by decide) (hts _ fl_X1_make_31) (fun _ h9 => h9) rfl dX1_make_45 ?_
  refine lv_bipush (v := 80) hx hb dX1_make_48 (by decide) ?_
  refine lv_icmp_ge (tgt := 60) hx hb dX1_make_50 (by decide) (fun c_1 => ?_) (fun c_1 => ?_)
  · have hF := hF.trans (if_pos c_1)
    refine lv_bipush (v := (-4)) hx hb dX1_make_60 (by decide) ?_
    exact W.iret (v := (-4)) hx hb hr (fun t ht hW => ⟨⟨(-4), (cnt, kinds, firsts, seconds, heights, tables), rfl, hF.symm, pz_hp ht hP⟩, hS.F ht⟩) hS.2.2 dX1_make_62 hlocks
  · have hF := hF.trans (if_neg c_1)
    refine lv_iload hx hb dX1_make_53 (lv_at hl 5 rfl) ?_
    refine lv_bipush (v := 12) hx hb dX1_make_55 (by decide) ?_
    refine lv_icmp_le (tgt := 63) hx hb dX1_make_57 (by decide) (fun c_2 => ?_) (fun c_2 => ?_)
    · have hF := hF.trans (if_pos c_2)
      refine lv_aload_n hx hb dX1_make_63 rfl (lv_at hl 0 rfl) ?_
      refine va_get (D := D) (ci := 1) (v := .ref (q 4)) (C := RX1) (T := TX1) (N := 7) hx hb hts in_X1_make_X1 hown hK hP 1 rfl rfl 0 (by decide) (hts _ fl_X1_make_9) (fun _ h9 => h9) rfl dX1_make_64 ?_
      refine lv_aload_n hx hb dX1_make_67 rfl (lv_at hl 0 rfl) ?_
      refine va_get (D := D) (ci := 1) (v := .int (cnt)) (C := RX1) (T := TX1) (N := 7) hx hb hts in_X1_make_X1 hown hK hP 1 rfl rfl 6 (by decide) (hts _ fl_X1_make_31) (fun _ h9 => h9) rfl dX1_make_68 ?_
      refine lv_iload_n hx hb dX1_make_71 rfl (lv_at hl 1 rfl) ?_
      have hi_3 : vp_in cnt 80 := pz_cin hc ‹_›
      refine va_iast hx hb hK hP (pz_D hKX.2.2.2.2.2.2.2.2 rfl) hS 4 0 rfl rfl hi_3 dX1_make_72 (fun H locs hP _ hS => ?_)
      have hP : va_P D vwCl (pz_X q k cnt (upd kinds (cnt).toNatClampNeg x1) firsts seconds heights tables replaced laid rules ps qs rs fs frules heads ends inforce usable summ) H := hP
      refine lv_aload_n hx hb dX1_make_73 rfl (lv_at hl 0 rfl) ?_
      refine va_get (D := D) (ci := 1) (v := .ref (q 5)) (C := RX1) (T := TX1) (N := 7) hx hb hts in_X1_make_X1 hown hK hP 1 rfl rfl 1 (by decide) (hts _ fl_X1_make_15) (fun _ h9 => h9) rfl dX1_make_74 ?_
      refine lv_aload_n hx hb dX1_make_77 rfl (lv_at hl 0 rfl) ?_
      refine va_get (D := D) (ci := 1) (v := .int (cnt)) (C := RX1) (T := TX1) (N := 7) hx hb hts in_X1_make_X1 hown hK hP 1 rfl rfl 6 (by decide) (hts _ fl_X1_make_31) (fun _ h9 => h9) rfl dX1_make_78 ?_
      refine lv_iload_n hx hb dX1_make_81 rfl (lv_at hl 2 rfl) ?_
      have hi_4 : vp_in cnt 80 := pz_cin hc ‹_›
      refine va_iast hx hb hK hP (pz_D hKX.2.2.2.2.2.2.2.2 rfl) hS 5 0 rfl rfl hi_4 dX1_make_82 (fun H locs hP _ hS => ?_)
      have hP : va_P D vwCl (pz_X q k cnt (upd kinds (cnt).toNatClampNeg x1) (upd firsts (cnt).toNatClampNeg x2) seconds heights tables replaced laid rules ps qs rs fs frules heads ends inforce usable summ) H := hP
      refine lv_aload_n hx hb dX1_make_83 rfl (lv_at hl 0 rfl) ?_
      refine va_get (D := D) (ci := 1) (v := .ref (q 6)) (C := RX1) (T := TX1) (N := 7) hx hb hts in_X1_make_X1 hown hK hP 1 rfl rfl 2 (by decide) (hts _ fl_X1_make_18) (fun _ h9 => h9) rfl dX1_make_84 ?_
      refine lv_aload_n hx hb dX1_make_87 rfl (lv_at hl 0 rfl) ?_
      refine va_get (D := D) (ci := 1) (v := .int (cnt)) (C := RX1) (T := TX1) (N := 7) hx hb hts in_X1_make_X1 hown hK hP 1 rfl rfl 6 (by decide) (hts _ fl_X1_make_31) (fun _ h9 => h9) rfl dX1_make_88 ?_
      refine lv_iload_n hx hb dX1_make_91 rfl (lv_at hl 3 rfl) ?_
      have hi_5 : vp_in cnt 80 := pz_cin hc ‹_›
      refine va_iast hx hb hK hP (pz_D hKX.2.2.2.2.2.2.2.2 rfl) hS 6 0 rfl rfl hi_5 dX1_make_92 (fun H locs hP _ hS => ?_)
      have hP : va_P D vwCl (pz_X q k cnt (upd kinds (cnt).toNatClampNeg x1) (upd firsts (cnt).toNatClampNeg x2) (upd seconds (cnt).toNatClampNeg x3) heights tables replaced laid rules ps qs rs fs frules heads ends inforce usable summ) H := hP
      refine lv_aload_n hx hb dX1_make_93 rfl (lv_at hl 0 rfl) ?_
      refine va_get (D := D) (ci := 1) (v := .ref (q 7)) (C := RX1) (T := TX1) (N := 7) hx hb hts in_X1_make_X1 hown hK hP 1 rfl rfl 3 (by decide) (hts _ fl_X1_make_21) (fun _ h9 => h9) rfl dX1_make_94 ?_
      refine lv_aload_n hx hb dX1_make_97 rfl (lv_at hl 0 rfl) ?_
      refine va_get (D := D) (ci := 1) (v := .int (cnt)) (C := RX1) (T := TX1) (N := 7) hx hb hts in_X1_make_X1 hown hK hP 1 rfl rfl 6 (by decide) (hts _ fl_X1_make_31) (fun _ h9 => h9) rfl dX1_make_98 ?_
      refine lv_iload hx hb dX1_make_101 (lv_at hl 5 rfl) ?_
      have hi_6 : vp_in cnt 80 := pz_cin hc ‹_›
      refine va_iast hx hb hK hP (pz_D hKX.2.2.2.2.2.2.2.2 rfl) hS 7 0 rfl rfl hi_6 dX1_make_103 (fun H locs hP _ hS => ?_)
      have hP : va_P D vwCl (pz_X q k cnt (upd kinds (cnt).toNatClampNeg x1) (upd firsts (cnt).toNatClampNeg x2) (upd seconds (cnt).toNatClampNeg x3) (upd heights (cnt).toNatClampNeg x5) tables replaced laid rules ps qs rs fs frules heads ends inforce usable summ) H := hP
      refine lv_aload_n hx hb dX1_make_104 rfl (lv_at hl 0 rfl) ?_
      refine va_get (D := D) (ci := 1) (v := .ref (q 8)) (C := RX1) (T := TX1) (N := 7) hx hb hts in_X1_make_X1 hown hK hP 1 rfl rfl 4 (by decide) (hts _ fl_X1_make_24) (fun _ h9 => h9) rfl dX1_make_105 ?_
      refine lv_aload_n hx hb dX1_make_108 rfl (lv_at hl 0 rfl) ?_
      refine va_get (D := D) (ci := 1) (v := .int (cnt)) (C := RX1) (T := TX1) (N := 7) hx hb hts in_X1_make_X1 hown hK hP 1 rfl rfl 6 (by decide) (hts _ fl_X1_make_31) (fun _ h9 => h9) rfl dX1_make_109 ?_
      refine lv_aload_n hx hb dX1_make_112 rfl (lv_at hl 0 rfl) ?_
      refine lv_iload_n hx hb dX1_make_113 rfl (lv_at hl 1 rfl) ?_
      refine lv_iload_n hx hb dX1_make_114 rfl (lv_at hl 2 rfl) ?_
      refine lv_iload_n hx hb dX1_make_115 rfl (lv_at hl 3 rfl) ?_
      refine pz_Vl (As := [.int (x1), .int (x2), .int (x3)]) (rest := [.int (cnt), .ref (q 8)]) ⟨hx, hb, hml, hown, hts⟩ (c_X1_tableFor l D q k t cnt (upd kinds (cnt).toNatClampNeg x1) (upd firsts (cnt).toNatClampNeg x2) (upd seconds (cnt).toNatClampNeg x3) (upd heights (cnt).toNatClampNeg x5) tables replaced laid rules ps qs rs fs frules heads ends inforce usable summ x1 x2 x3 hc) (cwV 3 hts gX1_make_X1_tableFor rfl rfl rfl hdV_X1_tableFor ⟨Nat.le_of_ble_eq_true rfl, Nat.le_of_ble_eq_true rfl⟩) pz_KX.call (hKX.go hS) (va_recv hK hP (ci := 1) (q0 := 1) rfl rfl) hP hS rfl hl.1 rfl (Nat.le_of_ble_eq_true rfl) dX1_make_116 ⟨Nat.zero_le _, Nat.zero_le _⟩ (fun r_7 u_7 H locs hF_7 hP hS => ?_)
      have hF := hF.trans (pz_be hF_7)
      have hi_8 : vp_in cnt 80 := pz_cin hc ‹_›
      refine va_last hx hb hK hP (pz_D hKX.2.2.2.2.2.2.2.2 rfl) hS 8 1 rfl rfl hi_8 dX1_make_119 (fun H locs hP _ hS => ?_)
      have hP : va_P D vwCl (pz_X q k cnt (upd kinds (cnt).toNatClampNeg x1) (upd firsts (cnt).toNatClampNeg x2) (upd seconds (cnt).toNatClampNeg x3) (upd heights (cnt).toNatClampNeg x5) (vp_updL tables (cnt).toNatClampNeg r_7) replaced laid rules ps qs rs fs frules heads ends inforce usable summ) H := hP
      refine lv_aload_n hx hb dX1_make_120 rfl (lv_at hl 0 rfl) ?_
      refine lv_dup hx hb dX1_make_121 rfl ?_
      refine va_get (D := D) (ci := 1) (v := .int (cnt)) (C := RX1) (T := TX1) (N := 7) hx hb hts in_X1_make_X1 hown hK hP 1 rfl rfl 6 (by decide) (hts _ fl_X1_make_31) (fun _ h9 => h9) rfl dX1_make_122 ?_
      refine lv_iconst (v := 1) hx hb dX1_make_125 (by decide) ?_
      refine lv_iadd hx hb dX1_make_126 ?_
      refine va_put (D := D) (ci := 1) (v := .int ((cnt + 1))) (ty := .int) (C := RX1) (T := TX1) (N := 7) hx hb hts in_X1_make_X1 tyX1 tyX1_ok nmX1 hown hK hP (pz_D hKX.2.2.2.2.2.2.2.2 rfl) hS 1 rfl rfl 6 (by decide) (hts _ fl_X1_make_31) (fun _ h9 => h9) rfl (by decide +kernel) rfl rfl (Nat.le_of_ble_eq_true rfl) dX1_make_127 (fun H locs hP _ hS => ?_)
      have hP : va_P D vwCl (pz_X q k (cnt + 1) (upd kinds (cnt).toNatClampNeg x1) (upd firsts (cnt).toNatClampNeg x2) (upd seconds (cnt).toNatClampNeg x3) (upd heights (cnt).toNatClampNeg x5) (vp_updL tables (cnt).toNatClampNeg r_7) replaced laid rules ps qs rs fs frules heads ends inforce usable summ) H := hP
      refine lv_aload_n hx hb dX1_make_130 rfl (lv_at hl 0 rfl) ?_
      refine va_get (D := D) (ci := 1) (v := .int ((cnt + 1))) (C := RX1) (T := TX1) (N := 7) hx hb hts in_X1_make_X1 hown hK hP 1 rfl rfl 6 (by decide) (hts _ fl_X1_make_31) (fun _ h9 => h9) rfl dX1_make_131 ?_
      refine lv_iconst (v := 1) hx hb dX1_make_134 (by decide) ?_
      refine lv_isub hx hb dX1_make_135 ?_
      exact W.iret (v := ((cnt + 1) - 1)) hx hb hr (fun t ht hW => ⟨⟨((cnt + 1) - 1), ((cnt + 1), (upd kinds (cnt).toNatClampNeg x1), (upd firsts (cnt).toNatClampNeg x2), (upd seconds (cnt).toNatClampNeg x3), (upd heights (cnt).toNatClampNeg x5), (vp_updL tables (cnt).toNatClampNeg r_7)), rfl, hF.symm, pz_hp ht hP⟩, hS.F ht⟩) hS.2.2 dX1_make_136 hlocks
    · have hF := hF.trans (if_neg c_2)
      refine lv_bipush (v := (-4)) hx hb dX1_make_60 (by decide) ?_
      exact W.iret (v := (-4)) hx hb hr (fun t ht hW => ⟨⟨(-4), (cnt, kinds, firsts, seconds, heights, tables), rfl, hF.symm, pz_hp ht hP⟩, hS.F ht⟩) hS.2.2 dX1_make_62 hlocks
set_option maxHeartbeats 4000000 in
set_option maxRecDepth 100000 in
theorem c_X1_make (l : Launch) (D : va_G) (q : Nat → Nat) (k : Nat → ClassId) (t : Nat → Nat) (cnt : Int32) (kinds : Nat → Int32) (firsts : Nat → Int32) (seconds : Nat → Int32) (heights : Nat → Int32) (tables : Nat → Int64) (replaced : Nat → Int32) (laid : Nat → Int32) (rules : Nat → Int32) (ps : Nat → Int32) (qs : Nat → Int32) (rs : Nat → Int32) (fs : Nat → Int32) (frules : Nat → Int32) (heads : Nat → Int32) (ends : Nat → Int32) (inforce : Nat → Int32) (usable : Nat → Int32) (summ : Nat → Int32) (x1 : Int32) (x2 : Int32) (x3 : Int32) (hc : pz_c cnt) : Met l yX1_make wsX1_make ({ frames := 3, cells := 0, slots := 0, locals := 65 }) (va_Pc [.ref (q 1), .int (x1), .int (x2), .int (x3)] (fun U => va_P D vwCl (pz_X q k cnt kinds firsts seconds heights tables replaced laid rules ps qs rs fs frules heads ends inforce usable summ) U.heap ∧ pz_KX D q k t U)) (va_Qi (fun r (u : (Int32) × (Nat → Int32) × (Nat → Int32) × (Nat → Int32) × (Nat → Int32) × (Nat → Int64)) => (r, u) = (f_X1_make cnt kinds firsts seconds heights tables x1 x2 x3)) (fun u t => va_P D vwCl (pz_X q k u.1 u.2.1 u.2.2.1 u.2.2.2.1 u.2.2.2.2.1 u.2.2.2.2.2 replaced laid rules ps qs rs fs frules heads ends inforce usable summ) t.heap) (pz_A 22 q)) 0 0 (pz_A 22 q) := by
  refine Met.ofW (cc := cX1_make) (maxL := 6) (ret := (some .int)) (by decide) rfl ?_
  intro p e s m args below meth c s₁ B hml hv
  obtain ⟨rfl, hP, hKX⟩ := hv
  have hx := B.exec
  have hb := B.bytes
  have hr := B.returns
  have hts := atoms_spec (ws := wsX1_make) B.pre
  have hown : s.vm.findClass RX1 = some m.cls := findClass_of_methodNamed B.named
  have hlocks := B.notSynchronized
  have hC : pz_C p s m ([.ref (q 1), .int (x1), .int (x2), .int (x3)] : List Value).toArray meth c cX1_make wsX1_make RX1 6 (some .int) := ⟨hx, hb, hml, hown, hts, hr, hlocks⟩
  have hK := hKX.1
  have hS : va_S (pz_A 22 q) s.heap s.heap [] := va_S.rf
  have hl := lv_entry [.ref (q 1), .int (x1), .int (x2), .int (x3)] (n := 6) (Nat.le_of_ble_eq_true rfl)
  rw [lg_entry_eq]
  generalize (lg_sl [.ref (q 1), .int (x1), .int (x2), .int (x3)] ++ List.replicate (6 - (lg_sl [.ref (q 1), .int (x1), .int (x2), .int (x3)]).length) Slot.unset).toArray = ls at hl ⊢
  have hl : lv_has ls 6 [(0, .ref (q 1)), (1, .int (x1)), (2, .int (x2)), (3, .int (x3))] := hl
  generalize hF : f_X1_make cnt kinds firsts seconds heights tables x1 x2 x3 = G
  replace hF := hF.symm
  unfold f_X1_make at hF
  refine lv_aload_n hx hb dX1_make_0 rfl (lv_at hl 0 rfl) ?_
  refine lv_iload_n hx hb dX1_make_1 rfl (lv_at hl 1 rfl) ?_
  refine lv_iload_n hx hb dX1_make_2 rfl (lv_at hl 2 rfl) ?_
  refine lv_iload_n hx hb dX1_make_3 rfl (lv_at hl 3 rfl) ?_
  refine pz_Vi (As := [.int (x1), .int (x2), .int (x3)]) (rest := []) ⟨hx, hb, hml, hown, hts⟩ (c_X1_find l D q k t cnt kinds firsts seconds heights tables replaced laid rules ps qs rs fs frules heads ends inforce usable summ x1 x2 x3 hc) (cwV 3 hts gX1_make_X1_find rfl rfl rfl hdV_X1_find ⟨Nat.le_of_ble_eq_true rfl, Nat.le_of_ble_eq_true rfl⟩) pz_KX.call (hKX.go hS) (va_recv hK hP (ci := 1) (q0 := 1) rfl rfl) hP hS rfl hl.1 rfl (Nat.le_of_ble_eq_true rfl) dX1_make_4 ⟨Nat.zero_le _, Nat.zero_le _⟩ (fun r_9 u_9 H locs hF_9 hP hS => ?_)
  have hF := hF.trans (pz_be hF_9)
  refine lv_istore (lv' := [(4, .int (r_9)), (0, .ref (q 1)), (1, .int (x1)), (2, .int (x2)), (3, .int (x3))]) hx hb dX1_make_7 hl (by decide) rfl (fun ls hl => ?_)
  refine lv_iload hx hb dX1_make_9 (lv_at hl 0 rfl) ?_
  refine lv_iconst (v := (-1)) hx hb dX1_make_11 (by decide) ?_
  refine lv_icmp_eq (tgt := 18) hx hb dX1_make_12 (by decide) (fun c_10 => ?_) (fun c_10 => ?_)
  · have hF := hF.trans (if_pos c_10)
    refine lv_iload_n hx hb dX1_make_18 rfl (lv_at hl 2 rfl) ?_
    refine lv_iconst (v := 2) hx hb dX1_make_19 (by decide) ?_
    refine lv_icmp_ge (tgt := 27) hx hb dX1_make_20 (by decide) (fun c_11 => ?_) (fun c_11 => ?_)
    · have hF := hF.trans (if_pos c_11)
      refine lv_iconst (v := 1) hx hb dX1_make_27 (by decide) ?_
      refine lv_aload_n hx hb dX1_make_28 rfl (lv_at hl 1 rfl) ?_
      refine lv_iload_n hx hb dX1_make_29 rfl (lv_at hl 3 rfl) ?_
      refine pz_Vi (As := [.int (x2)]) (rest := [.int (1)]) ⟨hx, hb, hml, hown, hts⟩ (c_X1_heightOf l D q k t cnt kinds firsts seconds heights tables replaced laid rules ps qs rs fs frules heads ends inforce usable summ x2 hc) (cwV 1 hts gX1_make_X1_heightOf rfl rfl rfl hdV_X1_heightOf ⟨Nat.le_of_ble_eq_true rfl, Nat.le_of_ble_eq_true rfl⟩) pz_KX.call (hKX.go hS) (va_recv hK hP (ci := 1) (q0 := 1) rfl rfl) hP hS rfl hl.1 rfl (Nat.le_of_ble_eq_true rfl) dX1_make_30 ⟨Nat.zero_le _, Nat.zero_le _⟩ (fun r_12 u_12 H locs hF_12 hP hS => ?_)
      have hF := hF.trans (pz_be hF_12)
      refine lv_aload_n hx hb dX1_make_33 rfl (lv_at hl 1 rfl) ?_
      refine lv_iload_n hx hb dX1_make_34 rfl (lv_at hl 4 rfl) ?_
      refine pz_Vi (As := [.int (x3)]) (rest := [.int (r_12), .int (1)]) ⟨hx, hb, hml, hown, hts⟩ (c_X1_heightOf l D q k t cnt kinds firsts seconds heights tables replaced laid rules ps qs rs fs frules heads ends inforce usable summ x3 hc) (cwV 1 hts gX1_make_X1_heightOf rfl rfl rfl hdV_X1_heightOf ⟨Nat.le_of_ble_eq_true rfl, Nat.le_of_ble_eq_true rfl⟩) pz_KX.call (hKX.go hS) (va_recv hK hP (ci := 1) (q0 := 1) rfl rfl) hP hS rfl hl.1 rfl (Nat.le_of_ble_eq_true rfl) dX1_make_35 ⟨Nat.zero_le _, Nat.zero_le _⟩ (fun r_13 u_13 H locs hF_13 hP hS => ?_)
      have hF := hF.trans (pz_be hF_13)
      refine va_mmax hx hb (hml.trans hl.1.symm) hown (hts _ mm_X1_make_Cond_methodLink_RX1_47_Lib_Math_max_name) (hts _ mm_X1_make_Cond_static_Lib_Math_max_name) (hts _ mm_X1_make_Cond_initialized__java_lang_Math_) (hts _ mm_X1_make_Cond_code_Lib_Math_max_name_Lib_Math_max_code_2__some__int_) (Nat.le_of_ble_eq_true rfl) (Nat.le_of_ble_eq_true rfl) (Nat.zero_le _) (Nat.zero_le _) dX1_make_38 ?_
      refine lv_iadd hx hb dX1_make_41 ?_
      refine lv_istore (lv' := [(5, .int ((1 + (if r_12 < r_13 then r_13 else r_12)))), (4, .int (r_9)), (0, .ref (q 1)), (1, .int (x1)), (2, .int (x2)), (3, .int (x3))]) hx hb dX1_make_42 hl (by decide) rfl (fun ls hl => ?_)
      exact k_X1_make_44 hC hKX replaced laid rules ps qs rs fs frules heads ends inforce usable summ cnt kinds firsts seconds heights tables x1 x2 x3 r_9 (1 + (if r_12 < r_13 then r_13 else r_12)) hc _ _ _ hF hP hS (lv_sub hl [2, 3, 4, 5, 1, 0] rfl)
    · have hF := hF.trans (if_neg c_11)
      refine lv_iconst (v := 1) hx hb dX1_make_23 (by decide) ?_
      refine lv_goto (tgt := 42) hx hb dX1_make_24 (by decide) ?_
      refine lv_istore (lv' := [(5, .int (1)), (4, .int (r_9)), (0, .ref (q 1)), (1, .int (x1)), (2, .int (x2)), (3, .int (x3))]) hx hb dX1_make_42 hl (by decide) rfl (fun ls hl => ?_)
      exact k_X1_make_44 hC hKX replaced laid rules ps qs rs fs frules heads ends inforce usable summ cnt kinds firsts seconds heights tables x1 x2 x3 r_9 1 hc _ _ _ hF hP hS (lv_sub hl [2, 3, 4, 5, 1, 0] rfl)
  · have hF := hF.trans (if_neg c_10)
    refine lv_iload hx hb dX1_make_15 (lv_at hl 0 rfl) ?_
    exact W.iret (v := r_9) hx hb hr (fun t ht hW => ⟨⟨r_9, (cnt, kinds, firsts, seconds, heights, tables), rfl, hF.symm, pz_hp ht hP⟩, hS.F ht⟩) hS.2.2 dX1_make_17 hlocks
end
section
theorem pz_make_c {cnt : Int32} {kinds firsts seconds heights : Nat → Int32} {tables : Nat → Int64} {x1 x2 x3 : Int32} (hc : pz_c cnt) : pz_c (f_X1_make cnt kinds firsts seconds heights tables x1 x2 x3).2.1 := by
  have key : ∀ x4 x5, pz_c (F_X1_make_44 cnt kinds firsts seconds heights tables x1 x2 x3 x4 x5).2.1 := by
    intro x4 x5
    unfold F_X1_make_44
    by_cases h : (80 : Int32) ≤ cnt
    · rw [if_pos h]; exact hc
    · rw [if_neg h]
      by_cases h2 : x5 ≤ 12
      · rw [if_pos h2]
        have a := pz_nle h
        have e : (80 : Int32).toInt = 80 := rfl
        show pz_c (cnt + 1)
        have b := hc.1
        have i := pz_inc (x := cnt) (by omega)
        exact ⟨by omega, by omega⟩
      · rw [if_neg h2]; exact hc
  unfold f_X1_make
  simp only [pz_bnd]
  split
  · split
    · exact key _ _
    · exact key _ _
  · exact hc

-- == J7_fill_53178
def F_J7_fill_53178_5 : Nat → (Nat → Int32) → (Int32) → (Int32) → (Int32) → (Nat → Int32)
  | 0, replaced, x1, x2, x3 => replaced
  | n + 1, replaced, x1, x2, x3 => if x3 ≤ x2 then (replaced) else (F_J7_fill_53178_5 n (upd replaced (x2).toNatClampNeg x1) x1 (x2 + 1) x3)
def f_J7_fill_53178 (replaced : Nat → Int32) (x1 : Int32) : (Nat → Int32) := F_J7_fill_53178_5 81 replaced x1 0 80
set_option maxHeartbeats 4000000 in
set_option maxRecDepth 100000 in
theorem k_J7_fill_53178_5 {p : Program} {l : Launch} {e : Env} {s : State} {m : MethodId} {args : Array Value} {below : List Frame} {meth : Method} {c : Code} {D : va_G} {q : Nat → Nat} {k : Nat → ClassId} {t : Nat → Nat} (hC : pz_C p s m args meth c cJ7_fill_53178 wsJ7_fill_53178 RJ7 4 none) (hKX : pz_KX D q k t s) (cnt : Int32) (kinds : Nat → Int32) (firsts : Nat → Int32) (seconds : Nat → Int32) (heights : Nat → Int32) (tables : Nat → Int64) (laid : Nat → Int32) (rules : Nat → Int32) (ps : Nat → Int32) (qs : Nat → Int32) (rs : Nat → Int32) (fs : Nat → Int32) (frules : Nat → Int32) (heads : Nat → Int32) (ends : Nat → Int32) (inforce : Nat → Int32) (usable : Nat → Int32) (summ : Nat → Int32) {G : (Nat → Int32)} :
    ∀ (n : Nat) (replaced : Nat → Int32) (x1 : Int32) (x2 : Int32) (x3 : Int32) (h3 : x3 = 80) (h0 : 0 ≤ x2.toInt) (h1 : x2.toInt ≤ 80) (hn : 81 ≤ x2.toInt + n)  (H : Heap) (locs : List Loc) (ls : Array Slot), G = F_J7_fill_53178_5 n replaced x1 x2 x3 → va_P D vwCl (pz_X q k cnt kinds firsts seconds heights tables replaced laid rules ps qs rs fs frules heads ends inforce usable summ) H → va_S (pz_A 22 q) s.heap H locs → lv_has ls 4 [(0, .ref (q 9)), (1, .int (x1)), (2, .int (x2)), (3, .int (x3))] → W p l e (headSpec wsJ7_fill_53178 { frames := 0, cells := 0, slots := 0, locals := 0 }).room s m args below meth c H locs 0 0 (MQ below (va_Qv (fun (u : (Nat → Int32)) => u = G) (fun u t => va_P D vwCl (pz_X q k cnt kinds firsts seconds heights tables u laid rules ps qs rs fs frules heads ends inforce usable summ) t.heap) (pz_A 22 q)) args s 0 0 (pz_A 22 q)) (F0 m 5 ls []) := by
  obtain ⟨hx, hb, hml, hown, hts, hr, hlocks⟩ := hC
  have hC : pz_C p s m args meth c cJ7_fill_53178 wsJ7_fill_53178 RJ7 4 none := ⟨hx, hb, hml, hown, hts, hr, hlocks⟩
  have hK := hKX.1
  intro n
  induction n with
  | zero =>
    intro replaced x1 x2 x3 h3 h0 h1 hn H locs ls hF hP hS hl
    exact absurd hn (by omega)
  | succ n ih =>
    intro replaced x1 x2 x3 h3 h0 h1 hn H locs ls hF hP hS hl
    unfold F_J7_fill_53178_5 at hF
    refine lv_iload_n hx hb dJ7_fill_53178_5 rfl (lv_at hl 2 rfl) ?_
    refine lv_iload_n hx hb dJ7_fill_53178_6 rfl (lv_at hl 3 rfl) ?_
    refine lv_icmp_ge (tgt := 20) hx hb dJ7_fill_53178_7 (by decide) (fun c_1 => ?_) (fun c_1 => ?_)
    · have hF := hF.trans (if_pos c_1)
      exact W.vret hx hb hr (fun t ht hW => ⟨⟨replaced, rfl, hF.symm, pz_hp ht hP⟩, hS.F ht⟩) hS.2.2 dJ7_fill_53178_20 hlocks
    · have hF := hF.trans (if_neg c_1)
      refine lv_aload_n hx hb dJ7_fill_53178_10 rfl (lv_at hl 0 rfl) ?_
      refine lv_iload_n hx hb dJ7_fill_53178_11 rfl (lv_at hl 2 rfl) ?_
      refine lv_iload_n hx hb dJ7_fill_53178_12 rfl (lv_at hl 1 rfl) ?_
      have hi_2 : vp_in x2 80 := pz_inI h0 (by have a := pz_nle ‹¬ x3 ≤ x2›; rw [h3] at a; exact a)
      refine va_iast hx hb hK hP (pz_D hKX.2.2.2.2.2.2.2.2 rfl) hS 9 0 rfl rfl hi_2 dJ7_fill_53178_13 (fun H locs hP _ hS => ?_)
      have hP : va_P D vwCl (pz_X q k cnt kinds firsts seconds heights tables (upd replaced (x2).toNatClampNeg x1) laid rules ps qs rs fs frules heads ends inforce usable summ) H := hP
      refine lv_iinc (v := (x2 + 1)) (lv' := [(2, .int ((x2 + 1))), (0, .ref (q 9)), (1, .int (x1)), (3, .int (x3))]) hx hb dJ7_fill_53178_14 hl (k := 2) rfl rfl (by decide) rfl (fun ls hl => ?_)
      refine lv_goto (tgt := 5) hx hb dJ7_fill_53178_17 (by decide) ?_
      exact ih (upd replaced (x2).toNatClampNeg x1) x1 (x2 + 1) x3 h3 (by have a := pz_nle ‹¬ x3 ≤ x2›; rw [h3] at a; have e : (80 : Int32).toInt = 80 := rfl; have i := pz_inc (x := x2) (by omega); omega) (by have a := pz_nle ‹¬ x3 ≤ x2›; rw [h3] at a; have e : (80 : Int32).toInt = 80 := rfl; have i := pz_inc (x := x2) (by omega); omega) (by have a := pz_nle ‹¬ x3 ≤ x2›; rw [h3] at a; have e : (80 : Int32).toInt = 80 := rfl; have i := pz_inc (x := x2) (by omega); omega) _ _ _ hF hP hS (lv_sub hl [1, 2, 0, 3] rfl)
set_option maxHeartbeats 4000000 in
set_option maxRecDepth 100000 in
theorem c_J7_fill_53178 (l : Launch) (D : va_G) (q : Nat → Nat) (k : Nat → ClassId) (t : Nat → Nat) (cnt : Int32) (kinds : Nat → Int32) (firsts : Nat → Int32) (seconds : Nat → Int32) (heights : Nat → Int32) (tables : Nat → Int64) (replaced : Nat → Int32) (laid : Nat → Int32) (rules : Nat → Int32) (ps : Nat → Int32) (qs : Nat → Int32) (rs : Nat → Int32) (fs : Nat → Int32) (frules : Nat → Int32) (heads : Nat → Int32) (ends : Nat → Int32) (inforce : Nat → Int32) (usable : Nat → Int32) (summ : Nat → Int32) (x1 : Int32)  : Met l yJ7_fill_53178 wsJ7_fill_53178 ({ frames := 0, cells := 0, slots := 0, locals := 0 }) (va_Pc [.ref (q 9), .int (x1)] (fun U => va_P D vwCl (pz_X q k cnt kinds firsts seconds heights tables replaced laid rules ps qs rs fs frules heads ends inforce usable summ) U.heap ∧ pz_KX D q k t U)) (va_Qv (fun (u : (Nat → Int32)) => u = (f_J7_fill_53178 replaced x1)) (fun u t => va_P D vwCl (pz_X q k cnt kinds firsts seconds heights tables u laid rules ps qs rs fs frules heads ends inforce usable summ) t.heap) (pz_A 22 q)) 0 0 (pz_A 22 q) := by
  refine Met.ofW (cc := cJ7_fill_53178) (maxL := 4) (ret := none) (by decide) rfl ?_
  intro p e s m args below meth c s₁ B hml hv
  obtain ⟨rfl, hP, hKX⟩ := hv
  have hx := B.exec
  have hb := B.bytes
  have hr := B.returns
  have hts := atoms_spec (ws := wsJ7_fill_53178) B.pre
  have hown : s.vm.findClass RJ7 = some m.cls := findClass_of_methodNamed B.named
  have hlocks := B.notSynchronized
  have hC : pz_C p s m ([.ref (q 9), .int (x1)] : List Value).toArray meth c cJ7_fill_53178 wsJ7_fill_53178 RJ7 4 none := ⟨hx, hb, hml, hown, hts, hr, hlocks⟩
  have hK := hKX.1
  have hS : va_S (pz_A 22 q) s.heap s.heap [] := va_S.rf
  have hl := lv_entry [.ref (q 9), .int (x1)] (n := 4) (Nat.le_of_ble_eq_true rfl)
  rw [lg_entry_eq]
  generalize (lg_sl [.ref (q 9), .int (x1)] ++ List.replicate (4 - (lg_sl [.ref (q 9), .int (x1)]).length) Slot.unset).toArray = ls at hl ⊢
  have hl : lv_has ls 4 [(0, .ref (q 9)), (1, .int (x1))] := hl
  generalize hF : f_J7_fill_53178 replaced x1 = G
  replace hF := hF.symm
  unfold f_J7_fill_53178 at hF
  refine lv_iconst (v := 0) hx hb dJ7_fill_53178_0 (by decide) ?_
  refine lv_istore_n (lv' := [(2, .int (0)), (0, .ref (q 9)), (1, .int (x1))]) hx hb dJ7_fill_53178_1 rfl hl (by decide) rfl (fun ls hl => ?_)
  refine lv_aload_n hx hb dJ7_fill_53178_2 rfl (lv_at hl 1 rfl) ?_
  refine va_alen hx hb hK hP 9 0 rfl rfl (v := 80) rfl dJ7_fill_53178_3 ?_
  refine lv_istore_n (lv' := [(3, .int (80)), (2, .int (0)), (0, .ref (q 9)), (1, .int (x1))]) hx hb dJ7_fill_53178_4 rfl hl (by decide) rfl (fun ls hl => ?_)
  exact k_J7_fill_53178_5 hC hKX cnt kinds firsts seconds heights tables laid rules ps qs rs fs frules heads ends inforce usable summ 81 replaced x1 0 80 rfl (by decide) (by decide) (by decide) _ _ _ hF hP hS (lv_sub hl [2, 3, 1, 0] rfl)

-- == X1_replaceIn
def f_X1_replaceIn : Nat → (Int32) → (Nat → Int32) → (Nat → Int32) → (Nat → Int32) → (Nat → Int32) → (Nat → Int64) → (Nat → Int32) → (Int32) → (Int32) → (Int32) → (Int32) → Int32 × (Int32) × (Nat → Int32) × (Nat → Int32) × (Nat → Int32) × (Nat → Int32) × (Nat → Int64) × (Nat → Int32)
  | 0, cnt, kinds, firsts, seconds, heights, tables, replaced, x1, x2, x3, x4 => ((-4), cnt, kinds, firsts, seconds, heights, tables, replaced)
  | n + 1, cnt, kinds, firsts, seconds, heights, tables, replaced, x1, x2, x3, x4 => if 12 < x4 then (((-4), cnt, kinds, firsts, seconds, heights, tables, replaced)) else (pz_bnd (f_X1_has cnt x1) (fun z_2 => if z_2 = 0 then (((-4), cnt, kinds, firsts, seconds, heights, tables, replaced)) else (if 2 ≤ (kinds (x1).toNatClampNeg) then (if (replaced (x1).toNatClampNeg) = (-1) then (pz_bnd (f_X1_replaceIn n cnt kinds firsts seconds heights tables replaced (firsts (x1).toNatClampNeg) x2 x3 (x4 + 1)) (fun z_9 => if z_9.1 = (-4) then (((-4), z_9.2.1, z_9.2.2.1, z_9.2.2.2.1, z_9.2.2.2.2.1, z_9.2.2.2.2.2.1, z_9.2.2.2.2.2.2.1, z_9.2.2.2.2.2.2.2)) else (pz_bnd (f_X1_replaceIn n z_9.2.1 z_9.2.2.1 z_9.2.2.2.1 z_9.2.2.2.2.1 z_9.2.2.2.2.2.1 z_9.2.2.2.2.2.2.1 z_9.2.2.2.2.2.2.2 (z_9.2.2.2.2.1 (x1).toNatClampNeg) x2 x3 (x4 + 1)) (fun z_12 => if z_12.1 = (-4) then (((-4), z_12.2.1, z_12.2.2.1, z_12.2.2.2.1, z_12.2.2.2.2.1, z_12.2.2.2.2.2.1, z_12.2.2.2.2.2.2.1, z_12.2.2.2.2.2.2.2)) else (pz_bnd (f_X1_make z_12.2.1 z_12.2.2.1 z_12.2.2.2.1 z_12.2.2.2.2.1 z_12.2.2.2.2.2.1 z_12.2.2.2.2.2.2.1 (z_12.2.2.1 (x1).toNatClampNeg) z_9.1 z_12.1) (fun z_15 => (((upd z_12.2.2.2.2.2.2.2 (x1).toNatClampNeg z_15.1) (x1).toNatClampNeg), z_15.2.1, z_15.2.2.1, z_15.2.2.2.1, z_15.2.2.2.2.1, z_15.2.2.2.2.2.1, z_15.2.2.2.2.2.2, (upd z_12.2.2.2.2.2.2.2 (x1).toNatClampNeg z_15.1)))))))) else (((replaced (x1).toNatClampNeg), cnt, kinds, firsts, seconds, heights, tables, replaced))) else (if (kinds (x1).toNatClampNeg) = 1 then (if (firsts (x1).toNatClampNeg) = x2 then ((x3, cnt, kinds, firsts, seconds, heights, tables, replaced)) else ((x1, cnt, kinds, firsts, seconds, heights, tables, replaced))) else ((x1, cnt, kinds, firsts, seconds, heights, tables, replaced))))))
def pz_P7 (z : Int32 × Int32 × (Nat → Int32) × (Nat → Int32) × (Nat → Int32) × (Nat → Int32) × (Nat → Int64) × (Nat → Int32)) : Prop := pz_c z.2.1
theorem pz_replaceIn_c : ∀ (n : Nat) (cnt : Int32) (kinds firsts seconds heights : Nat → Int32) (tables : Nat → Int64) (replaced : Nat → Int32) (x1 x2 x3 x4 : Int32), pz_c cnt → pz_c (f_X1_replaceIn n cnt kinds firsts seconds heights tables replaced x1 x2 x3 x4).2.1 := by
  intro n
  induction n with
  | zero =>
    intro cnt kinds firsts seconds heights tables replaced x1 x2 x3 x4 hc
    exact hc
  | succ n ih =>
    intro cnt kinds firsts seconds heights tables replaced x1 x2 x3 x4 hc
    unfold f_X1_replaceIn
    show pz_P7 _
    refine pz_it (fun _ => hc) (fun _ => ?_)
    refine pz_bi (fun z1 _ => ?_)
    refine pz_it (fun _ => hc) (fun _ => ?_)
    refine pz_it (fun _ => ?_) (fun _ => ?_)
    · refine pz_it (fun _ => ?_) (fun _ => hc)
      refine pz_bi (fun z2 h2 => ?_)
      have hc2 : pz_c z2.2.1 := by rw [h2]; exact ih _ _ _ _ _ _ _ _ _ _ _ hc
      refine pz_it (fun _ => hc2) (fun _ => ?_)
      refine pz_bi (fun z3 h3 => ?_)
      have hc3 : pz_c z3.2.1 := by rw [h3]; exact ih _ _ _ _ _ _ _ _ _ _ _ hc2
      refine pz_it (fun _ => hc3) (fun _ => ?_)
      refine pz_bi (fun z4 h4 => ?_)
      have hc4 : pz_c z4.2.1 := by rw [h4]; exact pz_make_c hc3
      exact hc4
    · refine pz_it (fun _ => ?_) (fun _ => hc)
      exact pz_it (fun _ => hc) (fun _ => hc)
theorem fl_X1_replaceIn_15 : Cond.fieldLink RX1 15 "BoxProofs$Formulas" "firsts" "[I" ∈ wsX1_replaceIn := by decide +kernel
theorem fl_X1_replaceIn_18 : Cond.fieldLink RX1 18 "BoxProofs$Formulas" "seconds" "[I" ∈ wsX1_replaceIn := by decide +kernel
theorem fl_X1_replaceIn_28 : Cond.fieldLink RX1 28 "BoxProofs$Formulas" "replaced" "[I" ∈ wsX1_replaceIn := by decide +kernel
theorem fl_X1_replaceIn_9 : Cond.fieldLink RX1 9 "BoxProofs$Formulas" "kinds" "[I" ∈ wsX1_replaceIn := by decide +kernel
theorem hdV_X1_make : yX1_make.cls = RX1 ∧ yX1_make.cls ≠ "java/lang/invoke/MethodHandle" ∧ yX1_make.cls ≠ "java/lang/invoke/VarHandle" ∧ (parseMethodDescriptor yX1_make.desc).map (fun d => d.parameters.length) = some 3 := by decide +kernel
theorem hdV_X1_replaceIn : yX1_replaceIn.cls = RX1 ∧ yX1_replaceIn.cls ≠ "java/lang/invoke/MethodHandle" ∧ yX1_replaceIn.cls ≠ "java/lang/invoke/VarHandle" ∧ (parseMethodDescriptor yX1_replaceIn.desc).map (fun d => d.parameters.length) = some 4 := by decide +kernel
theorem in_X1_replaceIn_X1 : ∀ w ∈ wsX10, w ∈ wsX1_replaceIn := by decide +kernel
set_option maxHeartbeats 4000000 in
set_option maxRecDepth 100000 in
theorem c_X1_replaceIn (l : Launch) (D : va_G) (q : Nat → Nat) (k : Nat → ClassId) (t : Nat → Nat) : ∀ (n : Nat) (cnt : Int32) (kinds : Nat → Int32) (firsts : Nat → Int32) (seconds : Nat → Int32) (heights : Nat → Int32) (tables : Nat → Int64) (replaced : Nat → Int32) (laid : Nat → Int32) (rules : Nat → Int32) (ps : Nat → Int32) (qs : Nat → Int32) (rs : Nat → Int32) (fs : Nat → Int32) (frules : Nat → Int32) (heads : Nat → Int32) (ends : Nat → Int32) (inforce : Nat → Int32) (usable : Nat → Int32) (summ : Nat → Int32) (x1 : Int32) (x2 : Int32) (x3 : Int32) (x4 : Int32) (dp : Nat) (hdp : x4 = nI dp) (hn : 13 ≤ dp + n) (hd : dp ≤ 13) (hc : pz_c cnt), Met l yX1_replaceIn wsX1_replaceIn ({ frames := 5 + n, cells := 0, slots := 0, locals := 90 + 26 * n }) (va_Pc [.ref (q 1), .int (x1), .int (x2), .int (x3), .int (x4)] (fun U => va_P D vwCl (pz_X q k cnt kinds firsts seconds heights tables replaced laid rules ps qs rs fs frules heads ends inforce usable summ) U.heap ∧ pz_KX D q k t U)) (va_Qi (fun r (u : (Int32) × (Nat → Int32) × (Nat → Int32) × (Nat → Int32) × (Nat → Int32) × (Nat → Int64) × (Nat → Int32)) => (r, u) = (f_X1_replaceIn n cnt kinds firsts seconds heights tables replaced x1 x2 x3 x4)) (fun u t => va_P D vwCl (pz_X q k u.1 u.2.1 u.2.2.1 u.2.2.2.1 u.2.2.2.2.1 u.2.2.2.2.2.1 u.2.2.2.2.2.2 laid rules ps qs rs fs frules heads ends inforce usable summ) t.heap) (pz_A 22 q)) 0 0 (pz_A 22 q) := by
  intro n
  induction n with
  | zero =>
    intro cnt kinds firsts seconds heights tables replaced laid rules ps qs rs fs frules heads ends inforce usable summ x1 x2 x3 x4 dp hdp hn hd hc
    refine Met.ofW (cc := cX1_replaceIn) (maxL := 7) (ret := (some .int)) (by decide) rfl ?_
    intro p e s m args below meth c s₁ B hml hv
    obtain ⟨rfl, hP, hKX⟩ := hv
    have hx := B.exec
    have hb := B.bytes
    have hr := B.returns
    have hts := atoms_spec (ws := wsX1_replaceIn) B.pre
    have hown : s.vm.findClass RX1 = some m.cls := findClass_of_methodNamed B.named
    have hlocks := B.notSynchronized
    have hC : pz_C p s m ([.ref (q 1), .int (x1), .int (x2), .int (x3), .int (x4)] : List Value).toArray meth c cX1_replaceIn wsX1_replaceIn RX1 7 (some .int) := ⟨hx, hb, hml, hown, hts, hr, hlocks⟩
    have hK := hKX.1
    have hS : va_S (pz_A 22 q) s.heap s.heap [] := va_S.rf
    have hl := lv_entry [.ref (q 1), .int (x1), .int (x2), .int (x3), .int (x4)] (n := 7) (Nat.le_of_ble_eq_true rfl)
    rw [lg_entry_eq]
    generalize (lg_sl [.ref (q 1), .int (x1), .int (x2), .int (x3), .int (x4)] ++ List.replicate (7 - (lg_sl [.ref (q 1), .int (x1), .int (x2), .int (x3), .int (x4)]).length) Slot.unset).toArray = ls at hl ⊢
    have hl : lv_has ls 7 [(0, .ref (q 1)), (1, .int (x1)), (2, .int (x2)), (3, .int (x3)), (4, .int (x4))] := hl
    generalize hF : f_X1_replaceIn 0 cnt kinds firsts seconds heights tables replaced x1 x2 x3 x4 = G
    replace hF := hF.symm
    unfold f_X1_replaceIn at hF
    refine lv_iload hx hb dX1_replaceIn_0 (lv_at hl 4 rfl) ?_
    refine lv_bipush (v := 12) hx hb dX1_replaceIn_2 (by decide) ?_
    refine lv_icmp_gt (tgt := 15) hx hb dX1_replaceIn_4 (by decide) (fun c_1 => ?_) (fun c_1 => ?_)
    · refine lv_bipush (v := (-4)) hx hb dX1_replaceIn_15 (by decide) ?_
      exact W.iret (v := (-4)) hx hb hr (fun t ht hW => ⟨⟨(-4), (cnt, kinds, firsts, seconds, heights, tables, replaced), rfl, hF.symm, pz_hp ht hP⟩, hS.F ht⟩) hS.2.2 dX1_replaceIn_17 hlocks
    · exact absurd (show (12 : Int32) < x4 by rw [hdp]; exact nI_lt (a := 12) (by omega) (by omega)) c_1
  | succ n ih =>
    intro cnt kinds firsts seconds heights tables replaced laid rules ps qs rs fs frules heads ends inforce usable summ x1 x2 x3 x4 dp hdp hn hd hc
    refine Met.ofW (cc := cX1_replaceIn) (maxL := 7) (ret := (some .int)) (by decide) rfl ?_
    intro p e s m args below meth c s₁ B hml hv
    obtain ⟨rfl, hP, hKX⟩ := hv
    have hx := B.exec
    have hb := B.bytes
    have hr := B.returns
    have hts := atoms_spec (ws := wsX1_replaceIn) B.pre
    have hown : s.vm.findClass RX1 = some m.cls := findClass_of_methodNamed B.named
    have hlocks := B.notSynchronized
    have hC : pz_C p s m ([.ref (q 1), .int (x1), .int (x2), .int (x3), .int (x4)] : List Value).toArray meth c cX1_replaceIn wsX1_replaceIn RX1 7 (some .int) := ⟨hx, hb, hml, hown, hts, hr, hlocks⟩
    have hK := hKX.1
    have hS : va_S (pz_A 22 q) s.heap s.heap [] := va_S.rf
    have hl := lv_entry [.ref (q 1), .int (x1), .int (x2), .int (x3), .int (x4)] (n := 7) (Nat.le_of_ble_eq_true rfl)
    rw [lg_entry_eq]
    generalize (lg_sl [.ref (q 1), .int (x1), .int (x2), .int (x3), .int (x4)] ++ List.replicate (7 - (lg_sl [.ref (q 1), .int (x1), .int (x2), .int (x3), .int (x4)]).length) Slot.unset).toArray = ls at hl ⊢
    have hl : lv_has ls 7 [(0, .ref (q 1)), (1, .int (x1)), (2, .int (x2)), (3, .int (x3)), (4, .int (x4))] := hl
    generalize hF : f_X1_replaceIn (n + 1) cnt kinds firsts seconds heights tables replaced x1 x2 x3 x4 = G
    replace hF := hF.symm
    unfold f_X1_replaceIn at hF
    refine lv_iload hx hb dX1_replaceIn_0 (lv_at hl 4 rfl) ?_
    refine lv_bipush (v := 12) hx hb dX1_replaceIn_2 (by decide) ?_
    refine lv_icmp_gt (tgt := 15) hx hb dX1_replaceIn_4 (by decide) (fun c_1 => ?_) (fun c_1 => ?_)
    · have hF := hF.trans (if_pos c_1)
      refine lv_bipush (v := (-4)) hx hb dX1_replaceIn_15 (by decide) ?_
      exact W.iret (v := (-4)) hx hb hr (fun t ht hW => ⟨⟨(-4), (cnt, kinds, firsts, seconds, heights, tables, replaced), rfl, hF.symm, pz_hp ht hP⟩, hS.F ht⟩) hS.2.2 dX1_replaceIn_17 hlocks
    · have hF := hF.trans (if_neg c_1)
      refine lv_aload_n hx hb dX1_replaceIn_7 rfl (lv_at hl 0 rfl) ?_
      refine lv_iload_n hx hb dX1_replaceIn_8 rfl (lv_at hl 1 rfl) ?_
      refine pz_Vi (As := [.int (x1)]) (rest := []) ⟨hx, hb, hml, hown, hts⟩ (c_X1_has l D q k t cnt kinds firsts seconds heights tables replaced laid rules ps qs rs fs frules heads ends inforce usable summ x1) (cwV 1 hts gX1_replaceIn_X1_has rfl rfl rfl hdV_X1_has ⟨(show 0 + 1 ≤ 5 + (n + 1) by omega), (show 8 + (2 + 11) + 0 ≤ 90 + 26 * (n + 1) by omega)⟩) pz_KX.call (hKX.go hS) (va_recv hK hP (ci := 1) (q0 := 1) rfl rfl) hP hS rfl hl.1 rfl (Nat.le_of_ble_eq_true rfl) dX1_replaceIn_9 ⟨Nat.zero_le _, Nat.zero_le _⟩ (fun r_2 u_2 H locs hF_2 hP hS => ?_)
      have hF := hF.trans (pz_be hF_2)
      refine lv_if_ne (tgt := 18) hx hb dX1_replaceIn_12 (by decide) (fun c_3 => ?_) (fun c_3 => ?_)
      · have hF := hF.trans (if_neg c_3)
        refine lv_aload_n hx hb dX1_replaceIn_18 rfl (lv_at hl 0 rfl) ?_
        refine va_get (D := D) (ci := 1) (v := .ref (q 4)) (C := RX1) (T := TX1) (N := 7) hx hb hts in_X1_replaceIn_X1 hown hK hP 1 rfl rfl 0 (by decide) (hts _ fl_X1_replaceIn_9) (fun _ h9 => h9) rfl dX1_replaceIn_19 ?_
        refine lv_iload_n hx hb dX1_replaceIn_22 rfl (lv_at hl 1 rfl) ?_
        have hi_4 : vp_in x1 80 := by first | exact pz_has hc ‹_› ‹_› | assumption
        refine va_iald hx hb hK hP 4 0 rfl rfl hi_4 dX1_replaceIn_23 ?_
        refine lv_iconst (v := 2) hx hb dX1_replaceIn_24 (by decide) ?_
        refine lv_icmp_ge (tgt := 54) hx hb dX1_replaceIn_25 (by decide) (fun c_5 => ?_) (fun c_5 => ?_)
        · have hF := hF.trans (if_pos c_5)
          refine lv_aload_n hx hb dX1_replaceIn_54 rfl (lv_at hl 0 rfl) ?_
          refine va_get (D := D) (ci := 1) (v := .ref (q 9)) (C := RX1) (T := TX1) (N := 7) hx hb hts in_X1_replaceIn_X1 hown hK hP 1 rfl rfl 5 (by decide) (hts _ fl_X1_replaceIn_28) (fun _ h9 => h9) rfl dX1_replaceIn_55 ?_
          refine lv_iload_n hx hb dX1_replaceIn_58 rfl (lv_at hl 1 rfl) ?_
          have hi_6 : vp_in x1 80 := by first | exact pz_has hc ‹_› ‹_› | assumption
          refine va_iald hx hb hK hP 9 0 rfl rfl hi_6 dX1_replaceIn_59 ?_
          refine lv_iconst (v := (-1)) hx hb dX1_replaceIn_60 (by decide) ?_
          refine lv_icmp_eq (tgt := 71) hx hb dX1_replaceIn_61 (by decide) (fun c_7 => ?_) (fun c_7 => ?_)
          · have hF := hF.trans (if_pos c_7)
            refine lv_aload_n hx hb dX1_replaceIn_71 rfl (lv_at hl 0 rfl) ?_
            refine lv_aload_n hx hb dX1_replaceIn_72 rfl (lv_at hl 0 rfl) ?_
            refine va_get (D := D) (ci := 1) (v := .ref (q 5)) (C := RX1) (T := TX1) (N := 7) hx hb hts in_X1_replaceIn_X1 hown hK hP 1 rfl rfl 1 (by decide) (hts _ fl_X1_replaceIn_15) (fun _ h9 => h9) rfl dX1_replaceIn_73 ?_
            refine lv_iload_n hx hb dX1_replaceIn_76 rfl (lv_at hl 1 rfl) ?_
            have hi_8 : vp_in x1 80 := by first | exact pz_has hc ‹_› ‹_› | assumption
            refine va_iald hx hb hK hP 5 0 rfl rfl hi_8 dX1_replaceIn_77 ?_
            refine lv_iload_n hx hb dX1_replaceIn_78 rfl (lv_at hl 2 rfl) ?_
            refine lv_iload_n hx hb dX1_replaceIn_79 rfl (lv_at hl 3 rfl) ?_
            refine lv_iload hx hb dX1_replaceIn_80 (lv_at hl 4 rfl) ?_
            refine lv_iconst (v := 1) hx hb dX1_replaceIn_82 (by decide) ?_
            refine lv_iadd hx hb dX1_replaceIn_83 ?_
            refine pz_Vi (As := [.int ((firsts (x1).toNatClampNeg)), .int (x2), .int (x3), .int ((x4 + 1))]) (rest := []) ⟨hx, hb, hml, hown, hts⟩ (ih cnt kinds firsts seconds heights tables replaced laid rules ps qs rs fs frules heads ends inforce usable summ (firsts (x1).toNatClampNeg) x2 x3 (x4 + 1) (dp + 1) (by rw [hdp]; exact nI_1 dp) (by omega) (by have a := pz_nlt ‹¬ (12 : Int32) < x4›; rw [hdp, nI_toInt (by omega)] at a; have e : (12 : Int32).toInt = 12 := rfl; omega) hc) (cwV 4 hts gX1_replaceIn_X1_replaceIn rfl rfl rfl hdV_X1_replaceIn ⟨(show 5 + n + 1 ≤ 5 + (n + 1) by omega), (show 8 + (7 + 11) + (90 + 26 * n) ≤ 90 + 26 * (n + 1) by omega)⟩) pz_KX.call (hKX.go hS) (va_recv hK hP (ci := 1) (q0 := 1) rfl rfl) hP hS rfl hl.1 rfl (Nat.le_of_ble_eq_true rfl) dX1_replaceIn_84 ⟨Nat.zero_le _, Nat.zero_le _⟩ (fun r_9 u_9 H locs hF_9 hP hS => ?_)
            obtain ⟨w_9_cnt, w_9_kinds, w_9_firsts, w_9_seconds, w_9_heights, w_9_tables, w_9_replaced⟩ := u_9
            have hP : va_P D vwCl (pz_X q k w_9_cnt w_9_kinds w_9_firsts w_9_seconds w_9_heights w_9_tables w_9_replaced laid rules ps qs rs fs frules heads ends inforce usable summ) H := hP
            have hF := hF.trans (pz_be hF_9)
            try dsimp only at hF
            have hc : pz_c w_9_cnt := by
              have hz : w_9_cnt = _ := congrArg (fun z => z.2.1) hF_9
              rw [hz]
              exact pz_replaceIn_c n _ _ _ _ _ _ _ _ _ _ _ hc
            refine lv_istore (lv' := [(5, .int (r_9)), (0, .ref (q 1)), (1, .int (x1)), (2, .int (x2)), (3, .int (x3)), (4, .int (x4))]) hx hb dX1_replaceIn_87 hl (by decide) rfl (fun ls hl => ?_)
            refine lv_iload hx hb dX1_replaceIn_89 (lv_at hl 0 rfl) ?_
            refine lv_bipush (v := (-4)) hx hb dX1_replaceIn_91 (by decide) ?_
            refine lv_icmp_ne (tgt := 99) hx hb dX1_replaceIn_93 (by decide) (fun c_10 => ?_) (fun c_10 => ?_)
            · have hF := hF.trans (if_neg c_10)
              refine lv_aload_n hx hb dX1_replaceIn_99 rfl (lv_at hl 1 rfl) ?_
              refine lv_aload_n hx hb dX1_replaceIn_100 rfl (lv_at hl 1 rfl) ?_
              refine va_get (D := D) (ci := 1) (v := .ref (q 6)) (C := RX1) (T := TX1) (N := 7) hx hb hts in_X1_replaceIn_X1 hown hK hP 1 rfl rfl 2 (by decide) (hts _ fl_X1_replaceIn_18) (fun _ h9 => h9) rfl dX1_replaceIn_101 ?_
              refine lv_iload_n hx hb dX1_replaceIn_104 rfl (lv_at hl 2 rfl) ?_
              have hi_11 : vp_in x1 80 := by first | exact pz_has hc ‹_› ‹_› | assumption
              refine va_iald hx hb hK hP 6 0 rfl rfl hi_11 dX1_replaceIn_105 ?_
              refine lv_iload_n hx hb dX1_replaceIn_106 rfl (lv_at hl 3 rfl) ?_
              refine lv_iload_n hx hb dX1_replaceIn_107 rfl (lv_at hl 4 rfl) ?_
              refine lv_iload hx hb dX1_replaceIn_108 (lv_at hl 5 rfl) ?_
              refine lv_iconst (v := 1) hx hb dX1_replaceIn_110 (by decide) ?_
              refine lv_iadd hx hb dX1_replaceIn_111 ?_
              refine pz_Vi (As := [.int ((w_9_seconds (x1).toNatClampNeg)), .int (x2), .int (x3), .int ((x4 + 1))]) (rest := []) ⟨hx, hb, hml, hown, hts⟩ (ih w_9_cnt w_9_kinds w_9_firsts w_9_seconds w_9_heights w_9_tables w_9_replaced laid rules ps qs rs fs frules heads ends inforce usable summ (w_9_seconds (x1).toNatClampNeg) x2 x3 (x4 + 1) (dp + 1) (by rw [hdp]; exact nI_1 dp) (by omega) (by have a := pz_nlt ‹¬ (12 : Int32) < x4›; rw [hdp, nI_toInt (by omega)] at a; have e : (12 : Int32).toInt = 12 := rfl; omega) hc) (cwV 4 hts gX1_replaceIn_X1_replaceIn rfl rfl rfl hdV_X1_replaceIn ⟨(show 5 + n + 1 ≤ 5 + (n + 1) by omega), (show 8 + (7 + 11) + (90 + 26 * n) ≤ 90 + 26 * (n + 1) by omega)⟩) pz_KX.call (hKX.go hS) (va_recv hK hP (ci := 1) (q0 := 1) rfl rfl) hP hS rfl hl.1 rfl (Nat.le_of_ble_eq_true rfl) dX1_replaceIn_112 ⟨Nat.zero_le _, Nat.zero_le _⟩ (fun r_12 u_12 H locs hF_12 hP hS => ?_)
              obtain ⟨w_12_cnt, w_12_kinds, w_12_firsts, w_12_seconds, w_12_heights, w_12_tables, w_12_replaced⟩ := u_12
              have hP : va_P D vwCl (pz_X q k w_12_cnt w_12_kinds w_12_firsts w_12_seconds w_12_heights w_12_tables w_12_replaced laid rules ps qs rs fs frules heads ends inforce usable summ) H := hP
              have hF := hF.trans (pz_be hF_12)
              try dsimp only at hF
              have hc : pz_c w_12_cnt := by
                have hz : w_12_cnt = _ := congrArg (fun z => z.2.1) hF_12
                rw [hz]
                exact pz_replaceIn_c n _ _ _ _ _ _ _ _ _ _ _ hc
              refine lv_istore (lv' := [(6, .int (r_12)), (5, .int (r_9)), (0, .ref (q 1)), (1, .int (x1)), (2, .int (x2)), (3, .int (x3)), (4, .int (x4))]) hx hb dX1_replaceIn_115 hl (by decide) rfl (fun ls hl => ?_)
              refine lv_iload hx hb dX1_replaceIn_117 (lv_at hl 0 rfl) ?_
              refine lv_bipush (v := (-4)) hx hb dX1_replaceIn_119 (by decide) ?_
              refine lv_icmp_ne (tgt := 127) hx hb dX1_replaceIn_121 (by decide) (fun c_13 => ?_) (fun c_13 => ?_)
              · have hF := hF.trans (if_neg c_13)
                refine lv_aload_n hx hb dX1_replaceIn_127 rfl (lv_at hl 2 rfl) ?_
                refine va_get (D := D) (ci := 1) (v := .ref (q 9)) (C := RX1) (T := TX1) (N := 7) hx hb hts in_X1_replaceIn_X1 hown hK hP 1 rfl rfl 5 (by decide) (hts _ fl_X1_replaceIn_28) (fun _ h9 => h9) rfl dX1_replaceIn_128 ?_
                refine lv_iload_n hx hb dX1_replaceIn_131 rfl (lv_at hl 3 rfl) ?_
                refine lv_aload_n hx hb dX1_replaceIn_132 rfl (lv_at hl 2 rfl) ?_
                refine lv_aload_n hx hb dX1_replaceIn_133 rfl (lv_at hl 2 rfl) ?_
                refine va_get (D := D) (ci := 1) (v := .ref (q 4)) (C := RX1) (T := TX1) (N := 7) hx hb hts in_X1_replaceIn_X1 hown hK hP 1 rfl rfl 0 (by decide) (hts _ fl_X1_replaceIn_9) (fun _ h9 => h9) rfl dX1_replaceIn_134 ?_
                refine lv_iload_n hx hb dX1_replaceIn_137 rfl (lv_at hl 3 rfl) ?_
                have hi_14 : vp_in x1 80 := by first | exact pz_has hc ‹_› ‹_› | assumption
                refine va_iald hx hb hK hP 4 0 rfl rfl hi_14 dX1_replaceIn_138 ?_
                refine lv_iload hx hb dX1_replaceIn_139 (lv_at hl 1 rfl) ?_
                refine lv_iload hx hb dX1_replaceIn_141 (lv_at hl 0 rfl) ?_
                refine pz_Vi (As := [.int ((w_12_kinds (x1).toNatClampNeg)), .int (r_9), .int (r_12)]) (rest := [.int (x1), .ref (q 9)]) ⟨hx, hb, hml, hown, hts⟩ (c_X1_make l D q k t w_12_cnt w_12_kinds w_12_firsts w_12_seconds w_12_heights w_12_tables w_12_replaced laid rules ps qs rs fs frules heads ends inforce usable summ (w_12_kinds (x1).toNatClampNeg) r_9 r_12 hc) (cwV 3 hts gX1_replaceIn_X1_make rfl rfl rfl hdV_X1_make ⟨(show 3 + 1 ≤ 5 + (n + 1) by omega), (show 8 + (6 + 11) + 65 ≤ 90 + 26 * (n + 1) by omega)⟩) pz_KX.call (hKX.go hS) (va_recv hK hP (ci := 1) (q0 := 1) rfl rfl) hP hS rfl hl.1 rfl (Nat.le_of_ble_eq_true rfl) dX1_replaceIn_143 ⟨Nat.zero_le _, Nat.zero_le _⟩ (fun r_15 u_15 H locs hF_15 hP hS => ?_)
                obtain ⟨w_15_cnt, w_15_kinds, w_15_firsts, w_15_seconds, w_15_heights, w_15_tables⟩ := u_15
                have hP : va_P D vwCl (pz_X q k w_15_cnt w_15_kinds w_15_firsts w_15_seconds w_15_heights w_15_tables w_12_replaced laid rules ps qs rs fs frules heads ends inforce usable summ) H := hP
                have hF := hF.trans (pz_be hF_15)
                try dsimp only at hF
                have hc : pz_c w_15_cnt := by
                  have hz : w_15_cnt = _ := congrArg (fun z => z.2.1) hF_15
                  rw [hz]
                  exact pz_make_c hc
                have hi_16 : vp_in x1 80 := by first | exact pz_has hc ‹_› ‹_› | assumption
                refine va_iast hx hb hK hP (pz_D hKX.2.2.2.2.2.2.2.2 rfl) hS 9 0 rfl rfl hi_16 dX1_replaceIn_146 (fun H locs hP _ hS => ?_)
                have hP : va_P D vwCl (pz_X q k w_15_cnt w_15_kinds w_15_firsts w_15_seconds w_15_heights w_15_tables (upd w_12_replaced (x1).toNatClampNeg r_15) laid rules ps qs rs fs frules heads ends inforce usable summ) H := hP
                refine lv_aload_n hx hb dX1_replaceIn_147 rfl (lv_at hl 2 rfl) ?_
                refine va_get (D := D) (ci := 1) (v := .ref (q 9)) (C := RX1) (T := TX1) (N := 7) hx hb hts in_X1_replaceIn_X1 hown hK hP 1 rfl rfl 5 (by decide) (hts _ fl_X1_replaceIn_28) (fun _ h9 => h9) rfl dX1_replaceIn_148 ?_
                refine lv_iload_n hx hb dX1_replaceIn_151 rfl (lv_at hl 3 rfl) ?_
                have hi_17 : vp_in x1 80 := by first | exact pz_has hc ‹_› ‹_› | assumption
                refine va_iald hx hb hK hP 9 0 rfl rfl hi_17 dX1_replaceIn_152 ?_
                exact W.iret (v := ((upd w_12_replaced (x1).toNatClampNeg r_15) (x1).toNatClampNeg)) hx hb hr (fun t ht hW => ⟨⟨((upd w_12_replaced (x1).toNatClampNeg r_15) (x1).toNatClampNeg), (w_15_cnt, w_15_kinds, w_15_firsts, w_15_seconds, w_15_heights, w_15_tables, (upd w_12_replaced (x1).toNatClampNeg r_15)), rfl, hF.symm, pz_hp ht hP⟩, hS.F ht⟩) hS.2.2 dX1_replaceIn_153 hlocks
              · have hF := hF.trans (if_pos c_13)
                refine lv_bipush (v := (-4)) hx hb dX1_replaceIn_124 (by decide) ?_
                exact W.iret (v := (-4)) hx hb hr (fun t ht hW => ⟨⟨(-4), (w_12_cnt, w_12_kinds, w_12_firsts, w_12_seconds, w_12_heights, w_12_tables, w_12_replaced), rfl, hF.symm, pz_hp ht hP⟩, hS.F ht⟩) hS.2.2 dX1_replaceIn_126 hlocks
            · have hF := hF.trans (if_pos c_10)
              refine lv_bipush (v := (-4)) hx hb dX1_replaceIn_96 (by decide) ?_
              exact W.iret (v := (-4)) hx hb hr (fun t ht hW => ⟨⟨(-4), (w_9_cnt, w_9_kinds, w_9_firsts, w_9_seconds, w_9_heights, w_9_tables, w_9_replaced), rfl, hF.symm, pz_hp ht hP⟩, hS.F ht⟩) hS.2.2 dX1_replaceIn_98 hlocks
          · have hF := hF.trans (if_neg c_7)
            refine lv_aload_n hx hb dX1_replaceIn_64 rfl (lv_at hl 0 rfl) ?_
            refine va_get (D := D) (ci := 1) (v := .ref (q 9)) (C := RX1) (T := TX1) (N := 7) hx hb hts in_X1_replaceIn_X1 hown hK hP 1 rfl rfl 5 (by decide) (hts _ fl_X1_replaceIn_28) (fun _ h9 => h9) rfl dX1_replaceIn_65 ?_
            refine lv_iload_n hx hb dX1_replaceIn_68 rfl (lv_at hl 1 rfl) ?_
            have hi_18 : vp_in x1 80 := by first | exact pz_has hc ‹_› ‹_› | assumption
            refine va_iald hx hb hK hP 9 0 rfl rfl hi_18 dX1_replaceIn_69 ?_
            exact W.iret (v := (replaced (x1).toNatClampNeg)) hx hb hr (fun t ht hW => ⟨⟨(replaced (x1).toNatClampNeg), (cnt, kinds, firsts, seconds, heights, tables, replaced), rfl, hF.symm, pz_hp ht hP⟩, hS.F ht⟩) hS.2.2 dX1_replaceIn_70 hlocks
        · have hF := hF.trans (if_neg c_5)
          refine lv_aload_n hx hb dX1_replaceIn_28 rfl (lv_at hl 0 rfl) ?_
          refine va_get (D := D) (ci := 1) (v := .ref (q 4)) (C := RX1) (T := TX1) (N := 7) hx hb hts in_X1_replaceIn_X1 hown hK hP 1 rfl rfl 0 (by decide) (hts _ fl_X1_replaceIn_9) (fun _ h9 => h9) rfl dX1_replaceIn_29 ?_
          refine lv_iload_n hx hb dX1_replaceIn_32 rfl (lv_at hl 1 rfl) ?_
          have hi_19 : vp_in x1 80 := by first | exact pz_has hc ‹_› ‹_› | assumption
          refine va_iald hx hb hK hP 4 0 rfl rfl hi_19 dX1_replaceIn_33 ?_
          refine lv_iconst (v := 1) hx hb dX1_replaceIn_34 (by decide) ?_
          refine lv_icmp_ne (tgt := 52) hx hb dX1_replaceIn_35 (by decide) (fun c_20 => ?_) (fun c_20 => ?_)
          · have hF := hF.trans (if_neg c_20)
            refine lv_iload_n hx hb dX1_replaceIn_52 rfl (lv_at hl 1 rfl) ?_
            exact W.iret (v := x1) hx hb hr (fun t ht hW => ⟨⟨x1, (cnt, kinds, firsts, seconds, heights, tables, replaced), rfl, hF.symm, pz_hp ht hP⟩, hS.F ht⟩) hS.2.2 dX1_replaceIn_53 hlocks
          · have hF := hF.trans (if_pos c_20)
            refine lv_aload_n hx hb dX1_replaceIn_38 rfl (lv_at hl 0 rfl) ?_
            refine va_get (D := D) (ci := 1) (v := .ref (q 5)) (C := RX1) (T := TX1) (N := 7) hx hb hts in_X1_replaceIn_X1 hown hK hP 1 rfl rfl 1 (by decide) (hts _ fl_X1_replaceIn_15) (fun _ h9 => h9) rfl dX1_replaceIn_39 ?_
            refine lv_iload_n hx hb dX1_replaceIn_42 rfl (lv_at hl 1 rfl) ?_
            have hi_21 : vp_in x1 80 := by first | exact pz_has hc ‹_› ‹_› | assumption
            refine va_iald hx hb hK hP 5 0 rfl rfl hi_21 dX1_replaceIn_43 ?_
            refine lv_iload_n hx hb dX1_replaceIn_44 rfl (lv_at hl 2 rfl) ?_
            refine lv_icmp_ne (tgt := 52) hx hb dX1_replaceIn_45 (by decide) (fun c_22 => ?_) (fun c_22 => ?_)
            · have hF := hF.trans (if_neg c_22)
              refine lv_iload_n hx hb dX1_replaceIn_52 rfl (lv_at hl 1 rfl) ?_
              exact W.iret (v := x1) hx hb hr (fun t ht hW => ⟨⟨x1, (cnt, kinds, firsts, seconds, heights, tables, replaced), rfl, hF.symm, pz_hp ht hP⟩, hS.F ht⟩) hS.2.2 dX1_replaceIn_53 hlocks
            · have hF := hF.trans (if_pos c_22)
              refine lv_iload_n hx hb dX1_replaceIn_48 rfl (lv_at hl 3 rfl) ?_
              refine lv_goto (tgt := 53) hx hb dX1_replaceIn_49 (by decide) ?_
              exact W.iret (v := x3) hx hb hr (fun t ht hW => ⟨⟨x3, (cnt, kinds, firsts, seconds, heights, tables, replaced), rfl, hF.symm, pz_hp ht hP⟩, hS.F ht⟩) hS.2.2 dX1_replaceIn_53 hlocks
      · have hF := hF.trans (if_pos c_3)
        refine lv_bipush (v := (-4)) hx hb dX1_replaceIn_15 (by decide) ?_
        exact W.iret (v := (-4)) hx hb hr (fun t ht hW => ⟨⟨(-4), (cnt, kinds, firsts, seconds, heights, tables, replaced), rfl, hF.symm, pz_hp ht hP⟩, hS.F ht⟩) hS.2.2 dX1_replaceIn_17 hlocks

-- == X1_replace
def f_X1_replace (cnt : Int32) (kinds : Nat → Int32) (firsts : Nat → Int32) (seconds : Nat → Int32) (heights : Nat → Int32) (tables : Nat → Int64) (replaced : Nat → Int32) (x1 : Int32) (x2 : Int32) (x3 : Int32) : Int32 × (Int32) × (Nat → Int32) × (Nat → Int32) × (Nat → Int32) × (Nat → Int32) × (Nat → Int64) × (Nat → Int32) := pz_bnd (f_J7_fill_53178 replaced (-1)) (fun z_1 => pz_bnd (f_X1_replaceIn 12 cnt kinds firsts seconds heights tables z_1 x1 x2 x3 1) (fun z_2 => (z_2.1, z_2.2.1, z_2.2.2.1, z_2.2.2.2.1, z_2.2.2.2.2.1, z_2.2.2.2.2.2.1, z_2.2.2.2.2.2.2.1, z_2.2.2.2.2.2.2.2)))
theorem fl_X1_replace_28 : Cond.fieldLink RX1 28 "BoxProofs$Formulas" "replaced" "[I" ∈ wsX1_replace := by decide +kernel
theorem hdS_J7_fill_53178 : yJ7_fill_53178.cls ≠ "java/lang/invoke/MethodHandle" ∧ yJ7_fill_53178.cls ≠ "java/lang/invoke/VarHandle" ∧ (parseMethodDescriptor yJ7_fill_53178.desc).map (fun d => d.parameters.length) = some 2 := by decide +kernel
theorem in_X1_replace_X1 : ∀ w ∈ wsX10, w ∈ wsX1_replace := by decide +kernel
set_option maxHeartbeats 4000000 in
set_option maxRecDepth 100000 in
theorem c_X1_replace (l : Launch) (D : va_G) (q : Nat → Nat) (k : Nat → ClassId) (t : Nat → Nat) (cnt : Int32) (kinds : Nat → Int32) (firsts : Nat → Int32) (seconds : Nat → Int32) (heights : Nat → Int32) (tables : Nat → Int64) (replaced : Nat → Int32) (laid : Nat → Int32) (rules : Nat → Int32) (ps : Nat → Int32) (qs : Nat → Int32) (rs : Nat → Int32) (fs : Nat → Int32) (frules : Nat → Int32) (heads : Nat → Int32) (ends : Nat → Int32) (inforce : Nat → Int32) (usable : Nat → Int32) (summ : Nat → Int32) (x1 : Int32) (x2 : Int32) (x3 : Int32) (hc : pz_c cnt) : Met l yX1_replace wsX1_replace ({ frames := 18, cells := 0, slots := 0, locals := 428 }) (va_Pc [.ref (q 1), .int (x1), .int (x2), .int (x3)] (fun U => va_P D vwCl (pz_X q k cnt kinds firsts seconds heights tables replaced laid rules ps qs rs fs frules heads ends inforce usable summ) U.heap ∧ pz_KX D q k t U)) (va_Qi (fun r (u : (Int32) × (Nat → Int32) × (Nat → Int32) × (Nat → Int32) × (Nat → Int32) × (Nat → Int64) × (Nat → Int32)) => (r, u) = (f_X1_replace cnt kinds firsts seconds heights tables replaced x1 x2 x3)) (fun u t => va_P D vwCl (pz_X q k u.1 u.2.1 u.2.2.1 u.2.2.2.1 u.2.2.2.2.1 u.2.2.2.2.2.1 u.2.2.2.2.2.2 laid rules ps qs rs fs frules heads ends inforce usable summ) t.heap) (pz_A 22 q)) 0 0 (pz_A 22 q) := by
  refine Met.ofW (cc := cX1_replace) (maxL := 4) (ret := (some .int)) (by decide) rfl ?_
  intro p e s m args below meth c s₁ B hml hv
  obtain ⟨rfl, hP, hKX⟩ := hv
  have hx := B.exec
  have hb := B.bytes
  have hr := B.returns
  have hts := atoms_spec (ws := wsX1_replace) B.pre
  have hown : s.vm.findClass RX1 = some m.cls := findClass_of_methodNamed B.named
  have hlocks := B.notSynchronized
  have hC : pz_C p s m ([.ref (q 1), .int (x1), .int (x2), .int (x3)] : List Value).toArray meth c cX1_replace wsX1_replace RX1 4 (some .int) := ⟨hx, hb, hml, hown, hts, hr, hlocks⟩
  have hK := hKX.1
  have hS : va_S (pz_A 22 q) s.heap s.heap [] := va_S.rf
  have hl := lv_entry [.ref (q 1), .int (x1), .int (x2), .int (x3)] (n := 4) (Nat.le_of_ble_eq_true rfl)
  rw [lg_entry_eq]
  generalize (lg_sl [.ref (q 1), .int (x1), .int (x2), .int (x3)] ++ List.replicate (4 - (lg_sl [.ref (q 1), .int (x1), .int (x2), .int (x3)]).length) Slot.unset).toArray = ls at hl ⊢
  have hl : lv_has ls 4 [(0, .ref (q 1)), (1, .int (x1)), (2, .int (x2)), (3, .int (x3))] := hl
  generalize hF : f_X1_replace cnt kinds firsts seconds heights tables replaced x1 x2 x3 = G
  replace hF := hF.symm
  unfold f_X1_replace at hF
  refine lv_aload_n hx hb dX1_replace_0 rfl (lv_at hl 0 rfl) ?_
  refine va_get (D := D) (ci := 1) (v := .ref (q 9)) (C := RX1) (T := TX1) (N := 7) hx hb hts in_X1_replace_X1 hown hK hP 1 rfl rfl 5 (by decide) (hts _ fl_X1_replace_28) (fun _ h9 => h9) rfl dX1_replace_1 ?_
  refine lv_iconst (v := (-1)) hx hb dX1_replace_4 (by decide) ?_
  refine pz_SWv (As := [.ref (q 9), .int ((-1))]) (rest := []) ⟨hx, hb, hml, hown, hts⟩ (c_J7_fill_53178 l D q k t cnt kinds firsts seconds heights tables replaced laid rules ps qs rs fs frules heads ends inforce usable summ (-1)) (va_cwS 2 hts gX1_replace_J7_fill_53178 rfl rfl rfl hdS_J7_fill_53178 ⟨Nat.le_of_ble_eq_true rfl, Nat.le_of_ble_eq_true rfl⟩) pz_KX.call (hKX.go hS) hP hS rfl hl.1 rfl (Nat.le_of_ble_eq_true rfl) dX1_replace_5 ⟨Nat.zero_le _, Nat.zero_le _⟩ (fun u_1 H locs hF_1 hP hS => ?_)
  obtain ⟨w_1_replaced, rfl⟩ : ∃ z, z = u_1 := ⟨_, rfl⟩
  have hP : va_P D vwCl (pz_X q k cnt kinds firsts seconds heights tables w_1_replaced laid rules ps qs rs fs frules heads ends inforce usable summ) H := hP
  have hF := hF.trans (pz_be hF_1)
  try dsimp only at hF
  refine lv_aload_n hx hb dX1_replace_8 rfl (lv_at hl 0 rfl) ?_
  refine lv_iload_n hx hb dX1_replace_9 rfl (lv_at hl 1 rfl) ?_
  refine lv_iload_n hx hb dX1_replace_10 rfl (lv_at hl 2 rfl) ?_
  refine lv_iload_n hx hb dX1_replace_11 rfl (lv_at hl 3 rfl) ?_
  refine lv_iconst (v := 1) hx hb dX1_replace_12 (by decide) ?_
  refine pz_Vi (As := [.int (x1), .int (x2), .int (x3), .int (1)]) (rest := []) ⟨hx, hb, hml, hown, hts⟩ (c_X1_replaceIn l D q k t 12 cnt kinds firsts seconds heights tables w_1_replaced laid rules ps qs rs fs frules heads ends inforce usable summ x1 x2 x3 1 1 rfl (by omega) (by omega) hc) (cwV 4 hts gX1_replace_X1_replaceIn rfl rfl rfl hdV_X1_replaceIn ⟨Nat.le_of_ble_eq_true rfl, Nat.le_of_ble_eq_true rfl⟩) pz_KX.call (hKX.go hS) (va_recv hK hP (ci := 1) (q0 := 1) rfl rfl) hP hS rfl hl.1 rfl (Nat.le_of_ble_eq_true rfl) dX1_replace_13 ⟨Nat.zero_le _, Nat.zero_le _⟩ (fun r_2 u_2 H locs hF_2 hP hS => ?_)
  obtain ⟨w_2_cnt, w_2_kinds, w_2_firsts, w_2_seconds, w_2_heights, w_2_tables, w_2_replaced⟩ := u_2
  have hP : va_P D vwCl (pz_X q k w_2_cnt w_2_kinds w_2_firsts w_2_seconds w_2_heights w_2_tables w_2_replaced laid rules ps qs rs fs frules heads ends inforce usable summ) H := hP
  have hF := hF.trans (pz_be hF_2)
  try dsimp only at hF
  exact W.iret (v := r_2) hx hb hr (fun t ht hW => ⟨⟨r_2, (w_2_cnt, w_2_kinds, w_2_firsts, w_2_seconds, w_2_heights, w_2_tables, w_2_replaced), rfl, hF.symm, pz_hp ht hP⟩, hS.F ht⟩) hS.2.2 dX1_replace_16 hlocks
end
section
-- == X0_ruleOf
def f_X0_ruleOf (frules : Nat → Int32) (x1 : Int32) : Int32 := pz_bnd (f_X3_isLine x1) (fun z_1 => if z_1 = 0 then ((-1)) else ((frules (x1).toNatClampNeg)))
theorem fl_X0_ruleOf_9 : Cond.fieldLink RX0 9 "BoxProofs$Findings" "rules" "[I" ∈ wsX0_ruleOf := by decide +kernel
theorem in_X0_ruleOf_X0 : ∀ w ∈ wsX00, w ∈ wsX0_ruleOf := by decide +kernel
theorem mm_X0_ruleOf_Cond_initialized_RX3 : Cond.initialized RX3 ∈ wsX0_ruleOf := by decide +kernel
theorem mm_X0_ruleOf_Cond_static_yX3_isLine : Cond.static yX3_isLine ∈ wsX0_ruleOf := by decide +kernel
set_option maxHeartbeats 4000000 in
set_option maxRecDepth 100000 in
theorem c_X0_ruleOf (l : Launch) (D : va_G) (q : Nat → Nat) (k : Nat → ClassId) (t : Nat → Nat) (cnt : Int32) (kinds : Nat → Int32) (firsts : Nat → Int32) (seconds : Nat → Int32) (heights : Nat → Int32) (tables : Nat → Int64) (replaced : Nat → Int32) (laid : Nat → Int32) (rules : Nat → Int32) (ps : Nat → Int32) (qs : Nat → Int32) (rs : Nat → Int32) (fs : Nat → Int32) (frules : Nat → Int32) (heads : Nat → Int32) (ends : Nat → Int32) (inforce : Nat → Int32) (usable : Nat → Int32) (summ : Nat → Int32) (x1 : Int32)  : Met l yX0_ruleOf wsX0_ruleOf ({ frames := 1, cells := 0, slots := 0, locals := 20 }) (va_Pc [.ref (q 3), .int (x1)] (fun U => va_P D vwCl (pz_X q k cnt kinds firsts seconds heights tables replaced laid rules ps qs rs fs frules heads ends inforce usable summ) U.heap ∧ pz_KX D q k t U)) (va_Qi (fun r (_ : Unit) => r = (f_X0_ruleOf frules x1)) (fun _ t => va_P D vwCl (pz_X q k cnt kinds firsts seconds heights tables replaced laid rules ps qs rs fs frules heads ends inforce usable summ) t.heap) (pz_A 22 q)) 0 0 (pz_A 22 q) := by
  refine Met.ofW (cc := cX0_ruleOf) (maxL := 2) (ret := (some .int)) (by decide) rfl ?_
  intro p e s m args below meth c s₁ B hml hv
  obtain ⟨rfl, hP, hKX⟩ := hv
  have hx := B.exec
  have hb := B.bytes
  have hr := B.returns
  have hts := atoms_spec (ws := wsX0_ruleOf) B.pre
  have hown : s.vm.findClass RX0 = some m.cls := findClass_of_methodNamed B.named
  have hlocks := B.notSynchronized
  have hC : pz_C p s m ([.ref (q 3), .int (x1)] : List Value).toArray meth c cX0_ruleOf wsX0_ruleOf RX0 2 (some .int) := ⟨hx, hb, hml, hown, hts, hr, hlocks⟩
  have hK := hKX.1
  have hS : va_S (pz_A 22 q) s.heap s.heap [] := va_S.rf
  have hl := lv_entry [.ref (q 3), .int (x1)] (n := 2) (Nat.le_of_ble_eq_true rfl)
  rw [lg_entry_eq]
  generalize (lg_sl [.ref (q 3), .int (x1)] ++ List.replicate (2 - (lg_sl [.ref (q 3), .int (x1)]).length) Slot.unset).toArray = ls at hl ⊢
  have hl : lv_has ls 2 [(0, .ref (q 3)), (1, .int (x1))] := hl
  generalize hF : f_X0_ruleOf frules x1 = G
  replace hF := hF.symm
  unfold f_X0_ruleOf at hF
  refine lv_iload_n hx hb dX0_ruleOf_0 rfl (lv_at hl 1 rfl) ?_
  refine pz_SNi (As := [.int (x1)]) (rest := []) ⟨hx, hb, hml, hown, hts⟩ (c_X3_isLine l x1) ⟨va_cnB 1 hts gX0_ruleOf_X3_isLine_n38 rfl rfl rfl hKX.2.1 (hts _ mm_X0_ruleOf_Cond_initialized_RX3) hdS_X3_isLine ⟨Nat.le_of_ble_eq_true rfl, Nat.le_of_ble_eq_true rfl⟩, hts _ mm_X0_ruleOf_Cond_static_yX3_isLine, trivial⟩ hP hS rfl hl.1 rfl (Nat.le_of_ble_eq_true rfl) dX0_ruleOf_1 ⟨Nat.zero_le _, Nat.zero_le _⟩ (fun r_1 H locs hF_1 hP hS => ?_)
  have hF := hF.trans (pz_be hF_1)
  refine lv_if_eq (tgt := 16) hx hb dX0_ruleOf_4 (by decide) (fun c_2 => ?_) (fun c_2 => ?_)
  · have hF := hF.trans (if_pos c_2)
    refine lv_iconst (v := (-1)) hx hb dX0_ruleOf_16 (by decide) ?_
    exact W.iret (v := (-1)) hx hb hr (fun t ht hW => ⟨⟨(-1), (), rfl, hF.symm, pz_hp ht hP⟩, hS.F ht⟩) hS.2.2 dX0_ruleOf_17 hlocks
  · have hF := hF.trans (if_neg c_2)
    refine lv_aload_n hx hb dX0_ruleOf_7 rfl (lv_at hl 0 rfl) ?_
    refine va_get (D := D) (ci := 0) (v := .ref (q 16)) (C := RX0) (T := TX0) (N := 6) hx hb hts in_X0_ruleOf_X0 hown hK hP 3 rfl rfl 0 (by decide) (hts _ fl_X0_ruleOf_9) (fun _ h9 => h9) rfl dX0_ruleOf_8 ?_
    refine lv_iload_n hx hb dX0_ruleOf_11 rfl (lv_at hl 1 rfl) ?_
    have hi_3 : vp_in x1 60 := by first | exact pz_line ‹_› ‹_› | assumption
    refine va_iald hx hb hK hP 16 0 rfl rfl hi_3 dX0_ruleOf_12 ?_
    refine lv_goto (tgt := 17) hx hb dX0_ruleOf_13 (by decide) ?_
    exact W.iret (v := (frules (x1).toNatClampNeg)) hx hb hr (fun t ht hW => ⟨⟨(frules (x1).toNatClampNeg), (), rfl, hF.symm, pz_hp ht hP⟩, hS.F ht⟩) hS.2.2 dX0_ruleOf_17 hlocks

-- == X0_headOf
def f_X0_headOf (heads : Nat → Int32) (x1 : Int32) : Int32 := pz_bnd (f_X3_isLine x1) (fun z_1 => if z_1 = 0 then ((-1)) else ((heads (x1).toNatClampNeg)))
theorem fl_X0_headOf_15 : Cond.fieldLink RX0 15 "BoxProofs$Findings" "heads" "[I" ∈ wsX0_headOf := by decide +kernel
theorem in_X0_headOf_X0 : ∀ w ∈ wsX00, w ∈ wsX0_headOf := by decide +kernel
theorem mm_X0_headOf_Cond_initialized_RX3 : Cond.initialized RX3 ∈ wsX0_headOf := by decide +kernel
theorem mm_X0_headOf_Cond_static_yX3_isLine : Cond.static yX3_isLine ∈ wsX0_headOf := by decide +kernel
set_option maxHeartbeats 4000000 in
set_option maxRecDepth 100000 in
theorem c_X0_headOf (l : Launch) (D : va_G) (q : Nat → Nat) (k : Nat → ClassId) (t : Nat → Nat) (cnt : Int32) (kinds : Nat → Int32) (firsts : Nat → Int32) (seconds : Nat → Int32) (heights : Nat → Int32) (tables : Nat → Int64) (replaced : Nat → Int32) (laid : Nat → Int32) (rules : Nat → Int32) (ps : Nat → Int32) (qs : Nat → Int32) (rs : Nat → Int32) (fs : Nat → Int32) (frules : Nat → Int32) (heads : Nat → Int32) (ends : Nat → Int32) (inforce : Nat → Int32) (usable : Nat → Int32) (summ : Nat → Int32) (x1 : Int32)  : Met l yX0_headOf wsX0_headOf ({ frames := 1, cells := 0, slots := 0, locals := 20 }) (va_Pc [.ref (q 3), .int (x1)] (fun U => va_P D vwCl (pz_X q k cnt kinds firsts seconds heights tables replaced laid rules ps qs rs fs frules heads ends inforce usable summ) U.heap ∧ pz_KX D q k t U)) (va_Qi (fun r (_ : Unit) => r = (f_X0_headOf heads x1)) (fun _ t => va_P D vwCl (pz_X q k cnt kinds firsts seconds heights tables replaced laid rules ps qs rs fs frules heads ends inforce usable summ) t.heap) (pz_A 22 q)) 0 0 (pz_A 22 q) := by
  refine Met.ofW (cc := cX0_headOf) (maxL := 2) (ret := (some .int)) (by decide) rfl ?_
  intro p e s m args below meth c s₁ B hml hv
  obtain ⟨rfl, hP, hKX⟩ := hv
  have hx := B.exec
  have hb := B.bytes
  have hr := B.returns
  have hts := atoms_spec (ws := wsX0_headOf) B.pre
  have hown : s.vm.findClass RX0 = some m.cls := findClass_of_methodNamed B.named
  have hlocks := B.notSynchronized
  have hC : pz_C p s m ([.ref (q 3), .int (x1)] : List Value).toArray meth c cX0_headOf wsX0_headOf RX0 2 (some .int) := ⟨hx, hb, hml, hown, hts, hr, hlocks⟩
  have hK := hKX.1
  have hS : va_S (pz_A 22 q) s.heap s.heap [] := va_S.rf
  have hl := lv_entry [.ref (q 3), .int (x1)] (n := 2) (Nat.le_of_ble_eq_true rfl)
  rw [lg_entry_eq]
  generalize (lg_sl [.ref (q 3), .int (x1)] ++ List.replicate (2 - (lg_sl [.ref (q 3), .int (x1)]).length) Slot.unset).toArray = ls at hl ⊢
  have hl : lv_has ls 2 [(0, .ref (q 3)), (1, .int (x1))] := hl
  generalize hF : f_X0_headOf heads x1 = G
  replace hF := hF.symm
  unfold f_X0_headOf at hF
  refine lv_iload_n hx hb dX0_headOf_0 rfl (lv_at hl 1 rfl) ?_
  refine pz_SNi (As := [.int (x1)]) (rest := []) ⟨hx, hb, hml, hown, hts⟩ (c_X3_isLine l x1) ⟨va_cnB 1 hts gX0_headOf_X3_isLine_n38 rfl rfl rfl hKX.2.1 (hts _ mm_X0_headOf_Cond_initialized_RX3) hdS_X3_isLine ⟨Nat.le_of_ble_eq_true rfl, Nat.le_of_ble_eq_true rfl⟩, hts _ mm_X0_headOf_Cond_static_yX3_isLine, trivial⟩ hP hS rfl hl.1 rfl (Nat.le_of_ble_eq_true rfl) dX0_headOf_1 ⟨Nat.zero_le _, Nat.zero_le _⟩ (fun r_1 H locs hF_1 hP hS => ?_)
  have hF := hF.trans (pz_be hF_1)
  refine lv_if_eq (tgt := 16) hx hb dX0_headOf_4 (by decide) (fun c_2 => ?_) (fun c_2 => ?_)
  · have hF := hF.trans (if_pos c_2)
    refine lv_iconst (v := (-1)) hx hb dX0_headOf_16 (by decide) ?_
    exact W.iret (v := (-1)) hx hb hr (fun t ht hW => ⟨⟨(-1), (), rfl, hF.symm, pz_hp ht hP⟩, hS.F ht⟩) hS.2.2 dX0_headOf_17 hlocks
  · have hF := hF.trans (if_neg c_2)
    refine lv_aload_n hx hb dX0_headOf_7 rfl (lv_at hl 0 rfl) ?_
    refine va_get (D := D) (ci := 0) (v := .ref (q 17)) (C := RX0) (T := TX0) (N := 6) hx hb hts in_X0_headOf_X0 hown hK hP 3 rfl rfl 1 (by decide) (hts _ fl_X0_headOf_15) (fun _ h9 => h9) rfl dX0_headOf_8 ?_
    refine lv_iload_n hx hb dX0_headOf_11 rfl (lv_at hl 1 rfl) ?_
    have hi_3 : vp_in x1 60 := by first | exact pz_line ‹_› ‹_› | assumption
    refine va_iald hx hb hK hP 17 0 rfl rfl hi_3 dX0_headOf_12 ?_
    refine lv_goto (tgt := 17) hx hb dX0_headOf_13 (by decide) ?_
    exact W.iret (v := (heads (x1).toNatClampNeg)) hx hb hr (fun t ht hW => ⟨⟨(heads (x1).toNatClampNeg), (), rfl, hF.symm, pz_hp ht hP⟩, hS.F ht⟩) hS.2.2 dX0_headOf_17 hlocks

-- == X0_endOf
def f_X0_endOf (ends : Nat → Int32) (x1 : Int32) : Int32 := pz_bnd (f_X3_isLine x1) (fun z_1 => if z_1 = 0 then ((-1)) else ((ends (x1).toNatClampNeg)))
theorem fl_X0_endOf_18 : Cond.fieldLink RX0 18 "BoxProofs$Findings" "ends" "[I" ∈ wsX0_endOf := by decide +kernel
theorem in_X0_endOf_X0 : ∀ w ∈ wsX00, w ∈ wsX0_endOf := by decide +kernel
theorem mm_X0_endOf_Cond_initialized_RX3 : Cond.initialized RX3 ∈ wsX0_endOf := by decide +kernel
theorem mm_X0_endOf_Cond_static_yX3_isLine : Cond.static yX3_isLine ∈ wsX0_endOf := by decide +kernel
set_option maxHeartbeats 4000000 in
set_option maxRecDepth 100000 in
theorem c_X0_endOf (l : Launch) (D : va_G) (q : Nat → Nat) (k : Nat → ClassId) (t : Nat → Nat) (cnt : Int32) (kinds : Nat → Int32) (firsts : Nat → Int32) (seconds : Nat → Int32) (heights : Nat → Int32) (tables : Nat → Int64) (replaced : Nat → Int32) (laid : Nat → Int32) (rules : Nat → Int32) (ps : Nat → Int32) (qs : Nat → Int32) (rs : Nat → Int32) (fs : Nat → Int32) (frules : Nat → Int32) (heads : Nat → Int32) (ends : Nat → Int32) (inforce : Nat → Int32) (usable : Nat → Int32) (summ : Nat → Int32) (x1 : Int32)  : Met l yX0_endOf wsX0_endOf ({ frames := 1, cells := 0, slots := 0, locals := 20 }) (va_Pc [.ref (q 3), .int (x1)] (fun U => va_P D vwCl (pz_X q k cnt kinds firsts seconds heights tables replaced laid rules ps qs rs fs frules heads ends inforce usable summ) U.heap ∧ pz_KX D q k t U)) (va_Qi (fun r (_ : Unit) => r = (f_X0_endOf ends x1)) (fun _ t => va_P D vwCl (pz_X q k cnt kinds firsts seconds heights tables replaced laid rules ps qs rs fs frules heads ends inforce usable summ) t.heap) (pz_A 22 q)) 0 0 (pz_A 22 q) := by
  refine Met.ofW (cc := cX0_endOf) (maxL := 2) (ret := (some .int)) (by decide) rfl ?_
  intro p e s m args below meth c s₁ B hml hv
  obtain ⟨rfl, hP, hKX⟩ := hv
  have hx := B.exec
  have hb := B.bytes
  have hr := B.returns
  have hts := atoms_spec (ws := wsX0_endOf) B.pre
  have hown : s.vm.findClass RX0 = some m.cls := findClass_of_methodNamed B.named
  have hlocks := B.notSynchronized
  have hC : pz_C p s m ([.ref (q 3), .int (x1)] : List Value).toArray meth c cX0_endOf wsX0_endOf RX0 2 (some .int) := ⟨hx, hb, hml, hown, hts, hr, hlocks⟩
  have hK := hKX.1
  have hS : va_S (pz_A 22 q) s.heap s.heap [] := va_S.rf
  have hl := lv_entry [.ref (q 3), .int (x1)] (n := 2) (Nat.le_of_ble_eq_true rfl)
  rw [lg_entry_eq]
  generalize (lg_sl [.ref (q 3), .int (x1)] ++ List.replicate (2 - (lg_sl [.ref (q 3), .int (x1)]).length) Slot.unset).toArray = ls at hl ⊢
  have hl : lv_has ls 2 [(0, .ref (q 3)), (1, .int (x1))] := hl
  generalize hF : f_X0_endOf ends x1 = G
  replace hF := hF.symm
  unfold f_X0_endOf at hF
  refine lv_iload_n hx hb dX0_endOf_0 rfl (lv_at hl 1 rfl) ?_
  refine pz_SNi (As := [.int (x1)]) (rest := []) ⟨hx, hb, hml, hown, hts⟩ (c_X3_isLine l x1) ⟨va_cnB 1 hts gX0_endOf_X3_isLine_n38 rfl rfl rfl hKX.2.1 (hts _ mm_X0_endOf_Cond_initialized_RX3) hdS_X3_isLine ⟨Nat.le_of_ble_eq_true rfl, Nat.le_of_ble_eq_true rfl⟩, hts _ mm_X0_endOf_Cond_static_yX3_isLine, trivial⟩ hP hS rfl hl.1 rfl (Nat.le_of_ble_eq_true rfl) dX0_endOf_1 ⟨Nat.zero_le _, Nat.zero_le _⟩ (fun r_1 H locs hF_1 hP hS => ?_)
  have hF := hF.trans (pz_be hF_1)
  refine lv_if_eq (tgt := 16) hx hb dX0_endOf_4 (by decide) (fun c_2 => ?_) (fun c_2 => ?_)
  · have hF := hF.trans (if_pos c_2)
    refine lv_iconst (v := (-1)) hx hb dX0_endOf_16 (by decide) ?_
    exact W.iret (v := (-1)) hx hb hr (fun t ht hW => ⟨⟨(-1), (), rfl, hF.symm, pz_hp ht hP⟩, hS.F ht⟩) hS.2.2 dX0_endOf_17 hlocks
  · have hF := hF.trans (if_neg c_2)
    refine lv_aload_n hx hb dX0_endOf_7 rfl (lv_at hl 0 rfl) ?_
    refine va_get (D := D) (ci := 0) (v := .ref (q 18)) (C := RX0) (T := TX0) (N := 6) hx hb hts in_X0_endOf_X0 hown hK hP 3 rfl rfl 2 (by decide) (hts _ fl_X0_endOf_18) (fun _ h9 => h9) rfl dX0_endOf_8 ?_
    refine lv_iload_n hx hb dX0_endOf_11 rfl (lv_at hl 1 rfl) ?_
    have hi_3 : vp_in x1 60 := by first | exact pz_line ‹_› ‹_› | assumption
    refine va_iald hx hb hK hP 18 0 rfl rfl hi_3 dX0_endOf_12 ?_
    refine lv_goto (tgt := 17) hx hb dX0_endOf_13 (by decide) ?_
    exact W.iret (v := (ends (x1).toNatClampNeg)) hx hb hr (fun t ht hW => ⟨⟨(ends (x1).toNatClampNeg), (), rfl, hF.symm, pz_hp ht hP⟩, hS.F ht⟩) hS.2.2 dX0_endOf_17 hlocks

-- == X0_isInForce
def f_X0_isInForce (inforce : Nat → Int32) (x1 : Int32) : Int32 := pz_bnd (f_X3_isLine x1) (fun z_1 => if z_1 = 0 then (0) else (if (inforce (x1).toNatClampNeg) = 0 then (0) else (1)))
theorem fl_X0_isInForce_21 : Cond.fieldLink RX0 21 "BoxProofs$Findings" "inForce" "[Z" ∈ wsX0_isInForce := by decide +kernel
theorem in_X0_isInForce_X0 : ∀ w ∈ wsX00, w ∈ wsX0_isInForce := by decide +kernel
theorem mm_X0_isInForce_Cond_initialized_RX3 : Cond.initialized RX3 ∈ wsX0_isInForce := by decide +kernel
theorem mm_X0_isInForce_Cond_static_yX3_isLine : Cond.static yX3_isLine ∈ wsX0_isInForce := by decide +kernel
set_option maxHeartbeats 4000000 in
set_option maxRecDepth 100000 in
theorem c_X0_isInForce (l : Launch) (D : va_G) (q : Nat → Nat) (k : Nat → ClassId) (t : Nat → Nat) (cnt : Int32) (kinds : Nat → Int32) (firsts : Nat → Int32) (seconds : Nat → Int32) (heights : Nat → Int32) (tables : Nat → Int64) (replaced : Nat → Int32) (laid : Nat → Int32) (rules : Nat → Int32) (ps : Nat → Int32) (qs : Nat → Int32) (rs : Nat → Int32) (fs : Nat → Int32) (frules : Nat → Int32) (heads : Nat → Int32) (ends : Nat → Int32) (inforce : Nat → Int32) (usable : Nat → Int32) (summ : Nat → Int32) (x1 : Int32)  : Met l yX0_isInForce wsX0_isInForce ({ frames := 1, cells := 0, slots := 0, locals := 20 }) (va_Pc [.ref (q 3), .int (x1)] (fun U => va_P D vwCl (pz_X q k cnt kinds firsts seconds heights tables replaced laid rules ps qs rs fs frules heads ends inforce usable summ) U.heap ∧ pz_KX D q k t U)) (va_Qi (fun r (_ : Unit) => r = (f_X0_isInForce inforce x1)) (fun _ t => va_P D vwCl (pz_X q k cnt kinds firsts seconds heights tables replaced laid rules ps qs rs fs frules heads ends inforce usable summ) t.heap) (pz_A 22 q)) 0 0 (pz_A 22 q) := by
  refine Met.ofW (cc := cX0_isInForce) (maxL := 2) (ret := (some .boolean)) (by decide) rfl ?_
  intro p e s m args below meth c s₁ B hml hv
  obtain ⟨rfl, hP, hKX⟩ := hv
  have hx := B.exec
  have hb := B.bytes
  have hr := B.returns
  have hts := atoms_spec (ws := wsX0_isInForce) B.pre
  have hown : s.vm.findClass RX0 = some m.cls := findClass_of_methodNamed B.named
  have hlocks := B.notSynchronized
  have hC : pz_C p s m ([.ref (q 3), .int (x1)] : List Value).toArray meth c cX0_isInForce wsX0_isInForce RX0 2 (some .boolean) := ⟨hx, hb, hml, hown, hts, hr, hlocks⟩
  have hK := hKX.1
  have hS : va_S (pz_A 22 q) s.heap s.heap [] := va_S.rf
  have hl := lv_entry [.ref (q 3), .int (x1)] (n := 2) (Nat.le_of_ble_eq_true rfl)
  rw [lg_entry_eq]
  generalize (lg_sl [.ref (q 3), .int (x1)] ++ List.replicate (2 - (lg_sl [.ref (q 3), .int (x1)]).length) Slot.unset).toArray = ls at hl ⊢
  have hl : lv_has ls 2 [(0, .ref (q 3)), (1, .int (x1))] := hl
  generalize hF : f_X0_isInForce inforce x1 = G
  replace hF := hF.symm
  unfold f_X0_isInForce at hF
  refine lv_iload_n hx hb dX0_isInForce_0 rfl (lv_at hl 1 rfl) ?_
  refine pz_SNi (As := [.int (x1)]) (rest := []) ⟨hx, hb, hml, hown, hts⟩ (c_X3_isLine l x1) ⟨va_cnB 1 hts gX0_isInForce_X3_isLine_n38 rfl rfl rfl hKX.2.1 (hts _ mm_X0_isInForce_Cond_initialized_RX3) hdS_X3_isLine ⟨Nat.le_of_ble_eq_true rfl, Nat.le_of_ble_eq_true rfl⟩, hts _ mm_X0_isInForce_Cond_static_yX3_isLine, trivial⟩ hP hS rfl hl.1 rfl (Nat.le_of_ble_eq_true rfl) dX0_isInForce_1 ⟨Nat.zero_le _, Nat.zero_le _⟩ (fun r_1 H locs hF_1 hP hS => ?_)
  have hF := hF.trans (pz_be hF_1)
  refine lv_if_eq (tgt := 20) hx hb dX0_isInForce_4 (by decide) (fun c_2 => ?_) (fun c_2 => ?_)
  · have hF := hF.trans (if_pos c_2)
    refine lv_iconst (v := 0) hx hb dX0_isInForce_20 (by decide) ?_
    exact W.zret (v := 0) hx hb hr rfl (fun t ht hW => ⟨⟨0, (), rfl, hF.symm, pz_hp ht hP⟩, hS.F ht⟩) hS.2.2 dX0_isInForce_21 hlocks
  · have hF := hF.trans (if_neg c_2)
    refine lv_aload_n hx hb dX0_isInForce_7 rfl (lv_at hl 0 rfl) ?_
    refine va_get (D := D) (ci := 0) (v := .ref (q 19)) (C := RX0) (T := TX0) (N := 6) hx hb hts in_X0_isInForce_X0 hown hK hP 3 rfl rfl 3 (by decide) (hts _ fl_X0_isInForce_21) (fun _ h9 => h9) rfl dX0_isInForce_8 ?_
    refine lv_iload_n hx hb dX0_isInForce_11 rfl (lv_at hl 1 rfl) ?_
    have hi_3 : vp_in x1 60 := by first | exact pz_line ‹_› ‹_› | assumption
    refine va_zald hx hb hK hP 19 2 rfl rfl hi_3 dX0_isInForce_12 ?_
    refine lv_if_eq (tgt := 20) hx hb dX0_isInForce_13 (by decide) (fun c_4 => ?_) (fun c_4 => ?_)
    · have hF := hF.trans (if_pos c_4)
      refine lv_iconst (v := 0) hx hb dX0_isInForce_20 (by decide) ?_
      exact W.zret (v := 0) hx hb hr rfl (fun t ht hW => ⟨⟨0, (), rfl, hF.symm, pz_hp ht hP⟩, hS.F ht⟩) hS.2.2 dX0_isInForce_21 hlocks
    · have hF := hF.trans (if_neg c_4)
      refine lv_iconst (v := 1) hx hb dX0_isInForce_16 (by decide) ?_
      refine lv_goto (tgt := 21) hx hb dX0_isInForce_17 (by decide) ?_
      exact W.zret (v := 1) hx hb hr rfl (fun t ht hW => ⟨⟨1, (), rfl, hF.symm, pz_hp ht hP⟩, hS.F ht⟩) hS.2.2 dX0_isInForce_21 hlocks

-- == X0_isUsableBox
def f_X0_isUsableBox (usable : Nat → Int32) (x1 : Int32) : Int32 := pz_bnd (f_X3_isLine x1) (fun z_1 => if z_1 = 0 then (0) else (if (usable (x1).toNatClampNeg) = 0 then (0) else (1)))
theorem fl_X0_isUsableBox_25 : Cond.fieldLink RX0 25 "BoxProofs$Findings" "usable" "[Z" ∈ wsX0_isUsableBox := by decide +kernel
theorem in_X0_isUsableBox_X0 : ∀ w ∈ wsX00, w ∈ wsX0_isUsableBox := by decide +kernel
theorem mm_X0_isUsableBox_Cond_initialized_RX3 : Cond.initialized RX3 ∈ wsX0_isUsableBox := by decide +kernel
theorem mm_X0_isUsableBox_Cond_static_yX3_isLine : Cond.static yX3_isLine ∈ wsX0_isUsableBox := by decide +kernel
set_option maxHeartbeats 4000000 in
set_option maxRecDepth 100000 in
theorem c_X0_isUsableBox (l : Launch) (D : va_G) (q : Nat → Nat) (k : Nat → ClassId) (t : Nat → Nat) (cnt : Int32) (kinds : Nat → Int32) (firsts : Nat → Int32) (seconds : Nat → Int32) (heights : Nat → Int32) (tables : Nat → Int64) (replaced : Nat → Int32) (laid : Nat → Int32) (rules : Nat → Int32) (ps : Nat → Int32) (qs : Nat → Int32) (rs : Nat → Int32) (fs : Nat → Int32) (frules : Nat → Int32) (heads : Nat → Int32) (ends : Nat → Int32) (inforce : Nat → Int32) (usable : Nat → Int32) (summ : Nat → Int32) (x1 : Int32)  : Met l yX0_isUsableBox wsX0_isUsableBox ({ frames := 1, cells := 0, slots := 0, locals := 20 }) (va_Pc [.ref (q 3), .int (x1)] (fun U => va_P D vwCl (pz_X q k cnt kinds firsts seconds heights tables replaced laid rules ps qs rs fs frules heads ends inforce usable summ) U.heap ∧ pz_KX D q k t U)) (va_Qi (fun r (_ : Unit) => r = (f_X0_isUsableBox usable x1)) (fun _ t => va_P D vwCl (pz_X q k cnt kinds firsts seconds heights tables replaced laid rules ps qs rs fs frules heads ends inforce usable summ) t.heap) (pz_A 22 q)) 0 0 (pz_A 22 q) := by
  refine Met.ofW (cc := cX0_isUsableBox) (maxL := 2) (ret := (some .boolean)) (by decide) rfl ?_
  intro p e s m args below meth c s₁ B hml hv
  obtain ⟨rfl, hP, hKX⟩ := hv
  have hx := B.exec
  have hb := B.bytes
  have hr := B.returns
  have hts := atoms_spec (ws := wsX0_isUsableBox) B.pre
  have hown : s.vm.findClass RX0 = some m.cls := findClass_of_methodNamed B.named
  have hlocks := B.notSynchronized
  have hC : pz_C p s m ([.ref (q 3), .int (x1)] : List Value).toArray meth c cX0_isUsableBox wsX0_isUsableBox RX0 2 (some .boolean) := ⟨hx, hb, hml, hown, hts, hr, hlocks⟩
  have hK := hKX.1
  have hS : va_S (pz_A 22 q) s.heap s.heap [] := va_S.rf
  have hl := lv_entry [.ref (q 3), .int (x1)] (n := 2) (Nat.le_of_ble_eq_true rfl)
  rw [lg_entry_eq]
  generalize (lg_sl [.ref (q 3), .int (x1)] ++ List.replicate (2 - (lg_sl [.ref (q 3), .int (x1)]).length) Slot.unset).toArray = ls at hl ⊢
  have hl : lv_has ls 2 [(0, .ref (q 3)), (1, .int (x1))] := hl
  generalize hF : f_X0_isUsableBox usable x1 = G
  replace hF := hF.symm
  unfold f_X0_isUsableBox at hF
  refine lv_iload_n hx hb dX0_isUsableBox_0 rfl (lv_at hl 1 rfl) ?_
  refine pz_SNi (As := [.int (x1)]) (rest := []) ⟨hx, hb, hml, hown, hts⟩ (c_X3_isLine l x1) ⟨va_cnB 1 hts gX0_isUsableBox_X3_isLine_n38 rfl rfl rfl hKX.2.1 (hts _ mm_X0_isUsableBox_Cond_initialized_RX3) hdS_X3_isLine ⟨Nat.le_of_ble_eq_true rfl, Nat.le_of_ble_eq_true rfl⟩, hts _ mm_X0_isUsableBox_Cond_static_yX3_isLine, trivial⟩ hP hS rfl hl.1 rfl (Nat.le_of_ble_eq_true rfl) dX0_isUsableBox_1 ⟨Nat.zero_le _, Nat.zero_le _⟩ (fun r_1 H locs hF_1 hP hS => ?_)
  have hF := hF.trans (pz_be hF_1)
  refine lv_if_eq (tgt := 20) hx hb dX0_isUsableBox_4 (by decide) (fun c_2 => ?_) (fun c_2 => ?_)
  · have hF := hF.trans (if_pos c_2)
    refine lv_iconst (v := 0) hx hb dX0_isUsableBox_20 (by decide) ?_
    exact W.zret (v := 0) hx hb hr rfl (fun t ht hW => ⟨⟨0, (), rfl, hF.symm, pz_hp ht hP⟩, hS.F ht⟩) hS.2.2 dX0_isUsableBox_21 hlocks
  · have hF := hF.trans (if_neg c_2)
    refine lv_aload_n hx hb dX0_isUsableBox_7 rfl (lv_at hl 0 rfl) ?_
    refine va_get (D := D) (ci := 0) (v := .ref (q 20)) (C := RX0) (T := TX0) (N := 6) hx hb hts in_X0_isUsableBox_X0 hown hK hP 3 rfl rfl 4 (by decide) (hts _ fl_X0_isUsableBox_25) (fun _ h9 => h9) rfl dX0_isUsableBox_8 ?_
    refine lv_iload_n hx hb dX0_isUsableBox_11 rfl (lv_at hl 1 rfl) ?_
    have hi_3 : vp_in x1 60 := by first | exact pz_line ‹_› ‹_› | assumption
    refine va_zald hx hb hK hP 20 2 rfl rfl hi_3 dX0_isUsableBox_12 ?_
    refine lv_if_eq (tgt := 20) hx hb dX0_isUsableBox_13 (by decide) (fun c_4 => ?_) (fun c_4 => ?_)
    · have hF := hF.trans (if_pos c_4)
      refine lv_iconst (v := 0) hx hb dX0_isUsableBox_20 (by decide) ?_
      exact W.zret (v := 0) hx hb hr rfl (fun t ht hW => ⟨⟨0, (), rfl, hF.symm, pz_hp ht hP⟩, hS.F ht⟩) hS.2.2 dX0_isUsableBox_21 hlocks
    · have hF := hF.trans (if_neg c_4)
      refine lv_iconst (v := 1) hx hb dX0_isUsableBox_16 (by decide) ?_
      refine lv_goto (tgt := 21) hx hb dX0_isUsableBox_17 (by decide) ?_
      exact W.zret (v := 1) hx hb hr rfl (fun t ht hW => ⟨⟨1, (), rfl, hF.symm, pz_hp ht hP⟩, hS.F ht⟩) hS.2.2 dX0_isUsableBox_21 hlocks

-- == X0_isOpenBox
def f_X0_isOpenBox (frules : Nat → Int32) (ends : Nat → Int32) (x1 : Int32) : Int32 := pz_bnd (f_X3_isLine x1) (fun z_1 => if z_1 = 0 then (0) else (if (frules (x1).toNatClampNeg) = 1 then (if (ends (x1).toNatClampNeg) = (-1) then (1) else (0)) else (0)))
theorem fl_X0_isOpenBox_18 : Cond.fieldLink RX0 18 "BoxProofs$Findings" "ends" "[I" ∈ wsX0_isOpenBox := by decide +kernel
theorem fl_X0_isOpenBox_9 : Cond.fieldLink RX0 9 "BoxProofs$Findings" "rules" "[I" ∈ wsX0_isOpenBox := by decide +kernel
theorem in_X0_isOpenBox_X0 : ∀ w ∈ wsX00, w ∈ wsX0_isOpenBox := by decide +kernel
theorem mm_X0_isOpenBox_Cond_initialized_RX3 : Cond.initialized RX3 ∈ wsX0_isOpenBox := by decide +kernel
theorem mm_X0_isOpenBox_Cond_static_yX3_isLine : Cond.static yX3_isLine ∈ wsX0_isOpenBox := by decide +kernel
set_option maxHeartbeats 4000000 in
set_option maxRecDepth 100000 in
theorem c_X0_isOpenBox (l : Launch) (D : va_G) (q : Nat → Nat) (k : Nat → ClassId) (t : Nat → Nat) (cnt : Int32) (kinds : Nat → Int32) (firsts : Nat → Int32) (seconds : Nat → Int32) (heights : Nat → Int32) (tables : Nat → Int64) (replaced : Nat → Int32) (laid : Nat → Int32) (rules : Nat → Int32) (ps : Nat → Int32) (qs : Nat → Int32) (rs : Nat → Int32) (fs : Nat → Int32) (frules : Nat → Int32) (heads : Nat → Int32) (ends : Nat → Int32) (inforce : Nat → Int32) (usable : Nat → Int32) (summ : Nat → Int32) (x1 : Int32)  : Met l yX0_isOpenBox wsX0_isOpenBox ({ frames := 1, cells := 0, slots := 0, locals := 20 }) (va_Pc [.ref (q 3), .int (x1)] (fun U => va_P D vwCl (pz_X q k cnt kinds firsts seconds heights tables replaced laid rules ps qs rs fs frules heads ends inforce usable summ) U.heap ∧ pz_KX D q k t U)) (va_Qi (fun r (_ : Unit) => r = (f_X0_isOpenBox frules ends x1)) (fun _ t => va_P D vwCl (pz_X q k cnt kinds firsts seconds heights tables replaced laid rules ps qs rs fs frules heads ends inforce usable summ) t.heap) (pz_A 22 q)) 0 0 (pz_A 22 q) := by
  refine Met.ofW (cc := cX0_isOpenBox) (maxL := 2) (ret := (some .boolean)) (by decide) rfl ?_
  intro p e s m args below meth c s₁ B hml hv
  obtain ⟨rfl, hP, hKX⟩ := hv
  have hx := B.exec
  have hb := B.bytes
  have hr := B.returns
  have hts := atoms_spec (ws := wsX0_isOpenBox) B.pre
  have hown : s.vm.findClass RX0 = some m.cls := findClass_of_methodNamed B.named
  have hlocks := B.notSynchronized
  have hC : pz_C p s m ([.ref (q 3), .int (x1)] : List Value).toArray meth c cX0_isOpenBox wsX0_isOpenBox RX0 2 (some .boolean) := ⟨hx, hb, hml, hown, hts, hr, hlocks⟩
  have hK := hKX.1
  have hS : va_S (pz_A 22 q) s.heap s.heap [] := va_S.rf
  have hl := lv_entry [.ref (q 3), .int (x1)] (n := 2) (Nat.le_of_ble_eq_true rfl)
  rw [lg_entry_eq]
  generalize (lg_sl [.ref (q 3), .int (x1)] ++ List.replicate (2 - (lg_sl [.ref (q 3), .int (x1)]).length) Slot.unset).toArray = ls at hl ⊢
  have hl : lv_has ls 2 [(0, .ref (q 3)), (1, .int (x1))] := hl
  generalize hF : f_X0_isOpenBox frules ends x1 = G
  replace hF := hF.symm
  unfold f_X0_isOpenBox at hF
  refine lv_iload_n hx hb dX0_isOpenBox_0 rfl (lv_at hl 1 rfl) ?_
  refine pz_SNi (As := [.int (x1)]) (rest := []) ⟨hx, hb, hml, hown, hts⟩ (c_X3_isLine l x1) ⟨va_cnB 1 hts gX0_isOpenBox_X3_isLine_n38 rfl rfl rfl hKX.2.1 (hts _ mm_X0_isOpenBox_Cond_initialized_RX3) hdS_X3_isLine ⟨Nat.le_of_ble_eq_true rfl, Nat.le_of_ble_eq_true rfl⟩, hts _ mm_X0_isOpenBox_Cond_static_yX3_isLine, trivial⟩ hP hS rfl hl.1 rfl (Nat.le_of_ble_eq_true rfl) dX0_isOpenBox_1 ⟨Nat.zero_le _, Nat.zero_le _⟩ (fun r_1 H locs hF_1 hP hS => ?_)
  have hF := hF.trans (pz_be hF_1)
  refine lv_if_eq (tgt := 31) hx hb dX0_isOpenBox_4 (by decide) (fun c_2 => ?_) (fun c_2 => ?_)
  · have hF := hF.trans (if_pos c_2)
    refine lv_iconst (v := 0) hx hb dX0_isOpenBox_31 (by decide) ?_
    exact W.zret (v := 0) hx hb hr rfl (fun t ht hW => ⟨⟨0, (), rfl, hF.symm, pz_hp ht hP⟩, hS.F ht⟩) hS.2.2 dX0_isOpenBox_32 hlocks
  · have hF := hF.trans (if_neg c_2)
    refine lv_aload_n hx hb dX0_isOpenBox_7 rfl (lv_at hl 0 rfl) ?_
    refine va_get (D := D) (ci := 0) (v := .ref (q 16)) (C := RX0) (T := TX0) (N := 6) hx hb hts in_X0_isOpenBox_X0 hown hK hP 3 rfl rfl 0 (by decide) (hts _ fl_X0_isOpenBox_9) (fun _ h9 => h9) rfl dX0_isOpenBox_8 ?_
    refine lv_iload_n hx hb dX0_isOpenBox_11 rfl (lv_at hl 1 rfl) ?_
    have hi_3 : vp_in x1 60 := by first | exact pz_line ‹_› ‹_› | assumption
    refine va_iald hx hb hK hP 16 0 rfl rfl hi_3 dX0_isOpenBox_12 ?_
    refine lv_iconst (v := 1) hx hb dX0_isOpenBox_13 (by decide) ?_
    refine lv_icmp_ne (tgt := 31) hx hb dX0_isOpenBox_14 (by decide) (fun c_4 => ?_) (fun c_4 => ?_)
    · have hF := hF.trans (if_neg c_4)
      refine lv_iconst (v := 0) hx hb dX0_isOpenBox_31 (by decide) ?_
      exact W.zret (v := 0) hx hb hr rfl (fun t ht hW => ⟨⟨0, (), rfl, hF.symm, pz_hp ht hP⟩, hS.F ht⟩) hS.2.2 dX0_isOpenBox_32 hlocks
    · have hF := hF.trans (if_pos c_4)
      refine lv_aload_n hx hb dX0_isOpenBox_17 rfl (lv_at hl 0 rfl) ?_
      refine va_get (D := D) (ci := 0) (v := .ref (q 18)) (C := RX0) (T := TX0) (N := 6) hx hb hts in_X0_isOpenBox_X0 hown hK hP 3 rfl rfl 2 (by decide) (hts _ fl_X0_isOpenBox_18) (fun _ h9 => h9) rfl dX0_isOpenBox_18 ?_
      refine lv_iload_n hx hb dX0_isOpenBox_21 rfl (lv_at hl 1 rfl) ?_
      have hi_5 : vp_in x1 60 := by first | exact pz_line ‹_› ‹_› | assumption
      refine va_iald hx hb hK hP 18 0 rfl rfl hi_5 dX0_isOpenBox_22 ?_
      refine lv_iconst (v := (-1)) hx hb dX0_isOpenBox_23 (by decide) ?_
      refine lv_icmp_ne (tgt := 31) hx hb dX0_isOpenBox_24 (by decide) (fun c_6 => ?_) (fun c_6 => ?_)
      · have hF := hF.trans (if_neg c_6)
        refine lv_iconst (v := 0) hx hb dX0_isOpenBox_31 (by decide) ?_
        exact W.zret (v := 0) hx hb hr rfl (fun t ht hW => ⟨⟨0, (), rfl, hF.symm, pz_hp ht hP⟩, hS.F ht⟩) hS.2.2 dX0_isOpenBox_32 hlocks
      · have hF := hF.trans (if_pos c_6)
        refine lv_iconst (v := 1) hx hb dX0_isOpenBox_27 (by decide) ?_
        refine lv_goto (tgt := 32) hx hb dX0_isOpenBox_28 (by decide) ?_
        exact W.zret (v := 1) hx hb hr rfl (fun t ht hW => ⟨⟨1, (), rfl, hF.symm, pz_hp ht hP⟩, hS.F ht⟩) hS.2.2 dX0_isOpenBox_32 hlocks

-- == X0_forget
def F_X0_forget_2 : Nat → (Nat → Int32) → (Nat → Int32) → (Nat → Int32) → (Nat → Int32) → (Nat → Int32) → (Int32) → (Nat → Int32) × (Nat → Int32) × (Nat → Int32) × (Nat → Int32) × (Nat → Int32)
  | 0, frules, heads, ends, inforce, usable, x1 => (frules, heads, ends, inforce, usable)
  | n + 1, frules, heads, ends, inforce, usable, x1 => if 60 ≤ x1 then ((frules, heads, ends, inforce, usable)) else (F_X0_forget_2 n (upd frules (x1).toNatClampNeg (-1)) (upd heads (x1).toNatClampNeg (-1)) (upd ends (x1).toNatClampNeg (-1)) (upd inforce (x1).toNatClampNeg 0) (upd usable (x1).toNatClampNeg 0) (x1 + 1))
def f_X0_forget (frules : Nat → Int32) (heads : Nat → Int32) (ends : Nat → Int32) (inforce : Nat → Int32) (usable : Nat → Int32) : (Nat → Int32) × (Nat → Int32) × (Nat → Int32) × (Nat → Int32) × (Nat → Int32) := F_X0_forget_2 61 frules heads ends inforce usable 0
theorem fl_X0_forget_15 : Cond.fieldLink RX0 15 "BoxProofs$Findings" "heads" "[I" ∈ wsX0_forget := by decide +kernel
theorem fl_X0_forget_18 : Cond.fieldLink RX0 18 "BoxProofs$Findings" "ends" "[I" ∈ wsX0_forget := by decide +kernel
theorem fl_X0_forget_21 : Cond.fieldLink RX0 21 "BoxProofs$Findings" "inForce" "[Z" ∈ wsX0_forget := by decide +kernel
theorem fl_X0_forget_25 : Cond.fieldLink RX0 25 "BoxProofs$Findings" "usable" "[Z" ∈ wsX0_forget := by decide +kernel
theorem fl_X0_forget_9 : Cond.fieldLink RX0 9 "BoxProofs$Findings" "rules" "[I" ∈ wsX0_forget := by decide +kernel
theorem in_X0_forget_X0 : ∀ w ∈ wsX00, w ∈ wsX0_forget := by decide +kernel
set_option maxHeartbeats 4000000 in
set_option maxRecDepth 100000 in
theorem k_X0_forget_2 {p : Program} {l : Launch} {e : Env} {s : State} {m : MethodId} {args : Array Value} {below : List Frame} {meth : Method} {c : Code} {D : va_G} {q : Nat → Nat} {k : Nat → ClassId} {t : Nat → Nat} (hC : pz_C p s m args meth c cX0_forget wsX0_forget RX0 2 none) (hKX : pz_KX D q k t s) (cnt : Int32) (kinds : Nat → Int32) (firsts : Nat → Int32) (seconds : Nat → Int32) (heights : Nat → Int32) (tables : Nat → Int64) (replaced : Nat → Int32) (laid : Nat → Int32) (rules : Nat → Int32) (ps : Nat → Int32) (qs : Nat → Int32) (rs : Nat → Int32) (fs : Nat → Int32) (summ : Nat → Int32) {G : (Nat → Int32) × (Nat → Int32) × (Nat → Int32) × (Nat → Int32) × (Nat → Int32)} :
    ∀ (n : Nat) (frules : Nat → Int32) (heads : Nat → Int32) (ends : Nat → Int32) (inforce : Nat → Int32) (usable : Nat → Int32) (x1 : Int32) (h0 : 0 ≤ x1.toInt) (h1 : x1.toInt ≤ 60) (hn : 61 ≤ x1.toInt + n)  (H : Heap) (locs : List Loc) (ls : Array Slot), G = F_X0_forget_2 n frules heads ends inforce usable x1 → va_P D vwCl (pz_X q k cnt kinds firsts seconds heights tables replaced laid rules ps qs rs fs frules heads ends inforce usable summ) H → va_S (pz_A 22 q) s.heap H locs → lv_has ls 2 [(0, .ref (q 3)), (1, .int (x1))] → W p l e (headSpec wsX0_forget { frames := 0, cells := 0, slots := 0, locals := 0 }).room s m args below meth c H locs 0 0 (MQ below (va_Qv (fun (u : (Nat → Int32) × (Nat → Int32) × (Nat → Int32) × (Nat → Int32) × (Nat → Int32)) => u = G) (fun u t => va_P D vwCl (pz_X q k cnt kinds firsts seconds heights tables replaced laid rules ps qs rs fs u.1 u.2.1 u.2.2.1 u.2.2.2.1 u.2.2.2.2 summ) t.heap) (pz_A 22 q)) args s 0 0 (pz_A 22 q)) (F0 m 2 ls []) := by
  obtain ⟨hx, hb, hml, hown, hts, hr, hlocks⟩ := hC
  have hC : pz_C p s m args meth c cX0_forget wsX0_forget RX0 2 none := ⟨hx, hb, hml, hown, hts, hr, hlocks⟩
  have hK := hKX.1
  intro n
  induction n with
  | zero =>
    intro frules heads ends inforce usable x1 h0 h1 hn H locs ls hF hP hS hl
    exact absurd hn (by omega)
  | succ n ih =>
    intro frules heads ends inforce usable x1 h0 h1 hn H locs ls hF hP hS hl
    unfold F_X0_forget_2 at hF
    refine lv_iload_n hx hb dX0_forget_2 rfl (lv_at hl 1 rfl) ?_
    refine lv_bipush (v := 60) hx hb dX0_forget_3 (by decide) ?_
    refine lv_icmp_ge (tgt := 49) hx hb dX0_forget_5 (by decide) (fun c_1 => ?_) (fun c_1 => ?_)
    · have hF := hF.trans (if_pos c_1)
      exact W.vret hx hb hr (fun t ht hW => ⟨⟨(frules, heads, ends, inforce, usable), rfl, hF.symm, pz_hp ht hP⟩, hS.F ht⟩) hS.2.2 dX0_forget_49 hlocks
    · have hF := hF.trans (if_neg c_1)
      refine lv_aload_n hx hb dX0_forget_8 rfl (lv_at hl 0 rfl) ?_
      refine va_get (D := D) (ci := 0) (v := .ref (q 16)) (C := RX0) (T := TX0) (N := 6) hx hb hts in_X0_forget_X0 hown hK hP 3 rfl rfl 0 (by decide) (hts _ fl_X0_forget_9) (fun _ h9 => h9) rfl dX0_forget_9 ?_
      refine lv_iload_n hx hb dX0_forget_12 rfl (lv_at hl 1 rfl) ?_
      refine lv_iconst (v := (-1)) hx hb dX0_forget_13 (by decide) ?_
      have hi_2 : vp_in x1 60 := pz_inI h0 (pz_n60 ‹_›)
      refine va_iast hx hb hK hP (pz_D hKX.2.2.2.2.2.2.2.2 rfl) hS 16 0 rfl rfl hi_2 dX0_forget_14 (fun H locs hP _ hS => ?_)
      have hP : va_P D vwCl (pz_X q k cnt kinds firsts seconds heights tables replaced laid rules ps qs rs fs (upd frules (x1).toNatClampNeg (-1)) heads ends inforce usable summ) H := hP
      refine lv_aload_n hx hb dX0_forget_15 rfl (lv_at hl 0 rfl) ?_
      refine va_get (D := D) (ci := 0) (v := .ref (q 17)) (C := RX0) (T := TX0) (N := 6) hx hb hts in_X0_forget_X0 hown hK hP 3 rfl rfl 1 (by decide) (hts _ fl_X0_forget_15) (fun _ h9 => h9) rfl dX0_forget_16 ?_
      refine lv_iload_n hx hb dX0_forget_19 rfl (lv_at hl 1 rfl) ?_
      refine lv_iconst (v := (-1)) hx hb dX0_forget_20 (by decide) ?_
      have hi_3 : vp_in x1 60 := pz_inI h0 (pz_n60 ‹_›)
      refine va_iast hx hb hK hP (pz_D hKX.2.2.2.2.2.2.2.2 rfl) hS 17 0 rfl rfl hi_3 dX0_forget_21 (fun H locs hP _ hS => ?_)
      have hP : va_P D vwCl (pz_X q k cnt kinds firsts seconds heights tables replaced laid rules ps qs rs fs (upd frules (x1).toNatClampNeg (-1)) (upd heads (x1).toNatClampNeg (-1)) ends inforce usable summ) H := hP
      refine lv_aload_n hx hb dX0_forget_22 rfl (lv_at hl 0 rfl) ?_
      refine va_get (D := D) (ci := 0) (v := .ref (q 18)) (C := RX0) (T := TX0) (N := 6) hx hb hts in_X0_forget_X0 hown hK hP 3 rfl rfl 2 (by decide) (hts _ fl_X0_forget_18) (fun _ h9 => h9) rfl dX0_forget_23 ?_
      refine lv_iload_n hx hb dX0_forget_26 rfl (lv_at hl 1 rfl) ?_
      refine lv_iconst (v := (-1)) hx hb dX0_forget_27 (by decide) ?_
      have hi_4 : vp_in x1 60 := pz_inI h0 (pz_n60 ‹_›)
      refine va_iast hx hb hK hP (pz_D hKX.2.2.2.2.2.2.2.2 rfl) hS 18 0 rfl rfl hi_4 dX0_forget_28 (fun H locs hP _ hS => ?_)
      have hP : va_P D vwCl (pz_X q k cnt kinds firsts seconds heights tables replaced laid rules ps qs rs fs (upd frules (x1).toNatClampNeg (-1)) (upd heads (x1).toNatClampNeg (-1)) (upd ends (x1).toNatClampNeg (-1)) inforce usable summ) H := hP
      refine lv_aload_n hx hb dX0_forget_29 rfl (lv_at hl 0 rfl) ?_
      refine va_get (D := D) (ci := 0) (v := .ref (q 19)) (C := RX0) (T := TX0) (N := 6) hx hb hts in_X0_forget_X0 hown hK hP 3 rfl rfl 3 (by decide) (hts _ fl_X0_forget_21) (fun _ h9 => h9) rfl dX0_forget_30 ?_
      refine lv_iload_n hx hb dX0_forget_33 rfl (lv_at hl 1 rfl) ?_
      refine lv_iconst (v := 0) hx hb dX0_forget_34 (by decide) ?_
      have hi_5 : vp_in x1 60 := pz_inI h0 (pz_n60 ‹_›)
      refine va_zast hx hb hK hP (pz_D hKX.2.2.2.2.2.2.2.2 rfl) hS 19 2 rfl rfl hi_5 dX0_forget_35 (fun H locs hP _ hS => ?_)
      have hP : va_P D vwCl (pz_X q k cnt kinds firsts seconds heights tables replaced laid rules ps qs rs fs (upd frules (x1).toNatClampNeg (-1)) (upd heads (x1).toNatClampNeg (-1)) (upd ends (x1).toNatClampNeg (-1)) (upd inforce (x1).toNatClampNeg 0) usable summ) H := hP
      refine lv_aload_n hx hb dX0_forget_36 rfl (lv_at hl 0 rfl) ?_
      refine va_get (D := D) (ci := 0) (v := .ref (q 20)) (C := RX0) (T := TX0) (N := 6) hx hb hts in_X0_forget_X0 hown hK hP 3 rfl rfl 4 (by decide) (hts _ fl_X0_forget_25) (fun _ h9 => h9) rfl dX0_forget_37 ?_
      refine lv_iload_n hx hb dX0_forget_40 rfl (lv_at hl 1 rfl) ?_
      refine lv_iconst (v := 0) hx hb dX0_forget_41 (by decide) ?_
      have hi_6 : vp_in x1 60 := pz_inI h0 (pz_n60 ‹_›)
      refine va_zast hx hb hK hP (pz_D hKX.2.2.2.2.2.2.2.2 rfl) hS 20 2 rfl rfl hi_6 dX0_forget_42 (fun H locs hP _ hS => ?_)
      have hP : va_P D vwCl (pz_X q k cnt kinds firsts seconds heights tables replaced laid rules ps qs rs fs (upd frules (x1).toNatClampNeg (-1)) (upd heads (x1).toNatClampNeg (-1)) (upd ends (x1).toNatClampNeg (-1)) (upd inforce (x1).toNatClampNeg 0) (upd usable (x1).toNatClampNeg 0) summ) H := hP
      refine lv_iinc (v := (x1 + 1)) (lv' := [(1, .int ((x1 + 1))), (0, .ref (q 3))]) hx hb dX0_forget_43 hl (k := 1) rfl rfl (by decide) rfl (fun ls hl => ?_)
      refine lv_goto (tgt := 2) hx hb dX0_forget_46 (by decide) ?_
      exact ih (upd frules (x1).toNatClampNeg (-1)) (upd heads (x1).toNatClampNeg (-1)) (upd ends (x1).toNatClampNeg (-1)) (upd inforce (x1).toNatClampNeg 0) (upd usable (x1).toNatClampNeg 0) (x1 + 1) (by have e := pz_up60 ‹¬ (60 : Int32) ≤ x1›; omega) (by have e := pz_up60 ‹¬ (60 : Int32) ≤ x1›; omega) (by have e := pz_up60 ‹¬ (60 : Int32) ≤ x1›; omega) _ _ _ hF hP hS (lv_sub hl [1, 0] rfl)
set_option maxHeartbeats 4000000 in
set_option maxRecDepth 100000 in
theorem c_X0_forget (l : Launch) (D : va_G) (q : Nat → Nat) (k : Nat → ClassId) (t : Nat → Nat) (cnt : Int32) (kinds : Nat → Int32) (firsts : Nat → Int32) (seconds : Nat → Int32) (heights : Nat → Int32) (tables : Nat → Int64) (replaced : Nat → Int32) (laid : Nat → Int32) (rules : Nat → Int32) (ps : Nat → Int32) (qs : Nat → Int32) (rs : Nat → Int32) (fs : Nat → Int32) (frules : Nat → Int32) (heads : Nat → Int32) (ends : Nat → Int32) (inforce : Nat → Int32) (usable : Nat → Int32) (summ : Nat → Int32)   : Met l yX0_forget wsX0_forget ({ frames := 0, cells := 0, slots := 0, locals := 0 }) (va_Pc [.ref (q 3)] (fun U => va_P D vwCl (pz_X q k cnt kinds firsts seconds heights tables replaced laid rules ps qs rs fs frules heads ends inforce usable summ) U.heap ∧ pz_KX D q k t U)) (va_Qv (fun (u : (Nat → Int32) × (Nat → Int32) × (Nat → Int32) × (Nat → Int32) × (Nat → Int32)) => u = (f_X0_forget frules heads ends inforce usable)) (fun u t => va_P D vwCl (pz_X q k cnt kinds firsts seconds heights tables replaced laid rules ps qs rs fs u.1 u.2.1 u.2.2.1 u.2.2.2.1 u.2.2.2.2 summ) t.heap) (pz_A 22 q)) 0 0 (pz_A 22 q) := by
  refine Met.ofW (cc := cX0_forget) (maxL := 2) (ret := none) (by decide) rfl ?_
  intro p e s m args below meth c s₁ B hml hv
  obtain ⟨rfl, hP, hKX⟩ := hv
  have hx := B.exec
  have hb := B.bytes
  have hr := B.returns
  have hts := atoms_spec (ws := wsX0_forget) B.pre
  have hown : s.vm.findClass RX0 = some m.cls := findClass_of_methodNamed B.named
  have hlocks := B.notSynchronized
  have hC : pz_C p s m ([.ref (q 3)] : List Value).toArray meth c cX0_forget wsX0_forget RX0 2 none := ⟨hx, hb, hml, hown, hts, hr, hlocks⟩
  have hK := hKX.1
  have hS : va_S (pz_A 22 q) s.heap s.heap [] := va_S.rf
  have hl := lv_entry [.ref (q 3)] (n := 2) (Nat.le_of_ble_eq_true rfl)
  rw [lg_entry_eq]
  generalize (lg_sl [.ref (q 3)] ++ List.replicate (2 - (lg_sl [.ref (q 3)]).length) Slot.unset).toArray = ls at hl ⊢
  have hl : lv_has ls 2 [(0, .ref (q 3))] := hl
  generalize hF : f_X0_forget frules heads ends inforce usable = G
  replace hF := hF.symm
  unfold f_X0_forget at hF
  refine lv_iconst (v := 0) hx hb dX0_forget_0 (by decide) ?_
  refine lv_istore_n (lv' := [(1, .int (0)), (0, .ref (q 3))]) hx hb dX0_forget_1 rfl hl (by decide) rfl (fun ls hl => ?_)
  exact k_X0_forget_2 hC hKX cnt kinds firsts seconds heights tables replaced laid rules ps qs rs fs summ 61 frules heads ends inforce usable 0 (by decide) (by decide) (by decide) _ _ _ hF hP hS (lv_sub hl [1, 0] rfl)

-- == X0_innermostOpen
def F_X0_innermostOpen_3 : Nat → (Nat → Int32) → (Nat → Int32) → (Int32) → Int32
  | 0, frules, ends, x1 => 0
  | n + 1, frules, ends, x1 => if x1 < 0 then ((-1)) else (pz_bnd (f_X0_isOpenBox frules ends x1) (fun z_2 => if z_2 = 0 then (F_X0_innermostOpen_3 n frules ends (x1 + (-1))) else (x1)))
def f_X0_innermostOpen (frules : Nat → Int32) (ends : Nat → Int32) : Int32 := F_X0_innermostOpen_3 61 frules ends 59
theorem hdV_X0_isOpenBox : yX0_isOpenBox.cls = RX0 ∧ yX0_isOpenBox.cls ≠ "java/lang/invoke/MethodHandle" ∧ yX0_isOpenBox.cls ≠ "java/lang/invoke/VarHandle" ∧ (parseMethodDescriptor yX0_isOpenBox.desc).map (fun d => d.parameters.length) = some 1 := by decide +kernel
set_option maxHeartbeats 4000000 in
set_option maxRecDepth 100000 in
theorem k_X0_innermostOpen_3 {p : Program} {l : Launch} {e : Env} {s : State} {m : MethodId} {args : Array Value} {below : List Frame} {meth : Method} {c : Code} {D : va_G} {q : Nat → Nat} {k : Nat → ClassId} {t : Nat → Nat} (hC : pz_C p s m args meth c cX0_innermostOpen wsX0_innermostOpen RX0 2 (some .int)) (hKX : pz_KX D q k t s) (cnt : Int32) (kinds : Nat → Int32) (firsts : Nat → Int32) (seconds : Nat → Int32) (heights : Nat → Int32) (tables : Nat → Int64) (replaced : Nat → Int32) (laid : Nat → Int32) (rules : Nat → Int32) (ps : Nat → Int32) (qs : Nat → Int32) (rs : Nat → Int32) (fs : Nat → Int32) (frules : Nat → Int32) (heads : Nat → Int32) (ends : Nat → Int32) (inforce : Nat → Int32) (usable : Nat → Int32) (summ : Nat → Int32) {G : Int32} :
    ∀ (n : Nat) (x1 : Int32) (h1 : x1.toInt ≤ 59) (h0 : -1 ≤ x1.toInt) (hn : x1.toInt + 2 ≤ n)  (H : Heap) (locs : List Loc) (ls : Array Slot), G = F_X0_innermostOpen_3 n frules ends x1 → va_P D vwCl (pz_X q k cnt kinds firsts seconds heights tables replaced laid rules ps qs rs fs frules heads ends inforce usable summ) H → va_S (pz_A 22 q) s.heap H locs → lv_has ls 2 [(0, .ref (q 3)), (1, .int (x1))] → W p l e (headSpec wsX0_innermostOpen { frames := 2, cells := 0, slots := 0, locals := 41 }).room s m args below meth c H locs 0 0 (MQ below (va_Qi (fun r (_ : Unit) => r = G) (fun _ t => va_P D vwCl (pz_X q k cnt kinds firsts seconds heights tables replaced laid rules ps qs rs fs frules heads ends inforce usable summ) t.heap) (pz_A 22 q)) args s 0 0 (pz_A 22 q)) (F0 m 3 ls []) := by
  obtain ⟨hx, hb, hml, hown, hts, hr, hlocks⟩ := hC
  have hC : pz_C p s m args meth c cX0_innermostOpen wsX0_innermostOpen RX0 2 (some .int) := ⟨hx, hb, hml, hown, hts, hr, hlocks⟩
  have hK := hKX.1
  intro n
  induction n with
  | zero =>
    intro x1 h1 h0 hn H locs ls hF hP hS hl
    exact absurd hn (by omega)
  | succ n ih =>
    intro x1 h1 h0 hn H locs ls hF hP hS hl
    unfold F_X0_innermostOpen_3 at hF
    refine lv_iload_n hx hb dX0_innermostOpen_3 rfl (lv_at hl 1 rfl) ?_
    refine lv_if_lt (tgt := 23) hx hb dX0_innermostOpen_4 (by decide) (fun c_1 => ?_) (fun c_1 => ?_)
    · have hF := hF.trans (if_pos c_1)
      refine lv_iconst (v := (-1)) hx hb dX0_innermostOpen_23 (by decide) ?_
      exact W.iret (v := (-1)) hx hb hr (fun t ht hW => ⟨⟨(-1), (), rfl, hF.symm, pz_hp ht hP⟩, hS.F ht⟩) hS.2.2 dX0_innermostOpen_24 hlocks
    · have hF := hF.trans (if_neg c_1)
      refine lv_aload_n hx hb dX0_innermostOpen_7 rfl (lv_at hl 0 rfl) ?_
      refine lv_iload_n hx hb dX0_innermostOpen_8 rfl (lv_at hl 1 rfl) ?_
      refine pz_Vi (As := [.int (x1)]) (rest := []) ⟨hx, hb, hml, hown, hts⟩ (c_X0_isOpenBox l D q k t cnt kinds firsts seconds heights tables replaced laid rules ps qs rs fs frules heads ends inforce usable summ x1) (cwV 1 hts gX0_innermostOpen_X0_isOpenBox rfl rfl rfl hdV_X0_isOpenBox ⟨Nat.le_of_ble_eq_true rfl, Nat.le_of_ble_eq_true rfl⟩) pz_KX.call (hKX.go hS) (va_recv hK hP (ci := 0) (q0 := 3) rfl rfl) hP hS rfl hl.1 rfl (Nat.le_of_ble_eq_true rfl) dX0_innermostOpen_9 ⟨Nat.zero_le _, Nat.zero_le _⟩ (fun r_2 u_2 H locs hF_2 hP hS => ?_)
      have hF := hF.trans (pz_be hF_2)
      refine lv_if_eq (tgt := 17) hx hb dX0_innermostOpen_12 (by decide) (fun c_3 => ?_) (fun c_3 => ?_)
      · have hF := hF.trans (if_pos c_3)
        refine lv_iinc (v := (x1 + (-1))) (lv' := [(1, .int ((x1 + (-1)))), (0, .ref (q 3))]) hx hb dX0_innermostOpen_17 hl (k := 1) rfl rfl (by decide) rfl (fun ls hl => ?_)
        refine lv_goto (tgt := 3) hx hb dX0_innermostOpen_20 (by decide) ?_
        exact ih (x1 + (-1)) (by have a := pz_n0 ‹¬ x1 < 0›; have i := pz_dec (x := x1) (by omega); omega) (by have a := pz_n0 ‹¬ x1 < 0›; have i := pz_dec (x := x1) (by omega); omega) (by have a := pz_n0 ‹¬ x1 < 0›; have i := pz_dec (x := x1) (by omega); omega) _ _ _ hF hP hS (lv_sub hl [1, 0] rfl)
      · have hF := hF.trans (if_neg c_3)
        refine lv_iload_n hx hb dX0_innermostOpen_15 rfl (lv_at hl 1 rfl) ?_
        exact W.iret (v := x1) hx hb hr (fun t ht hW => ⟨⟨x1, (), rfl, hF.symm, pz_hp ht hP⟩, hS.F ht⟩) hS.2.2 dX0_innermostOpen_16 hlocks
set_option maxHeartbeats 4000000 in
set_option maxRecDepth 100000 in
theorem c_X0_innermostOpen (l : Launch) (D : va_G) (q : Nat → Nat) (k : Nat → ClassId) (t : Nat → Nat) (cnt : Int32) (kinds : Nat → Int32) (firsts : Nat → Int32) (seconds : Nat → Int32) (heights : Nat → Int32) (tables : Nat → Int64) (replaced : Nat → Int32) (laid : Nat → Int32) (rules : Nat → Int32) (ps : Nat → Int32) (qs : Nat → Int32) (rs : Nat → Int32) (fs : Nat → Int32) (frules : Nat → Int32) (heads : Nat → Int32) (ends : Nat → Int32) (inforce : Nat → Int32) (usable : Nat → Int32) (summ : Nat → Int32)   : Met l yX0_innermostOpen wsX0_innermostOpen ({ frames := 2, cells := 0, slots := 0, locals := 41 }) (va_Pc [.ref (q 3)] (fun U => va_P D vwCl (pz_X q k cnt kinds firsts seconds heights tables replaced laid rules ps qs rs fs frules heads ends inforce usable summ) U.heap ∧ pz_KX D q k t U)) (va_Qi (fun r (_ : Unit) => r = (f_X0_innermostOpen frules ends)) (fun _ t => va_P D vwCl (pz_X q k cnt kinds firsts seconds heights tables replaced laid rules ps qs rs fs frules heads ends inforce usable summ) t.heap) (pz_A 22 q)) 0 0 (pz_A 22 q) := by
  refine Met.ofW (cc := cX0_innermostOpen) (maxL := 2) (ret := (some .int)) (by decide) rfl ?_
  intro p e s m args below meth c s₁ B hml hv
  obtain ⟨rfl, hP, hKX⟩ := hv
  have hx := B.exec
  have hb := B.bytes
  have hr := B.returns
  have hts := atoms_spec (ws := wsX0_innermostOpen) B.pre
  have hown : s.vm.findClass RX0 = some m.cls := findClass_of_methodNamed B.named
  have hlocks := B.notSynchronized
  have hC : pz_C p s m ([.ref (q 3)] : List Value).toArray meth c cX0_innermostOpen wsX0_innermostOpen RX0 2 (some .int) := ⟨hx, hb, hml, hown, hts, hr, hlocks⟩
  have hK := hKX.1
  have hS : va_S (pz_A 22 q) s.heap s.heap [] := va_S.rf
  have hl := lv_entry [.ref (q 3)] (n := 2) (Nat.le_of_ble_eq_true rfl)
  rw [lg_entry_eq]
  generalize (lg_sl [.ref (q 3)] ++ List.replicate (2 - (lg_sl [.ref (q 3)]).length) Slot.unset).toArray = ls at hl ⊢
  have hl : lv_has ls 2 [(0, .ref (q 3))] := hl
  generalize hF : f_X0_innermostOpen frules ends = G
  replace hF := hF.symm
  unfold f_X0_innermostOpen at hF
  refine lv_bipush (v := 59) hx hb dX0_innermostOpen_0 (by decide) ?_
  refine lv_istore_n (lv' := [(1, .int (59)), (0, .ref (q 3))]) hx hb dX0_innermostOpen_2 rfl hl (by decide) rfl (fun ls hl => ?_)
  exact k_X0_innermostOpen_3 hC hKX cnt kinds firsts seconds heights tables replaced laid rules ps qs rs fs frules heads ends inforce usable summ 61 59 (by decide) (by decide) (by decide) _ _ _ hF hP hS (lv_sub hl [1, 0] rfl)

-- == X0_countOpen
def F_X0_countOpen_4 : Nat → (Nat → Int32) → (Nat → Int32) → (Int32) → (Int32) → Int32
  | 0, frules, ends, x1, x2 => 0
  | n + 1, frules, ends, x1, x2 => if 60 ≤ x2 then (x1) else (pz_bnd (f_X0_isOpenBox frules ends x2) (fun z_2 => if z_2 = 0 then (F_X0_countOpen_4 n frules ends x1 (x2 + 1)) else (F_X0_countOpen_4 n frules ends (x1 + 1) (x2 + 1))))
def f_X0_countOpen (frules : Nat → Int32) (ends : Nat → Int32) : Int32 := F_X0_countOpen_4 61 frules ends 0 0
set_option maxHeartbeats 4000000 in
set_option maxRecDepth 100000 in
theorem k_X0_countOpen_4 {p : Program} {l : Launch} {e : Env} {s : State} {m : MethodId} {args : Array Value} {below : List Frame} {meth : Method} {c : Code} {D : va_G} {q : Nat → Nat} {k : Nat → ClassId} {t : Nat → Nat} (hC : pz_C p s m args meth c cX0_countOpen wsX0_countOpen RX0 3 (some .int)) (hKX : pz_KX D q k t s) (cnt : Int32) (kinds : Nat → Int32) (firsts : Nat → Int32) (seconds : Nat → Int32) (heights : Nat → Int32) (tables : Nat → Int64) (replaced : Nat → Int32) (laid : Nat → Int32) (rules : Nat → Int32) (ps : Nat → Int32) (qs : Nat → Int32) (rs : Nat → Int32) (fs : Nat → Int32) (frules : Nat → Int32) (heads : Nat → Int32) (ends : Nat → Int32) (inforce : Nat → Int32) (usable : Nat → Int32) (summ : Nat → Int32) {G : Int32} :
    ∀ (n : Nat) (x1 : Int32) (x2 : Int32) (h0 : 0 ≤ x2.toInt) (h1 : x2.toInt ≤ 60) (hn : 61 ≤ x2.toInt + n)  (H : Heap) (locs : List Loc) (ls : Array Slot), G = F_X0_countOpen_4 n frules ends x1 x2 → va_P D vwCl (pz_X q k cnt kinds firsts seconds heights tables replaced laid rules ps qs rs fs frules heads ends inforce usable summ) H → va_S (pz_A 22 q) s.heap H locs → lv_has ls 3 [(0, .ref (q 3)), (1, .int (x1)), (2, .int (x2))] → W p l e (headSpec wsX0_countOpen { frames := 2, cells := 0, slots := 0, locals := 41 }).room s m args below meth c H locs 0 0 (MQ below (va_Qi (fun r (_ : Unit) => r = G) (fun _ t => va_P D vwCl (pz_X q k cnt kinds firsts seconds heights tables replaced laid rules ps qs rs fs frules heads ends inforce usable summ) t.heap) (pz_A 22 q)) args s 0 0 (pz_A 22 q)) (F0 m 4 ls []) := by
  obtain ⟨hx, hb, hml, hown, hts, hr, hlocks⟩ := hC
  have hC : pz_C p s m args meth c cX0_countOpen wsX0_countOpen RX0 3 (some .int) := ⟨hx, hb, hml, hown, hts, hr, hlocks⟩
  have hK := hKX.1
  intro n
  induction n with
  | zero =>
    intro x1 x2 h0 h1 hn H locs ls hF hP hS hl
    exact absurd hn (by omega)
  | succ n ih =>
    intro x1 x2 h0 h1 hn H locs ls hF hP hS hl
    unfold F_X0_countOpen_4 at hF
    refine lv_iload_n hx hb dX0_countOpen_4 rfl (lv_at hl 2 rfl) ?_
    refine lv_bipush (v := 60) hx hb dX0_countOpen_5 (by decide) ?_
    refine lv_icmp_ge (tgt := 27) hx hb dX0_countOpen_7 (by decide) (fun c_1 => ?_) (fun c_1 => ?_)
    · have hF := hF.trans (if_pos c_1)
      refine lv_iload_n hx hb dX0_countOpen_27 rfl (lv_at hl 1 rfl) ?_
      exact W.iret (v := x1) hx hb hr (fun t ht hW => ⟨⟨x1, (), rfl, hF.symm, pz_hp ht hP⟩, hS.F ht⟩) hS.2.2 dX0_countOpen_28 hlocks
    · have hF := hF.trans (if_neg c_1)
      refine lv_aload_n hx hb dX0_countOpen_10 rfl (lv_at hl 0 rfl) ?_
      refine lv_iload_n hx hb dX0_countOpen_11 rfl (lv_at hl 2 rfl) ?_
      refine pz_Vi (As := [.int (x2)]) (rest := []) ⟨hx, hb, hml, hown, hts⟩ (c_X0_isOpenBox l D q k t cnt kinds firsts seconds heights tables replaced laid rules ps qs rs fs frules heads ends inforce usable summ x2) (cwV 1 hts gX0_countOpen_X0_isOpenBox rfl rfl rfl hdV_X0_isOpenBox ⟨Nat.le_of_ble_eq_true rfl, Nat.le_of_ble_eq_true rfl⟩) pz_KX.call (hKX.go hS) (va_recv hK hP (ci := 0) (q0 := 3) rfl rfl) hP hS rfl hl.1 rfl (Nat.le_of_ble_eq_true rfl) dX0_countOpen_12 ⟨Nat.zero_le _, Nat.zero_le _⟩ (fun r_2 u_2 H locs hF_2 hP hS => ?_)
      have hF := hF.trans (pz_be hF_2)
      refine lv_if_eq (tgt := 21) hx hb dX0_countOpen_15 (by decide) (fun c_3 => ?_) (fun c_3 => ?_)
      · have hF := hF.trans (if_pos c_3)
        refine lv_iinc (v := (x2 + 1)) (lv' := [(2, .int ((x2 + 1))), (0, .ref (q 3)), (1, .int (x1))]) hx hb dX0_countOpen_21 hl (k := 2) rfl rfl (by decide) rfl (fun ls hl => ?_)
        refine lv_goto (tgt := 4) hx hb dX0_countOpen_24 (by decide) ?_
        exact ih x1 (x2 + 1) (by have e := pz_up60 ‹¬ (60 : Int32) ≤ x2›; omega) (by have e := pz_up60 ‹¬ (60 : Int32) ≤ x2›; omega) (by have e := pz_up60 ‹¬ (60 : Int32) ≤ x2›; omega) _ _ _ hF hP hS (lv_sub hl [1, 2, 0] rfl)
      · have hF := hF.trans (if_neg c_3)
        refine lv_iinc (v := (x1 + 1)) (lv' := [(1, .int ((x1 + 1))), (0, .ref (q 3)), (2, .int (x2))]) hx hb dX0_countOpen_18 hl (k := 1) rfl rfl (by decide) rfl (fun ls hl => ?_)
        refine lv_iinc (v := (x2 + 1)) (lv' := [(2, .int ((x2 + 1))), (1, .int ((x1 + 1))), (0, .ref (q 3))]) hx hb dX0_countOpen_21 hl (k := 2) rfl rfl (by decide) rfl (fun ls hl => ?_)
        refine lv_goto (tgt := 4) hx hb dX0_countOpen_24 (by decide) ?_
        exact ih (x1 + 1) (x2 + 1) (by have e := pz_up60 ‹¬ (60 : Int32) ≤ x2›; omega) (by have e := pz_up60 ‹¬ (60 : Int32) ≤ x2›; omega) (by have e := pz_up60 ‹¬ (60 : Int32) ≤ x2›; omega) _ _ _ hF hP hS (lv_sub hl [2, 1, 0] rfl)
set_option maxHeartbeats 4000000 in
set_option maxRecDepth 100000 in
theorem c_X0_countOpen (l : Launch) (D : va_G) (q : Nat → Nat) (k : Nat → ClassId) (t : Nat → Nat) (cnt : Int32) (kinds : Nat → Int32) (firsts : Nat → Int32) (seconds : Nat → Int32) (heights : Nat → Int32) (tables : Nat → Int64) (replaced : Nat → Int32) (laid : Nat → Int32) (rules : Nat → Int32) (ps : Nat → Int32) (qs : Nat → Int32) (rs : Nat → Int32) (fs : Nat → Int32) (frules : Nat → Int32) (heads : Nat → Int32) (ends : Nat → Int32) (inforce : Nat → Int32) (usable : Nat → Int32) (summ : Nat → Int32)   : Met l yX0_countOpen wsX0_countOpen ({ frames := 2, cells := 0, slots := 0, locals := 41 }) (va_Pc [.ref (q 3)] (fun U => va_P D vwCl (pz_X q k cnt kinds firsts seconds heights tables replaced laid rules ps qs rs fs frules heads ends inforce usable summ) U.heap ∧ pz_KX D q k t U)) (va_Qi (fun r (_ : Unit) => r = (f_X0_countOpen frules ends)) (fun _ t => va_P D vwCl (pz_X q k cnt kinds firsts seconds heights tables replaced laid rules ps qs rs fs frules heads ends inforce usable summ) t.heap) (pz_A 22 q)) 0 0 (pz_A 22 q) := by
  refine Met.ofW (cc := cX0_countOpen) (maxL := 3) (ret := (some .int)) (by decide) rfl ?_
  intro p e s m args below meth c s₁ B hml hv
  obtain ⟨rfl, hP, hKX⟩ := hv
  have hx := B.exec
  have hb := B.bytes
  have hr := B.returns
  have hts := atoms_spec (ws := wsX0_countOpen) B.pre
  have hown : s.vm.findClass RX0 = some m.cls := findClass_of_methodNamed B.named
  have hlocks := B.notSynchronized
  have hC : pz_C p s m ([.ref (q 3)] : List Value).toArray meth c cX0_countOpen wsX0_countOpen RX0 3 (some .int) := ⟨hx, hb, hml, hown, hts, hr, hlocks⟩
  have hK := hKX.1
  have hS : va_S (pz_A 22 q) s.heap s.heap [] := va_S.rf
  have hl := lv_entry [.ref (q 3)] (n := 3) (Nat.le_of_ble_eq_true rfl)
  rw [lg_entry_eq]
  generalize (lg_sl [.ref (q 3)] ++ List.replicate (3 - (lg_sl [.ref (q 3)]).length) Slot.unset).toArray = ls at hl ⊢
  have hl : lv_has ls 3 [(0, .ref (q 3))] := hl
  generalize hF : f_X0_countOpen frules ends = G
  replace hF := hF.symm
  unfold f_X0_countOpen at hF
  refine lv_iconst (v := 0) hx hb dX0_countOpen_0 (by decide) ?_
  refine lv_istore_n (lv' := [(1, .int (0)), (0, .ref (q 3))]) hx hb dX0_countOpen_1 rfl hl (by decide) rfl (fun ls hl => ?_)
  refine lv_iconst (v := 0) hx hb dX0_countOpen_2 (by decide) ?_
  refine lv_istore_n (lv' := [(2, .int (0)), (1, .int (0)), (0, .ref (q 3))]) hx hb dX0_countOpen_3 rfl hl (by decide) rfl (fun ls hl => ?_)
  exact k_X0_countOpen_4 hC hKX cnt kinds firsts seconds heights tables replaced laid rules ps qs rs fs frules heads ends inforce usable summ 61 0 0 (by decide) (by decide) (by decide) _ _ _ hF hP hS (lv_sub hl [2, 1, 0] rfl)

-- == X0_sumUp
def f_X0_sumUp (frules : Nat → Int32) (ends : Nat → Int32) (summ : Nat → Int32) (x1 : Int32) (x2 : Int32) (x3 : Int32) : (Nat → Int32) := pz_bnd (f_X0_countOpen frules ends) (fun z_3 => (upd (upd (upd (upd summ (0 : Int32).toNatClampNeg x1) (1 : Int32).toNatClampNeg x2) (2 : Int32).toNatClampNeg z_3) (3 : Int32).toNatClampNeg x3))
theorem fl_X0_sumUp_28 : Cond.fieldLink RX0 28 "BoxProofs$Findings" "summary" "[I" ∈ wsX0_sumUp := by decide +kernel
theorem hdV_X0_countOpen : yX0_countOpen.cls = RX0 ∧ yX0_countOpen.cls ≠ "java/lang/invoke/MethodHandle" ∧ yX0_countOpen.cls ≠ "java/lang/invoke/VarHandle" ∧ (parseMethodDescriptor yX0_countOpen.desc).map (fun d => d.parameters.length) = some 0 := by decide +kernel
theorem in_X0_sumUp_X0 : ∀ w ∈ wsX00, w ∈ wsX0_sumUp := by decide +kernel
set_option maxHeartbeats 4000000 in
set_option maxRecDepth 100000 in
theorem c_X0_sumUp (l : Launch) (D : va_G) (q : Nat → Nat) (k : Nat → ClassId) (t : Nat → Nat) (cnt : Int32) (kinds : Nat → Int32) (firsts : Nat → Int32) (seconds : Nat → Int32) (heights : Nat → Int32) (tables : Nat → Int64) (replaced : Nat → Int32) (laid : Nat → Int32) (rules : Nat → Int32) (ps : Nat → Int32) (qs : Nat → Int32) (rs : Nat → Int32) (fs : Nat → Int32) (frules : Nat → Int32) (heads : Nat → Int32) (ends : Nat → Int32) (inforce : Nat → Int32) (usable : Nat → Int32) (summ : Nat → Int32) (x1 : Int32) (x2 : Int32) (x3 : Int32)  : Met l yX0_sumUp wsX0_sumUp ({ frames := 3, cells := 0, slots := 0, locals := 63 }) (va_Pc [.ref (q 3), .int (x1), .int (x2), .int (x3)] (fun U => va_P D vwCl (pz_X q k cnt kinds firsts seconds heights tables replaced laid rules ps qs rs fs frules heads ends inforce usable summ) U.heap ∧ pz_KX D q k t U)) (va_Qv (fun (u : (Nat → Int32)) => u = (f_X0_sumUp frules ends summ x1 x2 x3)) (fun u t => va_P D vwCl (pz_X q k cnt kinds firsts seconds heights tables replaced laid rules ps qs rs fs frules heads ends inforce usable u) t.heap) (pz_A 22 q)) 0 0 (pz_A 22 q) := by
  refine Met.ofW (cc := cX0_sumUp) (maxL := 4) (ret := none) (by decide) rfl ?_
  intro p e s m args below meth c s₁ B hml hv
  obtain ⟨rfl, hP, hKX⟩ := hv
  have hx := B.exec
  have hb := B.bytes
  have hr := B.returns
  have hts := atoms_spec (ws := wsX0_sumUp) B.pre
  have hown : s.vm.findClass RX0 = some m.cls := findClass_of_methodNamed B.named
  have hlocks := B.notSynchronized
  have hC : pz_C p s m ([.ref (q 3), .int (x1), .int (x2), .int (x3)] : List Value).toArray meth c cX0_sumUp wsX0_sumUp RX0 4 none := ⟨hx, hb, hml, hown, hts, hr, hlocks⟩
  have hK := hKX.1
  have hS : va_S (pz_A 22 q) s.heap s.heap [] := va_S.rf
  have hl := lv_entry [.ref (q 3), .int (x1), .int (x2), .int (x3)] (n := 4) (Nat.le_of_ble_eq_true rfl)
  rw [lg_entry_eq]
  generalize (lg_sl [.ref (q 3), .int (x1), .int (x2), .int (x3)] ++ List.replicate (4 - (lg_sl [.ref (q 3), .int (x1), .int (x2), .int (x3)]).length) Slot.unset).toArray = ls at hl ⊢
  have hl : lv_has ls 4 [(0, .ref (q 3)), (1, .int (x1)), (2, .int (x2)), (3, .int (x3))] := hl
  generalize hF : f_X0_sumUp frules ends summ x1 x2 x3 = G
  replace hF := hF.symm
  unfold f_X0_sumUp at hF
  refine lv_aload_n hx hb dX0_sumUp_0 rfl (lv_at hl 0 rfl) ?_
  refine va_get (D := D) (ci := 0) (v := .ref (q 21)) (C := RX0) (T := TX0) (N := 6) hx hb hts in_X0_sumUp_X0 hown hK hP 3 rfl rfl 5 (by decide) (hts _ fl_X0_sumUp_28) (fun _ h9 => h9) rfl dX0_sumUp_1 ?_
  refine lv_iconst (v := 0) hx hb dX0_sumUp_4 (by decide) ?_
  refine lv_iload_n hx hb dX0_sumUp_5 rfl (lv_at hl 1 rfl) ?_
  have hi_1 : vp_in 0 4 := pz_inI (by decide) (by decide)
  refine va_iast hx hb hK hP (pz_D hKX.2.2.2.2.2.2.2.2 rfl) hS 21 0 rfl rfl hi_1 dX0_sumUp_6 (fun H locs hP _ hS => ?_)
  have hP : va_P D vwCl (pz_X q k cnt kinds firsts seconds heights tables replaced laid rules ps qs rs fs frules heads ends inforce usable (upd summ (0 : Int32).toNatClampNeg x1)) H := hP
  refine lv_aload_n hx hb dX0_sumUp_7 rfl (lv_at hl 0 rfl) ?_
  refine va_get (D := D) (ci := 0) (v := .ref (q 21)) (C := RX0) (T := TX0) (N := 6) hx hb hts in_X0_sumUp_X0 hown hK hP 3 rfl rfl 5 (by decide) (hts _ fl_X0_sumUp_28) (fun _ h9 => h9) rfl dX0_sumUp_8 ?_
  refine lv_iconst (v := 1) hx hb dX0_sumUp_11 (by decide) ?_
  refine lv_iload_n hx hb dX0_sumUp_12 rfl (lv_at hl 2 rfl) ?_
  have hi_2 : vp_in 1 4 := pz_inI (by decide) (by decide)
  refine va_iast hx hb hK hP (pz_D hKX.2.2.2.2.2.2.2.2 rfl) hS 21 0 rfl rfl hi_2 dX0_sumUp_13 (fun H locs hP _ hS => ?_)
  have hP : va_P D vwCl (pz_X q k cnt kinds firsts seconds heights tables replaced laid rules ps qs rs fs frules heads ends inforce usable (upd (upd summ (0 : Int32).toNatClampNeg x1) (1 : Int32).toNatClampNeg x2)) H := hP
  refine lv_aload_n hx hb dX0_sumUp_14 rfl (lv_at hl 0 rfl) ?_
  refine va_get (D := D) (ci := 0) (v := .ref (q 21)) (C := RX0) (T := TX0) (N := 6) hx hb hts in_X0_sumUp_X0 hown hK hP 3 rfl rfl 5 (by decide) (hts _ fl_X0_sumUp_28) (fun _ h9 => h9) rfl dX0_sumUp_15 ?_
  refine lv_iconst (v := 2) hx hb dX0_sumUp_18 (by decide) ?_
  refine lv_aload_n hx hb dX0_sumUp_19 rfl (lv_at hl 0 rfl) ?_
  refine pz_Vi (As := []) (rest := [.int (2), .ref (q 21)]) ⟨hx, hb, hml, hown, hts⟩ (c_X0_countOpen l D q k t cnt kinds firsts seconds heights tables replaced laid rules ps qs rs fs frules heads ends inforce usable (upd (upd summ (0 : Int32).toNatClampNeg x1) (1 : Int32).toNatClampNeg x2)) (cwV 0 hts gX0_sumUp_X0_countOpen rfl rfl rfl hdV_X0_countOpen ⟨Nat.le_of_ble_eq_true rfl, Nat.le_of_ble_eq_true rfl⟩) pz_KX.call (hKX.go hS) (va_recv hK hP (ci := 0) (q0 := 3) rfl rfl) hP hS rfl hl.1 rfl (Nat.le_of_ble_eq_true rfl) dX0_sumUp_20 ⟨Nat.zero_le _, Nat.zero_le _⟩ (fun r_3 u_3 H locs hF_3 hP hS => ?_)
  have hF := hF.trans (pz_be hF_3)
  have hi_4 : vp_in 2 4 := pz_inI (by decide) (by decide)
  refine va_iast hx hb hK hP (pz_D hKX.2.2.2.2.2.2.2.2 rfl) hS 21 0 rfl rfl hi_4 dX0_sumUp_23 (fun H locs hP _ hS => ?_)
  have hP : va_P D vwCl (pz_X q k cnt kinds firsts seconds heights tables replaced laid rules ps qs rs fs frules heads ends inforce usable (upd (upd (upd summ (0 : Int32).toNatClampNeg x1) (1 : Int32).toNatClampNeg x2) (2 : Int32).toNatClampNeg r_3)) H := hP
  refine lv_aload_n hx hb dX0_sumUp_24 rfl (lv_at hl 0 rfl) ?_
  refine va_get (D := D) (ci := 0) (v := .ref (q 21)) (C := RX0) (T := TX0) (N := 6) hx hb hts in_X0_sumUp_X0 hown hK hP 3 rfl rfl 5 (by decide) (hts _ fl_X0_sumUp_28) (fun _ h9 => h9) rfl dX0_sumUp_25 ?_
  refine lv_iconst (v := 3) hx hb dX0_sumUp_28 (by decide) ?_
  refine lv_iload_n hx hb dX0_sumUp_29 rfl (lv_at hl 3 rfl) ?_
  have hi_5 : vp_in 3 4 := pz_inI (by decide) (by decide)
  refine va_iast hx hb hK hP (pz_D hKX.2.2.2.2.2.2.2.2 rfl) hS 21 0 rfl rfl hi_5 dX0_sumUp_30 (fun H locs hP _ hS => ?_)
  have hP : va_P D vwCl (pz_X q k cnt kinds firsts seconds heights tables replaced laid rules ps qs rs fs frules heads ends inforce usable (upd (upd (upd (upd summ (0 : Int32).toNatClampNeg x1) (1 : Int32).toNatClampNeg x2) (2 : Int32).toNatClampNeg r_3) (3 : Int32).toNatClampNeg x3)) H := hP
  exact W.vret hx hb hr (fun t ht hW => ⟨⟨(upd (upd (upd (upd summ (0 : Int32).toNatClampNeg x1) (1 : Int32).toNatClampNeg x2) (2 : Int32).toNatClampNeg r_3) (3 : Int32).toNatClampNeg x3), rfl, hF.symm, pz_hp ht hP⟩, hS.F ht⟩) hS.2.2 dX0_sumUp_31 hlocks

-- == X0_summaryOf
def f_X0_summaryOf (summ : Nat → Int32) (x1 : Int32) : Int32 := if x1 < 0 then ((-1)) else (if 4 ≤ x1 then ((-1)) else ((summ (x1).toNatClampNeg)))
theorem fl_X0_summaryOf_28 : Cond.fieldLink RX0 28 "BoxProofs$Findings" "summary" "[I" ∈ wsX0_summaryOf := by decide +kernel
theorem in_X0_summaryOf_X0 : ∀ w ∈ wsX00, w ∈ wsX0_summaryOf := by decide +kernel
set_option maxHeartbeats 4000000 in
set_option maxRecDepth 100000 in
theorem c_X0_summaryOf (l : Launch) (D : va_G) (q : Nat → Nat) (k : Nat → ClassId) (t : Nat → Nat) (cnt : Int32) (kinds : Nat → Int32) (firsts : Nat → Int32) (seconds : Nat → Int32) (heights : Nat → Int32) (tables : Nat → Int64) (replaced : Nat → Int32) (laid : Nat → Int32) (rules : Nat → Int32) (ps : Nat → Int32) (qs : Nat → Int32) (rs : Nat → Int32) (fs : Nat → Int32) (frules : Nat → Int32) (heads : Nat → Int32) (ends : Nat → Int32) (inforce : Nat → Int32) (usable : Nat → Int32) (summ : Nat → Int32) (x1 : Int32)  : Met l yX0_summaryOf wsX0_summaryOf ({ frames := 0, cells := 0, slots := 0, locals := 0 }) (va_Pc [.ref (q 3), .int (x1)] (fun U => va_P D vwCl (pz_X q k cnt kinds firsts seconds heights tables replaced laid rules ps qs rs fs frules heads ends inforce usable summ) U.heap ∧ pz_KX D q k t U)) (va_Qi (fun r (_ : Unit) => r = (f_X0_summaryOf summ x1)) (fun _ t => va_P D vwCl (pz_X q k cnt kinds firsts seconds heights tables replaced laid rules ps qs rs fs frules heads ends inforce usable summ) t.heap) (pz_A 22 q)) 0 0 (pz_A 22 q) := by
  refine Met.ofW (cc := cX0_summaryOf) (maxL := 2) (ret := (some .int)) (by decide) rfl ?_
  intro p e s m args below meth c s₁ B hml hv
  obtain ⟨rfl, hP, hKX⟩ := hv
  have hx := B.exec
  have hb := B.bytes
  have hr := B.returns
  have hts := atoms_spec (ws := wsX0_summaryOf) B.pre
  have hown : s.vm.findClass RX0 = some m.cls := findClass_of_methodNamed B.named
  have hlocks := B.notSynchronized
  have hC : pz_C p s m ([.ref (q 3), .int (x1)] : List Value).toArray meth c cX0_summaryOf wsX0_summaryOf RX0 2 (some .int) := ⟨hx, hb, hml, hown, hts, hr, hlocks⟩
  have hK := hKX.1
  have hS : va_S (pz_A 22 q) s.heap s.heap [] := va_S.rf
  have hl := lv_entry [.ref (q 3), .int (x1)] (n := 2) (Nat.le_of_ble_eq_true rfl)
  rw [lg_entry_eq]
  generalize (lg_sl [.ref (q 3), .int (x1)] ++ List.replicate (2 - (lg_sl [.ref (q 3), .int (x1)]).length) Slot.unset).toArray = ls at hl ⊢
  have hl : lv_has ls 2 [(0, .ref (q 3)), (1, .int (x1))] := hl
  generalize hF : f_X0_summaryOf summ x1 = G
  replace hF := hF.symm
  unfold f_X0_summaryOf at hF
  refine lv_iload_n hx hb dX0_summaryOf_0 rfl (lv_at hl 1 rfl) ?_
  refine lv_if_lt (tgt := 22) hx hb dX0_summaryOf_1 (by decide) (fun c_1 => ?_) (fun c_1 => ?_)
  · have hF := hF.trans (if_pos c_1)
    refine lv_iconst (v := (-1)) hx hb dX0_summaryOf_22 (by decide) ?_
    exact W.iret (v := (-1)) hx hb hr (fun t ht hW => ⟨⟨(-1), (), rfl, hF.symm, pz_hp ht hP⟩, hS.F ht⟩) hS.2.2 dX0_summaryOf_23 hlocks
  · have hF := hF.trans (if_neg c_1)
    refine lv_iload_n hx hb dX0_summaryOf_4 rfl (lv_at hl 1 rfl) ?_
    refine lv_aload_n hx hb dX0_summaryOf_5 rfl (lv_at hl 0 rfl) ?_
    refine va_get (D := D) (ci := 0) (v := .ref (q 21)) (C := RX0) (T := TX0) (N := 6) hx hb hts in_X0_summaryOf_X0 hown hK hP 3 rfl rfl 5 (by decide) (hts _ fl_X0_summaryOf_28) (fun _ h9 => h9) rfl dX0_summaryOf_6 ?_
    refine va_alen hx hb hK hP 21 0 rfl rfl (v := 4) rfl dX0_summaryOf_9 ?_
    refine lv_icmp_ge (tgt := 22) hx hb dX0_summaryOf_10 (by decide) (fun c_2 => ?_) (fun c_2 => ?_)
    · have hF := hF.trans (if_pos c_2)
      refine lv_iconst (v := (-1)) hx hb dX0_summaryOf_22 (by decide) ?_
      exact W.iret (v := (-1)) hx hb hr (fun t ht hW => ⟨⟨(-1), (), rfl, hF.symm, pz_hp ht hP⟩, hS.F ht⟩) hS.2.2 dX0_summaryOf_23 hlocks
    · have hF := hF.trans (if_neg c_2)
      refine lv_aload_n hx hb dX0_summaryOf_13 rfl (lv_at hl 0 rfl) ?_
      refine va_get (D := D) (ci := 0) (v := .ref (q 21)) (C := RX0) (T := TX0) (N := 6) hx hb hts in_X0_summaryOf_X0 hown hK hP 3 rfl rfl 5 (by decide) (hts _ fl_X0_summaryOf_28) (fun _ h9 => h9) rfl dX0_summaryOf_14 ?_
      refine lv_iload_n hx hb dX0_summaryOf_17 rfl (lv_at hl 1 rfl) ?_
      have hi_3 : vp_in x1 4 := pz_inI (pz_n0 ‹_›) (pz_nle ‹¬ (4 : Int32) ≤ x1›)
      refine va_iald hx hb hK hP 21 0 rfl rfl hi_3 dX0_summaryOf_18 ?_
      refine lv_goto (tgt := 23) hx hb dX0_summaryOf_19 (by decide) ?_
      exact W.iret (v := (summ (x1).toNatClampNeg)) hx hb hr (fun t ht hW => ⟨⟨(summ (x1).toNatClampNeg), (), rfl, hF.symm, pz_hp ht hP⟩, hS.F ht⟩) hS.2.2 dX0_summaryOf_23 hlocks

-- == X0_shutBox
def F_X0_shutBox_17 : Nat → (Nat → Int32) → (Nat → Int32) → (Nat → Int32) → (Nat → Int32) → (Int32) → (Int32) → (Int32) → (Nat → Int32) × (Nat → Int32) × (Nat → Int32)
  | 0, frules, ends, inforce, usable, x1, x2, x3 => (ends, inforce, usable)
  | n + 1, frules, ends, inforce, usable, x1, x2, x3 => if x2 < x3 then (if (frules (x2).toNatClampNeg) = 2 then (((upd ends (x1).toNatClampNeg x2), inforce, (upd usable (x1).toNatClampNeg 0))) else (((upd ends (x1).toNatClampNeg x2), inforce, (upd usable (x1).toNatClampNeg 1)))) else (F_X0_shutBox_17 n frules ends (upd inforce (x3).toNatClampNeg 0) (upd usable (x3).toNatClampNeg 0) x1 x2 (x3 + 1))
def f_X0_shutBox (frules : Nat → Int32) (ends : Nat → Int32) (inforce : Nat → Int32) (usable : Nat → Int32) (x1 : Int32) (x2 : Int32) : (Nat → Int32) × (Nat → Int32) × (Nat → Int32) := pz_bnd (f_X3_isLine x1) (fun z_9 => if z_9 = 0 then ((ends, inforce, usable)) else (pz_bnd (f_X3_isLine x2) (fun z_11 => if z_11 = 0 then ((ends, inforce, usable)) else (F_X0_shutBox_17 61 frules ends inforce usable x1 x2 x1))))
theorem fl_X0_shutBox_18 : Cond.fieldLink RX0 18 "BoxProofs$Findings" "ends" "[I" ∈ wsX0_shutBox := by decide +kernel
theorem fl_X0_shutBox_21 : Cond.fieldLink RX0 21 "BoxProofs$Findings" "inForce" "[Z" ∈ wsX0_shutBox := by decide +kernel
theorem fl_X0_shutBox_25 : Cond.fieldLink RX0 25 "BoxProofs$Findings" "usable" "[Z" ∈ wsX0_shutBox := by decide +kernel
theorem fl_X0_shutBox_9 : Cond.fieldLink RX0 9 "BoxProofs$Findings" "rules" "[I" ∈ wsX0_shutBox := by decide +kernel
theorem in_X0_shutBox_X0 : ∀ w ∈ wsX00, w ∈ wsX0_shutBox := by decide +kernel
theorem mm_X0_shutBox_Cond_initialized_RX3 : Cond.initialized RX3 ∈ wsX0_shutBox := by decide +kernel
theorem mm_X0_shutBox_Cond_static_yX3_isLine : Cond.static yX3_isLine ∈ wsX0_shutBox := by decide +kernel
set_option maxHeartbeats 4000000 in
set_option maxRecDepth 100000 in
theorem k_X0_shutBox_17 {p : Program} {l : Launch} {e : Env} {s : State} {m : MethodId} {args : Array Value} {below : List Frame} {meth : Method} {c : Code} {D : va_G} {q : Nat → Nat} {k : Nat → ClassId} {t : Nat → Nat} (hC : pz_C p s m args meth c cX0_shutBox wsX0_shutBox RX0 4 none) (hKX : pz_KX D q k t s) (cnt : Int32) (kinds : Nat → Int32) (firsts : Nat → Int32) (seconds : Nat → Int32) (heights : Nat → Int32) (tables : Nat → Int64) (replaced : Nat → Int32) (laid : Nat → Int32) (rules : Nat → Int32) (ps : Nat → Int32) (qs : Nat → Int32) (rs : Nat → Int32) (fs : Nat → Int32) (frules : Nat → Int32) (heads : Nat → Int32) (summ : Nat → Int32) {G : (Nat → Int32) × (Nat → Int32) × (Nat → Int32)} :
    ∀ (n : Nat) (ends : Nat → Int32) (inforce : Nat → Int32) (usable : Nat → Int32) (x1 : Int32) (x2 : Int32) (x3 : Int32) (h2 : vp_in x2 60) (h4 : vp_in x1 60) (h0 : 0 ≤ x3.toInt) (h1 : x3.toInt ≤ 60) (hn : 61 ≤ x3.toInt + n)  (H : Heap) (locs : List Loc) (ls : Array Slot), G = F_X0_shutBox_17 n frules ends inforce usable x1 x2 x3 → va_P D vwCl (pz_X q k cnt kinds firsts seconds heights tables replaced laid rules ps qs rs fs frules heads ends inforce usable summ) H → va_S (pz_A 22 q) s.heap H locs → lv_has ls 4 [(0, .ref (q 3)), (1, .int (x1)), (2, .int (x2)), (3, .int (x3))] → W p l e (headSpec wsX0_shutBox { frames := 1, cells := 0, slots := 0, locals := 20 }).room s m args below meth c H locs 0 0 (MQ below (va_Qv (fun (u : (Nat → Int32) × (Nat → Int32) × (Nat → Int32)) => u = G) (fun u t => va_P D vwCl (pz_X q k cnt kinds firsts seconds heights tables replaced laid rules ps qs rs fs frules heads u.1 u.2.1 u.2.2 summ) t.heap) (pz_A 22 q)) args s 0 0 (pz_A 22 q)) (F0 m 17 ls []) := by
  obtain ⟨hx, hb, hml, hown, hts, hr, hlocks⟩ := hC
  have hC : pz_C p s m args meth c cX0_shutBox wsX0_shutBox RX0 4 none := ⟨hx, hb, hml, hown, hts, hr, hlocks⟩
  have hK := hKX.1
  intro n
  induction n with
  | zero =>
    intro ends inforce usable x1 x2 x3 h2 h4 h0 h1 hn H locs ls hF hP hS hl
    exact absurd hn (by omega)
  | succ n ih =>
    intro ends inforce usable x1 x2 x3 h2 h4 h0 h1 hn H locs ls hF hP hS hl
    unfold F_X0_shutBox_17 at hF
    refine lv_iload_n hx hb dX0_shutBox_17 rfl (lv_at hl 3 rfl) ?_
    refine lv_iload_n hx hb dX0_shutBox_18 rfl (lv_at hl 2 rfl) ?_
    refine lv_icmp_gt (tgt := 42) hx hb dX0_shutBox_19 (by decide) (fun c_1 => ?_) (fun c_1 => ?_)
    · have hF := hF.trans (if_pos c_1)
      refine lv_aload_n hx hb dX0_shutBox_42 rfl (lv_at hl 0 rfl) ?_
      refine va_get (D := D) (ci := 0) (v := .ref (q 18)) (C := RX0) (T := TX0) (N := 6) hx hb hts in_X0_shutBox_X0 hown hK hP 3 rfl rfl 2 (by decide) (hts _ fl_X0_shutBox_18) (fun _ h9 => h9) rfl dX0_shutBox_43 ?_
      refine lv_iload_n hx hb dX0_shutBox_46 rfl (lv_at hl 1 rfl) ?_
      refine lv_iload_n hx hb dX0_shutBox_47 rfl (lv_at hl 2 rfl) ?_
      have hi_2 : vp_in x1 60 := by assumption
      refine va_iast hx hb hK hP (pz_D hKX.2.2.2.2.2.2.2.2 rfl) hS 18 0 rfl rfl hi_2 dX0_shutBox_48 (fun H locs hP _ hS => ?_)
      have hP : va_P D vwCl (pz_X q k cnt kinds firsts seconds heights tables replaced laid rules ps qs rs fs frules heads (upd ends (x1).toNatClampNeg x2) inforce usable summ) H := hP
      refine lv_aload_n hx hb dX0_shutBox_49 rfl (lv_at hl 0 rfl) ?_
      refine va_get (D := D) (ci := 0) (v := .ref (q 20)) (C := RX0) (T := TX0) (N := 6) hx hb hts in_X0_shutBox_X0 hown hK hP 3 rfl rfl 4 (by decide) (hts _ fl_X0_shutBox_25) (fun _ h9 => h9) rfl dX0_shutBox_50 ?_
      refine lv_iload_n hx hb dX0_shutBox_53 rfl (lv_at hl 1 rfl) ?_
      refine lv_aload_n hx hb dX0_shutBox_54 rfl (lv_at hl 0 rfl) ?_
      refine va_get (D := D) (ci := 0) (v := .ref (q 16)) (C := RX0) (T := TX0) (N := 6) hx hb hts in_X0_shutBox_X0 hown hK hP 3 rfl rfl 0 (by decide) (hts _ fl_X0_shutBox_9) (fun _ h9 => h9) rfl dX0_shutBox_55 ?_
      refine lv_iload_n hx hb dX0_shutBox_58 rfl (lv_at hl 2 rfl) ?_
      have hi_3 : vp_in x2 60 := by assumption
      refine va_iald hx hb hK hP 16 0 rfl rfl hi_3 dX0_shutBox_59 ?_
      refine lv_iconst (v := 2) hx hb dX0_shutBox_60 (by decide) ?_
      refine lv_icmp_eq (tgt := 68) hx hb dX0_shutBox_61 (by decide) (fun c_4 => ?_) (fun c_4 => ?_)
      · have hF := hF.trans (if_pos c_4)
        refine lv_iconst (v := 0) hx hb dX0_shutBox_68 (by decide) ?_
        have hi_5 : vp_in x1 60 := by assumption
        refine va_zast hx hb hK hP (pz_D hKX.2.2.2.2.2.2.2.2 rfl) hS 20 2 rfl rfl hi_5 dX0_shutBox_69 (fun H locs hP _ hS => ?_)
        have hP : va_P D vwCl (pz_X q k cnt kinds firsts seconds heights tables replaced laid rules ps qs rs fs frules heads (upd ends (x1).toNatClampNeg x2) inforce (upd usable (x1).toNatClampNeg 0) summ) H := hP
        exact W.vret hx hb hr (fun t ht hW => ⟨⟨((upd ends (x1).toNatClampNeg x2), inforce, (upd usable (x1).toNatClampNeg 0)), rfl, hF.symm, pz_hp ht hP⟩, hS.F ht⟩) hS.2.2 dX0_shutBox_70 hlocks
      · have hF := hF.trans (if_neg c_4)
        refine lv_iconst (v := 1) hx hb dX0_shutBox_64 (by decide) ?_
        refine lv_goto (tgt := 69) hx hb dX0_shutBox_65 (by decide) ?_
        have hi_6 : vp_in x1 60 := by assumption
        refine va_zast hx hb hK hP (pz_D hKX.2.2.2.2.2.2.2.2 rfl) hS 20 2 rfl rfl hi_6 dX0_shutBox_69 (fun H locs hP _ hS => ?_)
        have hP : va_P D vwCl (pz_X q k cnt kinds firsts seconds heights tables replaced laid rules ps qs rs fs frules heads (upd ends (x1).toNatClampNeg x2) inforce (upd usable (x1).toNatClampNeg 1) summ) H := hP
        exact W.vret hx hb hr (fun t ht hW => ⟨⟨((upd ends (x1).toNatClampNeg x2), inforce, (upd usable (x1).toNatClampNeg 1)), rfl, hF.symm, pz_hp ht hP⟩, hS.F ht⟩) hS.2.2 dX0_shutBox_70 hlocks
    · have hF := hF.trans (if_neg c_1)
      refine lv_aload_n hx hb dX0_shutBox_22 rfl (lv_at hl 0 rfl) ?_
      refine va_get (D := D) (ci := 0) (v := .ref (q 19)) (C := RX0) (T := TX0) (N := 6) hx hb hts in_X0_shutBox_X0 hown hK hP 3 rfl rfl 3 (by decide) (hts _ fl_X0_shutBox_21) (fun _ h9 => h9) rfl dX0_shutBox_23 ?_
      refine lv_iload_n hx hb dX0_shutBox_26 rfl (lv_at hl 3 rfl) ?_
      refine lv_iconst (v := 0) hx hb dX0_shutBox_27 (by decide) ?_
      have hi_7 : vp_in x3 60 := pz_inI h0 (by have a := pz_nlt ‹¬ x2 < x3›; have b := (vp_in_iff.mp h2).2; omega)
      refine va_zast hx hb hK hP (pz_D hKX.2.2.2.2.2.2.2.2 rfl) hS 19 2 rfl rfl hi_7 dX0_shutBox_28 (fun H locs hP _ hS => ?_)
      have hP : va_P D vwCl (pz_X q k cnt kinds firsts seconds heights tables replaced laid rules ps qs rs fs frules heads ends (upd inforce (x3).toNatClampNeg 0) usable summ) H := hP
      refine lv_aload_n hx hb dX0_shutBox_29 rfl (lv_at hl 0 rfl) ?_
      refine va_get (D := D) (ci := 0) (v := .ref (q 20)) (C := RX0) (T := TX0) (N := 6) hx hb hts in_X0_shutBox_X0 hown hK hP 3 rfl rfl 4 (by decide) (hts _ fl_X0_shutBox_25) (fun _ h9 => h9) rfl dX0_shutBox_30 ?_
      refine lv_iload_n hx hb dX0_shutBox_33 rfl (lv_at hl 3 rfl) ?_
      refine lv_iconst (v := 0) hx hb dX0_shutBox_34 (by decide) ?_
      have hi_8 : vp_in x3 60 := pz_inI h0 (by have a := pz_nlt ‹¬ x2 < x3›; have b := (vp_in_iff.mp h2).2; omega)
      refine va_zast hx hb hK hP (pz_D hKX.2.2.2.2.2.2.2.2 rfl) hS 20 2 rfl rfl hi_8 dX0_shutBox_35 (fun H locs hP _ hS => ?_)
      have hP : va_P D vwCl (pz_X q k cnt kinds firsts seconds heights tables replaced laid rules ps qs rs fs frules heads ends (upd inforce (x3).toNatClampNeg 0) (upd usable (x3).toNatClampNeg 0) summ) H := hP
      refine lv_iinc (v := (x3 + 1)) (lv' := [(3, .int ((x3 + 1))), (0, .ref (q 3)), (1, .int (x1)), (2, .int (x2))]) hx hb dX0_shutBox_36 hl (k := 3) rfl rfl (by decide) rfl (fun ls hl => ?_)
      refine lv_goto (tgt := 17) hx hb dX0_shutBox_39 (by decide) ?_
      exact ih ends (upd inforce (x3).toNatClampNeg 0) (upd usable (x3).toNatClampNeg 0) x1 x2 (x3 + 1) h2 h4 (by have a := pz_nlt ‹¬ x2 < x3›; have b := (vp_in_iff.mp h2).2; have i := pz_inc (x := x3) (by omega); omega) (by have a := pz_nlt ‹¬ x2 < x3›; have b := (vp_in_iff.mp h2).2; have i := pz_inc (x := x3) (by omega); omega) (by have a := pz_nlt ‹¬ x2 < x3›; have b := (vp_in_iff.mp h2).2; have i := pz_inc (x := x3) (by omega); omega) _ _ _ hF hP hS (lv_sub hl [1, 2, 3, 0] rfl)
set_option maxHeartbeats 4000000 in
set_option maxRecDepth 100000 in
theorem c_X0_shutBox (l : Launch) (D : va_G) (q : Nat → Nat) (k : Nat → ClassId) (t : Nat → Nat) (cnt : Int32) (kinds : Nat → Int32) (firsts : Nat → Int32) (seconds : Nat → Int32) (heights : Nat → Int32) (tables : Nat → Int64) (replaced : Nat → Int32) (laid : Nat → Int32) (rules : Nat → Int32) (ps : Nat → Int32) (qs : Nat → Int32) (rs : Nat → Int32) (fs : Nat → Int32) (frules : Nat → Int32) (heads : Nat → Int32) (ends : Nat → Int32) (inforce : Nat → Int32) (usable : Nat → Int32) (summ : Nat → Int32) (x1 : Int32) (x2 : Int32)  : Met l yX0_shutBox wsX0_shutBox ({ frames := 1, cells := 0, slots := 0, locals := 20 }) (va_Pc [.ref (q 3), .int (x1), .int (x2)] (fun U => va_P D vwCl (pz_X q k cnt kinds firsts seconds heights tables replaced laid rules ps qs rs fs frules heads ends inforce usable summ) U.heap ∧ pz_KX D q k t U)) (va_Qv (fun (u : (Nat → Int32) × (Nat → Int32) × (Nat → Int32)) => u = (f_X0_shutBox frules ends inforce usable x1 x2)) (fun u t => va_P D vwCl (pz_X q k cnt kinds firsts seconds heights tables replaced laid rules ps qs rs fs frules heads u.1 u.2.1 u.2.2 summ) t.heap) (pz_A 22 q)) 0 0 (pz_A 22 q) := by
  refine Met.ofW (cc := cX0_shutBox) (maxL := 4) (ret := none) (by decide) rfl ?_
  intro p e s m args below meth c s₁ B hml hv
  obtain ⟨rfl, hP, hKX⟩ := hv
  have hx := B.exec
  have hb := B.bytes
  have hr := B.returns
  have hts := atoms_spec (ws := wsX0_shutBox) B.pre
  have hown : s.vm.findClass RX0 = some m.cls := findClass_of_methodNamed B.named
  have hlocks := B.notSynchronized
  have hC : pz_C p s m ([.ref (q 3), .int (x1), .int (x2)] : List Value).toArray meth c cX0_shutBox wsX0_shutBox RX0 4 none := ⟨hx, hb, hml, hown, hts, hr, hlocks⟩
  have hK := hKX.1
  have hS : va_S (pz_A 22 q) s.heap s.heap [] := va_S.rf
  have hl := lv_entry [.ref (q 3), .int (x1), .int (x2)] (n := 4) (Nat.le_of_ble_eq_true rfl)
  rw [lg_entry_eq]
  generalize (lg_sl [.ref (q 3), .int (x1), .int (x2)] ++ List.replicate (4 - (lg_sl [.ref (q 3), .int (x1), .int (x2)]).length) Slot.unset).toArray = ls at hl ⊢
  have hl : lv_has ls 4 [(0, .ref (q 3)), (1, .int (x1)), (2, .int (x2))] := hl
  generalize hF : f_X0_shutBox frules ends inforce usable x1 x2 = G
  replace hF := hF.symm
  unfold f_X0_shutBox at hF
  refine lv_iload_n hx hb dX0_shutBox_0 rfl (lv_at hl 1 rfl) ?_
  refine pz_SNi (As := [.int (x1)]) (rest := []) ⟨hx, hb, hml, hown, hts⟩ (c_X3_isLine l x1) ⟨va_cnB 1 hts gX0_shutBox_X3_isLine_n38 rfl rfl rfl hKX.2.1 (hts _ mm_X0_shutBox_Cond_initialized_RX3) hdS_X3_isLine ⟨Nat.le_of_ble_eq_true rfl, Nat.le_of_ble_eq_true rfl⟩, hts _ mm_X0_shutBox_Cond_static_yX3_isLine, trivial⟩ hP hS rfl hl.1 rfl (Nat.le_of_ble_eq_true rfl) dX0_shutBox_1 ⟨Nat.zero_le _, Nat.zero_le _⟩ (fun r_9 H locs hF_9 hP hS => ?_)
  have hF := hF.trans (pz_be hF_9)
  refine lv_if_eq (tgt := 14) hx hb dX0_shutBox_4 (by decide) (fun c_10 => ?_) (fun c_10 => ?_)
  · have hF := hF.trans (if_pos c_10)
    exact W.vret hx hb hr (fun t ht hW => ⟨⟨(ends, inforce, usable), rfl, hF.symm, pz_hp ht hP⟩, hS.F ht⟩) hS.2.2 dX0_shutBox_14 hlocks
  · have hF := hF.trans (if_neg c_10)
    refine lv_iload_n hx hb dX0_shutBox_7 rfl (lv_at hl 2 rfl) ?_
    refine pz_SNi (As := [.int (x2)]) (rest := []) ⟨hx, hb, hml, hown, hts⟩ (c_X3_isLine l x2) ⟨va_cnB 1 hts gX0_shutBox_X3_isLine_n38 rfl rfl rfl hKX.2.1 (hts _ mm_X0_shutBox_Cond_initialized_RX3) hdS_X3_isLine ⟨Nat.le_of_ble_eq_true rfl, Nat.le_of_ble_eq_true rfl⟩, hts _ mm_X0_shutBox_Cond_static_yX3_isLine, trivial⟩ hP hS rfl hl.1 rfl (Nat.le_of_ble_eq_true rfl) dX0_shutBox_8 ⟨Nat.zero_le _, Nat.zero_le _⟩ (fun r_11 H locs hF_11 hP hS => ?_)
    have hF := hF.trans (pz_be hF_11)
    refine lv_if_ne (tgt := 15) hx hb dX0_shutBox_11 (by decide) (fun c_12 => ?_) (fun c_12 => ?_)
    · have hF := hF.trans (if_neg c_12)
      refine lv_iload_n hx hb dX0_shutBox_15 rfl (lv_at hl 1 rfl) ?_
      refine lv_istore_n (lv' := [(3, .int (x1)), (0, .ref (q 3)), (1, .int (x1)), (2, .int (x2))]) hx hb dX0_shutBox_16 rfl hl (by decide) rfl (fun ls hl => ?_)
      exact k_X0_shutBox_17 hC hKX cnt kinds firsts seconds heights tables replaced laid rules ps qs rs fs frules heads summ 61 ends inforce usable x1 x2 x1 (pz_line (k := x2) ‹_› ‹_›) (pz_line (k := x1) ‹_› ‹_›) (vp_in_iff.mp (pz_line (k := x1) ‹_› ‹_›)).1 (Int.le_of_lt (vp_in_iff.mp (pz_line (k := x1) ‹_› ‹_›)).2) (by have a := (vp_in_iff.mp (pz_line (k := x1) ‹_› ‹_›)).1; omega) _ _ _ hF hP hS (lv_sub hl [1, 2, 3, 0] rfl)
    · have hF := hF.trans (if_pos c_12)
      exact W.vret hx hb hr (fun t ht hW => ⟨⟨(ends, inforce, usable), rfl, hF.symm, pz_hp ht hP⟩, hS.F ht⟩) hS.2.2 dX0_shutBox_14 hlocks

-- == X0_keep
def f_X0_keep (frules : Nat → Int32) (heads : Nat → Int32) (ends : Nat → Int32) (inforce : Nat → Int32) (usable : Nat → Int32) (x1 : Int32) (x2 : Int32) (x3 : Int32) : (Nat → Int32) × (Nat → Int32) × (Nat → Int32) × (Nat → Int32) × (Nat → Int32) := pz_bnd (f_X3_isLine x1) (fun z_1 => if z_1 = 0 then ((frules, heads, ends, inforce, usable)) else (if x3 = (-1) then (if x2 = 2 then (pz_bnd (f_X0_innermostOpen (upd frules (x1).toNatClampNeg x2) ends) (fun z_8 => pz_bnd (f_X0_shutBox (upd frules (x1).toNatClampNeg x2) ends (upd inforce (x1).toNatClampNeg 0) usable z_8 (x1 - 1)) (fun z_9 => ((upd frules (x1).toNatClampNeg x2), (upd heads (x1).toNatClampNeg x3), z_9.1, z_9.2.1, z_9.2.2)))) else (((upd frules (x1).toNatClampNeg x2), (upd heads (x1).toNatClampNeg x3), ends, (upd inforce (x1).toNatClampNeg 0), usable))) else (if x2 = 2 then (pz_bnd (f_X0_innermostOpen (upd frules (x1).toNatClampNeg x2) ends) (fun z_12 => pz_bnd (f_X0_shutBox (upd frules (x1).toNatClampNeg x2) ends (upd inforce (x1).toNatClampNeg 1) usable z_12 (x1 - 1)) (fun z_13 => ((upd frules (x1).toNatClampNeg x2), (upd heads (x1).toNatClampNeg x3), z_13.1, z_13.2.1, z_13.2.2)))) else (((upd frules (x1).toNatClampNeg x2), (upd heads (x1).toNatClampNeg x3), ends, (upd inforce (x1).toNatClampNeg 1), usable)))))
theorem fl_X0_keep_15 : Cond.fieldLink RX0 15 "BoxProofs$Findings" "heads" "[I" ∈ wsX0_keep := by decide +kernel
theorem fl_X0_keep_21 : Cond.fieldLink RX0 21 "BoxProofs$Findings" "inForce" "[Z" ∈ wsX0_keep := by decide +kernel
theorem fl_X0_keep_9 : Cond.fieldLink RX0 9 "BoxProofs$Findings" "rules" "[I" ∈ wsX0_keep := by decide +kernel
theorem hdV_X0_innermostOpen : yX0_innermostOpen.cls = RX0 ∧ yX0_innermostOpen.cls ≠ "java/lang/invoke/MethodHandle" ∧ yX0_innermostOpen.cls ≠ "java/lang/invoke/VarHandle" ∧ (parseMethodDescriptor yX0_innermostOpen.desc).map (fun d => d.parameters.length) = some 0 := by decide +kernel
theorem hdV_X0_shutBox : yX0_shutBox.cls = RX0 ∧ yX0_shutBox.cls ≠ "java/lang/invoke/MethodHandle" ∧ yX0_shutBox.cls ≠ "java/lang/invoke/VarHandle" ∧ (parseMethodDescriptor yX0_shutBox.desc).map (fun d => d.parameters.length) = some 2 := by decide +kernel
theorem in_X0_keep_X0 : ∀ w ∈ wsX00, w ∈ wsX0_keep := by decide +kernel
theorem mm_X0_keep_Cond_initialized_RX3 : Cond.initialized RX3 ∈ wsX0_keep := by decide +kernel
theorem mm_X0_keep_Cond_static_yX3_isLine : Cond.static yX3_isLine ∈ wsX0_keep := by decide +kernel
set_option maxHeartbeats 4000000 in
set_option maxRecDepth 100000 in
theorem c_X0_keep (l : Launch) (D : va_G) (q : Nat → Nat) (k : Nat → ClassId) (t : Nat → Nat) (cnt : Int32) (kinds : Nat → Int32) (firsts : Nat → Int32) (seconds : Nat → Int32) (heights : Nat → Int32) (tables : Nat → Int64) (replaced : Nat → Int32) (laid : Nat → Int32) (rules : Nat → Int32) (ps : Nat → Int32) (qs : Nat → Int32) (rs : Nat → Int32) (fs : Nat → Int32) (frules : Nat → Int32) (heads : Nat → Int32) (ends : Nat → Int32) (inforce : Nat → Int32) (usable : Nat → Int32) (summ : Nat → Int32) (x1 : Int32) (x2 : Int32) (x3 : Int32)  : Met l yX0_keep wsX0_keep ({ frames := 3, cells := 0, slots := 0, locals := 62 }) (va_Pc [.ref (q 3), .int (x1), .int (x2), .int (x3)] (fun U => va_P D vwCl (pz_X q k cnt kinds firsts seconds heights tables replaced laid rules ps qs rs fs frules heads ends inforce usable summ) U.heap ∧ pz_KX D q k t U)) (va_Qv (fun (u : (Nat → Int32) × (Nat → Int32) × (Nat → Int32) × (Nat → Int32) × (Nat → Int32)) => u = (f_X0_keep frules heads ends inforce usable x1 x2 x3)) (fun u t => va_P D vwCl (pz_X q k cnt kinds firsts seconds heights tables replaced laid rules ps qs rs fs u.1 u.2.1 u.2.2.1 u.2.2.2.1 u.2.2.2.2 summ) t.heap) (pz_A 22 q)) 0 0 (pz_A 22 q) := by
  refine Met.ofW (cc := cX0_keep) (maxL := 4) (ret := none) (by decide) rfl ?_
  intro p e s m args below meth c s₁ B hml hv
  obtain ⟨rfl, hP, hKX⟩ := hv
  have hx := B.exec
  have hb := B.bytes
  have hr := B.returns
  have hts := atoms_spec (ws := wsX0_keep) B.pre
  have hown : s.vm.findClass RX0 = some m.cls := findClass_of_methodNamed B.named
  have hlocks := B.notSynchronized
  have hC : pz_C p s m ([.ref (q 3), .int (x1), .int (x2), .int (x3)] : List Value).toArray meth c cX0_keep wsX0_keep RX0 4 none := ⟨hx, hb, hml, hown, hts, hr, hlocks⟩
  have hK := hKX.1
  have hS : va_S (pz_A 22 q) s.heap s.heap [] := va_S.rf
  have hl := lv_entry [.ref (q 3), .int (x1), .int (x2), .int (x3)] (n := 4) (Nat.le_of_ble_eq_true rfl)
  rw [lg_entry_eq]
  generalize (lg_sl [.ref (q 3), .int (x1), .int (x2), .int (x3)] ++ List.replicate (4 - (lg_sl [.ref (q 3), .int (x1), .int (x2), .int (x3)]).length) Slot.unset).toArray = ls at hl ⊢
  have hl : lv_has ls 4 [(0, .ref (q 3)), (1, .int (x1)), (2, .int (x2)), (3, .int (x3))] := hl
  generalize hF : f_X0_keep frules heads ends inforce usable x1 x2 x3 = G
  replace hF := hF.symm
  unfold f_X0_keep at hF
  refine lv_iload_n hx hb dX0_keep_0 rfl (lv_at hl 1 rfl) ?_
  refine pz_SNi (As := [.int (x1)]) (rest := []) ⟨hx, hb, hml, hown, hts⟩ (c_X3_isLine l x1) ⟨va_cnB 1 hts gX0_keep_X3_isLine_n38 rfl rfl rfl hKX.2.1 (hts _ mm_X0_keep_Cond_initialized_RX3) hdS_X3_isLine ⟨Nat.le_of_ble_eq_true rfl, Nat.le_of_ble_eq_true rfl⟩, hts _ mm_X0_keep_Cond_static_yX3_isLine, trivial⟩ hP hS rfl hl.1 rfl (Nat.le_of_ble_eq_true rfl) dX0_keep_1 ⟨Nat.zero_le _, Nat.zero_le _⟩ (fun r_1 H locs hF_1 hP hS => ?_)
  have hF := hF.trans (pz_be hF_1)
  refine lv_if_ne (tgt := 8) hx hb dX0_keep_4 (by decide) (fun c_2 => ?_) (fun c_2 => ?_)
  · have hF := hF.trans (if_neg c_2)
    refine lv_aload_n hx hb dX0_keep_8 rfl (lv_at hl 0 rfl) ?_
    refine va_get (D := D) (ci := 0) (v := .ref (q 16)) (C := RX0) (T := TX0) (N := 6) hx hb hts in_X0_keep_X0 hown hK hP 3 rfl rfl 0 (by decide) (hts _ fl_X0_keep_9) (fun _ h9 => h9) rfl dX0_keep_9 ?_
    refine lv_iload_n hx hb dX0_keep_12 rfl (lv_at hl 1 rfl) ?_
    refine lv_iload_n hx hb dX0_keep_13 rfl (lv_at hl 2 rfl) ?_
    have hi_3 : vp_in x1 60 := by first | exact pz_line ‹_› ‹_› | assumption
    refine va_iast hx hb hK hP (pz_D hKX.2.2.2.2.2.2.2.2 rfl) hS 16 0 rfl rfl hi_3 dX0_keep_14 (fun H locs hP _ hS => ?_)
    have hP : va_P D vwCl (pz_X q k cnt kinds firsts seconds heights tables replaced laid rules ps qs rs fs (upd frules (x1).toNatClampNeg x2) heads ends inforce usable summ) H := hP
    refine lv_aload_n hx hb dX0_keep_15 rfl (lv_at hl 0 rfl) ?_
    refine va_get (D := D) (ci := 0) (v := .ref (q 17)) (C := RX0) (T := TX0) (N := 6) hx hb hts in_X0_keep_X0 hown hK hP 3 rfl rfl 1 (by decide) (hts _ fl_X0_keep_15) (fun _ h9 => h9) rfl dX0_keep_16 ?_
    refine lv_iload_n hx hb dX0_keep_19 rfl (lv_at hl 1 rfl) ?_
    refine lv_iload_n hx hb dX0_keep_20 rfl (lv_at hl 3 rfl) ?_
    have hi_4 : vp_in x1 60 := by first | exact pz_line ‹_› ‹_› | assumption
    refine va_iast hx hb hK hP (pz_D hKX.2.2.2.2.2.2.2.2 rfl) hS 17 0 rfl rfl hi_4 dX0_keep_21 (fun H locs hP _ hS => ?_)
    have hP : va_P D vwCl (pz_X q k cnt kinds firsts seconds heights tables replaced laid rules ps qs rs fs (upd frules (x1).toNatClampNeg x2) (upd heads (x1).toNatClampNeg x3) ends inforce usable summ) H := hP
    refine lv_aload_n hx hb dX0_keep_22 rfl (lv_at hl 0 rfl) ?_
    refine va_get (D := D) (ci := 0) (v := .ref (q 19)) (C := RX0) (T := TX0) (N := 6) hx hb hts in_X0_keep_X0 hown hK hP 3 rfl rfl 3 (by decide) (hts _ fl_X0_keep_21) (fun _ h9 => h9) rfl dX0_keep_23 ?_
    refine lv_iload_n hx hb dX0_keep_26 rfl (lv_at hl 1 rfl) ?_
    refine lv_iload_n hx hb dX0_keep_27 rfl (lv_at hl 3 rfl) ?_
    refine lv_iconst (v := (-1)) hx hb dX0_keep_28 (by decide) ?_
    refine lv_icmp_eq (tgt := 36) hx hb dX0_keep_29 (by decide) (fun c_5 => ?_) (fun c_5 => ?_)
    · have hF := hF.trans (if_pos c_5)
      refine lv_iconst (v := 0) hx hb dX0_keep_36 (by decide) ?_
      have hi_6 : vp_in x1 60 := by first | exact pz_line ‹_› ‹_› | assumption
      refine va_zast hx hb hK hP (pz_D hKX.2.2.2.2.2.2.2.2 rfl) hS 19 2 rfl rfl hi_6 dX0_keep_37 (fun H locs hP _ hS => ?_)
      have hP : va_P D vwCl (pz_X q k cnt kinds firsts seconds heights tables replaced laid rules ps qs rs fs (upd frules (x1).toNatClampNeg x2) (upd heads (x1).toNatClampNeg x3) ends (upd inforce (x1).toNatClampNeg 0) usable summ) H := hP
      refine lv_iload_n hx hb dX0_keep_38 rfl (lv_at hl 2 rfl) ?_
      refine lv_iconst (v := 2) hx hb dX0_keep_39 (by decide) ?_
      refine lv_icmp_ne (tgt := 54) hx hb dX0_keep_40 (by decide) (fun c_7 => ?_) (fun c_7 => ?_)
      · have hF := hF.trans (if_neg c_7)
        exact W.vret hx hb hr (fun t ht hW => ⟨⟨((upd frules (x1).toNatClampNeg x2), (upd heads (x1).toNatClampNeg x3), ends, (upd inforce (x1).toNatClampNeg 0), usable), rfl, hF.symm, pz_hp ht hP⟩, hS.F ht⟩) hS.2.2 dX0_keep_54 hlocks
      · have hF := hF.trans (if_pos c_7)
        refine lv_aload_n hx hb dX0_keep_43 rfl (lv_at hl 0 rfl) ?_
        refine lv_aload_n hx hb dX0_keep_44 rfl (lv_at hl 0 rfl) ?_
        refine pz_Vi (As := []) (rest := [.ref (q 3)]) ⟨hx, hb, hml, hown, hts⟩ (c_X0_innermostOpen l D q k t cnt kinds firsts seconds heights tables replaced laid rules ps qs rs fs (upd frules (x1).toNatClampNeg x2) (upd heads (x1).toNatClampNeg x3) ends (upd inforce (x1).toNatClampNeg 0) usable summ) (cwV 0 hts gX0_keep_X0_innermostOpen rfl rfl rfl hdV_X0_innermostOpen ⟨Nat.le_of_ble_eq_true rfl, Nat.le_of_ble_eq_true rfl⟩) pz_KX.call (hKX.go hS) (va_recv hK hP (ci := 0) (q0 := 3) rfl rfl) hP hS rfl hl.1 rfl (Nat.le_of_ble_eq_true rfl) dX0_keep_45 ⟨Nat.zero_le _, Nat.zero_le _⟩ (fun r_8 u_8 H locs hF_8 hP hS => ?_)
        have hF := hF.trans (pz_be hF_8)
        refine lv_iload_n hx hb dX0_keep_48 rfl (lv_at hl 1 rfl) ?_
        refine lv_iconst (v := 1) hx hb dX0_keep_49 (by decide) ?_
        refine lv_isub hx hb dX0_keep_50 ?_
        refine pz_Vv (As := [.int (r_8), .int ((x1 - 1))]) (rest := []) ⟨hx, hb, hml, hown, hts⟩ (c_X0_shutBox l D q k t cnt kinds firsts seconds heights tables replaced laid rules ps qs rs fs (upd frules (x1).toNatClampNeg x2) (upd heads (x1).toNatClampNeg x3) ends (upd inforce (x1).toNatClampNeg 0) usable summ r_8 (x1 - 1)) (cwV 2 hts gX0_keep_X0_shutBox rfl rfl rfl hdV_X0_shutBox ⟨Nat.le_of_ble_eq_true rfl, Nat.le_of_ble_eq_true rfl⟩) pz_KX.call (hKX.go hS) (va_recv hK hP (ci := 0) (q0 := 3) rfl rfl) hP hS rfl hl.1 rfl (Nat.le_of_ble_eq_true rfl) dX0_keep_51 ⟨Nat.zero_le _, Nat.zero_le _⟩ (fun u_9 H locs hF_9 hP hS => ?_)
        obtain ⟨w_9_ends, w_9_inforce, w_9_usable⟩ := u_9
        have hP : va_P D vwCl (pz_X q k cnt kinds firsts seconds heights tables replaced laid rules ps qs rs fs (upd frules (x1).toNatClampNeg x2) (upd heads (x1).toNatClampNeg x3) w_9_ends w_9_inforce w_9_usable summ) H := hP
        have hF := hF.trans (pz_be hF_9)
        try dsimp only at hF
        exact W.vret hx hb hr (fun t ht hW => ⟨⟨((upd frules (x1).toNatClampNeg x2), (upd heads (x1).toNatClampNeg x3), w_9_ends, w_9_inforce, w_9_usable), rfl, hF.symm, pz_hp ht hP⟩, hS.F ht⟩) hS.2.2 dX0_keep_54 hlocks
    · have hF := hF.trans (if_neg c_5)
      refine lv_iconst (v := 1) hx hb dX0_keep_32 (by decide) ?_
      refine lv_goto (tgt := 37) hx hb dX0_keep_33 (by decide) ?_
      have hi_10 : vp_in x1 60 := by first | exact pz_line ‹_› ‹_› | assumption
      refine va_zast hx hb hK hP (pz_D hKX.2.2.2.2.2.2.2.2 rfl) hS 19 2 rfl rfl hi_10 dX0_keep_37 (fun H locs hP _ hS => ?_)
      have hP : va_P D vwCl (pz_X q k cnt kinds firsts seconds heights tables replaced laid rules ps qs rs fs (upd frules (x1).toNatClampNeg x2) (upd heads (x1).toNatClampNeg x3) ends (upd inforce (x1).toNatClampNeg 1) usable summ) H := hP
      refine lv_iload_n hx hb dX0_keep_38 rfl (lv_at hl 2 rfl) ?_
      refine lv_iconst (v := 2) hx hb dX0_keep_39 (by decide) ?_
      refine lv_icmp_ne (tgt := 54) hx hb dX0_keep_40 (by decide) (fun c_11 => ?_) (fun c_11 => ?_)
      · have hF := hF.trans (if_neg c_11)
        exact W.vret hx hb hr (fun t ht hW => ⟨⟨((upd frules (x1).toNatClampNeg x2), (upd heads (x1).toNatClampNeg x3), ends, (upd inforce (x1).toNatClampNeg 1), usable), rfl, hF.symm, pz_hp ht hP⟩, hS.F ht⟩) hS.2.2 dX0_keep_54 hlocks
      · have hF := hF.trans (if_pos c_11)
        refine lv_aload_n hx hb dX0_keep_43 rfl (lv_at hl 0 rfl) ?_
        refine lv_aload_n hx hb dX0_keep_44 rfl (lv_at hl 0 rfl) ?_
        refine pz_Vi (As := []) (rest := [.ref (q 3)]) ⟨hx, hb, hml, hown, hts⟩ (c_X0_innermostOpen l D q k t cnt kinds firsts seconds heights tables replaced laid rules ps qs rs fs (upd frules (x1).toNatClampNeg x2) (upd heads (x1).toNatClampNeg x3) ends (upd inforce (x1).toNatClampNeg 1) usable summ) (cwV 0 hts gX0_keep_X0_innermostOpen rfl rfl rfl hdV_X0_innermostOpen ⟨Nat.le_of_ble_eq_true rfl, Nat.le_of_ble_eq_true rfl⟩) pz_KX.call (hKX.go hS) (va_recv hK hP (ci := 0) (q0 := 3) rfl rfl) hP hS rfl hl.1 rfl (Nat.le_of_ble_eq_true rfl) dX0_keep_45 ⟨Nat.zero_le _, Nat.zero_le _⟩ (fun r_12 u_12 H locs hF_12 hP hS => ?_)
        have hF := hF.trans (pz_be hF_12)
        refine lv_iload_n hx hb dX0_keep_48 rfl (lv_at hl 1 rfl) ?_
        refine lv_iconst (v := 1) hx hb dX0_keep_49 (by decide) ?_
        refine lv_isub hx hb dX0_keep_50 ?_
        refine pz_Vv (As := [.int (r_12), .int ((x1 - 1))]) (rest := []) ⟨hx, hb, hml, hown, hts⟩ (c_X0_shutBox l D q k t cnt kinds firsts seconds heights tables replaced laid rules ps qs rs fs (upd frules (x1).toNatClampNeg x2) (upd heads (x1).toNatClampNeg x3) ends (upd inforce (x1).toNatClampNeg 1) usable summ r_12 (x1 - 1)) (cwV 2 hts gX0_keep_X0_shutBox rfl rfl rfl hdV_X0_shutBox ⟨Nat.le_of_ble_eq_true rfl, Nat.le_of_ble_eq_true rfl⟩) pz_KX.call (hKX.go hS) (va_recv hK hP (ci := 0) (q0 := 3) rfl rfl) hP hS rfl hl.1 rfl (Nat.le_of_ble_eq_true rfl) dX0_keep_51 ⟨Nat.zero_le _, Nat.zero_le _⟩ (fun u_13 H locs hF_13 hP hS => ?_)
        obtain ⟨w_13_ends, w_13_inforce, w_13_usable⟩ := u_13
        have hP : va_P D vwCl (pz_X q k cnt kinds firsts seconds heights tables replaced laid rules ps qs rs fs (upd frules (x1).toNatClampNeg x2) (upd heads (x1).toNatClampNeg x3) w_13_ends w_13_inforce w_13_usable summ) H := hP
        have hF := hF.trans (pz_be hF_13)
        try dsimp only at hF
        exact W.vret hx hb hr (fun t ht hW => ⟨⟨((upd frules (x1).toNatClampNeg x2), (upd heads (x1).toNatClampNeg x3), w_13_ends, w_13_inforce, w_13_usable), rfl, hF.symm, pz_hp ht hP⟩, hS.F ht⟩) hS.2.2 dX0_keep_54 hlocks
  · have hF := hF.trans (if_pos c_2)
    exact W.vret hx hb hr (fun t ht hW => ⟨⟨(frules, heads, ends, inforce, usable), rfl, hF.symm, pz_hp ht hP⟩, hS.F ht⟩) hS.2.2 dX0_keep_7 hlocks

-- == X0_liesInBox
def f_X0_liesInBox (frules : Nat → Int32) (ends : Nat → Int32) (x1 : Int32) (x2 : Int32) : Int32 := pz_bnd (f_X0_ruleOf frules x2) (fun z_1 => if z_1 = 1 then (if x1 < x2 then (0) else (pz_bnd (f_X0_endOf ends x2) (fun z_4 => if z_4 = (-1) then (1) else (pz_bnd (f_X0_endOf ends x2) (fun z_6 => if z_6 < x1 then (0) else (1)))))) else (0))
theorem hdV_X0_endOf : yX0_endOf.cls = RX0 ∧ yX0_endOf.cls ≠ "java/lang/invoke/MethodHandle" ∧ yX0_endOf.cls ≠ "java/lang/invoke/VarHandle" ∧ (parseMethodDescriptor yX0_endOf.desc).map (fun d => d.parameters.length) = some 1 := by decide +kernel
theorem hdV_X0_ruleOf : yX0_ruleOf.cls = RX0 ∧ yX0_ruleOf.cls ≠ "java/lang/invoke/MethodHandle" ∧ yX0_ruleOf.cls ≠ "java/lang/invoke/VarHandle" ∧ (parseMethodDescriptor yX0_ruleOf.desc).map (fun d => d.parameters.length) = some 1 := by decide +kernel
set_option maxHeartbeats 4000000 in
set_option maxRecDepth 100000 in
theorem c_X0_liesInBox (l : Launch) (D : va_G) (q : Nat → Nat) (k : Nat → ClassId) (t : Nat → Nat) (cnt : Int32) (kinds : Nat → Int32) (firsts : Nat → Int32) (seconds : Nat → Int32) (heights : Nat → Int32) (tables : Nat → Int64) (replaced : Nat → Int32) (laid : Nat → Int32) (rules : Nat → Int32) (ps : Nat → Int32) (qs : Nat → Int32) (rs : Nat → Int32) (fs : Nat → Int32) (frules : Nat → Int32) (heads : Nat → Int32) (ends : Nat → Int32) (inforce : Nat → Int32) (usable : Nat → Int32) (summ : Nat → Int32) (x1 : Int32) (x2 : Int32)  : Met l yX0_liesInBox wsX0_liesInBox ({ frames := 2, cells := 0, slots := 0, locals := 41 }) (va_Pc [.ref (q 3), .int (x1), .int (x2)] (fun U => va_P D vwCl (pz_X q k cnt kinds firsts seconds heights tables replaced laid rules ps qs rs fs frules heads ends inforce usable summ) U.heap ∧ pz_KX D q k t U)) (va_Qi (fun r (_ : Unit) => r = (f_X0_liesInBox frules ends x1 x2)) (fun _ t => va_P D vwCl (pz_X q k cnt kinds firsts seconds heights tables replaced laid rules ps qs rs fs frules heads ends inforce usable summ) t.heap) (pz_A 22 q)) 0 0 (pz_A 22 q) := by
  refine Met.ofW (cc := cX0_liesInBox) (maxL := 3) (ret := (some .boolean)) (by decide) rfl ?_
  intro p e s m args below meth c s₁ B hml hv
  obtain ⟨rfl, hP, hKX⟩ := hv
  have hx := B.exec
  have hb := B.bytes
  have hr := B.returns
  have hts := atoms_spec (ws := wsX0_liesInBox) B.pre
  have hown : s.vm.findClass RX0 = some m.cls := findClass_of_methodNamed B.named
  have hlocks := B.notSynchronized
  have hC : pz_C p s m ([.ref (q 3), .int (x1), .int (x2)] : List Value).toArray meth c cX0_liesInBox wsX0_liesInBox RX0 3 (some .boolean) := ⟨hx, hb, hml, hown, hts, hr, hlocks⟩
  have hK := hKX.1
  have hS : va_S (pz_A 22 q) s.heap s.heap [] := va_S.rf
  have hl := lv_entry [.ref (q 3), .int (x1), .int (x2)] (n := 3) (Nat.le_of_ble_eq_true rfl)
  rw [lg_entry_eq]
  generalize (lg_sl [.ref (q 3), .int (x1), .int (x2)] ++ List.replicate (3 - (lg_sl [.ref (q 3), .int (x1), .int (x2)]).length) Slot.unset).toArray = ls at hl ⊢
  have hl : lv_has ls 3 [(0, .ref (q 3)), (1, .int (x1)), (2, .int (x2))] := hl
  generalize hF : f_X0_liesInBox frules ends x1 x2 = G
  replace hF := hF.symm
  unfold f_X0_liesInBox at hF
  refine lv_aload_n hx hb dX0_liesInBox_0 rfl (lv_at hl 0 rfl) ?_
  refine lv_iload_n hx hb dX0_liesInBox_1 rfl (lv_at hl 2 rfl) ?_
  refine pz_Vi (As := [.int (x2)]) (rest := []) ⟨hx, hb, hml, hown, hts⟩ (c_X0_ruleOf l D q k t cnt kinds firsts seconds heights tables replaced laid rules ps qs rs fs frules heads ends inforce usable summ x2) (cwV 1 hts gX0_liesInBox_X0_ruleOf rfl rfl rfl hdV_X0_ruleOf ⟨Nat.le_of_ble_eq_true rfl, Nat.le_of_ble_eq_true rfl⟩) pz_KX.call (hKX.go hS) (va_recv hK hP (ci := 0) (q0 := 3) rfl rfl) hP hS rfl hl.1 rfl (Nat.le_of_ble_eq_true rfl) dX0_liesInBox_2 ⟨Nat.zero_le _, Nat.zero_le _⟩ (fun r_1 u_1 H locs hF_1 hP hS => ?_)
  have hF := hF.trans (pz_be hF_1)
  refine lv_iconst (v := 1) hx hb dX0_liesInBox_5 (by decide) ?_
  refine lv_icmp_ne (tgt := 36) hx hb dX0_liesInBox_6 (by decide) (fun c_2 => ?_) (fun c_2 => ?_)
  · have hF := hF.trans (if_neg c_2)
    refine lv_iconst (v := 0) hx hb dX0_liesInBox_36 (by decide) ?_
    exact W.zret (v := 0) hx hb hr rfl (fun t ht hW => ⟨⟨0, (), rfl, hF.symm, pz_hp ht hP⟩, hS.F ht⟩) hS.2.2 dX0_liesInBox_37 hlocks
  · have hF := hF.trans (if_pos c_2)
    refine lv_iload_n hx hb dX0_liesInBox_9 rfl (lv_at hl 2 rfl) ?_
    refine lv_iload_n hx hb dX0_liesInBox_10 rfl (lv_at hl 1 rfl) ?_
    refine lv_icmp_gt (tgt := 36) hx hb dX0_liesInBox_11 (by decide) (fun c_3 => ?_) (fun c_3 => ?_)
    · have hF := hF.trans (if_pos c_3)
      refine lv_iconst (v := 0) hx hb dX0_liesInBox_36 (by decide) ?_
      exact W.zret (v := 0) hx hb hr rfl (fun t ht hW => ⟨⟨0, (), rfl, hF.symm, pz_hp ht hP⟩, hS.F ht⟩) hS.2.2 dX0_liesInBox_37 hlocks
    · have hF := hF.trans (if_neg c_3)
      refine lv_aload_n hx hb dX0_liesInBox_14 rfl (lv_at hl 0 rfl) ?_
      refine lv_iload_n hx hb dX0_liesInBox_15 rfl (lv_at hl 2 rfl) ?_
      refine pz_Vi (As := [.int (x2)]) (rest := []) ⟨hx, hb, hml, hown, hts⟩ (c_X0_endOf l D q k t cnt kinds firsts seconds heights tables replaced laid rules ps qs rs fs frules heads ends inforce usable summ x2) (cwV 1 hts gX0_liesInBox_X0_endOf rfl rfl rfl hdV_X0_endOf ⟨Nat.le_of_ble_eq_true rfl, Nat.le_of_ble_eq_true rfl⟩) pz_KX.call (hKX.go hS) (va_recv hK hP (ci := 0) (q0 := 3) rfl rfl) hP hS rfl hl.1 rfl (Nat.le_of_ble_eq_true rfl) dX0_liesInBox_16 ⟨Nat.zero_le _, Nat.zero_le _⟩ (fun r_4 u_4 H locs hF_4 hP hS => ?_)
      have hF := hF.trans (pz_be hF_4)
      refine lv_iconst (v := (-1)) hx hb dX0_liesInBox_19 (by decide) ?_
      refine lv_icmp_eq (tgt := 32) hx hb dX0_liesInBox_20 (by decide) (fun c_5 => ?_) (fun c_5 => ?_)
      · have hF := hF.trans (if_pos c_5)
        refine lv_iconst (v := 1) hx hb dX0_liesInBox_32 (by decide) ?_
        refine lv_goto (tgt := 37) hx hb dX0_liesInBox_33 (by decide) ?_
        exact W.zret (v := 1) hx hb hr rfl (fun t ht hW => ⟨⟨1, (), rfl, hF.symm, pz_hp ht hP⟩, hS.F ht⟩) hS.2.2 dX0_liesInBox_37 hlocks
      · have hF := hF.trans (if_neg c_5)
        refine lv_iload_n hx hb dX0_liesInBox_23 rfl (lv_at hl 1 rfl) ?_
        refine lv_aload_n hx hb dX0_liesInBox_24 rfl (lv_at hl 0 rfl) ?_
        refine lv_iload_n hx hb dX0_liesInBox_25 rfl (lv_at hl 2 rfl) ?_
        refine pz_Vi (As := [.int (x2)]) (rest := [.int (x1)]) ⟨hx, hb, hml, hown, hts⟩ (c_X0_endOf l D q k t cnt kinds firsts seconds heights tables replaced laid rules ps qs rs fs frules heads ends inforce usable summ x2) (cwV 1 hts gX0_liesInBox_X0_endOf rfl rfl rfl hdV_X0_endOf ⟨Nat.le_of_ble_eq_true rfl, Nat.le_of_ble_eq_true rfl⟩) pz_KX.call (hKX.go hS) (va_recv hK hP (ci := 0) (q0 := 3) rfl rfl) hP hS rfl hl.1 rfl (Nat.le_of_ble_eq_true rfl) dX0_liesInBox_26 ⟨Nat.zero_le _, Nat.zero_le _⟩ (fun r_6 u_6 H locs hF_6 hP hS => ?_)
        have hF := hF.trans (pz_be hF_6)
        refine lv_icmp_gt (tgt := 36) hx hb dX0_liesInBox_29 (by decide) (fun c_7 => ?_) (fun c_7 => ?_)
        · have hF := hF.trans (if_pos c_7)
          refine lv_iconst (v := 0) hx hb dX0_liesInBox_36 (by decide) ?_
          exact W.zret (v := 0) hx hb hr rfl (fun t ht hW => ⟨⟨0, (), rfl, hF.symm, pz_hp ht hP⟩, hS.F ht⟩) hS.2.2 dX0_liesInBox_37 hlocks
        · have hF := hF.trans (if_neg c_7)
          refine lv_iconst (v := 1) hx hb dX0_liesInBox_32 (by decide) ?_
          refine lv_goto (tgt := 37) hx hb dX0_liesInBox_33 (by decide) ?_
          exact W.zret (v := 1) hx hb hr rfl (fun t ht hW => ⟨⟨1, (), rfl, hF.symm, pz_hp ht hP⟩, hS.F ht⟩) hS.2.2 dX0_liesInBox_37 hlocks

-- == X0_isGround
def f_X0_isGround (frules : Nat → Int32) (ends : Nat → Int32) (x1 : Int32) (x2 : Int32) : Int32 := pz_bnd (f_X0_ruleOf frules x1) (fun z_1 => if z_1 = 0 then (1) else (pz_bnd (f_X0_liesInBox frules ends x2 x1) (fun z_3 => if z_3 = 0 then (0) else (1))))
theorem hdV_X0_liesInBox : yX0_liesInBox.cls = RX0 ∧ yX0_liesInBox.cls ≠ "java/lang/invoke/MethodHandle" ∧ yX0_liesInBox.cls ≠ "java/lang/invoke/VarHandle" ∧ (parseMethodDescriptor yX0_liesInBox.desc).map (fun d => d.parameters.length) = some 2 := by decide +kernel
set_option maxHeartbeats 4000000 in
set_option maxRecDepth 100000 in
theorem c_X0_isGround (l : Launch) (D : va_G) (q : Nat → Nat) (k : Nat → ClassId) (t : Nat → Nat) (cnt : Int32) (kinds : Nat → Int32) (firsts : Nat → Int32) (seconds : Nat → Int32) (heights : Nat → Int32) (tables : Nat → Int64) (replaced : Nat → Int32) (laid : Nat → Int32) (rules : Nat → Int32) (ps : Nat → Int32) (qs : Nat → Int32) (rs : Nat → Int32) (fs : Nat → Int32) (frules : Nat → Int32) (heads : Nat → Int32) (ends : Nat → Int32) (inforce : Nat → Int32) (usable : Nat → Int32) (summ : Nat → Int32) (x1 : Int32) (x2 : Int32)  : Met l yX0_isGround wsX0_isGround ({ frames := 3, cells := 0, slots := 0, locals := 63 }) (va_Pc [.ref (q 3), .int (x1), .int (x2)] (fun U => va_P D vwCl (pz_X q k cnt kinds firsts seconds heights tables replaced laid rules ps qs rs fs frules heads ends inforce usable summ) U.heap ∧ pz_KX D q k t U)) (va_Qi (fun r (_ : Unit) => r = (f_X0_isGround frules ends x1 x2)) (fun _ t => va_P D vwCl (pz_X q k cnt kinds firsts seconds heights tables replaced laid rules ps qs rs fs frules heads ends inforce usable summ) t.heap) (pz_A 22 q)) 0 0 (pz_A 22 q) := by
  refine Met.ofW (cc := cX0_isGround) (maxL := 3) (ret := (some .boolean)) (by decide) rfl ?_
  intro p e s m args below meth c s₁ B hml hv
  obtain ⟨rfl, hP, hKX⟩ := hv
  have hx := B.exec
  have hb := B.bytes
  have hr := B.returns
  have hts := atoms_spec (ws := wsX0_isGround) B.pre
  have hown : s.vm.findClass RX0 = some m.cls := findClass_of_methodNamed B.named
  have hlocks := B.notSynchronized
  have hC : pz_C p s m ([.ref (q 3), .int (x1), .int (x2)] : List Value).toArray meth c cX0_isGround wsX0_isGround RX0 3 (some .boolean) := ⟨hx, hb, hml, hown, hts, hr, hlocks⟩
  have hK := hKX.1
  have hS : va_S (pz_A 22 q) s.heap s.heap [] := va_S.rf
  have hl := lv_entry [.ref (q 3), .int (x1), .int (x2)] (n := 3) (Nat.le_of_ble_eq_true rfl)
  rw [lg_entry_eq]
  generalize (lg_sl [.ref (q 3), .int (x1), .int (x2)] ++ List.replicate (3 - (lg_sl [.ref (q 3), .int (x1), .int (x2)]).length) Slot.unset).toArray = ls at hl ⊢
  have hl : lv_has ls 3 [(0, .ref (q 3)), (1, .int (x1)), (2, .int (x2))] := hl
  generalize hF : f_X0_isGround frules ends x1 x2 = G
  replace hF := hF.symm
  unfold f_X0_isGround at hF
  refine lv_aload_n hx hb dX0_isGround_0 rfl (lv_at hl 0 rfl) ?_
  refine lv_iload_n hx hb dX0_isGround_1 rfl (lv_at hl 1 rfl) ?_
  refine pz_Vi (As := [.int (x1)]) (rest := []) ⟨hx, hb, hml, hown, hts⟩ (c_X0_ruleOf l D q k t cnt kinds firsts seconds heights tables replaced laid rules ps qs rs fs frules heads ends inforce usable summ x1) (cwV 1 hts gX0_isGround_X0_ruleOf rfl rfl rfl hdV_X0_ruleOf ⟨Nat.le_of_ble_eq_true rfl, Nat.le_of_ble_eq_true rfl⟩) pz_KX.call (hKX.go hS) (va_recv hK hP (ci := 0) (q0 := 3) rfl rfl) hP hS rfl hl.1 rfl (Nat.le_of_ble_eq_true rfl) dX0_isGround_2 ⟨Nat.zero_le _, Nat.zero_le _⟩ (fun r_1 u_1 H locs hF_1 hP hS => ?_)
  have hF := hF.trans (pz_be hF_1)
  refine lv_if_eq (tgt := 17) hx hb dX0_isGround_5 (by decide) (fun c_2 => ?_) (fun c_2 => ?_)
  · have hF := hF.trans (if_pos c_2)
    refine lv_iconst (v := 1) hx hb dX0_isGround_17 (by decide) ?_
    refine lv_goto (tgt := 22) hx hb dX0_isGround_18 (by decide) ?_
    exact W.zret (v := 1) hx hb hr rfl (fun t ht hW => ⟨⟨1, (), rfl, hF.symm, pz_hp ht hP⟩, hS.F ht⟩) hS.2.2 dX0_isGround_22 hlocks
  · have hF := hF.trans (if_neg c_2)
    refine lv_aload_n hx hb dX0_isGround_8 rfl (lv_at hl 0 rfl) ?_
    refine lv_iload_n hx hb dX0_isGround_9 rfl (lv_at hl 2 rfl) ?_
    refine lv_iload_n hx hb dX0_isGround_10 rfl (lv_at hl 1 rfl) ?_
    refine pz_Vi (As := [.int (x2), .int (x1)]) (rest := []) ⟨hx, hb, hml, hown, hts⟩ (c_X0_liesInBox l D q k t cnt kinds firsts seconds heights tables replaced laid rules ps qs rs fs frules heads ends inforce usable summ x2 x1) (cwV 2 hts gX0_isGround_X0_liesInBox rfl rfl rfl hdV_X0_liesInBox ⟨Nat.le_of_ble_eq_true rfl, Nat.le_of_ble_eq_true rfl⟩) pz_KX.call (hKX.go hS) (va_recv hK hP (ci := 0) (q0 := 3) rfl rfl) hP hS rfl hl.1 rfl (Nat.le_of_ble_eq_true rfl) dX0_isGround_11 ⟨Nat.zero_le _, Nat.zero_le _⟩ (fun r_3 u_3 H locs hF_3 hP hS => ?_)
    have hF := hF.trans (pz_be hF_3)
    refine lv_if_eq (tgt := 21) hx hb dX0_isGround_14 (by decide) (fun c_4 => ?_) (fun c_4 => ?_)
    · have hF := hF.trans (if_pos c_4)
      refine lv_iconst (v := 0) hx hb dX0_isGround_21 (by decide) ?_
      exact W.zret (v := 0) hx hb hr rfl (fun t ht hW => ⟨⟨0, (), rfl, hF.symm, pz_hp ht hP⟩, hS.F ht⟩) hS.2.2 dX0_isGround_22 hlocks
    · have hF := hF.trans (if_neg c_4)
      refine lv_iconst (v := 1) hx hb dX0_isGround_17 (by decide) ?_
      refine lv_goto (tgt := 22) hx hb dX0_isGround_18 (by decide) ?_
      exact W.zret (v := 1) hx hb hr rfl (fun t ht hW => ⟨⟨1, (), rfl, hF.symm, pz_hp ht hP⟩, hS.F ht⟩) hS.2.2 dX0_isGround_22 hlocks

-- == X0_groundOf
def F_X0_groundOf_16 : Nat → (Nat → Int32) → (Nat → Int32) → (Nat → Int32) → (Int32) → (Int32) → (Int32) → (Int32) → Int32
  | 0, frules, heads, ends, x1, x2, x3, x4 => 0
  | n + 1, frules, heads, ends, x1, x2, x3, x4 => if x1 < x4 then ((-1)) else (if 60 ≤ x4 then ((-1)) else (pz_bnd (f_X0_isGround frules ends x4 x1) (fun z_3 => if z_3 = 0 then (F_X0_groundOf_16 n frules heads ends x1 x2 x3 (x4 + 1)) else (if x3 = x2 then (x4) else (F_X0_groundOf_16 n frules heads ends x1 x2 (x3 + 1) (x4 + 1))))))
def f_X0_groundOf (frules : Nat → Int32) (heads : Nat → Int32) (ends : Nat → Int32) (x1 : Int32) (x2 : Int32) : Int32 := pz_bnd (f_X0_headOf heads x1) (fun z_6 => if z_6 = (-1) then ((-1)) else (F_X0_groundOf_16 61 frules heads ends x1 x2 0 0))
theorem hdV_X0_headOf : yX0_headOf.cls = RX0 ∧ yX0_headOf.cls ≠ "java/lang/invoke/MethodHandle" ∧ yX0_headOf.cls ≠ "java/lang/invoke/VarHandle" ∧ (parseMethodDescriptor yX0_headOf.desc).map (fun d => d.parameters.length) = some 1 := by decide +kernel
theorem hdV_X0_isGround : yX0_isGround.cls = RX0 ∧ yX0_isGround.cls ≠ "java/lang/invoke/MethodHandle" ∧ yX0_isGround.cls ≠ "java/lang/invoke/VarHandle" ∧ (parseMethodDescriptor yX0_isGround.desc).map (fun d => d.parameters.length) = some 2 := by decide +kernel
set_option maxHeartbeats 4000000 in
set_option maxRecDepth 100000 in
theorem k_X0_groundOf_16 {p : Program} {l : Launch} {e : Env} {s : State} {m : MethodId} {args : Array Value} {below : List Frame} {meth : Method} {c : Code} {D : va_G} {q : Nat → Nat} {k : Nat → ClassId} {t : Nat → Nat} (hC : pz_C p s m args meth c cX0_groundOf wsX0_groundOf RX0 5 (some .int)) (hKX : pz_KX D q k t s) (cnt : Int32) (kinds : Nat → Int32) (firsts : Nat → Int32) (seconds : Nat → Int32) (heights : Nat → Int32) (tables : Nat → Int64) (replaced : Nat → Int32) (laid : Nat → Int32) (rules : Nat → Int32) (ps : Nat → Int32) (qs : Nat → Int32) (rs : Nat → Int32) (fs : Nat → Int32) (frules : Nat → Int32) (heads : Nat → Int32) (ends : Nat → Int32) (inforce : Nat → Int32) (usable : Nat → Int32) (summ : Nat → Int32) {G : Int32} :
    ∀ (n : Nat) (x1 : Int32) (x2 : Int32) (x3 : Int32) (x4 : Int32) (h0 : 0 ≤ x4.toInt) (h1 : x4.toInt ≤ 60) (hn : 61 ≤ x4.toInt + n)  (H : Heap) (locs : List Loc) (ls : Array Slot), G = F_X0_groundOf_16 n frules heads ends x1 x2 x3 x4 → va_P D vwCl (pz_X q k cnt kinds firsts seconds heights tables replaced laid rules ps qs rs fs frules heads ends inforce usable summ) H → va_S (pz_A 22 q) s.heap H locs → lv_has ls 5 [(0, .ref (q 3)), (1, .int (x1)), (2, .int (x2)), (3, .int (x3)), (4, .int (x4))] → W p l e (headSpec wsX0_groundOf { frames := 4, cells := 0, slots := 0, locals := 85 }).room s m args below meth c H locs 0 0 (MQ below (va_Qi (fun r (_ : Unit) => r = G) (fun _ t => va_P D vwCl (pz_X q k cnt kinds firsts seconds heights tables replaced laid rules ps qs rs fs frules heads ends inforce usable summ) t.heap) (pz_A 22 q)) args s 0 0 (pz_A 22 q)) (F0 m 16 ls []) := by
  obtain ⟨hx, hb, hml, hown, hts, hr, hlocks⟩ := hC
  have hC : pz_C p s m args meth c cX0_groundOf wsX0_groundOf RX0 5 (some .int) := ⟨hx, hb, hml, hown, hts, hr, hlocks⟩
  have hK := hKX.1
  intro n
  induction n with
  | zero =>
    intro x1 x2 x3 x4 h0 h1 hn H locs ls hF hP hS hl
    exact absurd hn (by omega)
  | succ n ih =>
    intro x1 x2 x3 x4 h0 h1 hn H locs ls hF hP hS hl
    unfold F_X0_groundOf_16 at hF
    refine lv_iload hx hb dX0_groundOf_16 (lv_at hl 4 rfl) ?_
    refine lv_iload_n hx hb dX0_groundOf_18 rfl (lv_at hl 1 rfl) ?_
    refine lv_icmp_gt (tgt := 56) hx hb dX0_groundOf_19 (by decide) (fun c_1 => ?_) (fun c_1 => ?_)
    · have hF := hF.trans (if_pos c_1)
      refine lv_iconst (v := (-1)) hx hb dX0_groundOf_56 (by decide) ?_
      exact W.iret (v := (-1)) hx hb hr (fun t ht hW => ⟨⟨(-1), (), rfl, hF.symm, pz_hp ht hP⟩, hS.F ht⟩) hS.2.2 dX0_groundOf_57 hlocks
    · have hF := hF.trans (if_neg c_1)
      refine lv_iload hx hb dX0_groundOf_22 (lv_at hl 4 rfl) ?_
      refine lv_bipush (v := 60) hx hb dX0_groundOf_24 (by decide) ?_
      refine lv_icmp_ge (tgt := 56) hx hb dX0_groundOf_26 (by decide) (fun c_2 => ?_) (fun c_2 => ?_)
      · have hF := hF.trans (if_pos c_2)
        refine lv_iconst (v := (-1)) hx hb dX0_groundOf_56 (by decide) ?_
        exact W.iret (v := (-1)) hx hb hr (fun t ht hW => ⟨⟨(-1), (), rfl, hF.symm, pz_hp ht hP⟩, hS.F ht⟩) hS.2.2 dX0_groundOf_57 hlocks
      · have hF := hF.trans (if_neg c_2)
        refine lv_aload_n hx hb dX0_groundOf_29 rfl (lv_at hl 0 rfl) ?_
        refine lv_iload hx hb dX0_groundOf_30 (lv_at hl 4 rfl) ?_
        refine lv_iload_n hx hb dX0_groundOf_32 rfl (lv_at hl 1 rfl) ?_
        refine pz_Vi (As := [.int (x4), .int (x1)]) (rest := []) ⟨hx, hb, hml, hown, hts⟩ (c_X0_isGround l D q k t cnt kinds firsts seconds heights tables replaced laid rules ps qs rs fs frules heads ends inforce usable summ x4 x1) (cwV 2 hts gX0_groundOf_X0_isGround rfl rfl rfl hdV_X0_isGround ⟨Nat.le_of_ble_eq_true rfl, Nat.le_of_ble_eq_true rfl⟩) pz_KX.call (hKX.go hS) (va_recv hK hP (ci := 0) (q0 := 3) rfl rfl) hP hS rfl hl.1 rfl (Nat.le_of_ble_eq_true rfl) dX0_groundOf_33 ⟨Nat.zero_le _, Nat.zero_le _⟩ (fun r_3 u_3 H locs hF_3 hP hS => ?_)
        have hF := hF.trans (pz_be hF_3)
        refine lv_if_eq (tgt := 50) hx hb dX0_groundOf_36 (by decide) (fun c_4 => ?_) (fun c_4 => ?_)
        · have hF := hF.trans (if_pos c_4)
          refine lv_iinc (v := (x4 + 1)) (lv' := [(4, .int ((x4 + 1))), (0, .ref (q 3)), (1, .int (x1)), (2, .int (x2)), (3, .int (x3))]) hx hb dX0_groundOf_50 hl (k := 4) rfl rfl (by decide) rfl (fun ls hl => ?_)
          refine lv_goto (tgt := 16) hx hb dX0_groundOf_53 (by decide) ?_
          exact ih x1 x2 x3 (x4 + 1) (by have e := pz_up60 ‹¬ (60 : Int32) ≤ x4›; omega) (by have e := pz_up60 ‹¬ (60 : Int32) ≤ x4›; omega) (by have e := pz_up60 ‹¬ (60 : Int32) ≤ x4›; omega) _ _ _ hF hP hS (lv_sub hl [1, 2, 3, 4, 0] rfl)
        · have hF := hF.trans (if_neg c_4)
          refine lv_iload_n hx hb dX0_groundOf_39 rfl (lv_at hl 3 rfl) ?_
          refine lv_iload_n hx hb dX0_groundOf_40 rfl (lv_at hl 2 rfl) ?_
          refine lv_icmp_ne (tgt := 47) hx hb dX0_groundOf_41 (by decide) (fun c_5 => ?_) (fun c_5 => ?_)
          · have hF := hF.trans (if_neg c_5)
            refine lv_iinc (v := (x3 + 1)) (lv' := [(3, .int ((x3 + 1))), (0, .ref (q 3)), (1, .int (x1)), (2, .int (x2)), (4, .int (x4))]) hx hb dX0_groundOf_47 hl (k := 3) rfl rfl (by decide) rfl (fun ls hl => ?_)
            refine lv_iinc (v := (x4 + 1)) (lv' := [(4, .int ((x4 + 1))), (3, .int ((x3 + 1))), (0, .ref (q 3)), (1, .int (x1)), (2, .int (x2))]) hx hb dX0_groundOf_50 hl (k := 4) rfl rfl (by decide) rfl (fun ls hl => ?_)
            refine lv_goto (tgt := 16) hx hb dX0_groundOf_53 (by decide) ?_
            exact ih x1 x2 (x3 + 1) (x4 + 1) (by have e := pz_up60 ‹¬ (60 : Int32) ≤ x4›; omega) (by have e := pz_up60 ‹¬ (60 : Int32) ≤ x4›; omega) (by have e := pz_up60 ‹¬ (60 : Int32) ≤ x4›; omega) _ _ _ hF hP hS (lv_sub hl [2, 3, 4, 1, 0] rfl)
          · have hF := hF.trans (if_pos c_5)
            refine lv_iload hx hb dX0_groundOf_44 (lv_at hl 4 rfl) ?_
            exact W.iret (v := x4) hx hb hr (fun t ht hW => ⟨⟨x4, (), rfl, hF.symm, pz_hp ht hP⟩, hS.F ht⟩) hS.2.2 dX0_groundOf_46 hlocks
set_option maxHeartbeats 4000000 in
set_option maxRecDepth 100000 in
theorem c_X0_groundOf (l : Launch) (D : va_G) (q : Nat → Nat) (k : Nat → ClassId) (t : Nat → Nat) (cnt : Int32) (kinds : Nat → Int32) (firsts : Nat → Int32) (seconds : Nat → Int32) (heights : Nat → Int32) (tables : Nat → Int64) (replaced : Nat → Int32) (laid : Nat → Int32) (rules : Nat → Int32) (ps : Nat → Int32) (qs : Nat → Int32) (rs : Nat → Int32) (fs : Nat → Int32) (frules : Nat → Int32) (heads : Nat → Int32) (ends : Nat → Int32) (inforce : Nat → Int32) (usable : Nat → Int32) (summ : Nat → Int32) (x1 : Int32) (x2 : Int32)  : Met l yX0_groundOf wsX0_groundOf ({ frames := 4, cells := 0, slots := 0, locals := 85 }) (va_Pc [.ref (q 3), .int (x1), .int (x2)] (fun U => va_P D vwCl (pz_X q k cnt kinds firsts seconds heights tables replaced laid rules ps qs rs fs frules heads ends inforce usable summ) U.heap ∧ pz_KX D q k t U)) (va_Qi (fun r (_ : Unit) => r = (f_X0_groundOf frules heads ends x1 x2)) (fun _ t => va_P D vwCl (pz_X q k cnt kinds firsts seconds heights tables replaced laid rules ps qs rs fs frules heads ends inforce usable summ) t.heap) (pz_A 22 q)) 0 0 (pz_A 22 q) := by
  refine Met.ofW (cc := cX0_groundOf) (maxL := 5) (ret := (some .int)) (by decide) rfl ?_
  intro p e s m args below meth c s₁ B hml hv
  obtain ⟨rfl, hP, hKX⟩ := hv
  have hx := B.exec
  have hb := B.bytes
  have hr := B.returns
  have hts := atoms_spec (ws := wsX0_groundOf) B.pre
  have hown : s.vm.findClass RX0 = some m.cls := findClass_of_methodNamed B.named
  have hlocks := B.notSynchronized
  have hC : pz_C p s m ([.ref (q 3), .int (x1), .int (x2)] : List Value).toArray meth c cX0_groundOf wsX0_groundOf RX0 5 (some .int) := ⟨hx, hb, hml, hown, hts, hr, hlocks⟩
  have hK := hKX.1
  have hS : va_S (pz_A 22 q) s.heap s.heap [] := va_S.rf
  have hl := lv_entry [.ref (q 3), .int (x1), .int (x2)] (n := 5) (Nat.le_of_ble_eq_true rfl)
  rw [lg_entry_eq]
  generalize (lg_sl [.ref (q 3), .int (x1), .int (x2)] ++ List.replicate (5 - (lg_sl [.ref (q 3), .int (x1), .int (x2)]).length) Slot.unset).toArray = ls at hl ⊢
  have hl : lv_has ls 5 [(0, .ref (q 3)), (1, .int (x1)), (2, .int (x2))] := hl
  generalize hF : f_X0_groundOf frules heads ends x1 x2 = G
  replace hF := hF.symm
  unfold f_X0_groundOf at hF
  refine lv_aload_n hx hb dX0_groundOf_0 rfl (lv_at hl 0 rfl) ?_
  refine lv_iload_n hx hb dX0_groundOf_1 rfl (lv_at hl 1 rfl) ?_
  refine pz_Vi (As := [.int (x1)]) (rest := []) ⟨hx, hb, hml, hown, hts⟩ (c_X0_headOf l D q k t cnt kinds firsts seconds heights tables replaced laid rules ps qs rs fs frules heads ends inforce usable summ x1) (cwV 1 hts gX0_groundOf_X0_headOf rfl rfl rfl hdV_X0_headOf ⟨Nat.le_of_ble_eq_true rfl, Nat.le_of_ble_eq_true rfl⟩) pz_KX.call (hKX.go hS) (va_recv hK hP (ci := 0) (q0 := 3) rfl rfl) hP hS rfl hl.1 rfl (Nat.le_of_ble_eq_true rfl) dX0_groundOf_2 ⟨Nat.zero_le _, Nat.zero_le _⟩ (fun r_6 u_6 H locs hF_6 hP hS => ?_)
  have hF := hF.trans (pz_be hF_6)
  refine lv_iconst (v := (-1)) hx hb dX0_groundOf_5 (by decide) ?_
  refine lv_icmp_ne (tgt := 11) hx hb dX0_groundOf_6 (by decide) (fun c_7 => ?_) (fun c_7 => ?_)
  · have hF := hF.trans (if_neg c_7)
    refine lv_iconst (v := 0) hx hb dX0_groundOf_11 (by decide) ?_
    refine lv_istore_n (lv' := [(3, .int (0)), (0, .ref (q 3)), (1, .int (x1)), (2, .int (x2))]) hx hb dX0_groundOf_12 rfl hl (by decide) rfl (fun ls hl => ?_)
    refine lv_iconst (v := 0) hx hb dX0_groundOf_13 (by decide) ?_
    refine lv_istore (lv' := [(4, .int (0)), (3, .int (0)), (0, .ref (q 3)), (1, .int (x1)), (2, .int (x2))]) hx hb dX0_groundOf_14 hl (by decide) rfl (fun ls hl => ?_)
    exact k_X0_groundOf_16 hC hKX cnt kinds firsts seconds heights tables replaced laid rules ps qs rs fs frules heads ends inforce usable summ 61 x1 x2 0 0 (by decide) (by decide) (by decide) _ _ _ hF hP hS (lv_sub hl [2, 3, 4, 1, 0] rfl)
  · have hF := hF.trans (if_pos c_7)
    refine lv_iconst (v := (-1)) hx hb dX0_groundOf_9 (by decide) ?_
    exact W.iret (v := (-1)) hx hb hr (fun t ht hW => ⟨⟨(-1), (), rfl, hF.symm, pz_hp ht hP⟩, hS.F ht⟩) hS.2.2 dX0_groundOf_10 hlocks
end
