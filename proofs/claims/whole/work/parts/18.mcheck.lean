theorem pz_MI0 {formulas : Int32} {rt heads boxOf shutBy around : Nat → Int32} {x : Int32} (h : ∀ j, j < x.toInt.toNat → heads j = -1 ∧ rt j = -1) (hx : 60 ≤ x) : pz_MI 0 formulas rt heads boxOf shutBy around (-1) := by
  have a := pz_le hx
  have e : (60 : Int32).toInt = 60 := rfl
  have hh : ∀ j, j < 60 → heads j = -1 ∧ rt j = -1 := fun j hj => h j (by omega)
  refine ⟨fun j hj h1 => ?_, fun j hj h1 => ?_, fun j hj h1 => absurd (hh j hj).1 h1, fun j hj h1 => ?_, Or.inl rfl, fun j hj h1 => ?_⟩
  · rw [(hh j hj).2] at h1; exact absurd h1 (by decide)
  · rw [(hh j hj).2] at h1; exact absurd h1 (by decide)
  · rw [(hh j hj).2] at h1; exact absurd h1 (by decide)
  · rw [(hh j hj).2] at h1; exact absurd h1 (by decide)
theorem pz_add0 {x : Int32} : x + 0 = x := Int32.add_zero x
theorem pz_hz {rt heads : Nat → Int32} {x : Int32} (h0 : 0 ≤ x.toInt) (hx : ¬ (60 : Int32) ≤ x) (h : ∀ j, j < x.toInt.toNat → heads j = -1 ∧ rt j = -1) : ∀ j, j < (x + 1).toInt.toNat → upd heads x.toNatClampNeg (-1) j = -1 ∧ upd rt x.toNatClampNeg (-1) j = -1 := by
  intro j hj
  rw [(pz_up60 hx).1] at hj
  by_cases c : j = x.toNatClampNeg
  · rw [c, pk_us, pk_us]; exact ⟨rfl, rfl⟩
  · rw [pk_un c, pk_un c]
    have e := pz_tn h0
    exact h j (by omega)

-- == X4_check
def F_X4_check_58 : Nat → (Int32) → (Nat → Int32) → (Nat → Int32) → (Nat → Int32) → (Nat → Int32) → (Nat → Int32) → (Nat → Int32) → (Nat → Int32) → (Nat → Int32) → (Nat → Int32) → (Nat → Int32) → (Int32) → (Int32) → (Int32) → (Int32) → (Int32) → (Nat → Int32) → (Nat → Int32) → (Nat → Int32) → (Nat → Int32) → (Nat → Int32) → (Int32) → (Int32) → (Int32) → Int32 × (Int32) × (Nat → Int32) × (Nat → Int32) × (Nat → Int32) × (Nat → Int32) × (Int32) × (Int32) × (Int32) × (Int32) × (Int32) × (Nat → Int32) × (Nat → Int32) × (Nat → Int32) × (Nat → Int32) × (Nat → Int32) × (Int32)
  | 0, formulas, kind, left, right, height, laid, rules, ps, qs, rs, fs, checked, stopped, reason, made, opened, ruleThen, heads, boxOf, shutBy, around, inner, x1, x2 => (0, formulas, kind, left, right, height, checked, stopped, reason, made, opened, ruleThen, heads, boxOf, shutBy, around, inner)
  | n + 1, formulas, kind, left, right, height, laid, rules, ps, qs, rs, fs, checked, stopped, reason, made, opened, ruleThen, heads, boxOf, shutBy, around, inner, x1, x2 => if 60 ≤ stopped then ((stopped, formulas, kind, left, right, height, checked, stopped, reason, (formulas - x1), opened, ruleThen, heads, boxOf, shutBy, around, inner)) else (if (laid (stopped).toNatClampNeg) = 0 then ((stopped, formulas, kind, left, right, height, checked, stopped, reason, (formulas - x1), opened, ruleThen, heads, boxOf, shutBy, around, inner)) else (if reason = 0 then (pz_bnd (f_X4_look formulas kind left right height rules ps qs rs fs opened ruleThen heads boxOf shutBy around inner stopped) (fun z_5 => if z_5.1 = 0 then (F_X4_check_58 n z_5.2.1 z_5.2.2.1 z_5.2.2.2.1 z_5.2.2.2.2.1 z_5.2.2.2.2.2.1 laid rules ps qs rs fs checked (stopped + 1) z_5.1 made z_5.2.2.2.2.2.2.1 z_5.2.2.2.2.2.2.2.1 z_5.2.2.2.2.2.2.2.2.1 z_5.2.2.2.2.2.2.2.2.2.1 z_5.2.2.2.2.2.2.2.2.2.2.1 z_5.2.2.2.2.2.2.2.2.2.2.2.1 z_5.2.2.2.2.2.2.2.2.2.2.2.2 x1 x2) else (F_X4_check_58 n z_5.2.1 z_5.2.2.1 z_5.2.2.2.1 z_5.2.2.2.2.1 z_5.2.2.2.2.2.1 laid rules ps qs rs fs checked (stopped + 0) z_5.1 made z_5.2.2.2.2.2.2.1 z_5.2.2.2.2.2.2.2.1 z_5.2.2.2.2.2.2.2.2.1 z_5.2.2.2.2.2.2.2.2.2.1 z_5.2.2.2.2.2.2.2.2.2.2.1 z_5.2.2.2.2.2.2.2.2.2.2.2.1 z_5.2.2.2.2.2.2.2.2.2.2.2.2 x1 x2))) else ((stopped, formulas, kind, left, right, height, checked, stopped, reason, (formulas - x1), opened, ruleThen, heads, boxOf, shutBy, around, inner))))
def F_X4_check_12 : Nat → (Int32) → (Nat → Int32) → (Nat → Int32) → (Nat → Int32) → (Nat → Int32) → (Nat → Int32) → (Nat → Int32) → (Nat → Int32) → (Nat → Int32) → (Nat → Int32) → (Nat → Int32) → (Int32) → (Int32) → (Int32) → (Int32) → (Int32) → (Nat → Int32) → (Nat → Int32) → (Nat → Int32) → (Nat → Int32) → (Nat → Int32) → (Int32) → (Int32) → (Int32) → Int32 × (Int32) × (Nat → Int32) × (Nat → Int32) × (Nat → Int32) × (Nat → Int32) × (Int32) × (Int32) × (Int32) × (Int32) × (Int32) × (Nat → Int32) × (Nat → Int32) × (Nat → Int32) × (Nat → Int32) × (Nat → Int32) × (Int32)
  | 0, formulas, kind, left, right, height, laid, rules, ps, qs, rs, fs, checked, stopped, reason, made, opened, ruleThen, heads, boxOf, shutBy, around, inner, x1, x2 => (0, formulas, kind, left, right, height, checked, stopped, reason, made, opened, ruleThen, heads, boxOf, shutBy, around, inner)
  | n + 1, formulas, kind, left, right, height, laid, rules, ps, qs, rs, fs, checked, stopped, reason, made, opened, ruleThen, heads, boxOf, shutBy, around, inner, x1, x2 => if 60 ≤ x2 then (F_X4_check_58 63 formulas kind left right height laid rules ps qs rs fs checked 0 0 made 0 ruleThen heads boxOf shutBy around (-1) x1 x2) else (F_X4_check_12 n formulas kind left right height laid rules ps qs rs fs checked stopped reason made opened (upd ruleThen (x2).toNatClampNeg (-1)) (upd heads (x2).toNatClampNeg (-1)) boxOf shutBy around inner x1 (x2 + 1))
def f_X4_check (formulas : Int32) (kind : Nat → Int32) (left : Nat → Int32) (right : Nat → Int32) (height : Nat → Int32) (laid : Nat → Int32) (rules : Nat → Int32) (ps : Nat → Int32) (qs : Nat → Int32) (rs : Nat → Int32) (fs : Nat → Int32) (checked : Int32) (stopped : Int32) (reason : Int32) (made : Int32) (opened : Int32) (ruleThen : Nat → Int32) (heads : Nat → Int32) (boxOf : Nat → Int32) (shutBy : Nat → Int32) (around : Nat → Int32) (inner : Int32) : Int32 × (Int32) × (Nat → Int32) × (Nat → Int32) × (Nat → Int32) × (Nat → Int32) × (Int32) × (Int32) × (Int32) × (Int32) × (Int32) × (Nat → Int32) × (Nat → Int32) × (Nat → Int32) × (Nat → Int32) × (Nat → Int32) × (Int32) := F_X4_check_12 61 formulas kind left right height laid rules ps qs rs fs 1 stopped reason made opened ruleThen heads boxOf shutBy around inner formulas 0
theorem fl_X4_check_102 : Cond.fieldLink RX4 102 "BoxProofsModel" "inner" "I" ∈ wsX4_check := by decide +kernel
theorem fl_X4_check_122 : Cond.fieldLink RX4 122 "BoxProofsModel" "opened" "I" ∈ wsX4_check := by decide +kernel
theorem fl_X4_check_128 : Cond.fieldLink RX4 128 "BoxProofsModel" "checked" "Z" ∈ wsX4_check := by decide +kernel
theorem fl_X4_check_132 : Cond.fieldLink RX4 132 "BoxProofsModel" "reason" "I" ∈ wsX4_check := by decide +kernel
theorem fl_X4_check_135 : Cond.fieldLink RX4 135 "BoxProofsModel" "stopped" "I" ∈ wsX4_check := by decide +kernel
theorem fl_X4_check_141 : Cond.fieldLink RX4 141 "BoxProofsModel" "made" "I" ∈ wsX4_check := by decide +kernel
theorem fl_X4_check_22 : Cond.fieldLink RX4 22 "BoxProofsModel" "laid" "[Z" ∈ wsX4_check := by decide +kernel
theorem fl_X4_check_41 : Cond.fieldLink RX4 41 "BoxProofsModel" "ruleThen" "[I" ∈ wsX4_check := by decide +kernel
theorem fl_X4_check_44 : Cond.fieldLink RX4 44 "BoxProofsModel" "heads" "[I" ∈ wsX4_check := by decide +kernel
theorem fl_X4_check_65 : Cond.fieldLink RX4 65 "BoxProofsModel" "formulas" "I" ∈ wsX4_check := by decide +kernel
theorem hdV_X4_look : yX4_look.cls = RX4 ∧ yX4_look.cls ≠ "java/lang/invoke/MethodHandle" ∧ yX4_look.cls ≠ "java/lang/invoke/VarHandle" ∧ (parseMethodDescriptor yX4_look.desc).map (fun d => d.parameters.length) = some 1 := by decide +kernel
theorem in_X4_check_X4 : ∀ w ∈ wsX40, w ∈ wsX4_check := by decide +kernel
set_option maxHeartbeats 4000000 in
set_option maxRecDepth 100000 in
theorem k_X4_check_58 {p : Program} {l : Launch} {e : Env} {s : State} {m : MethodId} {args : Array Value} {below : List Frame} {meth : Method} {c : Code} {D : va_G} {q : Nat → Nat} {k : Nat → ClassId} (hC : pz_C p s m args meth c cX4_check wsX4_check RX4 3 (some .int)) (hKX : pz_KM D q k s) (laid : Nat → Int32) (rules : Nat → Int32) (ps : Nat → Int32) (qs : Nat → Int32) (rs : Nat → Int32) (fs : Nat → Int32) (truth : Nat → Int32) (turned : Nat → Int32) (pile : Nat → Int32) {G : Int32 × (Int32) × (Nat → Int32) × (Nat → Int32) × (Nat → Int32) × (Nat → Int32) × (Int32) × (Int32) × (Int32) × (Int32) × (Int32) × (Nat → Int32) × (Nat → Int32) × (Nat → Int32) × (Nat → Int32) × (Nat → Int32) × (Int32)} :
    ∀ (n : Nat) (formulas : Int32) (kind : Nat → Int32) (left : Nat → Int32) (right : Nat → Int32) (height : Nat → Int32) (checked : Int32) (stopped : Int32) (reason : Int32) (made : Int32) (opened : Int32) (ruleThen : Nat → Int32) (heads : Nat → Int32) (boxOf : Nat → Int32) (shutBy : Nat → Int32) (around : Nat → Int32) (inner : Int32) (x1 : Int32) (x2 : Int32) (h0 : 0 ≤ stopped.toInt) (h1 : stopped.toInt ≤ 60) (hn : (reason = 0 → 62 ≤ stopped.toInt + n) ∧ (¬ reason = 0 → 1 ≤ n)) (hmi : pz_MI stopped.toInt formulas ruleThen heads boxOf shutBy around inner) (hf : pz_F formulas kind left right) (H : Heap) (locs : List Loc) (ls : Array Slot), G = F_X4_check_58 n formulas kind left right height laid rules ps qs rs fs checked stopped reason made opened ruleThen heads boxOf shutBy around inner x1 x2 → va_P D vwCl (pz_M q k formulas kind left right height laid rules ps qs rs fs checked stopped reason made opened ruleThen heads boxOf shutBy around inner truth turned pile) H → va_S (pz_A 19 q) s.heap H locs → lv_has ls 3 [(0, .ref (q 0)), (1, .int (x1)), (2, .int (x2))] → W p l e (headSpec wsX4_check { frames := 5, cells := 0, slots := 0, locals := 115 }).room s m args below meth c H locs 0 0 (MQ below (va_Qi (fun r (u : (Int32) × (Nat → Int32) × (Nat → Int32) × (Nat → Int32) × (Nat → Int32) × (Int32) × (Int32) × (Int32) × (Int32) × (Int32) × (Nat → Int32) × (Nat → Int32) × (Nat → Int32) × (Nat → Int32) × (Nat → Int32) × (Int32)) => (r, u) = G) (fun u t => va_P D vwCl (pz_M q k u.1 u.2.1 u.2.2.1 u.2.2.2.1 u.2.2.2.2.1 laid rules ps qs rs fs u.2.2.2.2.2.1 u.2.2.2.2.2.2.1 u.2.2.2.2.2.2.2.1 u.2.2.2.2.2.2.2.2.1 u.2.2.2.2.2.2.2.2.2.1 u.2.2.2.2.2.2.2.2.2.2.1 u.2.2.2.2.2.2.2.2.2.2.2.1 u.2.2.2.2.2.2.2.2.2.2.2.2.1 u.2.2.2.2.2.2.2.2.2.2.2.2.2.1 u.2.2.2.2.2.2.2.2.2.2.2.2.2.2.1 u.2.2.2.2.2.2.2.2.2.2.2.2.2.2.2 truth turned pile) t.heap) (pz_A 19 q)) args s 0 0 (pz_A 19 q)) (F0 m 58 ls []) := by
  obtain ⟨hx, hb, hml, hown, hts, hr, hlocks⟩ := hC
  have hC : pz_C p s m args meth c cX4_check wsX4_check RX4 3 (some .int) := ⟨hx, hb, hml, hown, hts, hr, hlocks⟩
  have hK := hKX.1
  intro n
  induction n with
  | zero =>
    intro formulas kind left right height checked stopped reason made opened ruleThen heads boxOf shutBy around inner x1 x2 h0 h1 hn hmi hf H locs ls hF hP hS hl
    exact absurd hn (fun z => by by_cases c : reason = 0; have a := z.1 c; omega; have a := z.2 c; omega)
  | succ n ih =>
    intro formulas kind left right height checked stopped reason made opened ruleThen heads boxOf shutBy around inner x1 x2 h0 h1 hn hmi hf H locs ls hF hP hS hl
    unfold F_X4_check_58 at hF
    refine lv_aload_n hx hb dX4_check_58 rfl (lv_at hl 0 rfl) ?_
    refine va_get (D := D) (ci := 4) (v := .int (stopped)) (C := RX4) (T := TX4) (N := 25) hx hb hts in_X4_check_X4 hown hK hP 0 rfl rfl 12 (by decide) (hts _ fl_X4_check_135) (fun _ h9 => h9) rfl dX4_check_59 ?_
    refine lv_bipush (v := 60) hx hb dX4_check_62 (by decide) ?_
    refine lv_icmp_ge (tgt := 122) hx hb dX4_check_64 (by decide) (fun c_1 => ?_) (fun c_1 => ?_)
    · have hF := hF.trans (if_pos c_1)
      refine lv_aload_n hx hb dX4_check_122 rfl (lv_at hl 0 rfl) ?_
      refine lv_aload_n hx hb dX4_check_123 rfl (lv_at hl 0 rfl) ?_
      refine va_get (D := D) (ci := 4) (v := .int (formulas)) (C := RX4) (T := TX4) (N := 25) hx hb hts in_X4_check_X4 hown hK hP 0 rfl rfl 0 (by decide) (hts _ fl_X4_check_65) (fun _ h9 => h9) rfl dX4_check_124 ?_
      refine lv_iload_n hx hb dX4_check_127 rfl (lv_at hl 1 rfl) ?_
      refine lv_isub hx hb dX4_check_128 ?_
      refine va_put (D := D) (ci := 4) (v := .int ((formulas - x1))) (ty := .int) (C := RX4) (T := TX4) (N := 25) hx hb hts in_X4_check_X4 tyX4 tyX4_ok nmX4 hown hK hP (pz_D hKX.2 rfl) hS 0 rfl rfl 14 (by decide) (hts _ fl_X4_check_141) (fun _ h9 => h9) rfl (by decide +kernel) rfl rfl (Nat.le_of_ble_eq_true rfl) dX4_check_129 (fun H locs hP _ hS => ?_)
      have hP : va_P D vwCl (pz_M q k formulas kind left right height laid rules ps qs rs fs checked stopped reason (formulas - x1) opened ruleThen heads boxOf shutBy around inner truth turned pile) H := hP
      refine lv_aload_n hx hb dX4_check_132 rfl (lv_at hl 0 rfl) ?_
      refine va_get (D := D) (ci := 4) (v := .int (stopped)) (C := RX4) (T := TX4) (N := 25) hx hb hts in_X4_check_X4 hown hK hP 0 rfl rfl 12 (by decide) (hts _ fl_X4_check_135) (fun _ h9 => h9) rfl dX4_check_133 ?_
      exact W.iret (v := stopped) hx hb hr (fun t ht hW => ⟨⟨stopped, (formulas, kind, left, right, height, checked, stopped, reason, (formulas - x1), opened, ruleThen, heads, boxOf, shutBy, around, inner), rfl, hF.symm, pz_hp ht hP⟩, hS.F ht⟩) hS.2.2 dX4_check_136 hlocks
    · have hF := hF.trans (if_neg c_1)
      refine lv_aload_n hx hb dX4_check_67 rfl (lv_at hl 0 rfl) ?_
      refine va_get (D := D) (ci := 4) (v := .ref (q 5)) (C := RX4) (T := TX4) (N := 25) hx hb hts in_X4_check_X4 hown hK hP 0 rfl rfl 5 (by decide) (hts _ fl_X4_check_22) (fun _ h9 => h9) rfl dX4_check_68 ?_
      refine lv_aload_n hx hb dX4_check_71 rfl (lv_at hl 0 rfl) ?_
      refine va_get (D := D) (ci := 4) (v := .int (stopped)) (C := RX4) (T := TX4) (N := 25) hx hb hts in_X4_check_X4 hown hK hP 0 rfl rfl 12 (by decide) (hts _ fl_X4_check_135) (fun _ h9 => h9) rfl dX4_check_72 ?_
      have hi_2 : vp_in stopped 60 := pz_inI h0 (pz_n60 ‹_›)
      refine va_zald hx hb hK hP 5 2 rfl rfl hi_2 dX4_check_75 ?_
      refine lv_if_eq (tgt := 122) hx hb dX4_check_76 (by decide) (fun c_3 => ?_) (fun c_3 => ?_)
      · have hF := hF.trans (if_pos c_3)
        refine lv_aload_n hx hb dX4_check_122 rfl (lv_at hl 0 rfl) ?_
        refine lv_aload_n hx hb dX4_check_123 rfl (lv_at hl 0 rfl) ?_
        refine va_get (D := D) (ci := 4) (v := .int (formulas)) (C := RX4) (T := TX4) (N := 25) hx hb hts in_X4_check_X4 hown hK hP 0 rfl rfl 0 (by decide) (hts _ fl_X4_check_65) (fun _ h9 => h9) rfl dX4_check_124 ?_
        refine lv_iload_n hx hb dX4_check_127 rfl (lv_at hl 1 rfl) ?_
        refine lv_isub hx hb dX4_check_128 ?_
        refine va_put (D := D) (ci := 4) (v := .int ((formulas - x1))) (ty := .int) (C := RX4) (T := TX4) (N := 25) hx hb hts in_X4_check_X4 tyX4 tyX4_ok nmX4 hown hK hP (pz_D hKX.2 rfl) hS 0 rfl rfl 14 (by decide) (hts _ fl_X4_check_141) (fun _ h9 => h9) rfl (by decide +kernel) rfl rfl (Nat.le_of_ble_eq_true rfl) dX4_check_129 (fun H locs hP _ hS => ?_)
        have hP : va_P D vwCl (pz_M q k formulas kind left right height laid rules ps qs rs fs checked stopped reason (formulas - x1) opened ruleThen heads boxOf shutBy around inner truth turned pile) H := hP
        refine lv_aload_n hx hb dX4_check_132 rfl (lv_at hl 0 rfl) ?_
        refine va_get (D := D) (ci := 4) (v := .int (stopped)) (C := RX4) (T := TX4) (N := 25) hx hb hts in_X4_check_X4 hown hK hP 0 rfl rfl 12 (by decide) (hts _ fl_X4_check_135) (fun _ h9 => h9) rfl dX4_check_133 ?_
        exact W.iret (v := stopped) hx hb hr (fun t ht hW => ⟨⟨stopped, (formulas, kind, left, right, height, checked, stopped, reason, (formulas - x1), opened, ruleThen, heads, boxOf, shutBy, around, inner), rfl, hF.symm, pz_hp ht hP⟩, hS.F ht⟩) hS.2.2 dX4_check_136 hlocks
      · have hF := hF.trans (if_neg c_3)
        refine lv_aload_n hx hb dX4_check_79 rfl (lv_at hl 0 rfl) ?_
        refine va_get (D := D) (ci := 4) (v := .int (reason)) (C := RX4) (T := TX4) (N := 25) hx hb hts in_X4_check_X4 hown hK hP 0 rfl rfl 13 (by decide) (hts _ fl_X4_check_132) (fun _ h9 => h9) rfl dX4_check_80 ?_
        refine lv_if_ne (tgt := 122) hx hb dX4_check_83 (by decide) (fun c_4 => ?_) (fun c_4 => ?_)
        · have hF := hF.trans (if_neg c_4)
          refine lv_aload_n hx hb dX4_check_122 rfl (lv_at hl 0 rfl) ?_
          refine lv_aload_n hx hb dX4_check_123 rfl (lv_at hl 0 rfl) ?_
          refine va_get (D := D) (ci := 4) (v := .int (formulas)) (C := RX4) (T := TX4) (N := 25) hx hb hts in_X4_check_X4 hown hK hP 0 rfl rfl 0 (by decide) (hts _ fl_X4_check_65) (fun _ h9 => h9) rfl dX4_check_124 ?_
          refine lv_iload_n hx hb dX4_check_127 rfl (lv_at hl 1 rfl) ?_
          refine lv_isub hx hb dX4_check_128 ?_
          refine va_put (D := D) (ci := 4) (v := .int ((formulas - x1))) (ty := .int) (C := RX4) (T := TX4) (N := 25) hx hb hts in_X4_check_X4 tyX4 tyX4_ok nmX4 hown hK hP (pz_D hKX.2 rfl) hS 0 rfl rfl 14 (by decide) (hts _ fl_X4_check_141) (fun _ h9 => h9) rfl (by decide +kernel) rfl rfl (Nat.le_of_ble_eq_true rfl) dX4_check_129 (fun H locs hP _ hS => ?_)
          have hP : va_P D vwCl (pz_M q k formulas kind left right height laid rules ps qs rs fs checked stopped reason (formulas - x1) opened ruleThen heads boxOf shutBy around inner truth turned pile) H := hP
          refine lv_aload_n hx hb dX4_check_132 rfl (lv_at hl 0 rfl) ?_
          refine va_get (D := D) (ci := 4) (v := .int (stopped)) (C := RX4) (T := TX4) (N := 25) hx hb hts in_X4_check_X4 hown hK hP 0 rfl rfl 12 (by decide) (hts _ fl_X4_check_135) (fun _ h9 => h9) rfl dX4_check_133 ?_
          exact W.iret (v := stopped) hx hb hr (fun t ht hW => ⟨⟨stopped, (formulas, kind, left, right, height, checked, stopped, reason, (formulas - x1), opened, ruleThen, heads, boxOf, shutBy, around, inner), rfl, hF.symm, pz_hp ht hP⟩, hS.F ht⟩) hS.2.2 dX4_check_136 hlocks
        · have hF := hF.trans (if_pos c_4)
          refine lv_aload_n hx hb dX4_check_86 rfl (lv_at hl 0 rfl) ?_
          refine lv_aload_n hx hb dX4_check_87 rfl (lv_at hl 0 rfl) ?_
          refine lv_aload_n hx hb dX4_check_88 rfl (lv_at hl 0 rfl) ?_
          refine va_get (D := D) (ci := 4) (v := .int (stopped)) (C := RX4) (T := TX4) (N := 25) hx hb hts in_X4_check_X4 hown hK hP 0 rfl rfl 12 (by decide) (hts _ fl_X4_check_135) (fun _ h9 => h9) rfl dX4_check_89 ?_
          refine pz_Vi (As := [.int (stopped)]) (rest := [.ref (q 0)]) ⟨hx, hb, hml, hown, hts⟩ (c_X4_look l D q k formulas kind left right height laid rules ps qs rs fs checked stopped reason made opened ruleThen heads boxOf shutBy around inner truth turned pile stopped hf (pz_inI h0 (pz_n60 ‹¬ (60 : Int32) ≤ stopped›)) hmi) (cwV 1 hts gX4_check_X4_look rfl rfl rfl hdV_X4_look ⟨Nat.le_of_ble_eq_true rfl, Nat.le_of_ble_eq_true rfl⟩) pz_KM.call hKX.go (va_recv hK hP (ci := 4) (q0 := 0) rfl rfl) hP hS rfl hl.1 rfl (Nat.le_of_ble_eq_true rfl) dX4_check_92 ⟨Nat.zero_le _, Nat.zero_le _⟩ (fun r_5 u_5 H locs hF_5 hP hS => ?_)
          obtain ⟨w_5_formulas, w_5_kind, w_5_left, w_5_right, w_5_height, w_5_opened, w_5_ruleThen, w_5_heads, w_5_boxOf, w_5_shutBy, w_5_around, w_5_inner⟩ := u_5
          have hP : va_P D vwCl (pz_M q k w_5_formulas w_5_kind w_5_left w_5_right w_5_height laid rules ps qs rs fs checked stopped reason made w_5_opened w_5_ruleThen w_5_heads w_5_boxOf w_5_shutBy w_5_around w_5_inner truth turned pile) H := hP
          have hF := hF.trans (pz_be hF_5)
          try dsimp only at hF
          have hlk : pz_LK formulas stopped.toInt (r_5, w_5_formulas, w_5_kind, w_5_left, w_5_right, w_5_height, w_5_opened, w_5_ruleThen, w_5_heads, w_5_boxOf, w_5_shutBy, w_5_around, w_5_inner) := by rw [hF_5]; exact pz_look_ok hf (pz_inI h0 (pz_n60 ‹¬ (60 : Int32) ≤ stopped›)) hmi
          have hf : pz_F w_5_formulas w_5_kind w_5_left w_5_right := hlk.1
          refine va_put (D := D) (ci := 4) (v := .int (r_5)) (ty := .int) (C := RX4) (T := TX4) (N := 25) hx hb hts in_X4_check_X4 tyX4 tyX4_ok nmX4 hown hK hP (pz_D hKX.2 rfl) hS 0 rfl rfl 13 (by decide) (hts _ fl_X4_check_132) (fun _ h9 => h9) rfl (by decide +kernel) rfl rfl (Nat.le_of_ble_eq_true rfl) dX4_check_95 (fun H locs hP _ hS => ?_)
          have hP : va_P D vwCl (pz_M q k w_5_formulas w_5_kind w_5_left w_5_right w_5_height laid rules ps qs rs fs checked stopped r_5 made w_5_opened w_5_ruleThen w_5_heads w_5_boxOf w_5_shutBy w_5_around w_5_inner truth turned pile) H := hP
          refine lv_aload_n hx hb dX4_check_98 rfl (lv_at hl 0 rfl) ?_
          refine lv_dup hx hb dX4_check_99 rfl ?_
          refine va_get (D := D) (ci := 4) (v := .int (stopped)) (C := RX4) (T := TX4) (N := 25) hx hb hts in_X4_check_X4 hown hK hP 0 rfl rfl 12 (by decide) (hts _ fl_X4_check_135) (fun _ h9 => h9) rfl dX4_check_100 ?_
          refine lv_aload_n hx hb dX4_check_103 rfl (lv_at hl 0 rfl) ?_
          refine va_get (D := D) (ci := 4) (v := .int (r_5)) (C := RX4) (T := TX4) (N := 25) hx hb hts in_X4_check_X4 hown hK hP 0 rfl rfl 13 (by decide) (hts _ fl_X4_check_132) (fun _ h9 => h9) rfl dX4_check_104 ?_
          refine lv_if_ne (tgt := 114) hx hb dX4_check_107 (by decide) (fun c_6 => ?_) (fun c_6 => ?_)
          · have hF := hF.trans (if_neg c_6)
            refine lv_iconst (v := 0) hx hb dX4_check_114 (by decide) ?_
            refine lv_iadd hx hb dX4_check_115 ?_
            refine va_put (D := D) (ci := 4) (v := .int ((stopped + 0))) (ty := .int) (C := RX4) (T := TX4) (N := 25) hx hb hts in_X4_check_X4 tyX4 tyX4_ok nmX4 hown hK hP (pz_D hKX.2 rfl) hS 0 rfl rfl 12 (by decide) (hts _ fl_X4_check_135) (fun _ h9 => h9) rfl (by decide +kernel) rfl rfl (Nat.le_of_ble_eq_true rfl) dX4_check_116 (fun H locs hP _ hS => ?_)
            have hP : va_P D vwCl (pz_M q k w_5_formulas w_5_kind w_5_left w_5_right w_5_height laid rules ps qs rs fs checked (stopped + 0) r_5 made w_5_opened w_5_ruleThen w_5_heads w_5_boxOf w_5_shutBy w_5_around w_5_inner truth turned pile) H := hP
            refine lv_goto (tgt := 58) hx hb dX4_check_119 (by decide) ?_
            exact ih w_5_formulas w_5_kind w_5_left w_5_right w_5_height checked (stopped + 0) r_5 made w_5_opened w_5_ruleThen w_5_heads w_5_boxOf w_5_shutBy w_5_around w_5_inner x1 x2 (by first | (rw [pz_add0]; exact h0) | (have e := pz_up60 ‹¬ (60 : Int32) ≤ stopped›; omega)) (by first | (rw [pz_add0]; exact h1) | (have e := pz_up60 ‹¬ (60 : Int32) ≤ stopped›; omega)) (by first | exact ⟨fun _ => by have e := pz_up60 ‹¬ (60 : Int32) ≤ stopped›; have a := hn.1 ‹reason = 0›; omega, fun z => absurd ‹_› z⟩ | exact ⟨fun z => absurd z ‹_›, fun _ => by have a := hn.1 ‹reason = 0›; omega⟩) (by first | (rw [(pz_up60 ‹¬ (60 : Int32) ≤ stopped›).1]; exact hlk.2.2.1 ‹_›) | (rw [pz_add0]; exact hlk.2.2.2 ‹_›)) hf _ _ _ hF hP hS (lv_sub hl [0, 1, 2] rfl)
          · have hF := hF.trans (if_pos c_6)
            refine lv_iconst (v := 1) hx hb dX4_check_110 (by decide) ?_
            refine lv_goto (tgt := 115) hx hb dX4_check_111 (by decide) ?_
            refine lv_iadd hx hb dX4_check_115 ?_
            refine va_put (D := D) (ci := 4) (v := .int ((stopped + 1))) (ty := .int) (C := RX4) (T := TX4) (N := 25) hx hb hts in_X4_check_X4 tyX4 tyX4_ok nmX4 hown hK hP (pz_D hKX.2 rfl) hS 0 rfl rfl 12 (by decide) (hts _ fl_X4_check_135) (fun _ h9 => h9) rfl (by decide +kernel) rfl rfl (Nat.le_of_ble_eq_true rfl) dX4_check_116 (fun H locs hP _ hS => ?_)
            have hP : va_P D vwCl (pz_M q k w_5_formulas w_5_kind w_5_left w_5_right w_5_height laid rules ps qs rs fs checked (stopped + 1) r_5 made w_5_opened w_5_ruleThen w_5_heads w_5_boxOf w_5_shutBy w_5_around w_5_inner truth turned pile) H := hP
            refine lv_goto (tgt := 58) hx hb dX4_check_119 (by decide) ?_
            exact ih w_5_formulas w_5_kind w_5_left w_5_right w_5_height checked (stopped + 1) r_5 made w_5_opened w_5_ruleThen w_5_heads w_5_boxOf w_5_shutBy w_5_around w_5_inner x1 x2 (by first | (rw [pz_add0]; exact h0) | (have e := pz_up60 ‹¬ (60 : Int32) ≤ stopped›; omega)) (by first | (rw [pz_add0]; exact h1) | (have e := pz_up60 ‹¬ (60 : Int32) ≤ stopped›; omega)) (by first | exact ⟨fun _ => by have e := pz_up60 ‹¬ (60 : Int32) ≤ stopped›; have a := hn.1 ‹reason = 0›; omega, fun z => absurd ‹_› z⟩ | exact ⟨fun z => absurd z ‹_›, fun _ => by have a := hn.1 ‹reason = 0›; omega⟩) (by first | (rw [(pz_up60 ‹¬ (60 : Int32) ≤ stopped›).1]; exact hlk.2.2.1 ‹_›) | (rw [pz_add0]; exact hlk.2.2.2 ‹_›)) hf _ _ _ hF hP hS (lv_sub hl [0, 1, 2] rfl)
set_option maxHeartbeats 4000000 in
set_option maxRecDepth 100000 in
theorem k_X4_check_12 {p : Program} {l : Launch} {e : Env} {s : State} {m : MethodId} {args : Array Value} {below : List Frame} {meth : Method} {c : Code} {D : va_G} {q : Nat → Nat} {k : Nat → ClassId} (hC : pz_C p s m args meth c cX4_check wsX4_check RX4 3 (some .int)) (hKX : pz_KM D q k s) (laid : Nat → Int32) (rules : Nat → Int32) (ps : Nat → Int32) (qs : Nat → Int32) (rs : Nat → Int32) (fs : Nat → Int32) (truth : Nat → Int32) (turned : Nat → Int32) (pile : Nat → Int32) {G : Int32 × (Int32) × (Nat → Int32) × (Nat → Int32) × (Nat → Int32) × (Nat → Int32) × (Int32) × (Int32) × (Int32) × (Int32) × (Int32) × (Nat → Int32) × (Nat → Int32) × (Nat → Int32) × (Nat → Int32) × (Nat → Int32) × (Int32)} :
    ∀ (n : Nat) (formulas : Int32) (kind : Nat → Int32) (left : Nat → Int32) (right : Nat → Int32) (height : Nat → Int32) (checked : Int32) (stopped : Int32) (reason : Int32) (made : Int32) (opened : Int32) (ruleThen : Nat → Int32) (heads : Nat → Int32) (boxOf : Nat → Int32) (shutBy : Nat → Int32) (around : Nat → Int32) (inner : Int32) (x1 : Int32) (x2 : Int32) (hz : ∀ j, j < x2.toInt.toNat → heads j = -1 ∧ ruleThen j = -1) (h0 : 0 ≤ x2.toInt) (h1 : x2.toInt ≤ 60) (hn : 61 ≤ x2.toInt + n) (hf : pz_F formulas kind left right) (H : Heap) (locs : List Loc) (ls : Array Slot), G = F_X4_check_12 n formulas kind left right height laid rules ps qs rs fs checked stopped reason made opened ruleThen heads boxOf shutBy around inner x1 x2 → va_P D vwCl (pz_M q k formulas kind left right height laid rules ps qs rs fs checked stopped reason made opened ruleThen heads boxOf shutBy around inner truth turned pile) H → va_S (pz_A 19 q) s.heap H locs → lv_has ls 3 [(0, .ref (q 0)), (1, .int (x1)), (2, .int (x2))] → W p l e (headSpec wsX4_check { frames := 5, cells := 0, slots := 0, locals := 115 }).room s m args below meth c H locs 0 0 (MQ below (va_Qi (fun r (u : (Int32) × (Nat → Int32) × (Nat → Int32) × (Nat → Int32) × (Nat → Int32) × (Int32) × (Int32) × (Int32) × (Int32) × (Int32) × (Nat → Int32) × (Nat → Int32) × (Nat → Int32) × (Nat → Int32) × (Nat → Int32) × (Int32)) => (r, u) = G) (fun u t => va_P D vwCl (pz_M q k u.1 u.2.1 u.2.2.1 u.2.2.2.1 u.2.2.2.2.1 laid rules ps qs rs fs u.2.2.2.2.2.1 u.2.2.2.2.2.2.1 u.2.2.2.2.2.2.2.1 u.2.2.2.2.2.2.2.2.1 u.2.2.2.2.2.2.2.2.2.1 u.2.2.2.2.2.2.2.2.2.2.1 u.2.2.2.2.2.2.2.2.2.2.2.1 u.2.2.2.2.2.2.2.2.2.2.2.2.1 u.2.2.2.2.2.2.2.2.2.2.2.2.2.1 u.2.2.2.2.2.2.2.2.2.2.2.2.2.2.1 u.2.2.2.2.2.2.2.2.2.2.2.2.2.2.2 truth turned pile) t.heap) (pz_A 19 q)) args s 0 0 (pz_A 19 q)) (F0 m 12 ls []) := by
  obtain ⟨hx, hb, hml, hown, hts, hr, hlocks⟩ := hC
  have hC : pz_C p s m args meth c cX4_check wsX4_check RX4 3 (some .int) := ⟨hx, hb, hml, hown, hts, hr, hlocks⟩
  have hK := hKX.1
  intro n
  induction n with
  | zero =>
    intro formulas kind left right height checked stopped reason made opened ruleThen heads boxOf shutBy around inner x1 x2 hz h0 h1 hn hf H locs ls hF hP hS hl
    exact absurd hn (by omega)
  | succ n ih =>
    intro formulas kind left right height checked stopped reason made opened ruleThen heads boxOf shutBy around inner x1 x2 hz h0 h1 hn hf H locs ls hF hP hS hl
    unfold F_X4_check_12 at hF
    refine lv_iload_n hx hb dX4_check_12 rfl (lv_at hl 2 rfl) ?_
    refine lv_bipush (v := 60) hx hb dX4_check_13 (by decide) ?_
    refine lv_icmp_ge (tgt := 38) hx hb dX4_check_15 (by decide) (fun c_7 => ?_) (fun c_7 => ?_)
    · have hF := hF.trans (if_pos c_7)
      refine lv_aload_n hx hb dX4_check_38 rfl (lv_at hl 0 rfl) ?_
      refine lv_iconst (v := (-1)) hx hb dX4_check_39 (by decide) ?_
      refine va_put (D := D) (ci := 4) (v := .int ((-1))) (ty := .int) (C := RX4) (T := TX4) (N := 25) hx hb hts in_X4_check_X4 tyX4 tyX4_ok nmX4 hown hK hP (pz_D hKX.2 rfl) hS 0 rfl rfl 21 (by decide) (hts _ fl_X4_check_102) (fun _ h9 => h9) rfl (by decide +kernel) rfl rfl (Nat.le_of_ble_eq_true rfl) dX4_check_40 (fun H locs hP _ hS => ?_)
      have hP : va_P D vwCl (pz_M q k formulas kind left right height laid rules ps qs rs fs checked stopped reason made opened ruleThen heads boxOf shutBy around (-1) truth turned pile) H := hP
      refine lv_aload_n hx hb dX4_check_43 rfl (lv_at hl 0 rfl) ?_
      refine lv_iconst (v := 0) hx hb dX4_check_44 (by decide) ?_
      refine va_put (D := D) (ci := 4) (v := .int (0)) (ty := .int) (C := RX4) (T := TX4) (N := 25) hx hb hts in_X4_check_X4 tyX4 tyX4_ok nmX4 hown hK hP (pz_D hKX.2 rfl) hS 0 rfl rfl 15 (by decide) (hts _ fl_X4_check_122) (fun _ h9 => h9) rfl (by decide +kernel) rfl rfl (Nat.le_of_ble_eq_true rfl) dX4_check_45 (fun H locs hP _ hS => ?_)
      have hP : va_P D vwCl (pz_M q k formulas kind left right height laid rules ps qs rs fs checked stopped reason made 0 ruleThen heads boxOf shutBy around (-1) truth turned pile) H := hP
      refine lv_aload_n hx hb dX4_check_48 rfl (lv_at hl 0 rfl) ?_
      refine lv_iconst (v := 0) hx hb dX4_check_49 (by decide) ?_
      refine va_put (D := D) (ci := 4) (v := .int (0)) (ty := .int) (C := RX4) (T := TX4) (N := 25) hx hb hts in_X4_check_X4 tyX4 tyX4_ok nmX4 hown hK hP (pz_D hKX.2 rfl) hS 0 rfl rfl 13 (by decide) (hts _ fl_X4_check_132) (fun _ h9 => h9) rfl (by decide +kernel) rfl rfl (Nat.le_of_ble_eq_true rfl) dX4_check_50 (fun H locs hP _ hS => ?_)
      have hP : va_P D vwCl (pz_M q k formulas kind left right height laid rules ps qs rs fs checked stopped 0 made 0 ruleThen heads boxOf shutBy around (-1) truth turned pile) H := hP
      refine lv_aload_n hx hb dX4_check_53 rfl (lv_at hl 0 rfl) ?_
      refine lv_iconst (v := 0) hx hb dX4_check_54 (by decide) ?_
      refine va_put (D := D) (ci := 4) (v := .int (0)) (ty := .int) (C := RX4) (T := TX4) (N := 25) hx hb hts in_X4_check_X4 tyX4 tyX4_ok nmX4 hown hK hP (pz_D hKX.2 rfl) hS 0 rfl rfl 12 (by decide) (hts _ fl_X4_check_135) (fun _ h9 => h9) rfl (by decide +kernel) rfl rfl (Nat.le_of_ble_eq_true rfl) dX4_check_55 (fun H locs hP _ hS => ?_)
      have hP : va_P D vwCl (pz_M q k formulas kind left right height laid rules ps qs rs fs checked 0 0 made 0 ruleThen heads boxOf shutBy around (-1) truth turned pile) H := hP
      exact k_X4_check_58 hC hKX laid rules ps qs rs fs truth turned pile 63 formulas kind left right height checked 0 0 made 0 ruleThen heads boxOf shutBy around (-1) x1 x2 (by decide) (by decide) ⟨fun _ => by decide, fun _ => by decide⟩ (pz_MI0 hz ‹_›) hf _ _ _ hF hP hS (lv_sub hl [0, 1, 2] rfl)
    · have hF := hF.trans (if_neg c_7)
      refine lv_aload_n hx hb dX4_check_18 rfl (lv_at hl 0 rfl) ?_
      refine va_get (D := D) (ci := 4) (v := .ref (q 12)) (C := RX4) (T := TX4) (N := 25) hx hb hts in_X4_check_X4 hown hK hP 0 rfl rfl 17 (by decide) (hts _ fl_X4_check_44) (fun _ h9 => h9) rfl dX4_check_19 ?_
      refine lv_iload_n hx hb dX4_check_22 rfl (lv_at hl 2 rfl) ?_
      refine lv_iconst (v := (-1)) hx hb dX4_check_23 (by decide) ?_
      have hi_8 : vp_in x2 60 := pz_inI h0 (pz_n60 ‹_›)
      refine va_iast hx hb hK hP (pz_D hKX.2 rfl) hS 12 0 rfl rfl hi_8 dX4_check_24 (fun H locs hP _ hS => ?_)
      have hP : va_P D vwCl (pz_M q k formulas kind left right height laid rules ps qs rs fs checked stopped reason made opened ruleThen (upd heads (x2).toNatClampNeg (-1)) boxOf shutBy around inner truth turned pile) H := hP
      refine lv_aload_n hx hb dX4_check_25 rfl (lv_at hl 0 rfl) ?_
      refine va_get (D := D) (ci := 4) (v := .ref (q 11)) (C := RX4) (T := TX4) (N := 25) hx hb hts in_X4_check_X4 hown hK hP 0 rfl rfl 16 (by decide) (hts _ fl_X4_check_41) (fun _ h9 => h9) rfl dX4_check_26 ?_
      refine lv_iload_n hx hb dX4_check_29 rfl (lv_at hl 2 rfl) ?_
      refine lv_iconst (v := (-1)) hx hb dX4_check_30 (by decide) ?_
      have hi_9 : vp_in x2 60 := pz_inI h0 (pz_n60 ‹_›)
      refine va_iast hx hb hK hP (pz_D hKX.2 rfl) hS 11 0 rfl rfl hi_9 dX4_check_31 (fun H locs hP _ hS => ?_)
      have hP : va_P D vwCl (pz_M q k formulas kind left right height laid rules ps qs rs fs checked stopped reason made opened (upd ruleThen (x2).toNatClampNeg (-1)) (upd heads (x2).toNatClampNeg (-1)) boxOf shutBy around inner truth turned pile) H := hP
      refine lv_iinc (v := (x2 + 1)) (lv' := [(2, .int ((x2 + 1))), (0, .ref (q 0)), (1, .int (x1))]) hx hb dX4_check_32 hl (k := 2) rfl rfl (by decide) rfl (fun ls hl => ?_)
      refine lv_goto (tgt := 12) hx hb dX4_check_35 (by decide) ?_
      exact ih formulas kind left right height checked stopped reason made opened (upd ruleThen (x2).toNatClampNeg (-1)) (upd heads (x2).toNatClampNeg (-1)) boxOf shutBy around inner x1 (x2 + 1) (pz_hz h0 ‹_› hz) (by have e := pz_up60 ‹¬ (60 : Int32) ≤ x2›; omega) (by have e := pz_up60 ‹¬ (60 : Int32) ≤ x2›; omega) (by have e := pz_up60 ‹¬ (60 : Int32) ≤ x2›; omega) hf _ _ _ hF hP hS (lv_sub hl [1, 2, 0] rfl)
set_option maxHeartbeats 4000000 in
set_option maxRecDepth 100000 in
theorem c_X4_check (l : Launch) (D : va_G) (q : Nat → Nat) (k : Nat → ClassId) (formulas : Int32) (kind : Nat → Int32) (left : Nat → Int32) (right : Nat → Int32) (height : Nat → Int32) (laid : Nat → Int32) (rules : Nat → Int32) (ps : Nat → Int32) (qs : Nat → Int32) (rs : Nat → Int32) (fs : Nat → Int32) (checked : Int32) (stopped : Int32) (reason : Int32) (made : Int32) (opened : Int32) (ruleThen : Nat → Int32) (heads : Nat → Int32) (boxOf : Nat → Int32) (shutBy : Nat → Int32) (around : Nat → Int32) (inner : Int32) (truth : Nat → Int32) (turned : Nat → Int32) (pile : Nat → Int32)  (hf : pz_F formulas kind left right) : Met l yX4_check wsX4_check ({ frames := 5, cells := 0, slots := 0, locals := 115 }) (va_Pc [.ref (q 0)] (fun U => va_P D vwCl (pz_M q k formulas kind left right height laid rules ps qs rs fs checked stopped reason made opened ruleThen heads boxOf shutBy around inner truth turned pile) U.heap ∧ pz_KM D q k U)) (va_Qi (fun r (u : (Int32) × (Nat → Int32) × (Nat → Int32) × (Nat → Int32) × (Nat → Int32) × (Int32) × (Int32) × (Int32) × (Int32) × (Int32) × (Nat → Int32) × (Nat → Int32) × (Nat → Int32) × (Nat → Int32) × (Nat → Int32) × (Int32)) => (r, u) = (f_X4_check formulas kind left right height laid rules ps qs rs fs checked stopped reason made opened ruleThen heads boxOf shutBy around inner)) (fun u t => va_P D vwCl (pz_M q k u.1 u.2.1 u.2.2.1 u.2.2.2.1 u.2.2.2.2.1 laid rules ps qs rs fs u.2.2.2.2.2.1 u.2.2.2.2.2.2.1 u.2.2.2.2.2.2.2.1 u.2.2.2.2.2.2.2.2.1 u.2.2.2.2.2.2.2.2.2.1 u.2.2.2.2.2.2.2.2.2.2.1 u.2.2.2.2.2.2.2.2.2.2.2.1 u.2.2.2.2.2.2.2.2.2.2.2.2.1 u.2.2.2.2.2.2.2.2.2.2.2.2.2.1 u.2.2.2.2.2.2.2.2.2.2.2.2.2.2.1 u.2.2.2.2.2.2.2.2.2.2.2.2.2.2.2 truth turned pile) t.heap) (pz_A 19 q)) 0 0 (pz_A 19 q) := by
  refine Met.ofW (cc := cX4_check) (maxL := 3) (ret := (some .int)) (by decide) rfl ?_
  intro p e s m args below meth c s₁ B hml hv
  obtain ⟨rfl, hP, hKX⟩ := hv
  have hx := B.exec
  have hb := B.bytes
  have hr := B.returns
  have hts := atoms_spec (ws := wsX4_check) B.pre
  have hown : s.vm.findClass RX4 = some m.cls := findClass_of_methodNamed B.named
  have hlocks := B.notSynchronized
  have hC : pz_C p s m ([.ref (q 0)] : List Value).toArray meth c cX4_check wsX4_check RX4 3 (some .int) := ⟨hx, hb, hml, hown, hts, hr, hlocks⟩
  have hK := hKX.1
  have hS : va_S (pz_A 19 q) s.heap s.heap [] := va_S.rf
  have hl := lv_entry [.ref (q 0)] (n := 3) (Nat.le_of_ble_eq_true rfl)
  rw [lg_entry_eq]
  generalize (lg_sl [.ref (q 0)] ++ List.replicate (3 - (lg_sl [.ref (q 0)]).length) Slot.unset).toArray = ls at hl ⊢
  have hl : lv_has ls 3 [(0, .ref (q 0))] := hl
  generalize hF : f_X4_check formulas kind left right height laid rules ps qs rs fs checked stopped reason made opened ruleThen heads boxOf shutBy around inner = G
  replace hF := hF.symm
  unfold f_X4_check at hF
  refine lv_aload_n hx hb dX4_check_0 rfl (lv_at hl 0 rfl) ?_
  refine lv_iconst (v := 1) hx hb dX4_check_1 (by decide) ?_
  refine va_put (D := D) (ci := 4) (v := .int (1)) (ty := .boolean) (C := RX4) (T := TX4) (N := 25) hx hb hts in_X4_check_X4 tyX4 tyX4_ok nmX4 hown hK hP (pz_D hKX.2 rfl) hS 0 rfl rfl 11 (by decide) (hts _ fl_X4_check_128) (fun _ h9 => h9) rfl (by decide +kernel) rfl rfl (Nat.le_of_ble_eq_true rfl) dX4_check_2 (fun H locs hP _ hS => ?_)
  have hP : va_P D vwCl (pz_M q k formulas kind left right height laid rules ps qs rs fs 1 stopped reason made opened ruleThen heads boxOf shutBy around inner truth turned pile) H := hP
  refine lv_aload_n hx hb dX4_check_5 rfl (lv_at hl 0 rfl) ?_
  refine va_get (D := D) (ci := 4) (v := .int (formulas)) (C := RX4) (T := TX4) (N := 25) hx hb hts in_X4_check_X4 hown hK hP 0 rfl rfl 0 (by decide) (hts _ fl_X4_check_65) (fun _ h9 => h9) rfl dX4_check_6 ?_
  refine lv_istore_n (lv' := [(1, .int (formulas)), (0, .ref (q 0))]) hx hb dX4_check_9 rfl hl (by decide) rfl (fun ls hl => ?_)
  refine lv_iconst (v := 0) hx hb dX4_check_10 (by decide) ?_
  refine lv_istore_n (lv' := [(2, .int (0)), (1, .int (formulas)), (0, .ref (q 0))]) hx hb dX4_check_11 rfl hl (by decide) rfl (fun ls hl => ?_)
  exact k_X4_check_12 hC hKX laid rules ps qs rs fs truth turned pile 61 formulas kind left right height 1 stopped reason made opened ruleThen heads boxOf shutBy around inner formulas 0 (fun j hj => absurd hj (Nat.not_lt_zero j)) (by decide) (by decide) (by decide) hf _ _ _ hF hP hS (lv_sub hl [2, 1, 0] rfl)

theorem pz_hong {ruleThen boxOf around : Nat → Int32} {r x1 x2 : Int32} (h : r = f_X4_hangsOn ruleThen boxOf around x1 x2) (h0 : ¬ r = 0) : ruleThen x2.toNatClampNeg = 0 ∨ ruleThen x2.toNatClampNeg = 1 := by
  rw [h] at h0; unfold f_X4_hangsOn at h0
  by_cases c0 : ruleThen x2.toNatClampNeg = 0
  · exact Or.inl c0
  · rw [if_neg c0] at h0
    by_cases c1 : ruleThen x2.toNatClampNeg = 1
    · exact Or.inr c1
    · rw [if_neg c1] at h0; exact absurd rfl h0

-- == X4_sound
def F_X4_sound_43 : Nat → (Int32 → (Int32 × (Nat → Int32))) → (Int32) → (Nat → Int32) → (Nat → Int32) → (Nat → Int32) → (Nat → Int32) → (Nat → Int32) → (Nat → Int32) → (Nat → Int32) → (Nat → Int32) → (Int32) → (Int32) → (Int32) → (Int32) → (Int32) → Int32 × (Nat → Int32)
  | 0, K, formulas, kind, left, right, ruleThen, heads, boxOf, around, truth, x1, x2, x3, x4, x5 => (0, truth)
  | n + 1, K, formulas, kind, left, right, ruleThen, heads, boxOf, around, truth, x1, x2, x3, x4, x5 => if x1 < x5 then (K x4) else (if x4 = 0 then (F_X4_sound_43 n K formulas kind left right ruleThen heads boxOf around truth x1 x2 x3 0 (x5 + 1)) else (pz_bnd (f_X4_hangsOn ruleThen boxOf around x1 x5) (fun z_3 => if z_3 = 0 then (F_X4_sound_43 n K formulas kind left right ruleThen heads boxOf around truth x1 x2 x3 1 (x5 + 1)) else (if (truth ((heads (x5).toNatClampNeg)).toNatClampNeg) = 0 then (F_X4_sound_43 n K formulas kind left right ruleThen heads boxOf around truth x1 x2 x3 0 (x5 + 1)) else (F_X4_sound_43 n K formulas kind left right ruleThen heads boxOf around truth x1 x2 x3 1 (x5 + 1))))))
def F_X4_sound_26 : Nat → (Int32) → (Nat → Int32) → (Nat → Int32) → (Nat → Int32) → (Nat → Int32) → (Nat → Int32) → (Nat → Int32) → (Nat → Int32) → (Nat → Int32) → (Int32) → (Int32) → (Int32) → Int32 × (Nat → Int32)
  | 0, formulas, kind, left, right, ruleThen, heads, boxOf, around, truth, x1, x2, x3 => (0, truth)
  | n + 1, formulas, kind, left, right, ruleThen, heads, boxOf, around, truth, x1, x2, x3 => if 64 ≤ x3 then (if x2 = 0 then ((0, truth)) else ((1, truth))) else (pz_bnd (f_X4_evaluate formulas kind left right truth x3) (fun z_10 => F_X4_sound_43 61 (fun x4 => if x2 = 0 then (F_X4_sound_26 n formulas kind left right ruleThen heads boxOf around z_10 x1 0 (x3 + 1)) else (if x4 = 0 then (F_X4_sound_26 n formulas kind left right ruleThen heads boxOf around z_10 x1 1 (x3 + 1)) else (if (z_10 ((heads (x1).toNatClampNeg)).toNatClampNeg) = 0 then (F_X4_sound_26 n formulas kind left right ruleThen heads boxOf around z_10 x1 0 (x3 + 1)) else (F_X4_sound_26 n formulas kind left right ruleThen heads boxOf around z_10 x1 1 (x3 + 1))))) formulas kind left right ruleThen heads boxOf around z_10 x1 x2 x3 1 0))
def f_X4_sound (formulas : Int32) (kind : Nat → Int32) (left : Nat → Int32) (right : Nat → Int32) (ruleThen : Nat → Int32) (heads : Nat → Int32) (boxOf : Nat → Int32) (around : Nat → Int32) (truth : Nat → Int32) (x1 : Int32) : Int32 × (Nat → Int32) := pz_bnd (f_X4_isLine x1) (fun z_16 => if z_16 = 0 then (((-3), truth)) else (if (heads (x1).toNatClampNeg) = (-1) then (((-1), truth)) else (F_X4_sound_26 65 formulas kind left right ruleThen heads boxOf around truth x1 1 0)))
theorem fl_X4_sound_44 : Cond.fieldLink RX4 44 "BoxProofsModel" "heads" "[I" ∈ wsX4_sound := by decide +kernel
theorem fl_X4_sound_56 : Cond.fieldLink RX4 56 "BoxProofsModel" "truth" "[Z" ∈ wsX4_sound := by decide +kernel
theorem in_X4_sound_X4 : ∀ w ∈ wsX40, w ∈ wsX4_sound := by decide +kernel
set_option maxHeartbeats 4000000 in
set_option maxRecDepth 100000 in
theorem k_X4_sound_43 {p : Program} {l : Launch} {e : Env} {s : State} {m : MethodId} {args : Array Value} {below : List Frame} {meth : Method} {c : Code} {D : va_G} {q : Nat → Nat} {k : Nat → ClassId} (hC : pz_C p s m args meth c cX4_sound wsX4_sound RX4 6 (some .int)) (hKX : pz_KM D q k s) (formulas : Int32) (kind : Nat → Int32) (left : Nat → Int32) (right : Nat → Int32) (height : Nat → Int32) (laid : Nat → Int32) (rules : Nat → Int32) (ps : Nat → Int32) (qs : Nat → Int32) (rs : Nat → Int32) (fs : Nat → Int32) (checked : Int32) (stopped : Int32) (reason : Int32) (made : Int32) (opened : Int32) (ruleThen : Nat → Int32) (heads : Nat → Int32) (boxOf : Nat → Int32) (shutBy : Nat → Int32) (around : Nat → Int32) (inner : Int32) (turned : Nat → Int32) (pile : Nat → Int32) {G : Int32 × (Nat → Int32)} {K : Int32 → Int32 × (Nat → Int32)} :
    ∀ (n : Nat) (truth : Nat → Int32) (x1 : Int32) (x2 : Int32) (x3 : Int32) (x4 : Int32) (x5 : Int32) (hk : vp_in x1 60) (hh : ¬ heads x1.toNatClampNeg = -1) (hgr : pz_gr formulas ruleThen heads) (h0 : 0 ≤ x5.toInt) (h1 : x5.toInt ≤ 60) (hn : 61 ≤ x5.toInt + n) (hf : pz_F formulas kind left right) (har : pz_ar ruleThen around) (hhd : pz_hd formulas ruleThen heads boxOf) (hgs : vp_in x1 60 → ¬ heads x1.toNatClampNeg = -1 → pz_gr formulas ruleThen heads) (hkont : ∀ (y4 : Int32) (H : Heap) (locs : List Loc) (ls : Array Slot), G = K y4 → va_P D vwCl (pz_M q k formulas kind left right height laid rules ps qs rs fs checked stopped reason made opened ruleThen heads boxOf shutBy around inner truth turned pile) H → va_S (pz_A 19 q) s.heap H locs → lv_has ls 6 [(0, .ref (q 0)), (1, .int (x1)), (2, .int (x2)), (3, .int (x3)), (4, .int (y4))] → W p l e (headSpec wsX4_sound { frames := 2, cells := 0, slots := 0, locals := 45 }).room s m args below meth c H locs 0 0 (MQ below (va_Qi (fun r (u : (Nat → Int32)) => (r, u) = G) (fun u t => va_P D vwCl (pz_M q k formulas kind left right height laid rules ps qs rs fs checked stopped reason made opened ruleThen heads boxOf shutBy around inner u turned pile) t.heap) (pz_A 19 q)) args s 0 0 (pz_A 19 q)) (F0 m 92 ls [])) (H : Heap) (locs : List Loc) (ls : Array Slot), G = F_X4_sound_43 n K formulas kind left right ruleThen heads boxOf around truth x1 x2 x3 x4 x5 → va_P D vwCl (pz_M q k formulas kind left right height laid rules ps qs rs fs checked stopped reason made opened ruleThen heads boxOf shutBy around inner truth turned pile) H → va_S (pz_A 19 q) s.heap H locs → lv_has ls 6 [(0, .ref (q 0)), (1, .int (x1)), (2, .int (x2)), (3, .int (x3)), (4, .int (x4)), (5, .int (x5))] → W p l e (headSpec wsX4_sound { frames := 2, cells := 0, slots := 0, locals := 45 }).room s m args below meth c H locs 0 0 (MQ below (va_Qi (fun r (u : (Nat → Int32)) => (r, u) = G) (fun u t => va_P D vwCl (pz_M q k formulas kind left right height laid rules ps qs rs fs checked stopped reason made opened ruleThen heads boxOf shutBy around inner u turned pile) t.heap) (pz_A 19 q)) args s 0 0 (pz_A 19 q)) (F0 m 43 ls []) := by
  obtain ⟨hx, hb, hml, hown, hts, hr, hlocks⟩ := hC
  have hC : pz_C p s m args meth c cX4_sound wsX4_sound RX4 6 (some .int) := ⟨hx, hb, hml, hown, hts, hr, hlocks⟩
  have hK := hKX.1
  intro n
  induction n with
  | zero =>
    intro truth x1 x2 x3 x4 x5 hk hh hgr h0 h1 hn hf har hhd hgs hkont H locs ls hF hP hS hl
    exact absurd hn (by omega)
  | succ n ih =>
    intro truth x1 x2 x3 x4 x5 hk hh hgr h0 h1 hn hf har hhd hgs hkont H locs ls hF hP hS hl
    unfold F_X4_sound_43 at hF
    refine lv_iload hx hb dX4_sound_43 (lv_at hl 5 rfl) ?_
    refine lv_iload_n hx hb dX4_sound_45 rfl (lv_at hl 1 rfl) ?_
    refine lv_icmp_gt (tgt := 92) hx hb dX4_sound_46 (by decide) (fun c_1 => ?_) (fun c_1 => ?_)
    · have hF := hF.trans (if_pos c_1)
      exact hkont x4 _ _ _ hF hP hS (lv_sub hl [0, 1, 2, 3, 4] rfl)
    · have hF := hF.trans (if_neg c_1)
      refine lv_iload hx hb dX4_sound_49 (lv_at hl 4 rfl) ?_
      refine lv_if_eq (tgt := 83) hx hb dX4_sound_51 (by decide) (fun c_2 => ?_) (fun c_2 => ?_)
      · have hF := hF.trans (if_pos c_2)
        refine lv_iconst (v := 0) hx hb dX4_sound_83 (by decide) ?_
        refine lv_istore (lv' := [(4, .int (0)), (0, .ref (q 0)), (1, .int (x1)), (2, .int (x2)), (3, .int (x3)), (5, .int (x5))]) hx hb dX4_sound_84 hl (by decide) rfl (fun ls hl => ?_)
        refine lv_iinc (v := (x5 + 1)) (lv' := [(5, .int ((x5 + 1))), (4, .int (0)), (0, .ref (q 0)), (1, .int (x1)), (2, .int (x2)), (3, .int (x3))]) hx hb dX4_sound_86 hl (k := 5) rfl rfl (by decide) rfl (fun ls hl => ?_)
        refine lv_goto (tgt := 43) hx hb dX4_sound_89 (by decide) ?_
        exact ih truth x1 x2 x3 0 (x5 + 1) hk hh hgr (by have a := pz_nlt ‹¬ x1 < x5›; have b := (vp_in_iff.mp hk).2; have i := pz_inc (x := x5) (by omega); omega) (by have a := pz_nlt ‹¬ x1 < x5›; have b := (vp_in_iff.mp hk).2; have i := pz_inc (x := x5) (by omega); omega) (by have a := pz_nlt ‹¬ x1 < x5›; have b := (vp_in_iff.mp hk).2; have i := pz_inc (x := x5) (by omega); omega) hf har hhd hgs hkont _ _ _ hF hP hS (lv_sub hl [2, 3, 4, 5, 1, 0] rfl)
      · have hF := hF.trans (if_neg c_2)
        refine lv_aload_n hx hb dX4_sound_54 rfl (lv_at hl 0 rfl) ?_
        refine lv_iload_n hx hb dX4_sound_55 rfl (lv_at hl 1 rfl) ?_
        refine lv_iload hx hb dX4_sound_56 (lv_at hl 5 rfl) ?_
        refine pz_Vi (As := [.int (x1), .int (x5)]) (rest := []) ⟨hx, hb, hml, hown, hts⟩ (c_X4_hangsOn l D q k formulas kind left right height laid rules ps qs rs fs checked stopped reason made opened ruleThen heads boxOf shutBy around inner truth turned pile x1 x5 hk (pz_inI h0 (by have a := pz_nlt ‹¬ x1 < x5›; have b := (vp_in_iff.mp hk).2; omega)) har (hhd _ (pz_ixN hk) hh).2) (cwV 2 hts gX4_sound_X4_hangsOn rfl rfl rfl hdV_X4_hangsOn ⟨Nat.le_of_ble_eq_true rfl, Nat.le_of_ble_eq_true rfl⟩) pz_KM.call hKX.go (va_recv hK hP (ci := 4) (q0 := 0) rfl rfl) hP hS rfl hl.1 rfl (Nat.le_of_ble_eq_true rfl) dX4_sound_58 ⟨Nat.zero_le _, Nat.zero_le _⟩ (fun r_3 u_3 H locs hF_3 hP hS => ?_)
        have hF := hF.trans (pz_be hF_3)
        refine lv_if_eq (tgt := 79) hx hb dX4_sound_61 (by decide) (fun c_4 => ?_) (fun c_4 => ?_)
        · have hF := hF.trans (if_pos c_4)
          refine lv_iconst (v := 1) hx hb dX4_sound_79 (by decide) ?_
          refine lv_goto (tgt := 84) hx hb dX4_sound_80 (by decide) ?_
          refine lv_istore (lv' := [(4, .int (1)), (0, .ref (q 0)), (1, .int (x1)), (2, .int (x2)), (3, .int (x3)), (5, .int (x5))]) hx hb dX4_sound_84 hl (by decide) rfl (fun ls hl => ?_)
          refine lv_iinc (v := (x5 + 1)) (lv' := [(5, .int ((x5 + 1))), (4, .int (1)), (0, .ref (q 0)), (1, .int (x1)), (2, .int (x2)), (3, .int (x3))]) hx hb dX4_sound_86 hl (k := 5) rfl rfl (by decide) rfl (fun ls hl => ?_)
          refine lv_goto (tgt := 43) hx hb dX4_sound_89 (by decide) ?_
          exact ih truth x1 x2 x3 1 (x5 + 1) hk hh hgr (by have a := pz_nlt ‹¬ x1 < x5›; have b := (vp_in_iff.mp hk).2; have i := pz_inc (x := x5) (by omega); omega) (by have a := pz_nlt ‹¬ x1 < x5›; have b := (vp_in_iff.mp hk).2; have i := pz_inc (x := x5) (by omega); omega) (by have a := pz_nlt ‹¬ x1 < x5›; have b := (vp_in_iff.mp hk).2; have i := pz_inc (x := x5) (by omega); omega) hf har hhd hgs hkont _ _ _ hF hP hS (lv_sub hl [2, 3, 4, 5, 1, 0] rfl)
        · have hF := hF.trans (if_neg c_4)
          refine lv_aload_n hx hb dX4_sound_64 rfl (lv_at hl 0 rfl) ?_
          refine va_get (D := D) (ci := 4) (v := .ref (q 16)) (C := RX4) (T := TX4) (N := 25) hx hb hts in_X4_sound_X4 hown hK hP 0 rfl rfl 22 (by decide) (hts _ fl_X4_sound_56) (fun _ h9 => h9) rfl dX4_sound_65 ?_
          refine lv_aload_n hx hb dX4_sound_68 rfl (lv_at hl 0 rfl) ?_
          refine va_get (D := D) (ci := 4) (v := .ref (q 12)) (C := RX4) (T := TX4) (N := 25) hx hb hts in_X4_sound_X4 hown hK hP 0 rfl rfl 17 (by decide) (hts _ fl_X4_sound_44) (fun _ h9 => h9) rfl dX4_sound_69 ?_
          refine lv_iload hx hb dX4_sound_72 (lv_at hl 5 rfl) ?_
          have hi_5 : vp_in x5 60 := (pz_inI h0 (by have a := pz_nlt ‹¬ x1 < x5›; have b := (vp_in_iff.mp hk).2; omega))
          refine va_iald hx hb hK hP 12 0 rfl rfl hi_5 dX4_sound_74 ?_
          have hi_6 : vp_in (heads (x5).toNatClampNeg) 80 := pz_vin hf.1 (hgr _ (pz_ixN (pz_inI h0 (by have a := pz_nlt ‹¬ x1 < x5›; have b := (vp_in_iff.mp hk).2; omega))) (pz_hong ‹_› ‹_›))
          refine va_zald hx hb hK hP 16 2 rfl rfl hi_6 dX4_sound_75 ?_
          refine lv_if_eq (tgt := 83) hx hb dX4_sound_76 (by decide) (fun c_7 => ?_) (fun c_7 => ?_)
          · have hF := hF.trans (if_pos c_7)
            refine lv_iconst (v := 0) hx hb dX4_sound_83 (by decide) ?_
            refine lv_istore (lv' := [(4, .int (0)), (0, .ref (q 0)), (1, .int (x1)), (2, .int (x2)), (3, .int (x3)), (5, .int (x5))]) hx hb dX4_sound_84 hl (by decide) rfl (fun ls hl => ?_)
            refine lv_iinc (v := (x5 + 1)) (lv' := [(5, .int ((x5 + 1))), (4, .int (0)), (0, .ref (q 0)), (1, .int (x1)), (2, .int (x2)), (3, .int (x3))]) hx hb dX4_sound_86 hl (k := 5) rfl rfl (by decide) rfl (fun ls hl => ?_)
            refine lv_goto (tgt := 43) hx hb dX4_sound_89 (by decide) ?_
            exact ih truth x1 x2 x3 0 (x5 + 1) hk hh hgr (by have a := pz_nlt ‹¬ x1 < x5›; have b := (vp_in_iff.mp hk).2; have i := pz_inc (x := x5) (by omega); omega) (by have a := pz_nlt ‹¬ x1 < x5›; have b := (vp_in_iff.mp hk).2; have i := pz_inc (x := x5) (by omega); omega) (by have a := pz_nlt ‹¬ x1 < x5›; have b := (vp_in_iff.mp hk).2; have i := pz_inc (x := x5) (by omega); omega) hf har hhd hgs hkont _ _ _ hF hP hS (lv_sub hl [2, 3, 4, 5, 1, 0] rfl)
          · have hF := hF.trans (if_neg c_7)
            refine lv_iconst (v := 1) hx hb dX4_sound_79 (by decide) ?_
            refine lv_goto (tgt := 84) hx hb dX4_sound_80 (by decide) ?_
            refine lv_istore (lv' := [(4, .int (1)), (0, .ref (q 0)), (1, .int (x1)), (2, .int (x2)), (3, .int (x3)), (5, .int (x5))]) hx hb dX4_sound_84 hl (by decide) rfl (fun ls hl => ?_)
            refine lv_iinc (v := (x5 + 1)) (lv' := [(5, .int ((x5 + 1))), (4, .int (1)), (0, .ref (q 0)), (1, .int (x1)), (2, .int (x2)), (3, .int (x3))]) hx hb dX4_sound_86 hl (k := 5) rfl rfl (by decide) rfl (fun ls hl => ?_)
            refine lv_goto (tgt := 43) hx hb dX4_sound_89 (by decide) ?_
            exact ih truth x1 x2 x3 1 (x5 + 1) hk hh hgr (by have a := pz_nlt ‹¬ x1 < x5›; have b := (vp_in_iff.mp hk).2; have i := pz_inc (x := x5) (by omega); omega) (by have a := pz_nlt ‹¬ x1 < x5›; have b := (vp_in_iff.mp hk).2; have i := pz_inc (x := x5) (by omega); omega) (by have a := pz_nlt ‹¬ x1 < x5›; have b := (vp_in_iff.mp hk).2; have i := pz_inc (x := x5) (by omega); omega) hf har hhd hgs hkont _ _ _ hF hP hS (lv_sub hl [2, 3, 4, 5, 1, 0] rfl)
set_option maxHeartbeats 4000000 in
set_option maxRecDepth 100000 in
theorem k_X4_sound_26 {p : Program} {l : Launch} {e : Env} {s : State} {m : MethodId} {args : Array Value} {below : List Frame} {meth : Method} {c : Code} {D : va_G} {q : Nat → Nat} {k : Nat → ClassId} (hC : pz_C p s m args meth c cX4_sound wsX4_sound RX4 6 (some .int)) (hKX : pz_KM D q k s) (formulas : Int32) (kind : Nat → Int32) (left : Nat → Int32) (right : Nat → Int32) (height : Nat → Int32) (laid : Nat → Int32) (rules : Nat → Int32) (ps : Nat → Int32) (qs : Nat → Int32) (rs : Nat → Int32) (fs : Nat → Int32) (checked : Int32) (stopped : Int32) (reason : Int32) (made : Int32) (opened : Int32) (ruleThen : Nat → Int32) (heads : Nat → Int32) (boxOf : Nat → Int32) (shutBy : Nat → Int32) (around : Nat → Int32) (inner : Int32) (turned : Nat → Int32) (pile : Nat → Int32) {G : Int32 × (Nat → Int32)} :
    ∀ (n : Nat) (truth : Nat → Int32) (x1 : Int32) (x2 : Int32) (x3 : Int32) (hk : vp_in x1 60) (hh : ¬ heads x1.toNatClampNeg = -1) (hgr : pz_gr formulas ruleThen heads) (h0 : 0 ≤ x3.toInt) (h1 : x3.toInt ≤ 64) (hn : 65 ≤ x3.toInt + n) (hf : pz_F formulas kind left right) (har : pz_ar ruleThen around) (hhd : pz_hd formulas ruleThen heads boxOf) (hgs : vp_in x1 60 → ¬ heads x1.toNatClampNeg = -1 → pz_gr formulas ruleThen heads) (H : Heap) (locs : List Loc) (ls : Array Slot), G = F_X4_sound_26 n formulas kind left right ruleThen heads boxOf around truth x1 x2 x3 → va_P D vwCl (pz_M q k formulas kind left right height laid rules ps qs rs fs checked stopped reason made opened ruleThen heads boxOf shutBy around inner truth turned pile) H → va_S (pz_A 19 q) s.heap H locs → lv_has ls 6 [(0, .ref (q 0)), (1, .int (x1)), (2, .int (x2)), (3, .int (x3))] → W p l e (headSpec wsX4_sound { frames := 2, cells := 0, slots := 0, locals := 45 }).room s m args below meth c H locs 0 0 (MQ below (va_Qi (fun r (u : (Nat → Int32)) => (r, u) = G) (fun u t => va_P D vwCl (pz_M q k formulas kind left right height laid rules ps qs rs fs checked stopped reason made opened ruleThen heads boxOf shutBy around inner u turned pile) t.heap) (pz_A 19 q)) args s 0 0 (pz_A 19 q)) (F0 m 26 ls []) := by
  obtain ⟨hx, hb, hml, hown, hts, hr, hlocks⟩ := hC
  have hC : pz_C p s m args meth c cX4_sound wsX4_sound RX4 6 (some .int) := ⟨hx, hb, hml, hown, hts, hr, hlocks⟩
  have hK := hKX.1
  intro n
  induction n with
  | zero =>
    intro truth x1 x2 x3 hk hh hgr h0 h1 hn hf har hhd hgs H locs ls hF hP hS hl
    exact absurd hn (by omega)
  | succ n ih =>
    intro truth x1 x2 x3 hk hh hgr h0 h1 hn hf har hhd hgs H locs ls hF hP hS hl
    unfold F_X4_sound_26 at hF
    refine lv_iload_n hx hb dX4_sound_26 rfl (lv_at hl 3 rfl) ?_
    refine lv_bipush (v := 64) hx hb dX4_sound_27 (by decide) ?_
    refine lv_icmp_ge (tgt := 127) hx hb dX4_sound_29 (by decide) (fun c_8 => ?_) (fun c_8 => ?_)
    · have hF := hF.trans (if_pos c_8)
      refine lv_iload_n hx hb dX4_sound_127 rfl (lv_at hl 2 rfl) ?_
      refine lv_if_eq (tgt := 135) hx hb dX4_sound_128 (by decide) (fun c_9 => ?_) (fun c_9 => ?_)
      · have hF := hF.trans (if_pos c_9)
        refine lv_iconst (v := 0) hx hb dX4_sound_135 (by decide) ?_
        exact W.iret (v := 0) hx hb hr (fun t ht hW => ⟨⟨0, truth, rfl, hF.symm, pz_hp ht hP⟩, hS.F ht⟩) hS.2.2 dX4_sound_136 hlocks
      · have hF := hF.trans (if_neg c_9)
        refine lv_iconst (v := 1) hx hb dX4_sound_131 (by decide) ?_
        refine lv_goto (tgt := 136) hx hb dX4_sound_132 (by decide) ?_
        exact W.iret (v := 1) hx hb hr (fun t ht hW => ⟨⟨1, truth, rfl, hF.symm, pz_hp ht hP⟩, hS.F ht⟩) hS.2.2 dX4_sound_136 hlocks
    · have hF := hF.trans (if_neg c_8)
      refine lv_aload_n hx hb dX4_sound_32 rfl (lv_at hl 0 rfl) ?_
      refine lv_iload_n hx hb dX4_sound_33 rfl (lv_at hl 3 rfl) ?_
      refine pz_Vv (As := [.int (x3)]) (rest := []) ⟨hx, hb, hml, hown, hts⟩ (c_X4_evaluate l D q k formulas kind left right height laid rules ps qs rs fs checked stopped reason made opened ruleThen heads boxOf shutBy around inner truth turned pile x3 hf) (cwV 1 hts gX4_sound_X4_evaluate rfl rfl rfl hdV_X4_evaluate ⟨Nat.le_of_ble_eq_true rfl, Nat.le_of_ble_eq_true rfl⟩) pz_KM.call hKX.go (va_recv hK hP (ci := 4) (q0 := 0) rfl rfl) hP hS rfl hl.1 rfl (Nat.le_of_ble_eq_true rfl) dX4_sound_34 ⟨Nat.zero_le _, Nat.zero_le _⟩ (fun u_10 H locs hF_10 hP hS => ?_)
      obtain ⟨w_10_truth, rfl⟩ : ∃ z, z = u_10 := ⟨_, rfl⟩
      have hP : va_P D vwCl (pz_M q k formulas kind left right height laid rules ps qs rs fs checked stopped reason made opened ruleThen heads boxOf shutBy around inner w_10_truth turned pile) H := hP
      have hF := hF.trans (pz_be hF_10)
      try dsimp only at hF
      refine lv_iconst (v := 1) hx hb dX4_sound_37 (by decide) ?_
      refine lv_istore (lv' := [(4, .int (1)), (0, .ref (q 0)), (1, .int (x1)), (2, .int (x2)), (3, .int (x3))]) hx hb dX4_sound_38 hl (by decide) rfl (fun ls hl => ?_)
      refine lv_iconst (v := 0) hx hb dX4_sound_40 (by decide) ?_
      refine lv_istore (lv' := [(5, .int (0)), (4, .int (1)), (0, .ref (q 0)), (1, .int (x1)), (2, .int (x2)), (3, .int (x3))]) hx hb dX4_sound_41 hl (by decide) rfl (fun ls hl => ?_)
      refine k_X4_sound_43 hC hKX formulas kind left right height laid rules ps qs rs fs checked stopped reason made opened ruleThen heads boxOf shutBy around inner turned pile 61 w_10_truth x1 x2 x3 1 0 hk hh hgr (by decide) (by decide) (by decide) hf har hhd hgs (fun x4 H locs ls hF hP hS hl => ?_) _ _ _ hF hP hS (lv_sub hl [2, 3, 4, 5, 1, 0] rfl)
      refine lv_iload_n hx hb dX4_sound_92 rfl (lv_at hl 2 rfl) ?_
      refine lv_if_eq (tgt := 119) hx hb dX4_sound_93 (by decide) (fun c_11 => ?_) (fun c_11 => ?_)
      · have hF := hF.trans (if_pos c_11)
        refine lv_iconst (v := 0) hx hb dX4_sound_119 (by decide) ?_
        refine lv_istore_n (lv' := [(2, .int (0)), (0, .ref (q 0)), (1, .int (x1)), (3, .int (x3)), (4, .int (x4))]) hx hb dX4_sound_120 rfl hl (by decide) rfl (fun ls hl => ?_)
        refine lv_iinc (v := (x3 + 1)) (lv' := [(3, .int ((x3 + 1))), (2, .int (0)), (0, .ref (q 0)), (1, .int (x1)), (4, .int (x4))]) hx hb dX4_sound_121 hl (k := 3) rfl rfl (by decide) rfl (fun ls hl => ?_)
        refine lv_goto (tgt := 26) hx hb dX4_sound_124 (by decide) ?_
        exact ih w_10_truth x1 0 (x3 + 1) hk hh hgr (by have e := pz_upk (N := 64) ‹¬ (64 : Int32) ≤ x3› rfl (by decide); omega) (by have e := pz_upk (N := 64) ‹¬ (64 : Int32) ≤ x3› rfl (by decide); omega) (by have e := pz_upk (N := 64) ‹¬ (64 : Int32) ≤ x3› rfl (by decide); omega) hf har hhd hgs _ _ _ hF hP hS (lv_sub hl [2, 3, 1, 0] rfl)
      · have hF := hF.trans (if_neg c_11)
        refine lv_iload hx hb dX4_sound_96 (lv_at hl 4 rfl) ?_
        refine lv_if_eq (tgt := 115) hx hb dX4_sound_98 (by decide) (fun c_12 => ?_) (fun c_12 => ?_)
        · have hF := hF.trans (if_pos c_12)
          refine lv_iconst (v := 1) hx hb dX4_sound_115 (by decide) ?_
          refine lv_goto (tgt := 120) hx hb dX4_sound_116 (by decide) ?_
          refine lv_istore_n (lv' := [(2, .int (1)), (0, .ref (q 0)), (1, .int (x1)), (3, .int (x3)), (4, .int (x4))]) hx hb dX4_sound_120 rfl hl (by decide) rfl (fun ls hl => ?_)
          refine lv_iinc (v := (x3 + 1)) (lv' := [(3, .int ((x3 + 1))), (2, .int (1)), (0, .ref (q 0)), (1, .int (x1)), (4, .int (x4))]) hx hb dX4_sound_121 hl (k := 3) rfl rfl (by decide) rfl (fun ls hl => ?_)
          refine lv_goto (tgt := 26) hx hb dX4_sound_124 (by decide) ?_
          exact ih w_10_truth x1 1 (x3 + 1) hk hh hgr (by have e := pz_upk (N := 64) ‹¬ (64 : Int32) ≤ x3› rfl (by decide); omega) (by have e := pz_upk (N := 64) ‹¬ (64 : Int32) ≤ x3› rfl (by decide); omega) (by have e := pz_upk (N := 64) ‹¬ (64 : Int32) ≤ x3› rfl (by decide); omega) hf har hhd hgs _ _ _ hF hP hS (lv_sub hl [2, 3, 1, 0] rfl)
        · have hF := hF.trans (if_neg c_12)
          refine lv_aload_n hx hb dX4_sound_101 rfl (lv_at hl 0 rfl) ?_
          refine va_get (D := D) (ci := 4) (v := .ref (q 16)) (C := RX4) (T := TX4) (N := 25) hx hb hts in_X4_sound_X4 hown hK hP 0 rfl rfl 22 (by decide) (hts _ fl_X4_sound_56) (fun _ h9 => h9) rfl dX4_sound_102 ?_
          refine lv_aload_n hx hb dX4_sound_105 rfl (lv_at hl 0 rfl) ?_
          refine va_get (D := D) (ci := 4) (v := .ref (q 12)) (C := RX4) (T := TX4) (N := 25) hx hb hts in_X4_sound_X4 hown hK hP 0 rfl rfl 17 (by decide) (hts _ fl_X4_sound_44) (fun _ h9 => h9) rfl dX4_sound_106 ?_
          refine lv_iload_n hx hb dX4_sound_109 rfl (lv_at hl 1 rfl) ?_
          have hi_13 : vp_in x1 60 := hk
          refine va_iald hx hb hK hP 12 0 rfl rfl hi_13 dX4_sound_110 ?_
          have hi_14 : vp_in (heads (x1).toNatClampNeg) 80 := pz_vin hf.1 (hhd _ (pz_ixN hk) hh).1
          refine va_zald hx hb hK hP 16 2 rfl rfl hi_14 dX4_sound_111 ?_
          refine lv_if_eq (tgt := 119) hx hb dX4_sound_112 (by decide) (fun c_15 => ?_) (fun c_15 => ?_)
          · have hF := hF.trans (if_pos c_15)
            refine lv_iconst (v := 0) hx hb dX4_sound_119 (by decide) ?_
            refine lv_istore_n (lv' := [(2, .int (0)), (0, .ref (q 0)), (1, .int (x1)), (3, .int (x3)), (4, .int (x4))]) hx hb dX4_sound_120 rfl hl (by decide) rfl (fun ls hl => ?_)
            refine lv_iinc (v := (x3 + 1)) (lv' := [(3, .int ((x3 + 1))), (2, .int (0)), (0, .ref (q 0)), (1, .int (x1)), (4, .int (x4))]) hx hb dX4_sound_121 hl (k := 3) rfl rfl (by decide) rfl (fun ls hl => ?_)
            refine lv_goto (tgt := 26) hx hb dX4_sound_124 (by decide) ?_
            exact ih w_10_truth x1 0 (x3 + 1) hk hh hgr (by have e := pz_upk (N := 64) ‹¬ (64 : Int32) ≤ x3› rfl (by decide); omega) (by have e := pz_upk (N := 64) ‹¬ (64 : Int32) ≤ x3› rfl (by decide); omega) (by have e := pz_upk (N := 64) ‹¬ (64 : Int32) ≤ x3› rfl (by decide); omega) hf har hhd hgs _ _ _ hF hP hS (lv_sub hl [2, 3, 1, 0] rfl)
          · have hF := hF.trans (if_neg c_15)
            refine lv_iconst (v := 1) hx hb dX4_sound_115 (by decide) ?_
            refine lv_goto (tgt := 120) hx hb dX4_sound_116 (by decide) ?_
            refine lv_istore_n (lv' := [(2, .int (1)), (0, .ref (q 0)), (1, .int (x1)), (3, .int (x3)), (4, .int (x4))]) hx hb dX4_sound_120 rfl hl (by decide) rfl (fun ls hl => ?_)
            refine lv_iinc (v := (x3 + 1)) (lv' := [(3, .int ((x3 + 1))), (2, .int (1)), (0, .ref (q 0)), (1, .int (x1)), (4, .int (x4))]) hx hb dX4_sound_121 hl (k := 3) rfl rfl (by decide) rfl (fun ls hl => ?_)
            refine lv_goto (tgt := 26) hx hb dX4_sound_124 (by decide) ?_
            exact ih w_10_truth x1 1 (x3 + 1) hk hh hgr (by have e := pz_upk (N := 64) ‹¬ (64 : Int32) ≤ x3› rfl (by decide); omega) (by have e := pz_upk (N := 64) ‹¬ (64 : Int32) ≤ x3› rfl (by decide); omega) (by have e := pz_upk (N := 64) ‹¬ (64 : Int32) ≤ x3› rfl (by decide); omega) hf har hhd hgs _ _ _ hF hP hS (lv_sub hl [2, 3, 1, 0] rfl)
set_option maxHeartbeats 4000000 in
set_option maxRecDepth 100000 in
theorem c_X4_sound (l : Launch) (D : va_G) (q : Nat → Nat) (k : Nat → ClassId) (formulas : Int32) (kind : Nat → Int32) (left : Nat → Int32) (right : Nat → Int32) (height : Nat → Int32) (laid : Nat → Int32) (rules : Nat → Int32) (ps : Nat → Int32) (qs : Nat → Int32) (rs : Nat → Int32) (fs : Nat → Int32) (checked : Int32) (stopped : Int32) (reason : Int32) (made : Int32) (opened : Int32) (ruleThen : Nat → Int32) (heads : Nat → Int32) (boxOf : Nat → Int32) (shutBy : Nat → Int32) (around : Nat → Int32) (inner : Int32) (truth : Nat → Int32) (turned : Nat → Int32) (pile : Nat → Int32) (x1 : Int32) (hf : pz_F formulas kind left right) (har : pz_ar ruleThen around) (hhd : pz_hd formulas ruleThen heads boxOf) (hgs : vp_in x1 60 → ¬ heads x1.toNatClampNeg = -1 → pz_gr formulas ruleThen heads) : Met l yX4_sound wsX4_sound ({ frames := 2, cells := 0, slots := 0, locals := 45 }) (va_Pc [.ref (q 0), .int (x1)] (fun U => va_P D vwCl (pz_M q k formulas kind left right height laid rules ps qs rs fs checked stopped reason made opened ruleThen heads boxOf shutBy around inner truth turned pile) U.heap ∧ pz_KM D q k U)) (va_Qi (fun r (u : (Nat → Int32)) => (r, u) = (f_X4_sound formulas kind left right ruleThen heads boxOf around truth x1)) (fun u t => va_P D vwCl (pz_M q k formulas kind left right height laid rules ps qs rs fs checked stopped reason made opened ruleThen heads boxOf shutBy around inner u turned pile) t.heap) (pz_A 19 q)) 0 0 (pz_A 19 q) := by
  refine Met.ofW (cc := cX4_sound) (maxL := 6) (ret := (some .int)) (by decide) rfl ?_
  intro p e s m args below meth c s₁ B hml hv
  obtain ⟨rfl, hP, hKX⟩ := hv
  have hx := B.exec
  have hb := B.bytes
  have hr := B.returns
  have hts := atoms_spec (ws := wsX4_sound) B.pre
  have hown : s.vm.findClass RX4 = some m.cls := findClass_of_methodNamed B.named
  have hlocks := B.notSynchronized
  have hC : pz_C p s m ([.ref (q 0), .int (x1)] : List Value).toArray meth c cX4_sound wsX4_sound RX4 6 (some .int) := ⟨hx, hb, hml, hown, hts, hr, hlocks⟩
  have hK := hKX.1
  have hS : va_S (pz_A 19 q) s.heap s.heap [] := va_S.rf
  have hl := lv_entry [.ref (q 0), .int (x1)] (n := 6) (Nat.le_of_ble_eq_true rfl)
  rw [lg_entry_eq]
  generalize (lg_sl [.ref (q 0), .int (x1)] ++ List.replicate (6 - (lg_sl [.ref (q 0), .int (x1)]).length) Slot.unset).toArray = ls at hl ⊢
  have hl : lv_has ls 6 [(0, .ref (q 0)), (1, .int (x1))] := hl
  generalize hF : f_X4_sound formulas kind left right ruleThen heads boxOf around truth x1 = G
  replace hF := hF.symm
  unfold f_X4_sound at hF
  refine lv_iload_n hx hb dX4_sound_0 rfl (lv_at hl 1 rfl) ?_
  refine pz_Si (As := [.int (x1)]) (rest := []) ⟨hx, hb, hml, hown, hts⟩ (c_X4_isLine l x1) (va_cwS 1 hts gX4_sound_X4_isLine rfl rfl rfl hdS_X4_isLine ⟨Nat.le_of_ble_eq_true rfl, Nat.le_of_ble_eq_true rfl⟩) hP hS rfl hl.1 rfl (Nat.le_of_ble_eq_true rfl) dX4_sound_1 ⟨Nat.zero_le _, Nat.zero_le _⟩ (fun r_16 H locs hF_16 hP hS => ?_)
  have hF := hF.trans (pz_be hF_16)
  refine lv_if_ne (tgt := 10) hx hb dX4_sound_4 (by decide) (fun c_17 => ?_) (fun c_17 => ?_)
  · have hF := hF.trans (if_neg c_17)
    refine lv_aload_n hx hb dX4_sound_10 rfl (lv_at hl 0 rfl) ?_
    refine va_get (D := D) (ci := 4) (v := .ref (q 12)) (C := RX4) (T := TX4) (N := 25) hx hb hts in_X4_sound_X4 hown hK hP 0 rfl rfl 17 (by decide) (hts _ fl_X4_sound_44) (fun _ h9 => h9) rfl dX4_sound_11 ?_
    refine lv_iload_n hx hb dX4_sound_14 rfl (lv_at hl 1 rfl) ?_
    have hi_18 : vp_in x1 60 := pz_lineM ‹_› ‹_›
    refine va_iald hx hb hK hP 12 0 rfl rfl hi_18 dX4_sound_15 ?_
    refine lv_iconst (v := (-1)) hx hb dX4_sound_16 (by decide) ?_
    refine lv_icmp_ne (tgt := 22) hx hb dX4_sound_17 (by decide) (fun c_19 => ?_) (fun c_19 => ?_)
    · have hF := hF.trans (if_neg c_19)
      refine lv_iconst (v := 1) hx hb dX4_sound_22 (by decide) ?_
      refine lv_istore_n (lv' := [(2, .int (1)), (0, .ref (q 0)), (1, .int (x1))]) hx hb dX4_sound_23 rfl hl (by decide) rfl (fun ls hl => ?_)
      refine lv_iconst (v := 0) hx hb dX4_sound_24 (by decide) ?_
      refine lv_istore_n (lv' := [(3, .int (0)), (2, .int (1)), (0, .ref (q 0)), (1, .int (x1))]) hx hb dX4_sound_25 rfl hl (by decide) rfl (fun ls hl => ?_)
      exact k_X4_sound_26 hC hKX formulas kind left right height laid rules ps qs rs fs checked stopped reason made opened ruleThen heads boxOf shutBy around inner turned pile 65 truth x1 1 0 (pz_lineM ‹_› ‹_›) ‹_› (hgs (pz_lineM ‹_› ‹_›) ‹_›) (by decide) (by decide) (by decide) hf har hhd hgs _ _ _ hF hP hS (lv_sub hl [2, 3, 1, 0] rfl)
    · have hF := hF.trans (if_pos c_19)
      refine lv_iconst (v := (-1)) hx hb dX4_sound_20 (by decide) ?_
      exact W.iret (v := (-1)) hx hb hr (fun t ht hW => ⟨⟨(-1), truth, rfl, hF.symm, pz_hp ht hP⟩, hS.F ht⟩) hS.2.2 dX4_sound_21 hlocks
  · have hF := hF.trans (if_pos c_17)
    refine lv_bipush (v := (-3)) hx hb dX4_sound_7 (by decide) ?_
    exact W.iret (v := (-3)) hx hb hr (fun t ht hW => ⟨⟨(-3), truth, rfl, hF.symm, pz_hp ht hP⟩, hS.F ht⟩) hS.2.2 dX4_sound_9 hlocks

