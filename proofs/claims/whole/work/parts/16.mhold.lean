/-! the reference's formulas grow well -/
abbrev pz_T6 : Type := Int32 × Int32 × (Nat → Int32) × (Nat → Int32) × (Nat → Int32) × (Nat → Int32)
def pz_MK (formulas : Int32) (z : pz_T6) : Prop := pz_F z.2.1 z.2.2.1 z.2.2.2.1 z.2.2.2.2.1 ∧ formulas.toInt ≤ z.2.1.toInt ∧ (z.1 = -4 ∨ pz_vf z.2.1 z.1)
theorem pz_m4 : (-4 : Int32).toInt = -4 := rfl
section PzMk
variable {formulas : Int32} {kind left right height : Nat → Int32} {x1 x2 x3 x4 x5 x6 : Int32}
theorem pz_mk122 (hf : pz_F formulas kind left right) (h : ¬ x1 = 0 → ¬ x1 = 1 → pz_vf formulas x4 ∧ pz_vf formulas x5) : pz_MK formulas (F_X4_make_122 formulas kind left right height x1 x2 x3 x4 x5 x6) := by
  unfold F_X4_make_122
  refine pz_it (P := pz_MK formulas) (fun c => ⟨hf, Int.le_refl _, Or.inl rfl⟩) (fun c => ?_)
  refine pz_it (P := pz_MK formulas) (fun c2 => ?_) (fun _ => ⟨hf, Int.le_refl _, Or.inl rfl⟩)
  have a := pz_ne c
  have e80 : (80 : Int32).toInt = 80 := rfl
  rw [e80] at a
  have b := hf.1.2
  have b0 := hf.1.1
  have i := pz_inc (x := formulas) (by omega)
  have e := pz_tn b0
  have i1 := pz_sub1 (f := formulas + 1) (by omega)
  refine ⟨⟨⟨by show 0 ≤ (formulas + 1).toInt; omega, by show (formulas + 1).toInt ≤ 80; omega⟩, fun j hj k0 k1 => ?_⟩, by show formulas.toInt ≤ (formulas + 1).toInt; omega, Or.inr ⟨by show 0 ≤ (formulas + 1 - 1).toInt; omega, by show (formulas + 1 - 1).toInt < (formulas + 1).toInt; omega⟩⟩
  have hj : (j : Int) < (formulas + 1).toInt := hj
  have k0 : ¬ upd kind formulas.toNatClampNeg x1 j = 0 := k0
  have k1 : ¬ upd kind formulas.toNatClampNeg x1 j = 1 := k1
  show (0 ≤ (upd left formulas.toNatClampNeg x4 j).toInt ∧ (upd left formulas.toNatClampNeg x4 j).toInt < j) ∧ (0 ≤ (upd right formulas.toNatClampNeg x5 j).toInt ∧ (upd right formulas.toNatClampNeg x5 j).toInt < j)
  by_cases hjf : j = formulas.toNatClampNeg
  · subst hjf
    rw [pk_us] at k0 k1
    rw [pk_us, pk_us]
    obtain ⟨⟨p1, p2⟩, q1, q2⟩ := h k0 k1
    exact ⟨⟨p1, by omega⟩, q1, by omega⟩
  · rw [pk_un hjf] at k0 k1
    rw [pk_un hjf, pk_un hjf]
    exact hf.2 j (by omega) k0 k1
theorem pz_mk26 (hf : pz_F formulas kind left right) (h : ¬ x1 = 0 → ¬ x1 = 1 → pz_vf formulas x4 ∧ pz_vf formulas x5) : ∀ (n : Nat) (x6 : Int32), 0 ≤ x6.toInt → x6.toInt ≤ 80 → 81 ≤ x6.toInt + n → pz_MK formulas (F_X4_make_26 n formulas kind left right height x1 x2 x3 x4 x5 x6) := by
  intro n
  induction n with
  | zero => intro x6 h0 h1 hn; exact absurd hn (by omega)
  | succ n ih =>
    intro x6 h0 h1 hn
    unfold F_X4_make_26
    refine pz_it (P := pz_MK formulas) (fun c => ?_) (fun c => ?_)
    · refine pz_it (P := pz_MK formulas) (fun _ => ?_) (fun _ => pz_mk122 hf h)
      exact pz_it (P := pz_MK formulas) (fun _ => pz_mk122 hf h) (fun _ => pz_mk122 hf h)
    · have e := pz_incf hf.1 c
      have nx := ih (x6 + 1) (by omega) (by omega) (by omega)
      refine pz_it (P := pz_MK formulas) (fun _ => ?_) (fun _ => nx)
      refine pz_it (P := pz_MK formulas) (fun _ => ?_) (fun _ => nx)
      refine pz_it (P := pz_MK formulas) (fun _ => ?_) (fun _ => nx)
      exact ⟨hf, Int.le_refl _, Or.inr ⟨h0, pz_nle c⟩⟩
theorem pz_mk (hf : pz_F formulas kind left right) (h : 2 ≤ x1 → pz_vf formulas x2 ∧ pz_vf formulas x3) (hx : 0 ≤ x1.toInt) : pz_MK formulas (f_X4_make formulas kind left right height x1 x2 x3) := by
  have e2 : (2 : Int32).toInt = 2 := rfl
  have e1 : (1 : Int32).toInt = 1 := rfl
  have c01 : ¬ 2 ≤ x1 → ¬ x1 = 0 → ¬ x1 = 1 → False := fun a b c => by
    have p := pz_nle a
    have q := pz_ne b
    have r := pz_ne c
    rw [pz_zero] at q
    omega
  unfold f_X4_make
  refine pz_it (P := pz_MK formulas) (fun c0 => ?_) (fun c0 => ?_)
  · refine pz_it (P := pz_MK formulas) (fun c2 => ?_) (fun c2 => ?_)
    · exact pz_mk26 hf (fun n0 _ => absurd c0 n0) 81 0 (by decide) (by decide) (by decide)
    · exact pz_mk26 hf (fun n0 _ => absurd c0 n0) 81 0 (by decide) (by decide) (by decide)
  · refine pz_it (P := pz_MK formulas) (fun c2 => ?_) (fun c2 => ?_)
    · exact pz_mk26 hf (fun _ _ => h c2) 81 0 (by decide) (by decide) (by decide)
    · exact pz_mk26 hf (fun n0 n1 => (c01 c2 n0 n1).elim) 81 0 (by decide) (by decide) (by decide)
end PzMk
section PzHd
variable {formulas : Int32} {kind left right height ps qs rs fs heads shutBy : Nat → Int32} {x1 x2 x3 : Int32}
theorem pz_headOf_ok (hf : pz_F formulas kind left right) (h3 : x2 = 3 → pz_vf formulas x3) (h4 : x2 = 4 → pz_vf formulas x3 ∧ pz_vf formulas (heads (qs x1.toNatClampNeg).toNatClampNeg)) (h5 : x2 = 5 → pz_vf formulas (left x3.toNatClampNeg)) (h6 : x2 = 6 ∨ x2 = 11 → pz_vf formulas (right x3.toNatClampNeg)) (h7 : x2 = 7 ∨ x2 = 8 → pz_vf formulas x3 ∧ pz_vf formulas (fs x1.toNatClampNeg)) (h9 : x2 = 9 → pz_vf formulas (f_X4_endOf heads shutBy (qs x1.toNatClampNeg))) (h10 : x2 = 10 → pz_vf formulas (heads (ps x1.toNatClampNeg).toNatClampNeg) ∧ pz_vf formulas (f_X4_endOf heads shutBy (ps x1.toNatClampNeg))) (h13 : x2 = 13 → pz_vf formulas (left (left x3.toNatClampNeg).toNatClampNeg)) (hd : ¬ x2 = 3 → ¬ x2 = 4 → ¬ x2 = 5 → ¬ x2 = 6 → ¬ x2 = 7 → ¬ x2 = 8 → ¬ x2 = 9 → ¬ x2 = 10 → ¬ x2 = 11 → ¬ x2 = 13 → pz_vf formulas (fs x1.toNatClampNeg)) : pz_MK formulas (f_X4_headOf formulas kind left right height ps qs fs heads shutBy x1 x2 x3) := by
  have old : ∀ v, pz_vf formulas v → pz_MK formulas (v, formulas, kind, left, right, height) := fun v hv => ⟨hf, Int.le_refl _, Or.inr hv⟩
  unfold f_X4_headOf
  refine pz_it (P := pz_MK formulas) (fun c3 => old _ (h3 c3)) (fun c3 => ?_)
  refine pz_it (P := pz_MK formulas) (fun c4 => ?_) (fun c4 => ?_)
  · refine pz_bi (P := pz_MK formulas) (fun z e => ?_)
    have m := pz_mk (height := height) (x1 := 2) hf (fun _ => h4 c4) (by decide)
    rw [← e] at m; exact m
  refine pz_it (P := pz_MK formulas) (fun c5 => old _ (h5 c5)) (fun c5 => ?_)
  refine pz_it (P := pz_MK formulas) (fun c6 => old _ (h6 (Or.inl c6))) (fun c6 => ?_)
  refine pz_it (P := pz_MK formulas) (fun c7 => ?_) (fun c7 => ?_)
  · refine pz_bi (P := pz_MK formulas) (fun z e => ?_)
    have m := pz_mk (height := height) (x1 := 3) hf (fun _ => h7 (Or.inl c7)) (by decide)
    rw [← e] at m; exact m
  refine pz_it (P := pz_MK formulas) (fun c8 => ?_) (fun c8 => ?_)
  · refine pz_bi (P := pz_MK formulas) (fun z e => ?_)
    have m := pz_mk (height := height) (x1 := 3) hf (fun _ => ⟨(h7 (Or.inr c8)).2, (h7 (Or.inr c8)).1⟩) (by decide)
    rw [← e] at m; exact m
  refine pz_it (P := pz_MK formulas) (fun c9 => ?_) (fun c9 => ?_)
  · refine pz_bi (P := pz_MK formulas) (fun z e => ?_)
    exact old _ (by rw [e]; exact h9 c9)
  refine pz_it (P := pz_MK formulas) (fun c10 => ?_) (fun c10 => ?_)
  · refine pz_bi (P := pz_MK formulas) (fun z e => ?_)
    refine pz_bi (P := pz_MK formulas) (fun w ew => ?_)
    have m := pz_mk (height := height) (x1 := 4) (x3 := z) hf (fun _ => ⟨(h10 c10).1, by rw [e]; exact (h10 c10).2⟩) (by decide)
    rw [← ew] at m; exact m
  refine pz_it (P := pz_MK formulas) (fun c11 => old _ (h6 (Or.inr c11))) (fun c11 => ?_)
  exact pz_it (P := pz_MK formulas) (fun c13 => old _ (h13 c13)) (fun c13 => old _ (hd c3 c4 c5 c6 c7 c8 c9 c10 c11 c13))
end PzHd
/-! what the forms say -/
section PzFm
variable {kind left right : Nat → Int32} {x2 g z : Int32}
theorem pz_BFk (e : z = f_X4_badForm kind left right x2 g) (h0 : z = 0) : (x2 = 5 ∨ x2 = 6 → kind g.toNatClampNeg = 2) ∧ (x2 = 9 → kind g.toNatClampNeg = 3) ∧ (x2 = 11 → kind g.toNatClampNeg = 4) ∧ (x2 = 12 → kind g.toNatClampNeg = 0) ∧ (x2 = 13 → kind g.toNatClampNeg = 4 ∧ kind (right g.toNatClampNeg).toNatClampNeg = 0 ∧ kind (left g.toNatClampNeg).toNatClampNeg = 4 ∧ kind (right (left g.toNatClampNeg).toNatClampNeg).toNatClampNeg = 0) := by
  rw [h0] at e
  have h := e.symm
  unfold f_X4_badForm at h
  have one : ∀ v x : Int32, pz_bnd (f_X4_isKind kind x v) (fun z_2 => if z_2 = 0 then (4 : Int32) else 0) = 0 → kind x.toNatClampNeg = v := by
    intro v x hh
    rw [pz_be rfl] at hh
    by_cases c : f_X4_isKind kind x v = 0
    · rw [if_pos c] at hh; exact absurd hh (by decide)
    · exact pz_isK rfl c
  refine ⟨fun c => ?_, fun c => ?_, fun c => ?_, fun c => ?_, fun c => ?_⟩
  · rcases c with c | c <;> rw [c] at h
    · rw [if_pos rfl] at h; exact one _ _ h
    · rw [if_neg (by decide), if_pos rfl] at h; exact one _ _ h
  · rw [c, if_neg (by decide), if_neg (by decide), if_pos rfl] at h; exact one _ _ h
  · rw [c, if_neg (by decide), if_neg (by decide), if_neg (by decide), if_pos rfl] at h; exact one _ _ h
  · rw [c, if_neg (by decide), if_neg (by decide), if_neg (by decide), if_neg (by decide), if_pos rfl] at h; exact one _ _ h
  · rw [c, if_neg (by decide), if_neg (by decide), if_neg (by decide), if_neg (by decide), if_neg (by decide), if_pos rfl, pz_be rfl] at h
    by_cases c1 : f_X4_isKind kind g 4 = 0
    · rw [if_pos c1] at h; exact absurd h (by decide)
    rw [if_neg c1, pz_be rfl] at h
    by_cases c2 : f_X4_isKind kind (right g.toNatClampNeg) 0 = 0
    · rw [if_pos c2] at h; exact absurd h (by decide)
    rw [if_neg c2, pz_be rfl] at h
    by_cases c3 : f_X4_isKind kind (left g.toNatClampNeg) 4 = 0
    · rw [if_pos c3] at h; exact absurd h (by decide)
    rw [if_neg c3] at h
    exact ⟨pz_isK rfl c1, pz_isK rfl c2, pz_isK rfl c3, one _ _ h⟩
end PzFm

-- == X4_force
def f_X4_force (heads : Nat → Int32) (boxOf : Nat → Int32) (shutBy : Nat → Int32) (around : Nat → Int32) (x1 : Int32) : Int32 := pz_bnd (f_X4_isLine x1) (fun z_1 => if z_1 = 0 then ((-3)) else (pz_bnd (f_X4_inForce heads boxOf shutBy around x1) (fun z_3 => if z_3 = 0 then (0) else (1))))
set_option maxHeartbeats 4000000 in
set_option maxRecDepth 100000 in
theorem c_X4_force (l : Launch) (D : va_G) (q : Nat → Nat) (k : Nat → ClassId) (formulas : Int32) (kind : Nat → Int32) (left : Nat → Int32) (right : Nat → Int32) (height : Nat → Int32) (laid : Nat → Int32) (rules : Nat → Int32) (ps : Nat → Int32) (qs : Nat → Int32) (rs : Nat → Int32) (fs : Nat → Int32) (checked : Int32) (stopped : Int32) (reason : Int32) (made : Int32) (opened : Int32) (ruleThen : Nat → Int32) (heads : Nat → Int32) (boxOf : Nat → Int32) (shutBy : Nat → Int32) (around : Nat → Int32) (inner : Int32) (truth : Nat → Int32) (turned : Nat → Int32) (pile : Nat → Int32) (x1 : Int32) (har : pz_ar ruleThen around) (hhd : pz_hd formulas ruleThen heads boxOf) : Met l yX4_force wsX4_force ({ frames := 2, cells := 0, slots := 0, locals := 43 }) (va_Pc [.ref (q 0), .int (x1)] (fun U => va_P D vwCl (pz_M q k formulas kind left right height laid rules ps qs rs fs checked stopped reason made opened ruleThen heads boxOf shutBy around inner truth turned pile) U.heap ∧ pz_KM D q k U)) (va_Qi (fun r (_ : Unit) => r = (f_X4_force heads boxOf shutBy around x1)) (fun _ t => va_P D vwCl (pz_M q k formulas kind left right height laid rules ps qs rs fs checked stopped reason made opened ruleThen heads boxOf shutBy around inner truth turned pile) t.heap) (pz_A 19 q)) 0 0 (pz_A 19 q) := by
  refine Met.ofW (cc := cX4_force) (maxL := 2) (ret := (some .int)) (by decide) rfl ?_
  intro p e s m args below meth c s₁ B hml hv
  obtain ⟨rfl, hP, hKX⟩ := hv
  have hx := B.exec
  have hb := B.bytes
  have hr := B.returns
  have hts := atoms_spec (ws := wsX4_force) B.pre
  have hown : s.vm.findClass RX4 = some m.cls := findClass_of_methodNamed B.named
  have hlocks := B.notSynchronized
  have hC : pz_C p s m ([.ref (q 0), .int (x1)] : List Value).toArray meth c cX4_force wsX4_force RX4 2 (some .int) := ⟨hx, hb, hml, hown, hts, hr, hlocks⟩
  have hK := hKX.1
  have hS : va_S (pz_A 19 q) s.heap s.heap [] := va_S.rf
  have hl := lv_entry [.ref (q 0), .int (x1)] (n := 2) (Nat.le_of_ble_eq_true rfl)
  rw [lg_entry_eq]
  generalize (lg_sl [.ref (q 0), .int (x1)] ++ List.replicate (2 - (lg_sl [.ref (q 0), .int (x1)]).length) Slot.unset).toArray = ls at hl ⊢
  have hl : lv_has ls 2 [(0, .ref (q 0)), (1, .int (x1))] := hl
  generalize hF : f_X4_force heads boxOf shutBy around x1 = G
  replace hF := hF.symm
  unfold f_X4_force at hF
  refine lv_iload_n hx hb dX4_force_0 rfl (lv_at hl 1 rfl) ?_
  refine pz_Si (As := [.int (x1)]) (rest := []) ⟨hx, hb, hml, hown, hts⟩ (c_X4_isLine l x1) (va_cwS 1 hts gX4_force_X4_isLine rfl rfl rfl hdS_X4_isLine ⟨Nat.le_of_ble_eq_true rfl, Nat.le_of_ble_eq_true rfl⟩) hP hS rfl hl.1 rfl (Nat.le_of_ble_eq_true rfl) dX4_force_1 ⟨Nat.zero_le _, Nat.zero_le _⟩ (fun r_1 H locs hF_1 hP hS => ?_)
  have hF := hF.trans (pz_be hF_1)
  refine lv_if_ne (tgt := 12) hx hb dX4_force_4 (by decide) (fun c_2 => ?_) (fun c_2 => ?_)
  · have hF := hF.trans (if_neg c_2)
    refine lv_aload_n hx hb dX4_force_12 rfl (lv_at hl 0 rfl) ?_
    refine lv_iload_n hx hb dX4_force_13 rfl (lv_at hl 1 rfl) ?_
    refine pz_Vi (As := [.int (x1)]) (rest := []) ⟨hx, hb, hml, hown, hts⟩ (c_X4_inForce l D q k formulas kind left right height laid rules ps qs rs fs checked stopped reason made opened ruleThen heads boxOf shutBy around inner truth turned pile x1 (pz_lineM ‹_› ‹_›) har hhd) (cwV 1 hts gX4_force_X4_inForce rfl rfl rfl hdV_X4_inForce ⟨Nat.le_of_ble_eq_true rfl, Nat.le_of_ble_eq_true rfl⟩) pz_KM.call hKX.go (va_recv hK hP (ci := 4) (q0 := 0) rfl rfl) hP hS rfl hl.1 rfl (Nat.le_of_ble_eq_true rfl) dX4_force_14 ⟨Nat.zero_le _, Nat.zero_le _⟩ (fun r_3 u_3 H locs hF_3 hP hS => ?_)
    have hF := hF.trans (pz_be hF_3)
    refine lv_if_eq (tgt := 24) hx hb dX4_force_17 (by decide) (fun c_4 => ?_) (fun c_4 => ?_)
    · have hF := hF.trans (if_pos c_4)
      refine lv_iconst (v := 0) hx hb dX4_force_24 (by decide) ?_
      exact W.iret (v := 0) hx hb hr (fun t ht hW => ⟨⟨0, (), rfl, hF.symm, pz_hp ht hP⟩, hS.F ht⟩) hS.2.2 dX4_force_25 hlocks
    · have hF := hF.trans (if_neg c_4)
      refine lv_iconst (v := 1) hx hb dX4_force_20 (by decide) ?_
      refine lv_goto (tgt := 25) hx hb dX4_force_21 (by decide) ?_
      exact W.iret (v := 1) hx hb hr (fun t ht hW => ⟨⟨1, (), rfl, hF.symm, pz_hp ht hP⟩, hS.F ht⟩) hS.2.2 dX4_force_25 hlocks
  · have hF := hF.trans (if_pos c_2)
    refine lv_bipush (v := (-3)) hx hb dX4_force_7 (by decide) ?_
    refine lv_goto (tgt := 25) hx hb dX4_force_9 (by decide) ?_
    exact W.iret (v := (-3)) hx hb hr (fun t ht hW => ⟨⟨(-3), (), rfl, hF.symm, pz_hp ht hP⟩, hS.F ht⟩) hS.2.2 dX4_force_25 hlocks

-- == X4_liesIn
def F_X4_liesIn_7 : Nat → (Nat → Int32) → (Nat → Int32) → (Int32) → (Int32) → (Int32) → Int32
  | 0, boxOf, around, x1, x2, x3 => 0
  | n + 1, boxOf, around, x1, x2, x3 => if x3 = (-1) then (if x3 = (-1) then (0) else (1)) else (if x3 = x2 then (if x3 = (-1) then (0) else (1)) else (F_X4_liesIn_7 n boxOf around x1 x2 (around (x3).toNatClampNeg)))
def f_X4_liesIn (boxOf : Nat → Int32) (around : Nat → Int32) (x1 : Int32) (x2 : Int32) : Int32 := F_X4_liesIn_7 62 boxOf around x1 x2 (boxOf (x1).toNatClampNeg)
theorem fl_X4_liesIn_47 : Cond.fieldLink RX4 47 "BoxProofsModel" "boxOf" "[I" ∈ wsX4_liesIn := by decide +kernel
theorem fl_X4_liesIn_53 : Cond.fieldLink RX4 53 "BoxProofsModel" "around" "[I" ∈ wsX4_liesIn := by decide +kernel
theorem in_X4_liesIn_X4 : ∀ w ∈ wsX40, w ∈ wsX4_liesIn := by decide +kernel
set_option maxHeartbeats 4000000 in
set_option maxRecDepth 100000 in
theorem k_X4_liesIn_7 {p : Program} {l : Launch} {e : Env} {s : State} {m : MethodId} {args : Array Value} {below : List Frame} {meth : Method} {c : Code} {D : va_G} {q : Nat → Nat} {k : Nat → ClassId} (hC : pz_C p s m args meth c cX4_liesIn wsX4_liesIn RX4 4 (some .boolean)) (hKX : pz_KM D q k s) (formulas : Int32) (kind : Nat → Int32) (left : Nat → Int32) (right : Nat → Int32) (height : Nat → Int32) (laid : Nat → Int32) (rules : Nat → Int32) (ps : Nat → Int32) (qs : Nat → Int32) (rs : Nat → Int32) (fs : Nat → Int32) (checked : Int32) (stopped : Int32) (reason : Int32) (made : Int32) (opened : Int32) (ruleThen : Nat → Int32) (heads : Nat → Int32) (boxOf : Nat → Int32) (shutBy : Nat → Int32) (around : Nat → Int32) (inner : Int32) (truth : Nat → Int32) (turned : Nat → Int32) (pile : Nat → Int32) {G : Int32} :
    ∀ (n : Nat) (x1 : Int32) (x2 : Int32) (x3 : Int32) (hbx : pz_bx ruleThen x3) (hn : x3.toInt + 2 ≤ n) (hk : vp_in x1 60) (har : pz_ar ruleThen around) (hb1 : pz_bx ruleThen (boxOf x1.toNatClampNeg)) (H : Heap) (locs : List Loc) (ls : Array Slot), G = F_X4_liesIn_7 n boxOf around x1 x2 x3 → va_P D vwCl (pz_M q k formulas kind left right height laid rules ps qs rs fs checked stopped reason made opened ruleThen heads boxOf shutBy around inner truth turned pile) H → va_S (pz_A 19 q) s.heap H locs → lv_has ls 4 [(0, .ref (q 0)), (1, .int (x1)), (2, .int (x2)), (3, .int (x3))] → W p l e (headSpec wsX4_liesIn { frames := 0, cells := 0, slots := 0, locals := 0 }).room s m args below meth c H locs 0 0 (MQ below (va_Qi (fun r (_ : Unit) => r = G) (fun _ t => va_P D vwCl (pz_M q k formulas kind left right height laid rules ps qs rs fs checked stopped reason made opened ruleThen heads boxOf shutBy around inner truth turned pile) t.heap) (pz_A 19 q)) args s 0 0 (pz_A 19 q)) (F0 m 7 ls []) := by
  obtain ⟨hx, hb, hml, hown, hts, hr, hlocks⟩ := hC
  have hC : pz_C p s m args meth c cX4_liesIn wsX4_liesIn RX4 4 (some .boolean) := ⟨hx, hb, hml, hown, hts, hr, hlocks⟩
  have hK := hKX.1
  intro n
  induction n with
  | zero =>
    intro x1 x2 x3 hbx hn hk har hb1 H locs ls hF hP hS hl
    exact absurd hn (by have a := pz_bxl hbx; omega)
  | succ n ih =>
    intro x1 x2 x3 hbx hn hk har hb1 H locs ls hF hP hS hl
    unfold F_X4_liesIn_7 at hF
    refine lv_iload_n hx hb dX4_liesIn_7 rfl (lv_at hl 3 rfl) ?_
    refine lv_iconst (v := (-1)) hx hb dX4_liesIn_8 (by decide) ?_
    refine lv_icmp_eq (tgt := 27) hx hb dX4_liesIn_9 (by decide) (fun c_1 => ?_) (fun c_1 => ?_)
    · have hF := hF.trans (if_pos c_1)
      refine lv_iload_n hx hb dX4_liesIn_27 rfl (lv_at hl 3 rfl) ?_
      refine lv_iconst (v := (-1)) hx hb dX4_liesIn_28 (by decide) ?_
      refine lv_icmp_eq (tgt := 36) hx hb dX4_liesIn_29 (by decide) (fun c_2 => ?_) (fun c_2 => ?_)
      · have hF := hF.trans (if_pos c_2)
        refine lv_iconst (v := 0) hx hb dX4_liesIn_36 (by decide) ?_
        exact W.zret (v := 0) hx hb hr rfl (fun t ht hW => ⟨⟨0, (), rfl, hF.symm, pz_hp ht hP⟩, hS.F ht⟩) hS.2.2 dX4_liesIn_37 hlocks
      · have hF := hF.trans (if_neg c_2)
        refine lv_iconst (v := 1) hx hb dX4_liesIn_32 (by decide) ?_
        refine lv_goto (tgt := 37) hx hb dX4_liesIn_33 (by decide) ?_
        exact W.zret (v := 1) hx hb hr rfl (fun t ht hW => ⟨⟨1, (), rfl, hF.symm, pz_hp ht hP⟩, hS.F ht⟩) hS.2.2 dX4_liesIn_37 hlocks
    · have hF := hF.trans (if_neg c_1)
      refine lv_iload_n hx hb dX4_liesIn_12 rfl (lv_at hl 3 rfl) ?_
      refine lv_iload_n hx hb dX4_liesIn_13 rfl (lv_at hl 2 rfl) ?_
      refine lv_icmp_eq (tgt := 27) hx hb dX4_liesIn_14 (by decide) (fun c_3 => ?_) (fun c_3 => ?_)
      · have hF := hF.trans (if_pos c_3)
        refine lv_iload_n hx hb dX4_liesIn_27 rfl (lv_at hl 3 rfl) ?_
        refine lv_iconst (v := (-1)) hx hb dX4_liesIn_28 (by decide) ?_
        refine lv_icmp_eq (tgt := 36) hx hb dX4_liesIn_29 (by decide) (fun c_4 => ?_) (fun c_4 => ?_)
        · have hF := hF.trans (if_pos c_4)
          refine lv_iconst (v := 0) hx hb dX4_liesIn_36 (by decide) ?_
          exact W.zret (v := 0) hx hb hr rfl (fun t ht hW => ⟨⟨0, (), rfl, hF.symm, pz_hp ht hP⟩, hS.F ht⟩) hS.2.2 dX4_liesIn_37 hlocks
        · have hF := hF.trans (if_neg c_4)
          refine lv_iconst (v := 1) hx hb dX4_liesIn_32 (by decide) ?_
          refine lv_goto (tgt := 37) hx hb dX4_liesIn_33 (by decide) ?_
          exact W.zret (v := 1) hx hb hr rfl (fun t ht hW => ⟨⟨1, (), rfl, hF.symm, pz_hp ht hP⟩, hS.F ht⟩) hS.2.2 dX4_liesIn_37 hlocks
      · have hF := hF.trans (if_neg c_3)
        refine lv_aload_n hx hb dX4_liesIn_17 rfl (lv_at hl 0 rfl) ?_
        refine va_get (D := D) (ci := 4) (v := .ref (q 15)) (C := RX4) (T := TX4) (N := 25) hx hb hts in_X4_liesIn_X4 hown hK hP 0 rfl rfl 20 (by decide) (hts _ fl_X4_liesIn_53) (fun _ h9 => h9) rfl dX4_liesIn_18 ?_
        refine lv_iload_n hx hb dX4_liesIn_21 rfl (lv_at hl 3 rfl) ?_
        have hi_5 : vp_in x3 60 := pz_bxi hbx ‹_›
        refine va_iald hx hb hK hP 15 0 rfl rfl hi_5 dX4_liesIn_22 ?_
        refine lv_istore_n (lv' := [(3, .int ((around (x3).toNatClampNeg))), (0, .ref (q 0)), (1, .int (x1)), (2, .int (x2))]) hx hb dX4_liesIn_23 rfl hl (by decide) rfl (fun ls hl => ?_)
        refine lv_goto (tgt := 7) hx hb dX4_liesIn_24 (by decide) ?_
        exact ih x1 x2 (around (x3).toNatClampNeg) (pz_arb har hbx ‹_›).1 (by have a := (pz_arb har hbx ‹_›).2; omega) hk har hb1 _ _ _ hF hP hS (lv_sub hl [1, 2, 3, 0] rfl)
set_option maxHeartbeats 4000000 in
set_option maxRecDepth 100000 in
theorem c_X4_liesIn (l : Launch) (D : va_G) (q : Nat → Nat) (k : Nat → ClassId) (formulas : Int32) (kind : Nat → Int32) (left : Nat → Int32) (right : Nat → Int32) (height : Nat → Int32) (laid : Nat → Int32) (rules : Nat → Int32) (ps : Nat → Int32) (qs : Nat → Int32) (rs : Nat → Int32) (fs : Nat → Int32) (checked : Int32) (stopped : Int32) (reason : Int32) (made : Int32) (opened : Int32) (ruleThen : Nat → Int32) (heads : Nat → Int32) (boxOf : Nat → Int32) (shutBy : Nat → Int32) (around : Nat → Int32) (inner : Int32) (truth : Nat → Int32) (turned : Nat → Int32) (pile : Nat → Int32) (x1 : Int32) (x2 : Int32) (hk : vp_in x1 60) (har : pz_ar ruleThen around) (hb1 : pz_bx ruleThen (boxOf x1.toNatClampNeg)) : Met l yX4_liesIn wsX4_liesIn ({ frames := 0, cells := 0, slots := 0, locals := 0 }) (va_Pc [.ref (q 0), .int (x1), .int (x2)] (fun U => va_P D vwCl (pz_M q k formulas kind left right height laid rules ps qs rs fs checked stopped reason made opened ruleThen heads boxOf shutBy around inner truth turned pile) U.heap ∧ pz_KM D q k U)) (va_Qi (fun r (_ : Unit) => r = (f_X4_liesIn boxOf around x1 x2)) (fun _ t => va_P D vwCl (pz_M q k formulas kind left right height laid rules ps qs rs fs checked stopped reason made opened ruleThen heads boxOf shutBy around inner truth turned pile) t.heap) (pz_A 19 q)) 0 0 (pz_A 19 q) := by
  refine Met.ofW (cc := cX4_liesIn) (maxL := 4) (ret := (some .boolean)) (by decide) rfl ?_
  intro p e s m args below meth c s₁ B hml hv
  obtain ⟨rfl, hP, hKX⟩ := hv
  have hx := B.exec
  have hb := B.bytes
  have hr := B.returns
  have hts := atoms_spec (ws := wsX4_liesIn) B.pre
  have hown : s.vm.findClass RX4 = some m.cls := findClass_of_methodNamed B.named
  have hlocks := B.notSynchronized
  have hC : pz_C p s m ([.ref (q 0), .int (x1), .int (x2)] : List Value).toArray meth c cX4_liesIn wsX4_liesIn RX4 4 (some .boolean) := ⟨hx, hb, hml, hown, hts, hr, hlocks⟩
  have hK := hKX.1
  have hS : va_S (pz_A 19 q) s.heap s.heap [] := va_S.rf
  have hl := lv_entry [.ref (q 0), .int (x1), .int (x2)] (n := 4) (Nat.le_of_ble_eq_true rfl)
  rw [lg_entry_eq]
  generalize (lg_sl [.ref (q 0), .int (x1), .int (x2)] ++ List.replicate (4 - (lg_sl [.ref (q 0), .int (x1), .int (x2)]).length) Slot.unset).toArray = ls at hl ⊢
  have hl : lv_has ls 4 [(0, .ref (q 0)), (1, .int (x1)), (2, .int (x2))] := hl
  generalize hF : f_X4_liesIn boxOf around x1 x2 = G
  replace hF := hF.symm
  unfold f_X4_liesIn at hF
  refine lv_aload_n hx hb dX4_liesIn_0 rfl (lv_at hl 0 rfl) ?_
  refine va_get (D := D) (ci := 4) (v := .ref (q 13)) (C := RX4) (T := TX4) (N := 25) hx hb hts in_X4_liesIn_X4 hown hK hP 0 rfl rfl 18 (by decide) (hts _ fl_X4_liesIn_47) (fun _ h9 => h9) rfl dX4_liesIn_1 ?_
  refine lv_iload_n hx hb dX4_liesIn_4 rfl (lv_at hl 1 rfl) ?_
  have hi_6 : vp_in x1 60 := hk
  refine va_iald hx hb hK hP 13 0 rfl rfl hi_6 dX4_liesIn_5 ?_
  refine lv_istore_n (lv' := [(3, .int ((boxOf (x1).toNatClampNeg))), (0, .ref (q 0)), (1, .int (x1)), (2, .int (x2))]) hx hb dX4_liesIn_6 rfl hl (by decide) rfl (fun ls hl => ?_)
  exact k_X4_liesIn_7 hC hKX formulas kind left right height laid rules ps qs rs fs checked stopped reason made opened ruleThen heads boxOf shutBy around inner truth turned pile 62 x1 x2 (boxOf (x1).toNatClampNeg) hb1 (by have a := pz_bxl hb1; omega) hk har hb1 _ _ _ hF hP hS (lv_sub hl [1, 2, 3, 0] rfl)

-- == X4_hangsOn
def f_X4_hangsOn (ruleThen : Nat → Int32) (boxOf : Nat → Int32) (around : Nat → Int32) (x1 : Int32) (x2 : Int32) : Int32 := if (ruleThen (x2).toNatClampNeg) = 0 then (if x2 ≤ x1 then (1) else (if (ruleThen (x2).toNatClampNeg) = 1 then (pz_bnd (f_X4_liesIn boxOf around x1 x2) (fun z_10 => if z_10 = 0 then (0) else (1))) else (0))) else (if (ruleThen (x2).toNatClampNeg) = 1 then (pz_bnd (f_X4_liesIn boxOf around x1 x2) (fun z_5 => if z_5 = 0 then (0) else (1))) else (0))
theorem fl_X4_hangsOn_41 : Cond.fieldLink RX4 41 "BoxProofsModel" "ruleThen" "[I" ∈ wsX4_hangsOn := by decide +kernel
theorem hdV_X4_liesIn : yX4_liesIn.cls = RX4 ∧ yX4_liesIn.cls ≠ "java/lang/invoke/MethodHandle" ∧ yX4_liesIn.cls ≠ "java/lang/invoke/VarHandle" ∧ (parseMethodDescriptor yX4_liesIn.desc).map (fun d => d.parameters.length) = some 2 := by decide +kernel
theorem in_X4_hangsOn_X4 : ∀ w ∈ wsX40, w ∈ wsX4_hangsOn := by decide +kernel
set_option maxHeartbeats 4000000 in
set_option maxRecDepth 100000 in
theorem c_X4_hangsOn (l : Launch) (D : va_G) (q : Nat → Nat) (k : Nat → ClassId) (formulas : Int32) (kind : Nat → Int32) (left : Nat → Int32) (right : Nat → Int32) (height : Nat → Int32) (laid : Nat → Int32) (rules : Nat → Int32) (ps : Nat → Int32) (qs : Nat → Int32) (rs : Nat → Int32) (fs : Nat → Int32) (checked : Int32) (stopped : Int32) (reason : Int32) (made : Int32) (opened : Int32) (ruleThen : Nat → Int32) (heads : Nat → Int32) (boxOf : Nat → Int32) (shutBy : Nat → Int32) (around : Nat → Int32) (inner : Int32) (truth : Nat → Int32) (turned : Nat → Int32) (pile : Nat → Int32) (x1 : Int32) (x2 : Int32) (hk : vp_in x1 60) (hj : vp_in x2 60) (har : pz_ar ruleThen around) (hb1 : pz_bx ruleThen (boxOf x1.toNatClampNeg)) : Met l yX4_hangsOn wsX4_hangsOn ({ frames := 1, cells := 0, slots := 0, locals := 23 }) (va_Pc [.ref (q 0), .int (x1), .int (x2)] (fun U => va_P D vwCl (pz_M q k formulas kind left right height laid rules ps qs rs fs checked stopped reason made opened ruleThen heads boxOf shutBy around inner truth turned pile) U.heap ∧ pz_KM D q k U)) (va_Qi (fun r (_ : Unit) => r = (f_X4_hangsOn ruleThen boxOf around x1 x2)) (fun _ t => va_P D vwCl (pz_M q k formulas kind left right height laid rules ps qs rs fs checked stopped reason made opened ruleThen heads boxOf shutBy around inner truth turned pile) t.heap) (pz_A 19 q)) 0 0 (pz_A 19 q) := by
  refine Met.ofW (cc := cX4_hangsOn) (maxL := 3) (ret := (some .boolean)) (by decide) rfl ?_
  intro p e s m args below meth c s₁ B hml hv
  obtain ⟨rfl, hP, hKX⟩ := hv
  have hx := B.exec
  have hb := B.bytes
  have hr := B.returns
  have hts := atoms_spec (ws := wsX4_hangsOn) B.pre
  have hown : s.vm.findClass RX4 = some m.cls := findClass_of_methodNamed B.named
  have hlocks := B.notSynchronized
  have hC : pz_C p s m ([.ref (q 0), .int (x1), .int (x2)] : List Value).toArray meth c cX4_hangsOn wsX4_hangsOn RX4 3 (some .boolean) := ⟨hx, hb, hml, hown, hts, hr, hlocks⟩
  have hK := hKX.1
  have hS : va_S (pz_A 19 q) s.heap s.heap [] := va_S.rf
  have hl := lv_entry [.ref (q 0), .int (x1), .int (x2)] (n := 3) (Nat.le_of_ble_eq_true rfl)
  rw [lg_entry_eq]
  generalize (lg_sl [.ref (q 0), .int (x1), .int (x2)] ++ List.replicate (3 - (lg_sl [.ref (q 0), .int (x1), .int (x2)]).length) Slot.unset).toArray = ls at hl ⊢
  have hl : lv_has ls 3 [(0, .ref (q 0)), (1, .int (x1)), (2, .int (x2))] := hl
  generalize hF : f_X4_hangsOn ruleThen boxOf around x1 x2 = G
  replace hF := hF.symm
  unfold f_X4_hangsOn at hF
  refine lv_aload_n hx hb dX4_hangsOn_0 rfl (lv_at hl 0 rfl) ?_
  refine va_get (D := D) (ci := 4) (v := .ref (q 11)) (C := RX4) (T := TX4) (N := 25) hx hb hts in_X4_hangsOn_X4 hown hK hP 0 rfl rfl 16 (by decide) (hts _ fl_X4_hangsOn_41) (fun _ h9 => h9) rfl dX4_hangsOn_1 ?_
  refine lv_iload_n hx hb dX4_hangsOn_4 rfl (lv_at hl 2 rfl) ?_
  have hi_1 : vp_in x2 60 := hj
  refine va_iald hx hb hK hP 11 0 rfl rfl hi_1 dX4_hangsOn_5 ?_
  refine lv_if_ne (tgt := 14) hx hb dX4_hangsOn_6 (by decide) (fun c_2 => ?_) (fun c_2 => ?_)
  · have hF := hF.trans (if_neg c_2)
    refine lv_aload_n hx hb dX4_hangsOn_14 rfl (lv_at hl 0 rfl) ?_
    refine va_get (D := D) (ci := 4) (v := .ref (q 11)) (C := RX4) (T := TX4) (N := 25) hx hb hts in_X4_hangsOn_X4 hown hK hP 0 rfl rfl 16 (by decide) (hts _ fl_X4_hangsOn_41) (fun _ h9 => h9) rfl dX4_hangsOn_15 ?_
    refine lv_iload_n hx hb dX4_hangsOn_18 rfl (lv_at hl 2 rfl) ?_
    have hi_3 : vp_in x2 60 := hj
    refine va_iald hx hb hK hP 11 0 rfl rfl hi_3 dX4_hangsOn_19 ?_
    refine lv_iconst (v := 1) hx hb dX4_hangsOn_20 (by decide) ?_
    refine lv_icmp_ne (tgt := 37) hx hb dX4_hangsOn_21 (by decide) (fun c_4 => ?_) (fun c_4 => ?_)
    · have hF := hF.trans (if_neg c_4)
      refine lv_iconst (v := 0) hx hb dX4_hangsOn_37 (by decide) ?_
      exact W.zret (v := 0) hx hb hr rfl (fun t ht hW => ⟨⟨0, (), rfl, hF.symm, pz_hp ht hP⟩, hS.F ht⟩) hS.2.2 dX4_hangsOn_38 hlocks
    · have hF := hF.trans (if_pos c_4)
      refine lv_aload_n hx hb dX4_hangsOn_24 rfl (lv_at hl 0 rfl) ?_
      refine lv_iload_n hx hb dX4_hangsOn_25 rfl (lv_at hl 1 rfl) ?_
      refine lv_iload_n hx hb dX4_hangsOn_26 rfl (lv_at hl 2 rfl) ?_
      refine pz_Vi (As := [.int (x1), .int (x2)]) (rest := []) ⟨hx, hb, hml, hown, hts⟩ (c_X4_liesIn l D q k formulas kind left right height laid rules ps qs rs fs checked stopped reason made opened ruleThen heads boxOf shutBy around inner truth turned pile x1 x2 hk har hb1) (cwV 2 hts gX4_hangsOn_X4_liesIn rfl rfl rfl hdV_X4_liesIn ⟨Nat.le_of_ble_eq_true rfl, Nat.le_of_ble_eq_true rfl⟩) pz_KM.call hKX.go (va_recv hK hP (ci := 4) (q0 := 0) rfl rfl) hP hS rfl hl.1 rfl (Nat.le_of_ble_eq_true rfl) dX4_hangsOn_27 ⟨Nat.zero_le _, Nat.zero_le _⟩ (fun r_5 u_5 H locs hF_5 hP hS => ?_)
      have hF := hF.trans (pz_be hF_5)
      refine lv_if_eq (tgt := 37) hx hb dX4_hangsOn_30 (by decide) (fun c_6 => ?_) (fun c_6 => ?_)
      · have hF := hF.trans (if_pos c_6)
        refine lv_iconst (v := 0) hx hb dX4_hangsOn_37 (by decide) ?_
        exact W.zret (v := 0) hx hb hr rfl (fun t ht hW => ⟨⟨0, (), rfl, hF.symm, pz_hp ht hP⟩, hS.F ht⟩) hS.2.2 dX4_hangsOn_38 hlocks
      · have hF := hF.trans (if_neg c_6)
        refine lv_iconst (v := 1) hx hb dX4_hangsOn_33 (by decide) ?_
        refine lv_goto (tgt := 38) hx hb dX4_hangsOn_34 (by decide) ?_
        exact W.zret (v := 1) hx hb hr rfl (fun t ht hW => ⟨⟨1, (), rfl, hF.symm, pz_hp ht hP⟩, hS.F ht⟩) hS.2.2 dX4_hangsOn_38 hlocks
  · have hF := hF.trans (if_pos c_2)
    refine lv_iload_n hx hb dX4_hangsOn_9 rfl (lv_at hl 2 rfl) ?_
    refine lv_iload_n hx hb dX4_hangsOn_10 rfl (lv_at hl 1 rfl) ?_
    refine lv_icmp_le (tgt := 33) hx hb dX4_hangsOn_11 (by decide) (fun c_7 => ?_) (fun c_7 => ?_)
    · have hF := hF.trans (if_pos c_7)
      refine lv_iconst (v := 1) hx hb dX4_hangsOn_33 (by decide) ?_
      refine lv_goto (tgt := 38) hx hb dX4_hangsOn_34 (by decide) ?_
      exact W.zret (v := 1) hx hb hr rfl (fun t ht hW => ⟨⟨1, (), rfl, hF.symm, pz_hp ht hP⟩, hS.F ht⟩) hS.2.2 dX4_hangsOn_38 hlocks
    · have hF := hF.trans (if_neg c_7)
      refine lv_aload_n hx hb dX4_hangsOn_14 rfl (lv_at hl 0 rfl) ?_
      refine va_get (D := D) (ci := 4) (v := .ref (q 11)) (C := RX4) (T := TX4) (N := 25) hx hb hts in_X4_hangsOn_X4 hown hK hP 0 rfl rfl 16 (by decide) (hts _ fl_X4_hangsOn_41) (fun _ h9 => h9) rfl dX4_hangsOn_15 ?_
      refine lv_iload_n hx hb dX4_hangsOn_18 rfl (lv_at hl 2 rfl) ?_
      have hi_8 : vp_in x2 60 := hj
      refine va_iald hx hb hK hP 11 0 rfl rfl hi_8 dX4_hangsOn_19 ?_
      refine lv_iconst (v := 1) hx hb dX4_hangsOn_20 (by decide) ?_
      refine lv_icmp_ne (tgt := 37) hx hb dX4_hangsOn_21 (by decide) (fun c_9 => ?_) (fun c_9 => ?_)
      · have hF := hF.trans (if_neg c_9)
        refine lv_iconst (v := 0) hx hb dX4_hangsOn_37 (by decide) ?_
        exact W.zret (v := 0) hx hb hr rfl (fun t ht hW => ⟨⟨0, (), rfl, hF.symm, pz_hp ht hP⟩, hS.F ht⟩) hS.2.2 dX4_hangsOn_38 hlocks
      · have hF := hF.trans (if_pos c_9)
        refine lv_aload_n hx hb dX4_hangsOn_24 rfl (lv_at hl 0 rfl) ?_
        refine lv_iload_n hx hb dX4_hangsOn_25 rfl (lv_at hl 1 rfl) ?_
        refine lv_iload_n hx hb dX4_hangsOn_26 rfl (lv_at hl 2 rfl) ?_
        refine pz_Vi (As := [.int (x1), .int (x2)]) (rest := []) ⟨hx, hb, hml, hown, hts⟩ (c_X4_liesIn l D q k formulas kind left right height laid rules ps qs rs fs checked stopped reason made opened ruleThen heads boxOf shutBy around inner truth turned pile x1 x2 hk har hb1) (cwV 2 hts gX4_hangsOn_X4_liesIn rfl rfl rfl hdV_X4_liesIn ⟨Nat.le_of_ble_eq_true rfl, Nat.le_of_ble_eq_true rfl⟩) pz_KM.call hKX.go (va_recv hK hP (ci := 4) (q0 := 0) rfl rfl) hP hS rfl hl.1 rfl (Nat.le_of_ble_eq_true rfl) dX4_hangsOn_27 ⟨Nat.zero_le _, Nat.zero_le _⟩ (fun r_10 u_10 H locs hF_10 hP hS => ?_)
        have hF := hF.trans (pz_be hF_10)
        refine lv_if_eq (tgt := 37) hx hb dX4_hangsOn_30 (by decide) (fun c_11 => ?_) (fun c_11 => ?_)
        · have hF := hF.trans (if_pos c_11)
          refine lv_iconst (v := 0) hx hb dX4_hangsOn_37 (by decide) ?_
          exact W.zret (v := 0) hx hb hr rfl (fun t ht hW => ⟨⟨0, (), rfl, hF.symm, pz_hp ht hP⟩, hS.F ht⟩) hS.2.2 dX4_hangsOn_38 hlocks
        · have hF := hF.trans (if_neg c_11)
          refine lv_iconst (v := 1) hx hb dX4_hangsOn_33 (by decide) ?_
          refine lv_goto (tgt := 38) hx hb dX4_hangsOn_34 (by decide) ?_
          exact W.zret (v := 1) hx hb hr rfl (fun t ht hW => ⟨⟨1, (), rfl, hF.symm, pz_hp ht hP⟩, hS.F ht⟩) hS.2.2 dX4_hangsOn_38 hlocks

-- == X4_hangs
def F_X4_hangs_15 : Nat → (Nat → Int32) → (Nat → Int32) → (Nat → Int32) → (Nat → Int32) → (Int32) → (Int32) → (Int32) → (Int32) → Int32
  | 0, ruleThen, heads, boxOf, around, x1, x2, x3, x4 => 0
  | n + 1, ruleThen, heads, boxOf, around, x1, x2, x3, x4 => if x1 < x4 then ((-1)) else (if (heads (x1).toNatClampNeg) = (-1) then ((-1)) else (pz_bnd (f_X4_hangsOn ruleThen boxOf around x1 x4) (fun z_4 => if z_4 = 0 then (F_X4_hangs_15 n ruleThen heads boxOf around x1 x2 x3 (x4 + 1)) else (if x3 = x2 then (x4) else (F_X4_hangs_15 n ruleThen heads boxOf around x1 x2 (x3 + 1) (x4 + 1))))))
def f_X4_hangs (ruleThen : Nat → Int32) (heads : Nat → Int32) (boxOf : Nat → Int32) (around : Nat → Int32) (x1 : Int32) (x2 : Int32) : Int32 := pz_bnd (f_X4_isLine x1) (fun z_7 => if z_7 = 0 then ((-3)) else (F_X4_hangs_15 61 ruleThen heads boxOf around x1 x2 0 0))
theorem fl_X4_hangs_44 : Cond.fieldLink RX4 44 "BoxProofsModel" "heads" "[I" ∈ wsX4_hangs := by decide +kernel
theorem hdV_X4_hangsOn : yX4_hangsOn.cls = RX4 ∧ yX4_hangsOn.cls ≠ "java/lang/invoke/MethodHandle" ∧ yX4_hangsOn.cls ≠ "java/lang/invoke/VarHandle" ∧ (parseMethodDescriptor yX4_hangsOn.desc).map (fun d => d.parameters.length) = some 2 := by decide +kernel
theorem in_X4_hangs_X4 : ∀ w ∈ wsX40, w ∈ wsX4_hangs := by decide +kernel
set_option maxHeartbeats 4000000 in
set_option maxRecDepth 100000 in
theorem k_X4_hangs_15 {p : Program} {l : Launch} {e : Env} {s : State} {m : MethodId} {args : Array Value} {below : List Frame} {meth : Method} {c : Code} {D : va_G} {q : Nat → Nat} {k : Nat → ClassId} (hC : pz_C p s m args meth c cX4_hangs wsX4_hangs RX4 5 (some .int)) (hKX : pz_KM D q k s) (formulas : Int32) (kind : Nat → Int32) (left : Nat → Int32) (right : Nat → Int32) (height : Nat → Int32) (laid : Nat → Int32) (rules : Nat → Int32) (ps : Nat → Int32) (qs : Nat → Int32) (rs : Nat → Int32) (fs : Nat → Int32) (checked : Int32) (stopped : Int32) (reason : Int32) (made : Int32) (opened : Int32) (ruleThen : Nat → Int32) (heads : Nat → Int32) (boxOf : Nat → Int32) (shutBy : Nat → Int32) (around : Nat → Int32) (inner : Int32) (truth : Nat → Int32) (turned : Nat → Int32) (pile : Nat → Int32) {G : Int32} :
    ∀ (n : Nat) (x1 : Int32) (x2 : Int32) (x3 : Int32) (x4 : Int32) (hk : vp_in x1 60) (h0 : 0 ≤ x4.toInt) (h1 : x4.toInt ≤ 60) (hn : 61 ≤ x4.toInt + n) (har : pz_ar ruleThen around) (hhd : pz_hd formulas ruleThen heads boxOf) (H : Heap) (locs : List Loc) (ls : Array Slot), G = F_X4_hangs_15 n ruleThen heads boxOf around x1 x2 x3 x4 → va_P D vwCl (pz_M q k formulas kind left right height laid rules ps qs rs fs checked stopped reason made opened ruleThen heads boxOf shutBy around inner truth turned pile) H → va_S (pz_A 19 q) s.heap H locs → lv_has ls 5 [(0, .ref (q 0)), (1, .int (x1)), (2, .int (x2)), (3, .int (x3)), (4, .int (x4))] → W p l e (headSpec wsX4_hangs { frames := 2, cells := 0, slots := 0, locals := 45 }).room s m args below meth c H locs 0 0 (MQ below (va_Qi (fun r (_ : Unit) => r = G) (fun _ t => va_P D vwCl (pz_M q k formulas kind left right height laid rules ps qs rs fs checked stopped reason made opened ruleThen heads boxOf shutBy around inner truth turned pile) t.heap) (pz_A 19 q)) args s 0 0 (pz_A 19 q)) (F0 m 15 ls []) := by
  obtain ⟨hx, hb, hml, hown, hts, hr, hlocks⟩ := hC
  have hC : pz_C p s m args meth c cX4_hangs wsX4_hangs RX4 5 (some .int) := ⟨hx, hb, hml, hown, hts, hr, hlocks⟩
  have hK := hKX.1
  intro n
  induction n with
  | zero =>
    intro x1 x2 x3 x4 hk h0 h1 hn har hhd H locs ls hF hP hS hl
    exact absurd hn (by omega)
  | succ n ih =>
    intro x1 x2 x3 x4 hk h0 h1 hn har hhd H locs ls hF hP hS hl
    unfold F_X4_hangs_15 at hF
    refine lv_iload hx hb dX4_hangs_15 (lv_at hl 4 rfl) ?_
    refine lv_iload_n hx hb dX4_hangs_17 rfl (lv_at hl 1 rfl) ?_
    refine lv_icmp_gt (tgt := 58) hx hb dX4_hangs_18 (by decide) (fun c_1 => ?_) (fun c_1 => ?_)
    · have hF := hF.trans (if_pos c_1)
      refine lv_iconst (v := (-1)) hx hb dX4_hangs_58 (by decide) ?_
      exact W.iret (v := (-1)) hx hb hr (fun t ht hW => ⟨⟨(-1), (), rfl, hF.symm, pz_hp ht hP⟩, hS.F ht⟩) hS.2.2 dX4_hangs_59 hlocks
    · have hF := hF.trans (if_neg c_1)
      refine lv_aload_n hx hb dX4_hangs_21 rfl (lv_at hl 0 rfl) ?_
      refine va_get (D := D) (ci := 4) (v := .ref (q 12)) (C := RX4) (T := TX4) (N := 25) hx hb hts in_X4_hangs_X4 hown hK hP 0 rfl rfl 17 (by decide) (hts _ fl_X4_hangs_44) (fun _ h9 => h9) rfl dX4_hangs_22 ?_
      refine lv_iload_n hx hb dX4_hangs_25 rfl (lv_at hl 1 rfl) ?_
      have hi_2 : vp_in x1 60 := hk
      refine va_iald hx hb hK hP 12 0 rfl rfl hi_2 dX4_hangs_26 ?_
      refine lv_iconst (v := (-1)) hx hb dX4_hangs_27 (by decide) ?_
      refine lv_icmp_eq (tgt := 58) hx hb dX4_hangs_28 (by decide) (fun c_3 => ?_) (fun c_3 => ?_)
      · have hF := hF.trans (if_pos c_3)
        refine lv_iconst (v := (-1)) hx hb dX4_hangs_58 (by decide) ?_
        exact W.iret (v := (-1)) hx hb hr (fun t ht hW => ⟨⟨(-1), (), rfl, hF.symm, pz_hp ht hP⟩, hS.F ht⟩) hS.2.2 dX4_hangs_59 hlocks
      · have hF := hF.trans (if_neg c_3)
        refine lv_aload_n hx hb dX4_hangs_31 rfl (lv_at hl 0 rfl) ?_
        refine lv_iload_n hx hb dX4_hangs_32 rfl (lv_at hl 1 rfl) ?_
        refine lv_iload hx hb dX4_hangs_33 (lv_at hl 4 rfl) ?_
        refine pz_Vi (As := [.int (x1), .int (x4)]) (rest := []) ⟨hx, hb, hml, hown, hts⟩ (c_X4_hangsOn l D q k formulas kind left right height laid rules ps qs rs fs checked stopped reason made opened ruleThen heads boxOf shutBy around inner truth turned pile x1 x4 hk (pz_inI h0 (by have a := pz_nlt ‹¬ x1 < x4›; have b := (vp_in_iff.mp hk).2; omega)) har ((hhd _ (pz_ixN hk) ‹_›).2)) (cwV 2 hts gX4_hangs_X4_hangsOn rfl rfl rfl hdV_X4_hangsOn ⟨Nat.le_of_ble_eq_true rfl, Nat.le_of_ble_eq_true rfl⟩) pz_KM.call hKX.go (va_recv hK hP (ci := 4) (q0 := 0) rfl rfl) hP hS rfl hl.1 rfl (Nat.le_of_ble_eq_true rfl) dX4_hangs_35 ⟨Nat.zero_le _, Nat.zero_le _⟩ (fun r_4 u_4 H locs hF_4 hP hS => ?_)
        have hF := hF.trans (pz_be hF_4)
        refine lv_if_eq (tgt := 52) hx hb dX4_hangs_38 (by decide) (fun c_5 => ?_) (fun c_5 => ?_)
        · have hF := hF.trans (if_pos c_5)
          refine lv_iinc (v := (x4 + 1)) (lv' := [(4, .int ((x4 + 1))), (0, .ref (q 0)), (1, .int (x1)), (2, .int (x2)), (3, .int (x3))]) hx hb dX4_hangs_52 hl (k := 4) rfl rfl (by decide) rfl (fun ls hl => ?_)
          refine lv_goto (tgt := 15) hx hb dX4_hangs_55 (by decide) ?_
          exact ih x1 x2 x3 (x4 + 1) hk (by have a := pz_nlt ‹¬ x1 < x4›; have b := (vp_in_iff.mp hk).2; have i := pz_inc (x := x4) (by omega); omega) (by have a := pz_nlt ‹¬ x1 < x4›; have b := (vp_in_iff.mp hk).2; have i := pz_inc (x := x4) (by omega); omega) (by have a := pz_nlt ‹¬ x1 < x4›; have b := (vp_in_iff.mp hk).2; have i := pz_inc (x := x4) (by omega); omega) har hhd _ _ _ hF hP hS (lv_sub hl [1, 2, 3, 4, 0] rfl)
        · have hF := hF.trans (if_neg c_5)
          refine lv_iload_n hx hb dX4_hangs_41 rfl (lv_at hl 3 rfl) ?_
          refine lv_iload_n hx hb dX4_hangs_42 rfl (lv_at hl 2 rfl) ?_
          refine lv_icmp_ne (tgt := 49) hx hb dX4_hangs_43 (by decide) (fun c_6 => ?_) (fun c_6 => ?_)
          · have hF := hF.trans (if_neg c_6)
            refine lv_iinc (v := (x3 + 1)) (lv' := [(3, .int ((x3 + 1))), (0, .ref (q 0)), (1, .int (x1)), (2, .int (x2)), (4, .int (x4))]) hx hb dX4_hangs_49 hl (k := 3) rfl rfl (by decide) rfl (fun ls hl => ?_)
            refine lv_iinc (v := (x4 + 1)) (lv' := [(4, .int ((x4 + 1))), (3, .int ((x3 + 1))), (0, .ref (q 0)), (1, .int (x1)), (2, .int (x2))]) hx hb dX4_hangs_52 hl (k := 4) rfl rfl (by decide) rfl (fun ls hl => ?_)
            refine lv_goto (tgt := 15) hx hb dX4_hangs_55 (by decide) ?_
            exact ih x1 x2 (x3 + 1) (x4 + 1) hk (by have a := pz_nlt ‹¬ x1 < x4›; have b := (vp_in_iff.mp hk).2; have i := pz_inc (x := x4) (by omega); omega) (by have a := pz_nlt ‹¬ x1 < x4›; have b := (vp_in_iff.mp hk).2; have i := pz_inc (x := x4) (by omega); omega) (by have a := pz_nlt ‹¬ x1 < x4›; have b := (vp_in_iff.mp hk).2; have i := pz_inc (x := x4) (by omega); omega) har hhd _ _ _ hF hP hS (lv_sub hl [2, 3, 4, 1, 0] rfl)
          · have hF := hF.trans (if_pos c_6)
            refine lv_iload hx hb dX4_hangs_46 (lv_at hl 4 rfl) ?_
            exact W.iret (v := x4) hx hb hr (fun t ht hW => ⟨⟨x4, (), rfl, hF.symm, pz_hp ht hP⟩, hS.F ht⟩) hS.2.2 dX4_hangs_48 hlocks
set_option maxHeartbeats 4000000 in
set_option maxRecDepth 100000 in
theorem c_X4_hangs (l : Launch) (D : va_G) (q : Nat → Nat) (k : Nat → ClassId) (formulas : Int32) (kind : Nat → Int32) (left : Nat → Int32) (right : Nat → Int32) (height : Nat → Int32) (laid : Nat → Int32) (rules : Nat → Int32) (ps : Nat → Int32) (qs : Nat → Int32) (rs : Nat → Int32) (fs : Nat → Int32) (checked : Int32) (stopped : Int32) (reason : Int32) (made : Int32) (opened : Int32) (ruleThen : Nat → Int32) (heads : Nat → Int32) (boxOf : Nat → Int32) (shutBy : Nat → Int32) (around : Nat → Int32) (inner : Int32) (truth : Nat → Int32) (turned : Nat → Int32) (pile : Nat → Int32) (x1 : Int32) (x2 : Int32) (har : pz_ar ruleThen around) (hhd : pz_hd formulas ruleThen heads boxOf) : Met l yX4_hangs wsX4_hangs ({ frames := 2, cells := 0, slots := 0, locals := 45 }) (va_Pc [.ref (q 0), .int (x1), .int (x2)] (fun U => va_P D vwCl (pz_M q k formulas kind left right height laid rules ps qs rs fs checked stopped reason made opened ruleThen heads boxOf shutBy around inner truth turned pile) U.heap ∧ pz_KM D q k U)) (va_Qi (fun r (_ : Unit) => r = (f_X4_hangs ruleThen heads boxOf around x1 x2)) (fun _ t => va_P D vwCl (pz_M q k formulas kind left right height laid rules ps qs rs fs checked stopped reason made opened ruleThen heads boxOf shutBy around inner truth turned pile) t.heap) (pz_A 19 q)) 0 0 (pz_A 19 q) := by
  refine Met.ofW (cc := cX4_hangs) (maxL := 5) (ret := (some .int)) (by decide) rfl ?_
  intro p e s m args below meth c s₁ B hml hv
  obtain ⟨rfl, hP, hKX⟩ := hv
  have hx := B.exec
  have hb := B.bytes
  have hr := B.returns
  have hts := atoms_spec (ws := wsX4_hangs) B.pre
  have hown : s.vm.findClass RX4 = some m.cls := findClass_of_methodNamed B.named
  have hlocks := B.notSynchronized
  have hC : pz_C p s m ([.ref (q 0), .int (x1), .int (x2)] : List Value).toArray meth c cX4_hangs wsX4_hangs RX4 5 (some .int) := ⟨hx, hb, hml, hown, hts, hr, hlocks⟩
  have hK := hKX.1
  have hS : va_S (pz_A 19 q) s.heap s.heap [] := va_S.rf
  have hl := lv_entry [.ref (q 0), .int (x1), .int (x2)] (n := 5) (Nat.le_of_ble_eq_true rfl)
  rw [lg_entry_eq]
  generalize (lg_sl [.ref (q 0), .int (x1), .int (x2)] ++ List.replicate (5 - (lg_sl [.ref (q 0), .int (x1), .int (x2)]).length) Slot.unset).toArray = ls at hl ⊢
  have hl : lv_has ls 5 [(0, .ref (q 0)), (1, .int (x1)), (2, .int (x2))] := hl
  generalize hF : f_X4_hangs ruleThen heads boxOf around x1 x2 = G
  replace hF := hF.symm
  unfold f_X4_hangs at hF
  refine lv_iload_n hx hb dX4_hangs_0 rfl (lv_at hl 1 rfl) ?_
  refine pz_Si (As := [.int (x1)]) (rest := []) ⟨hx, hb, hml, hown, hts⟩ (c_X4_isLine l x1) (va_cwS 1 hts gX4_hangs_X4_isLine rfl rfl rfl hdS_X4_isLine ⟨Nat.le_of_ble_eq_true rfl, Nat.le_of_ble_eq_true rfl⟩) hP hS rfl hl.1 rfl (Nat.le_of_ble_eq_true rfl) dX4_hangs_1 ⟨Nat.zero_le _, Nat.zero_le _⟩ (fun r_7 H locs hF_7 hP hS => ?_)
  have hF := hF.trans (pz_be hF_7)
  refine lv_if_ne (tgt := 10) hx hb dX4_hangs_4 (by decide) (fun c_8 => ?_) (fun c_8 => ?_)
  · have hF := hF.trans (if_neg c_8)
    refine lv_iconst (v := 0) hx hb dX4_hangs_10 (by decide) ?_
    refine lv_istore_n (lv' := [(3, .int (0)), (0, .ref (q 0)), (1, .int (x1)), (2, .int (x2))]) hx hb dX4_hangs_11 rfl hl (by decide) rfl (fun ls hl => ?_)
    refine lv_iconst (v := 0) hx hb dX4_hangs_12 (by decide) ?_
    refine lv_istore (lv' := [(4, .int (0)), (3, .int (0)), (0, .ref (q 0)), (1, .int (x1)), (2, .int (x2))]) hx hb dX4_hangs_13 hl (by decide) rfl (fun ls hl => ?_)
    exact k_X4_hangs_15 hC hKX formulas kind left right height laid rules ps qs rs fs checked stopped reason made opened ruleThen heads boxOf shutBy around inner truth turned pile 61 x1 x2 0 0 (pz_lineM ‹_› ‹_›) (by decide) (by decide) (by decide) har hhd _ _ _ hF hP hS (lv_sub hl [2, 3, 4, 1, 0] rfl)
  · have hF := hF.trans (if_pos c_8)
    refine lv_bipush (v := (-3)) hx hb dX4_hangs_7 (by decide) ?_
    exact W.iret (v := (-3)) hx hb hr (fun t ht hW => ⟨⟨(-3), (), rfl, hF.symm, pz_hp ht hP⟩, hS.F ht⟩) hS.2.2 dX4_hangs_9 hlocks

