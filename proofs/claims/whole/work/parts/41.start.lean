/-! the beginning -/
theorem pz_fgs : ∀ (n : Nat) (frules heads ends inforce usable : Nat → Int32) (x1 : Int32), 0 ≤ x1.toInt → x1.toInt ≤ 60 → 61 ≤ x1.toInt + n → ∀ j : Nat, j < 60 → ((j : Int) < x1.toInt → heads j = -1 ∧ inforce j = 0 ∧ frules j = -1 ∧ ends j = -1 ∧ usable j = 0) → (F_X0_forget_2 n frules heads ends inforce usable x1).2.1 j = -1 ∧ (F_X0_forget_2 n frules heads ends inforce usable x1).2.2.2.1 j = 0 ∧ (F_X0_forget_2 n frules heads ends inforce usable x1).1 j = -1 ∧ (F_X0_forget_2 n frules heads ends inforce usable x1).2.2.1 j = -1 ∧ (F_X0_forget_2 n frules heads ends inforce usable x1).2.2.2.2 j = 0 := by
  intro n
  induction n with
  | zero => intro a b c d e x1 h0 h1 hn; exact absurd hn (by omega)
  | succ n ih =>
    intro frules heads ends inforce usable x1 h0 h1 hn j hj hb
    unfold F_X0_forget_2
    by_cases c : (60 : Int32) ≤ x1
    · rw [if_pos c]
      have a := pz_le c
      have e : (60 : Int32).toInt = 60 := rfl
      exact hb (by omega)
    · rw [if_neg c]
      have e := pz_up60 c
      refine ih _ _ _ _ _ (x1 + 1) (by omega) (by omega) (by omega) j hj (fun hj2 => ?_)
      have t := pz_tn h0
      by_cases cj : j = x1.toNatClampNeg
      · rw [cj, pk_us, pk_us, pk_us, pk_us, pk_us]; exact ⟨rfl, rfl, rfl, rfl, rfl⟩
      · rw [pk_un cj, pk_un cj, pk_un cj, pk_un cj, pk_un cj]; exact hb (by omega)
theorem pz_hm0 : ∀ (n : Nat) (heads : Nat → Int32) (x1 : Int32), 0 ≤ x1.toInt → x1.toInt ≤ 60 → 61 ≤ x1.toInt + n → ∀ j : Nat, j < 60 → ((j : Int) < x1.toInt → heads j = -1) → F_X4_init_151 n heads x1 j = -1 := by
  intro n
  induction n with
  | zero => intro a x1 h0 h1 hn; exact absurd hn (by omega)
  | succ n ih =>
    intro heads x1 h0 h1 hn j hj hb
    unfold F_X4_init_151
    by_cases c : (60 : Int32) ≤ x1
    · rw [if_pos c]
      have a := pz_le c
      have e : (60 : Int32).toInt = 60 := rfl
      exact hb (by omega)
    · rw [if_neg c]
      have e := pz_up60 c
      refine ih _ (x1 + 1) (by omega) (by omega) (by omega) j hj (fun hj2 => ?_)
      have t := pz_tn h0
      by_cases cj : j = x1.toNatClampNeg
      · rw [cj, pk_us]
      · rw [pk_un cj]; exact hb (by omega)
theorem pz_R0 : pz_R 0 (fun _ => 0) (fun _ => 0) (fun _ => 0) (fun _ => 0) (fun _ => 0) ((f_X0_forget (fun _ => 0) (fun _ => 0) (fun _ => 0) (fun _ => 0) (fun _ => 0)).1) ((f_X0_forget (fun _ => 0) (fun _ => 0) (fun _ => 0) (fun _ => 0) (fun _ => 0)).2.1) ((f_X0_forget (fun _ => 0) (fun _ => 0) (fun _ => 0) (fun _ => 0) (fun _ => 0)).2.2.1) ((f_X0_forget (fun _ => 0) (fun _ => 0) (fun _ => 0) (fun _ => 0) (fun _ => 0)).2.2.2.1) ((f_X0_forget (fun _ => 0) (fun _ => 0) (fun _ => 0) (fun _ => 0) (fun _ => 0)).2.2.2.2) (upd (upd (upd (upd (fun _ => 0) (0 : Int32).toNatClampNeg (-1)) (1 : Int32).toNatClampNeg (-1)) (2 : Int32).toNatClampNeg (-1)) (3 : Int32).toNatClampNeg (-1)) 0 0 0 0 0 (fun _ => 0) (F_X4_init_151 61 (fun _ => 0) 0) (fun _ => 0) (fun _ => 0) (fun _ => 0) := by
  have fg : ∀ j : Nat, j < 60 → _ := fun j hj => pz_fgs 61 (fun _ => 0) (fun _ => 0) (fun _ => 0) (fun _ => 0) (fun _ => 0) 0 (by decide) (by decide) (by decide) j hj (fun h => absurd h (by rw [pz_zero]; omega))
  have h0 : ∀ j : Nat, j < 60 → (F_X4_init_151 61 (fun _ => 0) 0) j = -1 := fun j hj => pz_hm0 61 (fun _ => 0) 0 (by decide) (by decide) (by decide) j hj (fun h => absurd h (by rw [pz_zero]; omega))
  have z1 : ¬ (0 : Int32) = 1 := by decide
  refine ⟨⟨⟨⟨by decide, by decide⟩, fun j hj => ?_⟩, fun j hj => ?_⟩, ⟨fun j hj h1 => absurd h1 z1, fun j hj h1 => absurd (h0 j hj) h1, fun i hi h1 => absurd (h0 i hi) h1⟩, Or.inl ⟨rfl, fun i hi => ?_, fun j hj => ⟨(fg j hj).1, h0 j hj, (fg j hj).2.1⟩⟩⟩
  · rw [pz_zero] at hj; omega
  · rw [pz_zero] at hj; omega
  · rcases (show i = 0 ∨ i = 1 ∨ i = 2 ∨ i = 3 by omega) with rfl | rfl | rfl | rfl <;> rfl

theorem pz_kty {args : Array Value} {s : State} {ty : FieldType} (h : (Cond.arrayClass ty).before args s = true) : ∃ cA : ClassId, ArrOfT s cA ty ∧ s.vm.findClass ("[" ++ ty.toString) = some cA := by
  obtain ⟨c, k, comp, h1, h2, h3⟩ := Cond.arrayClass_spec h
  exact ⟨c, fun n z => ⟨fun k h => (by cases h), k, h2, comp, h3⟩, h1⟩
set_option maxRecDepth 20000 in
theorem pz_st_LINES_TAKEN {b : Nat} {s : State} (hts0 : ∀ w ∈ lw_tbl, w.before #[Value.ref b] s = true) (hgv : (Jvm.Cond.and given_1 narrow_1).before #[Value.ref b] s = true) : ∃ t : Nat, va_Z RX3 "LINES_TAKEN" "[I" (.ref t) (fun q : Nat => s.heap.size ≤ q) s s.heap ∧ va_T .int t 14 (fun j => .int (pz_LT j)) (fun q : Nat => s.heap.size ≤ q) s s.heap := by
  have hs := flat_of_before _ hgv
  have hA : ∀ a : Nat, a < s.heap.size → ¬ (fun q : Nat => s.heap.size ≤ q) a := fun a h q => absurd q (Nat.not_le.mpr h)
  obtain ⟨t, h1, h2⟩ := va_Tof (tm := (.static "BoxProofs" "LINES_TAKEN" "[I")) (ty := .int) (N := 14) (f := fun j => .int (pz_LT j)) (A := fun q : Nat => s.heap.size ≤ q) (by decide) (hs (Cond.arrayOf (.static "BoxProofs" "LINES_TAKEN" "[I") .int) (by decide +kernel)) (va_eqt (hs (Cond.eq (.length (.static "BoxProofs" "LINES_TAKEN" "[I")) (.int 14)) (by decide +kernel))) (fun j hj => by
      rcases (show j = 0 ∨ j = 1 ∨ j = 2 ∨ j = 3 ∨ j = 4 ∨ j = 5 ∨ j = 6 ∨ j = 7 ∨ j = 8 ∨ j = 9 ∨ j = 10 ∨ j = 11 ∨ j = 12 ∨ j = 13 by omega) with rfl | rfl | rfl | rfl | rfl | rfl | rfl | rfl | rfl | rfl | rfl | rfl | rfl | rfl
      · exact va_eqt (hs (Cond.eq (.elem (.static "BoxProofs" "LINES_TAKEN" "[I") (.int 0)) (.int (0))) (by decide +kernel))
      · exact va_eqt (hs (Cond.eq (.elem (.static "BoxProofs" "LINES_TAKEN" "[I") (.int 1)) (.int (0))) (by decide +kernel))
      · exact va_eqt (hs (Cond.eq (.elem (.static "BoxProofs" "LINES_TAKEN" "[I") (.int 2)) (.int (0))) (by decide +kernel))
      · exact va_eqt (hs (Cond.eq (.elem (.static "BoxProofs" "LINES_TAKEN" "[I") (.int 3)) (.int (1))) (by decide +kernel))
      · exact va_eqt (hs (Cond.eq (.elem (.static "BoxProofs" "LINES_TAKEN" "[I") (.int 4)) (.int (2))) (by decide +kernel))
      · exact va_eqt (hs (Cond.eq (.elem (.static "BoxProofs" "LINES_TAKEN" "[I") (.int 5)) (.int (1))) (by decide +kernel))
      · exact va_eqt (hs (Cond.eq (.elem (.static "BoxProofs" "LINES_TAKEN" "[I") (.int 6)) (.int (1))) (by decide +kernel))
      · exact va_eqt (hs (Cond.eq (.elem (.static "BoxProofs" "LINES_TAKEN" "[I") (.int 7)) (.int (1))) (by decide +kernel))
      · exact va_eqt (hs (Cond.eq (.elem (.static "BoxProofs" "LINES_TAKEN" "[I") (.int 8)) (.int (1))) (by decide +kernel))
      · exact va_eqt (hs (Cond.eq (.elem (.static "BoxProofs" "LINES_TAKEN" "[I") (.int 9)) (.int (3))) (by decide +kernel))
      · exact va_eqt (hs (Cond.eq (.elem (.static "BoxProofs" "LINES_TAKEN" "[I") (.int 10)) (.int (1))) (by decide +kernel))
      · exact va_eqt (hs (Cond.eq (.elem (.static "BoxProofs" "LINES_TAKEN" "[I") (.int 11)) (.int (2))) (by decide +kernel))
      · exact va_eqt (hs (Cond.eq (.elem (.static "BoxProofs" "LINES_TAKEN" "[I") (.int 12)) (.int (1))) (by decide +kernel))
      · exact va_eqt (hs (Cond.eq (.elem (.static "BoxProofs" "LINES_TAKEN" "[I") (.int 13)) (.int (1))) (by decide +kernel))) hA
  exact ⟨t, va_Zof (hts0 (Cond.laysStatic "BoxProofs" "LINES_TAKEN" "[I") (by decide +kernel)) (hts0 (Cond.initialized "BoxProofs") (by decide +kernel)) h1 hA, h2⟩
set_option maxRecDepth 20000 in
theorem pz_st_LETTER_TABLES {b : Nat} {s : State} (hts0 : ∀ w ∈ lw_tbl, w.before #[Value.ref b] s = true) (hgv : (Jvm.Cond.and given_1 narrow_1).before #[Value.ref b] s = true) : ∃ t : Nat, va_Z RX1 "LETTER_TABLES" "[J" (.ref t) (fun q : Nat => s.heap.size ≤ q) s s.heap ∧ va_T .long t 6 (fun j => .long (pz_LB j)) (fun q : Nat => s.heap.size ≤ q) s s.heap := by
  have hs := flat_of_before _ hgv
  have hA : ∀ a : Nat, a < s.heap.size → ¬ (fun q : Nat => s.heap.size ≤ q) a := fun a h q => absurd q (Nat.not_le.mpr h)
  obtain ⟨t, h1, h2⟩ := va_Tof (tm := (.static "BoxProofs$Formulas" "LETTER_TABLES" "[J")) (ty := .long) (N := 6) (f := fun j => .long (pz_LB j)) (A := fun q : Nat => s.heap.size ≤ q) (by decide) (hs (Cond.arrayOf (.static "BoxProofs$Formulas" "LETTER_TABLES" "[J") .long) (by decide +kernel)) (va_eqt (hs (Cond.eq (.length (.static "BoxProofs$Formulas" "LETTER_TABLES" "[J")) (.int 6)) (by decide +kernel))) (fun j hj => by
      rcases (show j = 0 ∨ j = 1 ∨ j = 2 ∨ j = 3 ∨ j = 4 ∨ j = 5 by omega) with rfl | rfl | rfl | rfl | rfl | rfl
      · exact va_eqtl (hs (Cond.eq (.elem (.static "BoxProofs$Formulas" "LETTER_TABLES" "[J") (.int 0)) (.long (-6148914691236517206))) (by decide +kernel))
      · exact va_eqtl (hs (Cond.eq (.elem (.static "BoxProofs$Formulas" "LETTER_TABLES" "[J") (.int 1)) (.long (-3689348814741910324))) (by decide +kernel))
      · exact va_eqtl (hs (Cond.eq (.elem (.static "BoxProofs$Formulas" "LETTER_TABLES" "[J") (.int 2)) (.long (-1085102592571150096))) (by decide +kernel))
      · exact va_eqtl (hs (Cond.eq (.elem (.static "BoxProofs$Formulas" "LETTER_TABLES" "[J") (.int 3)) (.long (-71777214294589696))) (by decide +kernel))
      · exact va_eqtl (hs (Cond.eq (.elem (.static "BoxProofs$Formulas" "LETTER_TABLES" "[J") (.int 4)) (.long (-281470681808896))) (by decide +kernel))
      · exact va_eqtl (hs (Cond.eq (.elem (.static "BoxProofs$Formulas" "LETTER_TABLES" "[J") (.int 5)) (.long (-4294967296))) (by decide +kernel))) hA
  exact ⟨t, va_Zof (hts0 (Cond.laysStatic "BoxProofs$Formulas" "LETTER_TABLES" "[J") (by decide +kernel)) (hts0 (Cond.initialized "BoxProofs$Formulas") (by decide +kernel)) h1 hA, h2⟩

set_option maxHeartbeats 8000000 in
set_option maxRecDepth 100000 in
theorem whole_start {p : Program} {e : Env} {s : State} {m : MethodId} {below : List Frame} {meth : Method} {c : Code} (l : Launch) {b L : Nat} {xs : Nat → Int32} (hL : L ≤ 3584) (C0 : lw_At p s m meth c b L xs) : W p l e room_1 s m #[Value.ref b] below meth c s.heap [] 0 0 (lw_Z below #[Value.ref b] s) (entryFrame m ([Value.ref b] : List Value).toArray 4) := by
  obtain ⟨hx, hb, hr, hml, hown, hts0, hXs, hbl, hlocks, hgv⟩ := id C0
  have hts : ∀ w ∈ wsL_law, w.before #[Value.ref b] s = true := fun w h => hts0 w (wsL_law_in w h)
  have hown : s.vm.findClass RL = some m.cls := hown
  have hA : ∀ q : Nat, s.heap.size ≤ q → (fun q : Nat => s.heap.size ≤ q) q := fun _ h => h
  obtain ⟨c0, iS0, hKn0⟩ := u_known (C := RX0) (T := TX0) (N := 6) (n := 6) hts0 (fun w h => (li_wsX00 w h).1) (hts0 (.instantiable RX0 6) (by decide +kernel))
  obtain ⟨c1, iS1, hKn1⟩ := u_known (C := RX1) (T := TX1) (N := 7) (n := 7) hts0 (fun w h => (li_wsX10 w h).1) (hts0 (.instantiable RX1 7) (by decide +kernel))
  obtain ⟨c2, iS2, hKn2⟩ := u_known (C := RX2) (T := TX2) (N := 6) (n := 6) hts0 (fun w h => (li_wsX20 w h).1) (hts0 (.instantiable RX2 6) (by decide +kernel))
  obtain ⟨c3, iS3, hKn3⟩ := u_known (C := RX3) (T := TX3) (N := 3) (n := 3) hts0 (fun w h => (li_wsX30 w h).1) (hts0 (.instantiable RX3 3) (by decide +kernel))
  obtain ⟨c4, iS4, hKn4⟩ := u_known (C := RX4) (T := TX4) (N := 25) (n := 25) hts0 (fun w h => (li_wsX40 w h).1) (hts0 (.instantiable RX4 25) (by decide +kernel))
  obtain ⟨dC, dI, hKc⟩ : ∃ (dC : Nat → ClassId) (dI : Nat → Nat → Nat), ∀ (k : Nat) (q : vw_C), vwCl[k]? = some q → u_Kn s q.1 q.2.1 q.2.2 (dC k) (dI k) := by
    refine ⟨fun k => if k = 0 then c0 else if k = 1 then c1 else if k = 2 then c2 else if k = 3 then c3 else c4, fun k => if k = 0 then iS0 else if k = 1 then iS1 else if k = 2 then iS2 else if k = 3 then iS3 else iS4, ?_⟩
    intro k q hq
    match k, hq with
    | 0, hq => cases hq; exact hKn0
    | 1, hq => cases hq; exact hKn1
    | 2, hq => cases hq; exact hKn2
    | 3, hq => cases hq; exact hKn3
    | 4, hq => cases hq; exact hKn4
    | k + 5, hq => simp [vwCl] at hq
  obtain ⟨kI, aI, fI⟩ := pz_kty (hts0 (.arrayClass .int) (by decide +kernel))
  obtain ⟨kJ, aJ, fJ⟩ := pz_kty (hts0 (.arrayClass .long) (by decide +kernel))
  obtain ⟨kZ, aZ, fZ⟩ := pz_kty (hts0 (.arrayClass .boolean) (by decide +kernel))
  obtain ⟨k, hk0, hk1, hk2⟩ : ∃ k : Nat → ClassId, k 0 = kI ∧ k 1 = kJ ∧ k 2 = kZ := ⟨fun i => if i = 0 then kI else if i = 1 then kJ else kZ, rfl, rfl, rfl⟩
  have hK : va_K (dC, dI) vwCl (pz_ty k) s := by
    refine ⟨hKc, fun i q hq => ?_⟩
    match i, hq with
    | 0, hq => cases hq; rw [hk0]; exact ⟨aI, fI⟩
    | 1, hq => cases hq; rw [hk1]; exact ⟨aJ, fJ⟩
    | 2, hq => cases hq; rw [hk2]; exact ⟨aZ, fZ⟩
    | i + 3, hq => simp [pz_ty] at hq
  obtain ⟨t0, z0, T0⟩ := pz_st_LINES_TAKEN hts0 hgv
  obtain ⟨t1, z1, T1⟩ := pz_st_LETTER_TABLES hts0 hgv
  have n38 := va_Nw.of rfl (hts0 (.methodLinkNest RX0 38 yX3_isLine "BoxProofs") (by decide +kernel))
  have n57 := va_Nw.of rfl (hts0 (.methodLinkNest RX1 57 yX3_isLetter "BoxProofs") (by decide +kernel))
  have n31 := va_Nw.of rfl (hts0 (.methodLinkNest RX2 31 yX3_isLine "BoxProofs") (by decide +kernel))
  have n9 := va_Nw.of rfl (hts0 (.methodLinkNest RX3 9 yX1_init "BoxProofs") (by decide +kernel))
  have n18 := va_Nw.of rfl (hts0 (.methodLinkNest RX3 18 yX2_init "BoxProofs") (by decide +kernel))
  have hS : va_S (fun q : Nat => s.heap.size ≤ q) s.heap s.heap [] := va_S.rf
  have hP : va_P (dC, dI) vwCl [] s.heap := fun k q h => by simp at h
  have hD : va_D (fun q : Nat => s.heap.size ≤ q) [] := ⟨fun i j p q h => by simp at h, fun k q h => by simp at h⟩
  have hl := lv_entry ([.ref b]) (n := 4) (Nat.le_of_ble_eq_true rfl)
  rw [lg_entry_eq]
  generalize (lg_sl ([.ref b]) ++ List.replicate (4 - (lg_sl ([.ref b])).length) Slot.unset).toArray = ls at hl ⊢
  have hl : lv_has ls 4 [(0, .ref b)] := hl
  refine va_new (ci := 3) (fs := [.null, .null, .null]) (C := RX3) (T := TX3) (N := 3) hx hb hts0 (fun w h => (li_wsX30 w h).1) tyX3 tyX3_ok hown (hts0 (.classLink RL 7 RX3) (by decide +kernel)) (hts0 (.instantiable RX3 3) (by decide +kernel)) (hts0 (.initialized RX3) (by decide +kernel)) hK hP hD hS hA rfl (fun j hj => by rcases (show j = 0 ∨ j = 1 ∨ j = 2 by omega) with rfl | rfl | rfl <;> rfl) (Nat.le_of_ble_eq_true rfl) (Nat.le_of_ble_eq_true rfl) dL_law_0 (fun q0 H hP hD hS => ?_)
  have hP : va_P (dC, dI) vwCl [(q0, .inr (3, [.null, .null, .null]))] H := hP
  have hD : va_D (fun q : Nat => s.heap.size ≤ q) [(q0, .inr (3, [.null, .null, .null]))] := hD
  refine lv_dup hx hb dL_law_3 rfl ?_
  have hFc := va_free (wc := [(q0, .inr (3, [.null, .null, .null]))]) hD hS hA [0] rfl
  refine va_callv (va_runI (As := []) (rest := [.ref q0]) ⟨hx, hb, hml, hown, hts⟩ (c_X3_init l (dC, dI) k q0 H.size) (cwI 0 hts gL_law_X3_init rfl rfl rfl (hts0 (.initialized RX3) (by decide +kernel)) (hts0 (.methodLink RL 9 yX3_init) (by decide +kernel)) (hts0 (.instanceMethod yX3_init) (by decide +kernel)) rfl hdI_X3_init ⟨Nat.le_of_ble_eq_true rfl, Nat.le_of_ble_eq_true rfl⟩) ⟨fun a U g mk q => by obtain ⟨q0, q1, qP, qn1, qn2, qK, qD⟩ := q; exact ⟨q0, q1, qP, va_Nw.same rfl (u := U) rfl qn1, va_Nw.same rfl (u := U) rfl qn2, va_K.moved (u := U) (Vm.Alike.refl U.vm) qK, qD⟩, fun U hU hW => ⟨rfl, by rw [hU], by rw [hU]; exact hP, n9.warmM hW, n18.warmM hW, va_K.moved hW.alike hK, hD.weaken (fun _ _ _ _ => trivial)⟩⟩ rfl rfl hl.1 rfl (lv_room (Nat.le_of_ble_eq_true rfl)) dL_law_4 ⟨Nat.le_of_ble_eq_true rfl, Nat.le_of_ble_eq_true rfl⟩) hS (fun q _ h => hFc q h) hFc (fun qx t H1 locs ht hvm hw hB hz1 hk1 hS => ?_)
  obtain ⟨hq0, hP1, hD1⟩ := hB
  rw [ht] at hP1
  obtain ⟨hP, hD⟩ := va_join (wr := []) (w1 := pz_X0 qx k) hP hD [0] [] rfl rfl (by decide) (by decide) hk1 hFc hP1 hD1
  generalize H1 = H at hP hS ⊢
  have hP : va_P (dC, dI) vwCl (pz_X0 qx k) H := hP
  have hD : va_D (fun q : Nat => s.heap.size ≤ q) (pz_X0 qx k) := hD
  refine lv_astore_n (lv' := [(1, .ref q0), (0, .ref b)]) hx hb dL_law_7 rfl hl (by decide) rfl (fun ls hl => ?_)
  refine va_new (ci := 4) (fs := [.int 0, .null, .null, .null, .null, .null, .null, .null, .null, .null, .null, .int 0, .int 0, .int 0, .int 0, .int 0, .null, .null, .null, .null, .null, .int 0, .null, .null, .null]) (C := RX4) (T := TX4) (N := 25) hx hb hts0 (fun w h => (li_wsX40 w h).1) tyX4 tyX4_ok hown (hts0 (.classLink RL 10 RX4) (by decide +kernel)) (hts0 (.instantiable RX4 25) (by decide +kernel)) (hts0 (.initialized RX4) (by decide +kernel)) hK hP hD hS hA rfl (fun j hj => by rcases (show j = 0 ∨ j = 1 ∨ j = 2 ∨ j = 3 ∨ j = 4 ∨ j = 5 ∨ j = 6 ∨ j = 7 ∨ j = 8 ∨ j = 9 ∨ j = 10 ∨ j = 11 ∨ j = 12 ∨ j = 13 ∨ j = 14 ∨ j = 15 ∨ j = 16 ∨ j = 17 ∨ j = 18 ∨ j = 19 ∨ j = 20 ∨ j = 21 ∨ j = 22 ∨ j = 23 ∨ j = 24 by omega) with rfl | rfl | rfl | rfl | rfl | rfl | rfl | rfl | rfl | rfl | rfl | rfl | rfl | rfl | rfl | rfl | rfl | rfl | rfl | rfl | rfl | rfl | rfl | rfl | rfl <;> rfl) (Nat.le_of_ble_eq_true rfl) (Nat.le_of_ble_eq_true rfl) dL_law_8 (fun q1 H hP hD hS => ?_)
  refine lv_dup hx hb dL_law_11 rfl ?_
  have hPc := hP.sub (ws' := [(q1, .inr (4, [.int 0, .null, .null, .null, .null, .null, .null, .null, .null, .null, .null, .int 0, .int 0, .int 0, .int 0, .int 0, .null, .null, .null, .null, .null, .int 0, .null, .null, .null]))]) [22] rfl
  have hDc := hD.sub (ws' := [(q1, .inr (4, [.int 0, .null, .null, .null, .null, .null, .null, .null, .null, .null, .null, .int 0, .int 0, .int 0, .int 0, .int 0, .null, .null, .null, .null, .null, .int 0, .null, .null, .null]))]) [22] (by decide) rfl
  have hFc := va_free (wc := [(q1, .inr (4, [.int 0, .null, .null, .null, .null, .null, .null, .null, .null, .null, .null, .int 0, .int 0, .int 0, .int 0, .int 0, .null, .null, .null, .null, .null, .int 0, .null, .null, .null]))]) hD hS hA [22] rfl
  refine va_callv (va_runI (As := []) (rest := [.ref q1]) ⟨hx, hb, hml, hown, hts⟩ (c_X4_init l (dC, dI) k q1 H.size) (cwI 0 hts gL_law_X4_init rfl rfl rfl (hts0 (.initialized RX4) (by decide +kernel)) (hts0 (.methodLink RL 12 yX4_init) (by decide +kernel)) (hts0 (.instanceMethod yX4_init) (by decide +kernel)) rfl hdI_X4_init ⟨Nat.le_of_ble_eq_true rfl, Nat.le_of_ble_eq_true rfl⟩) ⟨fun a U g mk q => by obtain ⟨q0, q1, qP, qK, qD⟩ := q; exact ⟨q0, q1, qP, va_K.moved (u := U) (Vm.Alike.refl U.vm) qK, qD⟩, fun U hU hW => ⟨rfl, by rw [hU], by rw [hU]; exact hPc, va_K.moved hW.alike hK, hDc.weaken (fun _ _ _ _ => trivial)⟩⟩ rfl rfl hl.1 rfl (lv_room (Nat.le_of_ble_eq_true rfl)) dL_law_12 ⟨Nat.le_of_ble_eq_true rfl, Nat.le_of_ble_eq_true rfl⟩) hS (fun q _ h => hFc q h) hFc (fun qm t H1 locs ht hvm hw hB hz1 hk1 hS => ?_)
  obtain ⟨hq1, hP1, hD1⟩ := hB
  rw [ht] at hP1
  obtain ⟨hP, hD⟩ := va_join (wr := pz_X0 qx k) (w1 := pz_M qm k 0 (fun _ => 0) (fun _ => 0) (fun _ => 0) (fun _ => 0) (fun _ => 0) (fun _ => 0) (fun _ => 0) (fun _ => 0) (fun _ => 0) (fun _ => 0) 0 0 0 0 0 (fun _ => 0) (F_X4_init_151 61 (fun _ => 0) 0) (fun _ => 0) (fun _ => 0) (fun _ => 0) 0 (fun _ => 0) (fun _ => 0) (fun _ => 0)) hP hD [22] [0, 1, 2, 3, 4, 5, 6, 7, 8, 9, 10, 11, 12, 13, 14, 15, 16, 17, 18, 19, 20, 21] rfl rfl (by decide) (by decide) hk1 hFc hP1 hD1
  generalize H1 = H at hP hS ⊢
  have hPx := hP.sub (ws' := pz_X0 qx k) [0, 1, 2, 3, 4, 5, 6, 7, 8, 9, 10, 11, 12, 13, 14, 15, 16, 17, 18, 19, 20, 21] rfl
  have hPm := hP.sub (ws' := pz_M qm k 0 (fun _ => 0) (fun _ => 0) (fun _ => 0) (fun _ => 0) (fun _ => 0) (fun _ => 0) (fun _ => 0) (fun _ => 0) (fun _ => 0) (fun _ => 0) 0 0 0 0 0 (fun _ => 0) (F_X4_init_151 61 (fun _ => 0) 0) (fun _ => 0) (fun _ => 0) (fun _ => 0) 0 (fun _ => 0) (fun _ => 0) (fun _ => 0)) [22, 23, 24, 25, 26, 27, 28, 29, 30, 31, 32, 33, 34, 35, 36, 37, 38, 39, 40] rfl
  have hDx := hD.sub (ws' := pz_X0 qx k) [0, 1, 2, 3, 4, 5, 6, 7, 8, 9, 10, 11, 12, 13, 14, 15, 16, 17, 18, 19, 20, 21] (by decide) rfl
  have hDm := hD.sub (ws' := pz_M qm k 0 (fun _ => 0) (fun _ => 0) (fun _ => 0) (fun _ => 0) (fun _ => 0) (fun _ => 0) (fun _ => 0) (fun _ => 0) (fun _ => 0) (fun _ => 0) 0 0 0 0 0 (fun _ => 0) (F_X4_init_151 61 (fun _ => 0) 0) (fun _ => 0) (fun _ => 0) (fun _ => 0) 0 (fun _ => 0) (fun _ => 0) (fun _ => 0)) [22, 23, 24, 25, 26, 27, 28, 29, 30, 31, 32, 33, 34, 35, 36, 37, 38, 39, 40] (by decide) rfl
  have hmx : (pz_X0 qx k).map Prod.fst = (List.range 22).map qx := rfl
  have hmm : (pz_M qm k 0 (fun _ => 0) (fun _ => 0) (fun _ => 0) (fun _ => 0) (fun _ => 0) (fun _ => 0) (fun _ => 0) (fun _ => 0) (fun _ => 0) (fun _ => 0) 0 0 0 0 0 (fun _ => 0) (F_X4_init_151 61 (fun _ => 0) 0) (fun _ => 0) (fun _ => 0) (fun _ => 0) 0 (fun _ => 0) (fun _ => 0) (fun _ => 0)).map Prod.fst = (List.range 19).map qm := rfl
  have hap : ∀ i j, i < 22 → j < 19 → qx i ≠ qm j := by
    intro i j hi hj he
    obtain ⟨x, hx1, hx2⟩ := pz_at2 hmx hi
    obtain ⟨y, hy1, hy2⟩ := pz_at2 hmm hj
    have h1 : (pz_X0 qx k ++ pz_M qm k 0 (fun _ => 0) (fun _ => 0) (fun _ => 0) (fun _ => 0) (fun _ => 0) (fun _ => 0) (fun _ => 0) (fun _ => 0) (fun _ => 0) (fun _ => 0) 0 0 0 0 0 (fun _ => 0) (F_X4_init_151 61 (fun _ => 0) 0) (fun _ => 0) (fun _ => 0) (fun _ => 0) 0 (fun _ => 0) (fun _ => 0) (fun _ => 0))[i]? = some x := by rw [List.getElem?_append_left (by have := (List.getElem?_eq_some_iff.mp hx1).1; exact this)]; exact hx1
    have h2 : (pz_X0 qx k ++ pz_M qm k 0 (fun _ => 0) (fun _ => 0) (fun _ => 0) (fun _ => 0) (fun _ => 0) (fun _ => 0) (fun _ => 0) (fun _ => 0) (fun _ => 0) (fun _ => 0) 0 0 0 0 0 (fun _ => 0) (F_X4_init_151 61 (fun _ => 0) 0) (fun _ => 0) (fun _ => 0) (fun _ => 0) 0 (fun _ => 0) (fun _ => 0) (fun _ => 0))[22 + j]? = some y := by rw [List.getElem?_append_right (by exact Nat.le_add_right 22 j)]; rw [show 22 + j - (pz_X0 qx k).length = j from Nat.add_sub_cancel_left 22 j]; exact hy1
    have := hD.1 i (22 + j) x y h1 h2 (by rw [hx2, hy2]; exact he)
    omega
  refine lv_astore_n (lv' := [(2, .ref q1), (1, .ref q0), (0, .ref b)]) hx hb dL_law_15 rfl hl (by decide) rfl (fun ls hl => ?_)
  refine lv_iconst (v := 0) hx hb dL_law_16 (by decide) ?_
  refine lv_istore_n (lv' := [(3, .int 0), (2, .ref q1), (1, .ref q0), (0, .ref b)]) hx hb dL_law_17 rfl hl (by decide) rfl (fun ls hl => ?_)
  have hIx := pz_Aof hDx hmx
  have hIm := pz_Aof hDm hmm
  rw [← hq0, ← hq1] at hl
  have hKX : ∀ (H : Heap) (locs : List Loc), va_S (fun q : Nat => s.heap.size ≤ q) s.heap H locs → ∀ U : State, U.heap = H → s.WarmedH U.vm → pz_KX (dC, dI) qx k (fun i => if i = 0 then t0 else t1) U := by
    intro H locs hS U hU hW
    have hkp : ∀ a : Nat, a < s.heap.size → ¬ (fun q : Nat => s.heap.size ≤ q) a → U.heap[a]? = s.heap[a]? := fun a ha hn => by rw [hU]; exact hS.2.1 a ha hn
    exact ⟨hK.moved hW.alike, n38.warmM hW, n57.warmM hW, n31.warmM hW, ((z0.moved hW.alike).kept hkp).narrow hIx, ((T0.moved hW.alike).kept hkp).narrow hIx, ((z1.moved hW.alike).kept hkp).narrow hIx, ((T1.moved hW.alike).kept hkp).narrow hIx, pz_Iof hDx hmx⟩
  refine W.widen (k := 41) (n := 2531) (by decide) (by decide) ?_
  exact pz_law_loop (qx := qx) (qm := qm) hL C0 hK hKX (fun U hW => ⟨hK.moved hW.alike, pz_Iof hDm hmm⟩) hIx hIm hap (L + 1) 0 (by decide) (by rw [pz_zero]; omega) (by rw [pz_zero]; omega) 0 (fun _ => 0) (fun _ => 0) (fun _ => 0) (fun _ => 0) (fun _ => 0) (fun _ => 0) (fun _ => 0) (fun _ => 0) (fun _ => 0) (fun _ => 0) (fun _ => 0) (fun _ => 0) ((f_X0_forget (fun _ => 0) (fun _ => 0) (fun _ => 0) (fun _ => 0) (fun _ => 0)).1) ((f_X0_forget (fun _ => 0) (fun _ => 0) (fun _ => 0) (fun _ => 0) (fun _ => 0)).2.1) ((f_X0_forget (fun _ => 0) (fun _ => 0) (fun _ => 0) (fun _ => 0) (fun _ => 0)).2.2.1) ((f_X0_forget (fun _ => 0) (fun _ => 0) (fun _ => 0) (fun _ => 0) (fun _ => 0)).2.2.2.1) ((f_X0_forget (fun _ => 0) (fun _ => 0) (fun _ => 0) (fun _ => 0) (fun _ => 0)).2.2.2.2) (upd (upd (upd (upd (fun _ => 0) (0 : Int32).toNatClampNeg (-1)) (1 : Int32).toNatClampNeg (-1)) (2 : Int32).toNatClampNeg (-1)) (3 : Int32).toNatClampNeg (-1)) 0 0 0 0 0 (fun _ => 0) (F_X4_init_151 61 (fun _ => 0) 0) (fun _ => 0) (fun _ => 0) (fun _ => 0) 0 (fun _ => 0) (fun _ => 0) (fun _ => 0) pz_R0 _ _ _ hPx hPm hS (lv_sub hl [3, 2, 1, 0] rfl)

