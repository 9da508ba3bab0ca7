/-! the pure part: check: the walk -/
abbrev pz_TX13 : Type := Int32 × Int32 × (Nat → Int32) × (Nat → Int32) × (Nat → Int32) × (Nat → Int32) × (Nat → Int64) × (Nat → Int32) × (Nat → Int32) × (Nat → Int32) × (Nat → Int32) × (Nat → Int32) × (Nat → Int32)
abbrev pz_T17 : Type := Int32 × Int32 × (Nat → Int32) × (Nat → Int32) × (Nat → Int32) × (Nat → Int32) × Int32 × Int32 × Int32 × Int32 × Int32 × (Nat → Int32) × (Nat → Int32) × (Nat → Int32) × (Nat → Int32) × (Nat → Int32) × Int32
def pz_CK (c : Int32) (X : pz_TX13) (M : pz_T17) : Prop := (X.1 = M.1 ∧ X.2.1 = M.2.1 ∧ X.2.2.1 = M.2.2.1 ∧ X.2.2.2.1 = M.2.2.2.1 ∧ X.2.2.2.2.1 = M.2.2.2.2.1 ∧ X.2.2.2.2.2.1 = M.2.2.2.2.2.1) ∧ pz_Rf M.2.1 M.2.2.1 M.2.2.2.1 M.2.2.2.2.1 M.2.2.2.2.2.1 X.2.2.2.2.2.2.1 ∧ pz_Rm M.2.1 M.2.2.2.2.2.2.2.2.2.2.2.1 M.2.2.2.2.2.2.2.2.2.2.2.2.1 M.2.2.2.2.2.2.2.2.2.2.2.2.2.1 M.2.2.2.2.2.2.2.2.2.2.2.2.2.2.2.1 ∧ M.2.2.2.2.2.2.1 = c ∧ (X.2.2.2.2.2.2.2.2.2.2.2.2 0 = M.2.2.2.2.2.2.2.2.1 ∧ X.2.2.2.2.2.2.2.2.2.2.2.2 1 = M.2.2.2.2.2.2.2.1 ∧ X.2.2.2.2.2.2.2.2.2.2.2.2 2 = M.2.2.2.2.2.2.2.2.2.2.1 ∧ X.2.2.2.2.2.2.2.2.2.2.2.2 3 = M.2.2.2.2.2.2.2.2.2.1) ∧ ∃ (k : Nat) (i : Int32), pz_B k X.2.2.2.2.2.2.2.1 X.2.2.2.2.2.2.2.2.1 X.2.2.2.2.2.2.2.2.2.1 X.2.2.2.2.2.2.2.2.2.2.1 X.2.2.2.2.2.2.2.2.2.2.2.1 M.2.2.2.2.2.2.2.2.2.2.2.1 M.2.2.2.2.2.2.2.2.2.2.2.2.1 M.2.2.2.2.2.2.2.2.2.2.2.2.2.1 M.2.2.2.2.2.2.2.2.2.2.2.2.2.2.1 M.2.2.2.2.2.2.2.2.2.2.2.2.2.2.2.1 i
section PzCk
variable {cnt : Int32} {kinds firsts seconds heights : Nat → Int32} {tables : Nat → Int64} {laid rules ps qs rs fs frules heads ends inforce usable summ rt hm boxOf shutBy around : Nat → Int32} {inner opened made x1 x2 x3 x4 y c : Int32}
theorem pz_ck55 {K : Nat} {k : Int} (hR : pz_Rf cnt kinds firsts seconds heights tables) (hmi : pz_MI k cnt rt hm boxOf shutBy around inner) (h : pz_B K frules heads ends inforce usable rt hm boxOf shutBy around inner) (ho : opened = f_X0_countOpen frules ends) : pz_CK c (F_X3_check_55 cnt kinds firsts seconds heights tables laid rules ps qs rs fs frules heads ends inforce usable summ x1 x2 x3) (x3, cnt, kinds, firsts, seconds, heights, c, x3, x2, cnt - x1, opened, rt, hm, boxOf, shutBy, around, inner) := by
  have e : F_X3_check_55 cnt kinds firsts seconds heights tables laid rules ps qs rs fs frules heads ends inforce usable summ x1 x2 x3 = (x3, cnt, kinds, firsts, seconds, heights, tables, frules, heads, ends, inforce, usable, upd (upd (upd (upd summ 0 x2) 1 x3) 2 (f_X0_countOpen frules ends)) 3 (cnt - x1)) := rfl
  rw [e]
  refine ⟨⟨rfl, rfl, rfl, rfl, rfl, rfl⟩, hR, ⟨hmi.1, hmi.2.2.1, fun _ _ _ => hmi.2.2.2.1⟩, rfl, ⟨?_, ?_, ?_, ?_⟩, K, inner, h⟩
  · show upd (upd (upd (upd summ 0 x2) 1 x3) 2 (f_X0_countOpen frules ends)) 3 (cnt - x1) 0 = x2
    rw [pk_un (by decide), pk_un (by decide), pk_un (by decide), pk_us]
  · show upd (upd (upd (upd summ 0 x2) 1 x3) 2 (f_X0_countOpen frules ends)) 3 (cnt - x1) 1 = x3
    rw [pk_un (by decide), pk_un (by decide), pk_us]
  · show upd (upd (upd (upd summ 0 x2) 1 x3) 2 (f_X0_countOpen frules ends)) 3 (cnt - x1) 2 = opened
    rw [pk_un (by decide), pk_us, ho]
  · show upd (upd (upd (upd summ 0 x2) 1 x3) 2 (f_X0_countOpen frules ends)) 3 (cnt - x1) 3 = cnt - x1
    rw [pk_us]
end PzCk
section PzCl
variable {laid rules ps qs rs fs summ : Nat → Int32} {x1 c : Int32}
theorem pz_ckl : ∀ (n m : Nat) (cnt : Int32) (kinds firsts seconds heights : Nat → Int32) (tables : Nat → Int64) (frules heads ends inforce usable rt hm boxOf shutBy around : Nat → Int32) (inner opened made x3 y : Int32), 0 ≤ x3.toInt → x3.toInt ≤ 60 → 61 ≤ x3.toInt + n → 62 ≤ x3.toInt + m → pz_Rf cnt kinds firsts seconds heights tables → pz_MI x3.toInt cnt rt hm boxOf shutBy around inner → pz_B x3.toNatClampNeg frules heads ends inforce usable rt hm boxOf shutBy around inner → opened = f_X0_countOpen frules ends → pz_CK c (F_X3_check_19 n cnt kinds firsts seconds heights tables laid rules ps qs rs fs frules heads ends inforce usable summ x1 0 x3) (F_X4_check_58 m cnt kinds firsts seconds heights laid rules ps qs rs fs c x3 0 made opened rt hm boxOf shutBy around inner x1 y) := by
  intro n
  induction n with
  | zero => intro m cnt kinds firsts seconds heights tables frules heads ends inforce usable rt hm boxOf shutBy around inner opened made x3 y h0 h1 hn; exact absurd hn (by omega)
  | succ n ih =>
    intro m cnt kinds firsts seconds heights tables frules heads ends inforce usable rt hm boxOf shutBy around inner opened made x3 y h0 h1 hn hm2 hR hmi h ho
    match m, hm2 with
    | 0, hm2 => exact absurd hm2 (by omega)
    | m + 1, hm2 =>
      unfold F_X3_check_19 F_X4_check_58
      by_cases c60 : (60 : Int32) ≤ x3
      · rw [if_pos c60, if_pos c60]
        exact pz_ck55 hR hmi h ho
      · have u := pz_up60 c60
        have hx : vp_in x3 60 := pz_inI h0 (by omega)
        have tx := pz_tn h0
        have eL : f_X2_isLaid laid x3 = if f_X3_isLine x3 = 0 then 0 else if laid x3.toNatClampNeg = 0 then 0 else 1 := rfl
        rw [pz_l1 hx, if_neg pz_o1] at eL
        rw [if_neg c60, if_neg c60, pz_be rfl, eL]
        by_cases cl : laid x3.toNatClampNeg = 0
        · rw [if_pos cl, if_pos rfl, if_pos cl]
          exact pz_ck55 hR hmi h ho
        · rw [if_neg cl, if_neg pz_o1, if_neg cl, if_pos rfl, pz_be rfl, pz_be rfl]
          obtain ⟨Z, hZ⟩ : ∃ Z : pz_T13, Z = f_X4_look cnt kinds firsts seconds heights rules ps qs rs fs opened rt hm boxOf shutBy around inner x3 := ⟨_, rfl⟩
          have lk := pz_look_ok (height := heights) (rules := rules) (ps := ps) (qs := qs) (rs := rs) (fs := fs) (opened := opened) hR.1 hx hmi
          rw [← hZ] at lk ⊢
          obtain ⟨T, F, H, E, I, U, e, q1, q2, q3, q4⟩ := pz_lkq hR hmi h hx ho hZ
          rw [e]
          have t1 : (x3 + 1).toNatClampNeg = x3.toNatClampNeg + 1 := by
            have := pz_tn (x := x3 + 1) (by omega)
            omega
          by_cases cz : Z.1 = 0
          · rw [if_pos cz, if_pos (show (Z.1, Z.2.1, Z.2.2.1, Z.2.2.2.1, Z.2.2.2.2.1, Z.2.2.2.2.2.1, T, F, H, E, I, U).1 = 0 from cz), cz]
            have mi := lk.2.2.1 cz
            rw [← u.1] at mi
            have b := q2 cz
            rw [← t1] at b
            exact ih m _ _ _ _ _ _ _ _ _ _ _ _ _ _ _ _ _ _ _ (x3 + 1) y (by omega) (by omega) (by omega) (by omega) q1 mi b q4
          · rw [if_neg cz, if_neg (show ¬ (Z.1, Z.2.1, Z.2.2.1, Z.2.2.2.1, Z.2.2.2.2.1, Z.2.2.2.2.2.1, T, F, H, E, I, U).1 = 0 from cz), pz_add0]
            match m, hm2 with
            | 0, hm2 => exact absurd hm2 (by omega)
            | m + 1, hm2 =>
              unfold F_X4_check_58
              rw [if_neg c60, if_neg cl, if_neg cz]
              exact pz_ck55 q1 (lk.2.2.2 cz) (q3 cz) q4
theorem pz_fg : ∀ (n : Nat) (F H E I U : Nat → Int32) (x : Int32), 0 ≤ x.toInt → x.toInt ≤ 60 → 61 ≤ x.toInt + n → (∀ j : Nat, (j : Int) < x.toInt → F j = -1 ∧ H j = -1 ∧ E j = -1 ∧ I j = 0 ∧ U j = 0) → ∃ F2 H2 E2 I2 U2, F_X0_forget_2 n F H E I U x = (F2, H2, E2, I2, U2) ∧ ∀ j : Nat, j < 60 → F2 j = -1 ∧ H2 j = -1 ∧ E2 j = -1 ∧ I2 j = 0 ∧ U2 j = 0 := by
  intro n
  induction n with
  | zero => intro F H E I U x h0 h1 hn; exact absurd hn (by omega)
  | succ n ih =>
    intro F H E I U x h0 h1 hn h
    unfold F_X0_forget_2
    by_cases c60 : (60 : Int32) ≤ x
    · rw [if_pos c60]
      have := pz_le c60
      have e60 : (60 : Int32).toInt = 60 := rfl
      exact ⟨_, _, _, _, _, rfl, fun j hj => h j (by omega)⟩
    · rw [if_neg c60]
      have u := pz_up60 c60
      have t := pz_tn h0
      refine ih _ _ _ _ _ (x + 1) (by omega) (by omega) (by omega) (fun j hj => ?_)
      by_cases cj : j = x.toNatClampNeg
      · rw [cj, pk_us, pk_us, pk_us, pk_us, pk_us]; exact ⟨rfl, rfl, rfl, rfl, rfl⟩
      · rw [pk_un cj, pk_un cj, pk_un cj, pk_un cj, pk_un cj]; exact h j (by omega)
theorem pz_c12 {cnt stopped reason made opened inner : Int32} {kinds firsts seconds heights boxOf shutBy around : Nat → Int32} : ∀ (n : Nat) (rt hm : Nat → Int32) (x2 : Int32), 0 ≤ x2.toInt → x2.toInt ≤ 60 → 61 ≤ x2.toInt + n → (∀ j : Nat, (j : Int) < x2.toInt → rt j = -1 ∧ hm j = -1) → ∃ (rt2 hm2 : Nat → Int32) (y : Int32), F_X4_check_12 n cnt kinds firsts seconds heights laid rules ps qs rs fs c stopped reason made opened rt hm boxOf shutBy around inner x1 x2 = F_X4_check_58 63 cnt kinds firsts seconds heights laid rules ps qs rs fs c 0 0 made 0 rt2 hm2 boxOf shutBy around (-1) x1 y ∧ ∀ j : Nat, j < 60 → rt2 j = -1 ∧ hm2 j = -1 := by
  intro n
  induction n with
  | zero => intro rt hm x2 h0 h1 hn; exact absurd hn (by omega)
  | succ n ih =>
    intro rt hm x2 h0 h1 hn h
    unfold F_X4_check_12
    by_cases c60 : (60 : Int32) ≤ x2
    · rw [if_pos c60]
      have := pz_le c60
      have e60 : (60 : Int32).toInt = 60 := rfl
      exact ⟨_, _, _, rfl, fun j hj => h j (by omega)⟩
    · rw [if_neg c60]
      have u := pz_up60 c60
      have t := pz_tn h0
      refine ih _ _ (x2 + 1) (by omega) (by omega) (by omega) (fun j hj => ?_)
      by_cases cj : j = x2.toNatClampNeg
      · rw [cj, pk_us, pk_us]; exact ⟨rfl, rfl⟩
      · rw [pk_un cj, pk_un cj]; exact h j (by omega)
theorem pz_cn0 {fr en : Nat → Int32} : ∀ n, (∀ j, j < n → fr j = -1) → pz_cn fr en n = 0 := by
  intro n
  induction n with
  | zero => intro _; rfl
  | succ n ih =>
    intro h
    show pz_cn fr en n + _ = 0
    rw [ih (fun j hj => h j (by omega)), if_neg (by rw [h n (by omega)]; decide)]
theorem pz_q_check {cnt stopped reason made opened inner checked : Int32} {kinds firsts seconds heights : Nat → Int32} {tables : Nat → Int64} {frules heads ends inforce usable rt hm boxOf shutBy around : Nat → Int32} (hR : pz_Rf cnt kinds firsts seconds heights tables) : pz_CK 1 (f_X3_check cnt kinds firsts seconds heights tables laid rules ps qs rs fs frules heads ends inforce usable summ) (f_X4_check cnt kinds firsts seconds heights laid rules ps qs rs fs checked stopped reason made opened rt hm boxOf shutBy around inner) := by
  obtain ⟨F, H, E, I, U, e, hz⟩ := pz_fg 61 frules heads ends inforce usable 0 (by decide) (by decide) (by decide) (fun j hj => absurd hj (by rw [pz_zero]; omega))
  obtain ⟨rt2, hm2, y, e2, hz2⟩ := pz_c12 (laid := laid) (rules := rules) (ps := ps) (qs := qs) (rs := rs) (fs := fs) (x1 := cnt) (c := 1) (cnt := cnt) (stopped := stopped) (reason := reason) (made := made) (opened := opened) (inner := inner) (kinds := kinds) (firsts := firsts) (seconds := seconds) (heights := heights) (boxOf := boxOf) (shutBy := shutBy) (around := around) 61 rt hm 0 (by decide) (by decide) (by decide) (fun j hj => absurd hj (by rw [pz_zero]; omega))
  have eX : f_X3_check cnt kinds firsts seconds heights tables laid rules ps qs rs fs frules heads ends inforce usable summ = F_X3_check_19 61 cnt kinds firsts seconds heights tables laid rules ps qs rs fs (F_X0_forget_2 61 frules heads ends inforce usable 0).1 (F_X0_forget_2 61 frules heads ends inforce usable 0).2.1 (F_X0_forget_2 61 frules heads ends inforce usable 0).2.2.1 (F_X0_forget_2 61 frules heads ends inforce usable 0).2.2.2.1 (F_X0_forget_2 61 frules heads ends inforce usable 0).2.2.2.2 summ cnt 0 0 := rfl
  have eM : f_X4_check cnt kinds firsts seconds heights laid rules ps qs rs fs checked stopped reason made opened rt hm boxOf shutBy around inner = F_X4_check_12 61 cnt kinds firsts seconds heights laid rules ps qs rs fs 1 stopped reason made opened rt hm boxOf shutBy around inner cnt 0 := rfl
  rw [eX, eM, e, e2]
  have n1 : ∀ a, a < 60 → ¬ rt2 a = 1 := fun a ha q => by rw [(hz2 a ha).1] at q; exact absurd q (by decide)
  refine pz_ckl 61 63 cnt kinds firsts seconds heights tables F H E I U rt2 hm2 boxOf shutBy around (-1) 0 made 0 y (by decide) (by decide) (by decide) (by decide) hR (pz_MI0 (x := 60) (fun j hj => ⟨(hz2 j hj).2, (hz2 j hj).1⟩) (by decide)) ?_ ?_
  · show pz_B 0 F H E I U rt2 hm2 boxOf shutBy around (-1)
    refine ⟨⟨by decide, fun j hj => by rw [(hz j hj).2.1, (hz2 j hj).2]⟩, fun j hj => absurd hj (Nat.not_lt_zero _), fun j _ hj => hz j hj, fun a ha q => absurd q (n1 a ha), fun a b _ hb q => absurd q (n1 b hb), fun i hi => absurd hi (Nat.not_lt_zero _), fun b hb q => absurd q (n1 b hb), Or.inl ⟨rfl, fun a q => n1 a q.1 q.2.1⟩, fun j hj => absurd hj (Nat.not_lt_zero _), fun j hj => absurd hj (Nat.not_lt_zero _)⟩
  · rw [pz_co60, pz_cn0 60 (fun j hj => (hz j hj).1)]; rfl
end PzCl
