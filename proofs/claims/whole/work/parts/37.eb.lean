/-! the pure part: check: open boxes, their number, shutting -/
theorem pz_oB {fr en : Nat → Int32} {x : Int32} (hx : vp_in x 60) : f_X0_isOpenBox fr en x = if fr x.toNatClampNeg = 1 then (if en x.toNatClampNeg = -1 then 1 else 0) else 0 := by
  have e : f_X0_isOpenBox fr en x = if f_X3_isLine x = 0 then 0 else (if fr x.toNatClampNeg = 1 then (if en x.toNatClampNeg = -1 then 1 else 0) else 0) := rfl
  rw [e, pz_l1 hx, if_neg pz_o1]
def pz_cn (fr en : Nat → Int32) : Nat → Nat
  | 0 => 0
  | n + 1 => pz_cn fr en n + (if fr n = 1 then (if en n = -1 then 1 else 0) else 0)
section PzCn
variable {fr en fr2 en2 : Nat → Int32}
theorem pz_co : ∀ (n : Nat) (x1 x2 : Int32), 0 ≤ x2.toInt → x2.toInt ≤ 60 → 61 ≤ x2.toInt + n → x1 = nI (pz_cn fr en x2.toNatClampNeg) → F_X0_countOpen_4 n fr en x1 x2 = nI (pz_cn fr en 60) := by
  intro n
  induction n with
  | zero => intro x1 x2 h0 h1 hn; exact absurd hn (by omega)
  | succ n ih =>
    intro x1 x2 h0 h1 hn hx
    have t := pz_tn h0
    have e60 : (60 : Int32).toInt = 60 := rfl
    unfold F_X0_countOpen_4
    by_cases c : (60 : Int32) ≤ x2
    · rw [if_pos c]
      have := pz_le c
      have e : x2.toNatClampNeg = 60 := by omega
      rw [e] at hx; exact hx
    · rw [if_neg c, pz_be rfl]
      have u := pz_up60 c
      have t1 : (x2 + 1).toNatClampNeg = x2.toNatClampNeg + 1 := by
        have := pz_tn (x := x2 + 1) (by omega)
        omega
      rw [pz_oB (pz_inI h0 (by omega))]
      have cs : pz_cn fr en (x2.toNatClampNeg + 1) = pz_cn fr en x2.toNatClampNeg + (if fr x2.toNatClampNeg = 1 then (if en x2.toNatClampNeg = -1 then 1 else 0) else 0) := rfl
      by_cases c1 : fr x2.toNatClampNeg = 1
      · rw [if_pos c1]
        rw [if_pos c1] at cs
        by_cases c2 : en x2.toNatClampNeg = -1
        · rw [if_pos c2, if_neg pz_o1]
          rw [if_pos c2] at cs
          refine ih _ (x2 + 1) (by omega) (by omega) (by omega) ?_
          rw [t1, cs, hx]; exact nI_1 _
        · rw [if_neg c2, if_pos rfl]
          rw [if_neg c2] at cs
          refine ih _ (x2 + 1) (by omega) (by omega) (by omega) ?_
          rw [t1, cs, hx]; rfl
      · rw [if_neg c1, if_pos rfl]
        rw [if_neg c1] at cs
        refine ih _ (x2 + 1) (by omega) (by omega) (by omega) ?_
        rw [t1, cs, hx]; rfl
theorem pz_co60 : f_X0_countOpen fr en = nI (pz_cn fr en 60) := pz_co 61 0 0 (by decide) (by decide) (by decide) rfl
theorem pz_cnp (j : Nat) (e : (fr j = 1 ∧ en j = -1) ↔ (fr2 j = 1 ∧ en2 j = -1)) : (if fr j = 1 then (if en j = -1 then 1 else 0) else 0 : Nat) = (if fr2 j = 1 then (if en2 j = -1 then 1 else 0) else 0) := by
  by_cases a : fr j = 1
  · by_cases b : en j = -1
    · have z := e.mp ⟨a, b⟩
      rw [if_pos a, if_pos b, if_pos z.1, if_pos z.2]
    · rw [if_pos a, if_neg b]
      by_cases c : fr2 j = 1
      · by_cases d : en2 j = -1
        · exact absurd (e.mpr ⟨c, d⟩).2 b
        · rw [if_pos c, if_neg d]
      · rw [if_neg c]
  · rw [if_neg a]
    by_cases c : fr2 j = 1
    · by_cases d : en2 j = -1
      · exact absurd (e.mpr ⟨c, d⟩).1 a
      · rw [if_pos c, if_neg d]
    · rw [if_neg c]
theorem pz_cnc : ∀ n, (∀ j, j < n → ((fr j = 1 ∧ en j = -1) ↔ (fr2 j = 1 ∧ en2 j = -1))) → pz_cn fr en n = pz_cn fr2 en2 n := by
  intro n
  induction n with
  | zero => intro _; rfl
  | succ n ih =>
    intro h
    show pz_cn fr en n + _ = pz_cn fr2 en2 n + _
    rw [ih (fun j hj => h j (by omega)), pz_cnp n (h n (by omega))]
theorem pz_cn1 {m : Nat} : ∀ n, m < n → (∀ j, j < n → ¬ j = m → ((fr j = 1 ∧ en j = -1) ↔ (fr2 j = 1 ∧ en2 j = -1))) → ¬ (fr m = 1 ∧ en m = -1) → (fr2 m = 1 ∧ en2 m = -1) → pz_cn fr2 en2 n = pz_cn fr en n + 1 := by
  intro n
  induction n with
  | zero => intro h; exact absurd h (Nat.not_lt_zero _)
  | succ n ih =>
    intro hm h h1 h2
    show pz_cn fr2 en2 n + (if fr2 n = 1 then (if en2 n = -1 then 1 else 0) else 0) = pz_cn fr en n + (if fr n = 1 then (if en n = -1 then 1 else 0) else 0) + 1
    by_cases c : m = n
    · subst c
      have z : (if fr m = 1 then (if en m = -1 then 1 else 0) else 0 : Nat) = 0 := by
        by_cases a : fr m = 1
        · by_cases b : en m = -1
          · exact absurd ⟨a, b⟩ h1
          · rw [if_pos a, if_neg b]
        · rw [if_neg a]
      rw [z, if_pos h2.1, if_pos h2.2, pz_cnc m (fun j hj => h j (by omega) (by omega))]
    · rw [ih (by omega) (fun j hj d => h j (by omega) d) h1 h2, pz_cnp n (h n (by omega) (fun q => c q.symm))]
      omega
theorem pz_io {b : Int32} (hb : pz_top b (fun a => a < 60 ∧ fr a = 1 ∧ en a = -1)) : ∀ (n : Nat) (x : Int32), -1 ≤ x.toInt → x.toInt ≤ 59 → x.toInt + 2 ≤ n → (∀ a : Nat, a < 60 → fr a = 1 → en a = -1 → (a : Int) ≤ x.toInt) → F_X0_innermostOpen_3 n fr en x = b := by
  intro n
  induction n with
  | zero => intro x h0 h1 hn; exact absurd hn (by omega)
  | succ n ih =>
    intro x h0 h1 hn hx
    unfold F_X0_innermostOpen_3
    by_cases c : x < 0
    · rw [if_pos c]
      have := pz_lt c
      rw [pz_zero] at this
      rcases hb with ⟨e, -⟩ | ⟨m, hm, e, p, -⟩
      · exact e.symm
      · exact absurd (hx m p.1 p.2.1 p.2.2) (by omega)
    · have x0 := pz_n0 c
      have t := pz_tn x0
      rw [if_neg c, pz_be rfl, pz_oB (pz_inI x0 (by omega))]
      have dn : (x + (-1)).toInt = x.toInt - 1 := by
        rw [Int32.toInt_add, pz_m1, Int.bmod_eq_of_le (by omega) (by omega)]
        omega
      by_cases o : fr x.toNatClampNeg = 1 ∧ en x.toNatClampNeg = -1
      · rw [if_pos o.1, if_pos o.2, if_neg pz_o1]
        rcases hb with ⟨-, q⟩ | ⟨m, hm, e, p, mx⟩
        · exact absurd ⟨by omega, o⟩ (q x.toNatClampNeg)
        · have a := hx m p.1 p.2.1 p.2.2
          have b := mx x.toNatClampNeg ⟨by omega, o⟩
          have em : m = x.toNatClampNeg := by omega
          rw [e, em]; exact pz_nI x0
      · have z : (if fr x.toNatClampNeg = 1 then (if en x.toNatClampNeg = -1 then 1 else 0) else 0 : Int32) = 0 := by
          by_cases a : fr x.toNatClampNeg = 1
          · by_cases b : en x.toNatClampNeg = -1
            · exact absurd ⟨a, b⟩ o
            · rw [if_pos a, if_neg b]
          · rw [if_neg a]
        rw [z, if_pos rfl]
        refine ih (x + (-1)) (by omega) (by omega) (by omega) (fun a ha p q => ?_)
        have y := hx a ha p q
        by_cases ca : a = x.toNatClampNeg
        · rw [ca] at p q; exact absurd ⟨p, q⟩ o
        · omega
theorem pz_io59 {b : Int32} (hb : pz_top b (fun a => a < 60 ∧ fr a = 1 ∧ en a = -1)) : f_X0_innermostOpen fr en = b := pz_io hb 61 59 (by decide) (by decide) (by decide) (fun a ha _ _ => by
  have : (59 : Int32).toInt = 59 := rfl
  omega)
/-- shutting -/
theorem pz_sh {x1 x2 : Int32} (h1 : 0 ≤ x1.toInt) (h2 : x2.toInt < 60) (h12 : x1.toInt ≤ x2.toInt) : ∀ (n : Nat) (I U : Nat → Int32) (x3 : Int32), x1.toInt ≤ x3.toInt → x3.toInt ≤ x2.toInt + 1 → x2.toInt + 2 ≤ x3.toInt + n → ∃ I2 U2 : Nat → Int32, F_X0_shutBox_17 n fr en I U x1 x2 x3 = (upd en x1.toNatClampNeg x2, I2, U2) ∧ (∀ j : Nat, x3.toInt ≤ j → (j : Int) ≤ x2.toInt → I2 j = 0) ∧ (∀ j : Nat, ¬ (x3.toInt ≤ j ∧ (j : Int) ≤ x2.toInt) → I2 j = I j) ∧ U2 x1.toNatClampNeg = (if fr x2.toNatClampNeg = 2 then 0 else 1) ∧ (∀ j : Nat, ¬ j = x1.toNatClampNeg → x3.toInt ≤ j → (j : Int) ≤ x2.toInt → U2 j = 0) ∧ (∀ j : Nat, ¬ j = x1.toNatClampNeg → ¬ (x3.toInt ≤ j ∧ (j : Int) ≤ x2.toInt) → U2 j = U j) := by
  intro n
  induction n with
  | zero => intro I U x3 a b c; exact absurd c (by omega)
  | succ n ih =>
    intro I U x3 a b c
    unfold F_X0_shutBox_17
    by_cases cl : x2 < x3
    · have l := pz_lt cl
      rw [if_pos cl]
      by_cases c2 : fr x2.toNatClampNeg = 2
      · rw [if_pos c2]
        refine ⟨_, _, rfl, fun j p q => absurd p (by omega), fun j _ => rfl, by rw [pk_us, if_pos c2], fun j _ p q => absurd p (by omega), fun j p _ => by rw [pk_un p]⟩
      · rw [if_neg c2]
        refine ⟨_, _, rfl, fun j p q => absurd p (by omega), fun j _ => rfl, by rw [pk_us, if_neg c2], fun j _ p q => absurd p (by omega), fun j p _ => by rw [pk_un p]⟩
    · have l := pz_nlt cl
      have u := pz_inc (x := x3) (by omega)
      have t3 := pz_tn (x := x3) (by omega)
      rw [if_neg cl]
      obtain ⟨I2, U2, e, p1, p2, p3, p4, p5⟩ := ih (upd I x3.toNatClampNeg 0) (upd U x3.toNatClampNeg 0) (x3 + 1) (by omega) (by omega) (by omega)
      refine ⟨I2, U2, e, fun j p q => ?_, fun j p => ?_, p3, fun j d p q => ?_, fun j d p => ?_⟩
      · by_cases cj : j = x3.toNatClampNeg
        · rw [p2 j (by omega), cj, pk_us]
        · exact p1 j (by omega) q
      · rw [p2 j (by omega), pk_un (by omega)]
      · by_cases cj : j = x3.toNatClampNeg
        · rw [p5 j d (by omega), cj, pk_us]
        · exact p4 j d (by omega) q
      · rw [p5 j d (by omega), pk_un (by omega)]
end PzCn
section PzKe
variable {frules heads ends inforce usable rt hm boxOf shutBy around : Nat → Int32} {inner opened x1 r f : Int32}
theorem pz_Bop {K : Nat} (h : pz_B K frules heads ends inforce usable rt hm boxOf shutBy around inner) (a : Nat) : (a < 60 ∧ rt a = 1 ∧ shutBy a = -1) ↔ (a < 60 ∧ frules a = 1 ∧ ends a = -1) := by
  obtain ⟨h1, h2, h3, h4, -⟩ := h
  constructor
  · rintro ⟨a60, q1, q2⟩
    have z := h4 a a60 q1
    have y := z.2.2
    rw [if_pos q2] at y
    exact ⟨a60, by rw [(h2 a z.1).1]; exact q1, y⟩
  · rintro ⟨a60, q1, q2⟩
    have aK : a < K := by
      rcases Nat.lt_or_ge a K with q | q
      · exact q
      · have z := (h3 a q a60).1
        rw [z] at q1; exact absurd q1 (by decide)
    rw [(h2 a aK).1] at q1
    have z := h4 a a60 q1
    refine ⟨a60, q1, ?_⟩
    by_cases c : shutBy a = -1
    · exact c
    · have y := z.2.2
      rw [if_neg c, q2] at y
      rcases z.2.1 with q | q
      · exact absurd q c
      · have s := pz_sub1 (f := shutBy a) (by omega)
        rw [← y, pz_m1] at s
        omega
theorem pz_Bio {K : Nat} (h : pz_B K frules heads ends inforce usable rt hm boxOf shutBy around inner) : f_X0_innermostOpen frules ends = inner := pz_io59 (pz_topc (pz_Bop h) h.2.2.2.2.2.2.2.1)
/-- what is kept of a line: SHUT -/
theorem pz_kS (h : pz_B x1.toNatClampNeg frules heads ends inforce usable rt hm boxOf shutBy around inner) (hx : vp_in x1 60) (hi : ¬ inner = -1) (ho : opened = f_X0_countOpen frules ends) :
    ∃ F H E I U, f_X0_keep frules heads ends inforce usable x1 2 (-1) = (F, H, E, I, U) ∧ pz_B (x1.toNatClampNeg + 1) F H E I U (upd rt x1.toNatClampNeg 2) hm (upd boxOf x1.toNatClampNeg (around inner.toNatClampNeg)) (upd shutBy inner.toNatClampNeg x1) around (around inner.toNatClampNeg) ∧ opened - 1 = f_X0_countOpen F E := by
  have xi := vp_in_iff.mp hx
  have xn := pz_ixN hx
  have tx := pz_tn xi.1
  obtain ⟨m, hm60, em, pm, mx⟩ : ∃ n : Nat, n < 60 ∧ inner = nI n ∧ (n < 60 ∧ rt n = 1 ∧ shutBy n = -1) ∧ ∀ a, (a < 60 ∧ rt a = 1 ∧ shutBy a = -1) → a ≤ n := by
    rcases h.2.2.2.2.2.2.2.1 with q | q
    · exact absurd q.1 hi
    · exact q
  have mK := (h.2.2.2.1 m hm60 pm.2.1).1
  have k3 := h.2.2.1 _ (Nat.le_refl _) xn
  have hn := pz_rtk h xn
  have en : inner.toNatClampNeg = m := by rw [em]; exact pz_nIt hm60
  have ei : inner.toInt = m := by rw [em]; exact nI_toInt (by omega)
  have s1 := pz_sub1 (f := x1) (by omega)
  have t1 := pz_tn (x := x1 - 1) (by omega)
  have ix : (x1 - 1).toNatClampNeg = x1.toNatClampNeg - 1 := by omega
  have io : f_X0_innermostOpen (upd frules x1.toNatClampNeg 2) ends = inner := by
    refine pz_io59 (pz_topc (fun a => (pz_Bop h a).trans ?_) h.2.2.2.2.2.2.2.1)
    by_cases c : a = x1.toNatClampNeg
    · rw [c, pk_us, k3.1]
      exact ⟨fun q => absurd q.2.1 (by decide), fun q => absurd q.2.1 (by decide)⟩
    · rw [pk_un c]
  have eK : f_X0_keep frules heads ends inforce usable x1 2 (-1) = (upd frules x1.toNatClampNeg 2, upd heads x1.toNatClampNeg (-1), (f_X0_shutBox (upd frules x1.toNatClampNeg 2) ends (upd inforce x1.toNatClampNeg 0) usable inner (x1 - 1))) := by
    unfold f_X0_keep
    rw [pz_be rfl, pz_l1 hx, if_neg pz_o1, if_pos rfl, if_pos rfl, pz_be rfl, pz_be rfl, io]
  have eS : f_X0_shutBox (upd frules x1.toNatClampNeg 2) ends (upd inforce x1.toNatClampNeg 0) usable inner (x1 - 1) = if f_X3_isLine inner = 0 then (ends, upd inforce x1.toNatClampNeg 0, usable) else if f_X3_isLine (x1 - 1) = 0 then (ends, upd inforce x1.toNatClampNeg 0, usable) else F_X0_shutBox_17 61 (upd frules x1.toNatClampNeg 2) ends (upd inforce x1.toNatClampNeg 0) usable inner (x1 - 1) inner := rfl
  obtain ⟨I, U, e, p1, p2, p3, p4, p5⟩ := pz_sh (fr := upd frules x1.toNatClampNeg 2) (en := ends) (x1 := inner) (x2 := x1 - 1) (by omega) (by omega) (by omega) 61 (upd inforce x1.toNatClampNeg 0) usable inner (Int.le_refl _) (by omega) (by omega)
  rw [eS, pz_l1 (x := inner) (pz_inI (by omega) (by omega)), pz_l1 (x := x1 - 1) (pz_inI (by omega) (by omega)), if_neg pz_o1, if_neg pz_o1, e] at eK
  refine ⟨_, _, _, _, _, eK, ?_, ?_⟩
  · rw [en]
    rw [ix, pk_un (by omega), en] at p3
    rw [en] at p4 p5
    exact pz_Bs h xn (by omega) em hm60 (fun j a b => p1 j (by omega) (by omega)) (fun j a => p2 j (by omega)) p3 (fun j a b c => p4 j a (by omega) (by omega)) (fun j a b => p5 j a (by omega))
  · rw [ho, pz_co60, pz_co60, en]
    have oo := (pz_Bop h m).mp pm
    have c1 := pz_cn1 (fr := upd frules x1.toNatClampNeg 2) (en := upd ends m (x1 - 1)) (fr2 := frules) (en2 := ends) (m := m) 60 hm60 (fun j hj hjm => by
      rw [pk_un hjm]
      by_cases c : j = x1.toNatClampNeg
      · rw [c, pk_us, k3.1]
        exact ⟨fun q => absurd q.1 (by decide), fun q => absurd q.1 (by decide)⟩
      · rw [pk_un c]) (fun q => by
      have z := q.2
      rw [pk_us] at z
      rw [z, pz_m1] at s1
      omega) oo.2
    rw [c1, ← nI_1]
    exact Int32.add_sub_cancel _ _
/-- what is kept of a line: any but SHUT -/
theorem pz_kO (hx : vp_in x1 60) (hr : ¬ r = 2) (hf : ¬ f = -1) : f_X0_keep frules heads ends inforce usable x1 r f = (upd frules x1.toNatClampNeg r, upd heads x1.toNatClampNeg f, ends, upd inforce x1.toNatClampNeg 1, usable) := by
  unfold f_X0_keep
  rw [pz_be rfl, pz_l1 hx, if_neg pz_o1, if_neg hf, if_neg hr]
theorem pz_coO (h : pz_B x1.toNatClampNeg frules heads ends inforce usable rt hm boxOf shutBy around inner) (hx : vp_in x1 60) (hr : ¬ r = 1) : f_X0_countOpen (upd frules x1.toNatClampNeg r) ends = f_X0_countOpen frules ends := by
  have k3 := h.2.2.1 _ (Nat.le_refl _) (pz_ixN hx)
  rw [pz_co60, pz_co60, pz_cnc 60 (fun j hj => ?_)]
  by_cases c : j = x1.toNatClampNeg
  · rw [c, pk_us, k3.1]
    exact ⟨fun q => absurd q.1 hr, fun q => absurd q.1 (by decide)⟩
  · rw [pk_un c]
theorem pz_coA (h : pz_B x1.toNatClampNeg frules heads ends inforce usable rt hm boxOf shutBy around inner) (hx : vp_in x1 60) : f_X0_countOpen (upd frules x1.toNatClampNeg 1) ends = f_X0_countOpen frules ends + 1 := by
  have xn := pz_ixN hx
  have k3 := h.2.2.1 _ (Nat.le_refl _) xn
  rw [pz_co60, pz_co60, nI_1, pz_cn1 (fr := frules) (en := ends) (m := x1.toNatClampNeg) 60 xn (fun j hj hjm => by rw [pk_un hjm]) (fun q => ?_) ⟨by rw [pk_us], k3.2.2.1⟩]
  rw [k3.1] at q
  exact absurd q.1 (by decide)
end PzKe
