/-! the pure part: chains of boxes -/
/-- the boxes S, each with the one around it -/
def pz_CL (around : Nat → Int32) (S : Nat → Prop) : Prop := ∀ a, S a → a < 60 ∧ pz_top (around a) (fun b => b < a ∧ S b)
section PzCh
variable {around shutBy boxOf rt : Nat → Int32} {S : Nat → Prop} {x1 x2 : Int32}
theorem pz_nIt {n : Nat} (h : n < 60) : (nI n).toNatClampNeg = n := nI_clamp (by omega)
theorem pz_nIm {n : Nat} (h : n < 60) : ¬ nI n = -1 := fun q => by
  have e := congrArg Int32.toInt q
  rw [nI_toInt (by omega), pz_m1] at e
  omega
theorem pz_ao (hc : pz_CL around S) : ∀ (n M : Nat) (b : Int32), M + 1 ≤ n → pz_top b (fun a => a < M ∧ S a) → (F_X4_allOpen_2 n shutBy around x1 b = 1 ∧ ∀ a, a < M → S a → shutBy a = -1) ∨ (F_X4_allOpen_2 n shutBy around x1 b = 0 ∧ ¬ ∀ a, a < M → S a → shutBy a = -1) := by
  intro n
  induction n with
  | zero => intro M b h; exact absurd h (by omega)
  | succ n ih =>
    intro M b h ht
    unfold F_X4_allOpen_2
    rcases ht with ⟨e, hn⟩ | ⟨m, hm, e, hs, hmax⟩
    · rw [if_pos e, if_pos e]
      exact Or.inl ⟨rfl, fun a ha hS => absurd ⟨ha, hS⟩ (hn a)⟩
    · rw [e, if_neg (pz_nIm hm), pz_nIt hm]
      by_cases c : shutBy m = -1
      · rw [if_pos c]
        rcases ih m (around m) (by omega) (hc m hs.2).2 with ⟨r, q⟩ | ⟨r, q⟩
        · refine Or.inl ⟨r, fun a ha hS => ?_⟩
          have l := hmax a ⟨ha, hS⟩
          by_cases am : a = m
          · rw [am]; exact c
          · exact q a (by omega) hS
        · exact Or.inr ⟨r, fun z => q (fun a ha hS => z a (by omega) hS)⟩
      · rw [if_neg c, if_neg (pz_nIm hm)]
        exact Or.inr ⟨rfl, fun z => c (z m hs.1 hs.2)⟩
theorem pz_li (hc : pz_CL around S) {t : Nat} (ht60 : t < 60) : ∀ (n M : Nat) (b : Int32), M + 1 ≤ n → pz_top b (fun a => a < M ∧ S a) → (F_X4_liesIn_7 n boxOf around x1 (nI t) b = 1 ∧ t < M ∧ S t) ∨ (F_X4_liesIn_7 n boxOf around x1 (nI t) b = 0 ∧ ¬ (t < M ∧ S t)) := by
  intro n
  induction n with
  | zero => intro M b h; exact absurd h (by omega)
  | succ n ih =>
    intro M b h ht
    unfold F_X4_liesIn_7
    rcases ht with ⟨e, hn⟩ | ⟨m, hm, e, hs, hmax⟩
    · rw [if_pos e, if_pos e]
      exact Or.inr ⟨rfl, hn t⟩
    · rw [e, if_neg (pz_nIm hm), if_neg (pz_nIm hm), pz_nIt hm]
      by_cases c : nI m = nI t
      · rw [if_pos c]
        have em : m = t := (nI_eq (by omega) (by omega)).mp c
        exact Or.inl ⟨rfl, by rw [← em]; exact hs.1, by rw [← em]; exact hs.2⟩
      · rw [if_neg c]
        rcases ih m (around m) (by omega) (hc m hs.2).2 with ⟨r, q1, q2⟩ | ⟨r, q⟩
        · exact Or.inl ⟨r, by have := hs.1; omega, q2⟩
        · refine Or.inr ⟨r, fun z => q ⟨?_, z.2⟩⟩
          have l := hmax t z
          have : t ≠ m := fun q => c (by rw [q])
          omega
end PzCh
theorem pz_l1 {x : Int32} (hx : vp_in x 60) : f_X3_isLine x = 1 := by
  rcases pz_line01 x with ⟨e, -⟩ | ⟨-, e⟩
  · exact e
  · exact absurd hx e
theorem pz_o1 : ¬ (1 : Int32) = 0 := by decide
theorem pz_iF {inforce : Nat → Int32} {x : Int32} (hx : vp_in x 60) : f_X0_isInForce inforce x = if inforce x.toNatClampNeg = 0 then 0 else 1 := by
  have e : f_X0_isInForce inforce x = if f_X3_isLine x = 0 then 0 else if inforce x.toNatClampNeg = 0 then 0 else 1 := rfl
  rw [e, pz_l1 hx, if_neg pz_o1]
theorem pz_rO {frules : Nat → Int32} {x : Int32} (hx : vp_in x 60) : f_X0_ruleOf frules x = frules x.toNatClampNeg := by
  have e : f_X0_ruleOf frules x = if f_X3_isLine x = 0 then -1 else frules x.toNatClampNeg := rfl
  rw [e, pz_l1 hx, if_neg pz_o1]
theorem pz_eO {ends : Nat → Int32} {x : Int32} (hx : vp_in x 60) : f_X0_endOf ends x = ends x.toNatClampNeg := by
  have e : f_X0_endOf ends x = if f_X3_isLine x = 0 then -1 else ends x.toNatClampNeg := rfl
  rw [e, pz_l1 hx, if_neg pz_o1]
section PzBx
variable {k : Nat} {frules heads ends inforce usable rt hm boxOf shutBy around : Nat → Int32} {inner : Int32}
/-- what a line lies in, is closed -/
theorem pz_BCL (h : pz_B k frules heads ends inforce usable rt hm boxOf shutBy around inner) {i : Nat} (hi : i < 60) : pz_CL around (pz_E rt shutBy i) := by
  obtain ⟨h1, h2, h3, h4, h5, h6, h7, -⟩ := h
  intro a ha
  have a60 : a < 60 := by have := ha.2.1; omega
  refine ⟨a60, ?_⟩
  have t := h7 a a60 ha.1
  have eqv : ∀ b, b < a → (pz_E rt shutBy a b ↔ pz_E rt shutBy i b) := by
    intro b hb
    constructor
    · intro hE
      refine ⟨hE.1, by have := ha.2.1; omega, ?_⟩
      by_cases c : shutBy b = -1
      · exact Or.inl c
      · have n := h5 b a hb a60 ha.1 hE c
        rcases ha.2.2 with q | q
        · exact absurd q n.1
        · right; omega
    · intro hE
      refine ⟨hE.1, by omega, ?_⟩
      rcases hE.2.2 with q | q
      · exact Or.inl q
      · right; have := ha.2.1; omega
  rcases t with ⟨e, hn⟩ | ⟨m, hm, e, hs, hmax⟩
  · exact Or.inl ⟨e, fun b q => hn b ⟨q.1, (eqv b q.1).mpr q.2⟩⟩
  · exact Or.inr ⟨m, hm, e, ⟨hs.1, (eqv m hs.1).mp hs.2⟩, fun b q => hmax b ⟨q.1, (eqv b q.1).mpr q.2⟩⟩
theorem pz_Btop (h : pz_B k frules heads ends inforce usable rt hm boxOf shutBy around inner) {i : Nat} (hi : i < k) : pz_top (boxOf i) (fun a => a < 60 ∧ pz_E rt shutBy i a) := by
  have t := h.2.2.2.2.2.1 i hi
  have k60 := h.1.1
  rcases t with ⟨e, hn⟩ | ⟨m, hm, e, hs, hmax⟩
  · exact Or.inl ⟨e, fun a q => hn a q.2⟩
  · exact Or.inr ⟨m, hm, e, ⟨hm, hs⟩, fun a q => hmax a q.2⟩
theorem pz_BinF (h : pz_B k frules heads ends inforce usable rt hm boxOf shutBy around inner) {x : Int32} (hx : vp_in x 60) : f_X4_inForce hm boxOf shutBy around x = if inforce x.toNatClampNeg = 0 then 0 else 1 := by
  have xn := pz_ixN hx
  have hh := h.1.2 _ xn
  unfold f_X4_inForce
  by_cases c : x.toNatClampNeg < k
  · have q := h.2.2.2.2.2.2.2.2.1 _ c
    rw [← hh]
    by_cases ch : heads x.toNatClampNeg = -1
    · rw [if_pos ch]
      by_cases ci : inforce x.toNatClampNeg = 0
      · rw [if_pos ci]
      · exact absurd ch (q.mp ci).1
    · rw [if_neg ch, pz_be rfl]
      unfold f_X4_allOpen
      rcases pz_ao (shutBy := shutBy) (x1 := boxOf x.toNatClampNeg) (pz_BCL h xn) 62 60 (boxOf x.toNatClampNeg) (by decide) (pz_Btop h c) with ⟨r, z⟩ | ⟨r, z⟩
      · rw [r, if_neg (by decide)]
        by_cases ci : inforce x.toNatClampNeg = 0
        · exact absurd ci (q.mpr ⟨ch, fun a ha => z a (by have := ha.2.1; omega) ha⟩)
        · rw [if_neg ci]
      · rw [r, if_pos rfl]
        by_cases ci : inforce x.toNatClampNeg = 0
        · rw [if_pos ci]
        · exact absurd (fun a _ ha => (q.mp ci).2 a ha) z
  · have q := h.2.2.1 _ (by omega) xn
    rw [← hh, if_pos q.2.1, if_pos q.2.2.2.1]
theorem pz_q_force {x : Int32} (h : pz_B k frules heads ends inforce usable rt hm boxOf shutBy around inner) : f_X3_force inforce x = f_X4_force hm boxOf shutBy around x := by
  have eX : f_X3_force inforce x = if f_X3_isLine x = 0 then -3 else if f_X0_isInForce inforce x = 0 then 0 else 1 := rfl
  have eM : f_X4_force hm boxOf shutBy around x = if f_X4_isLine x = 0 then -3 else if f_X4_inForce hm boxOf shutBy around x = 0 then 0 else 1 := rfl
  rw [eX, eM, ← pz_lineE]
  rcases pz_line01 x with ⟨e, q⟩ | ⟨e, q⟩
  · rw [e, if_neg pz_o1, if_neg pz_o1, pz_iF q, pz_BinF h q]
  · rw [e, if_pos rfl, if_pos rfl]
theorem pz_q_force0 {x : Int32} (h : ∀ j, j < 60 → heads j = -1 ∧ hm j = -1 ∧ inforce j = 0) : f_X3_force inforce x = f_X4_force hm boxOf shutBy around x := by
  have eX : f_X3_force inforce x = if f_X3_isLine x = 0 then -3 else if f_X0_isInForce inforce x = 0 then 0 else 1 := rfl
  have eM : f_X4_force hm boxOf shutBy around x = if f_X4_isLine x = 0 then -3 else if f_X4_inForce hm boxOf shutBy around x = 0 then 0 else 1 := rfl
  rw [eX, eM, ← pz_lineE]
  rcases pz_line01 x with ⟨e, q⟩ | ⟨e, q⟩
  · have z := h _ (pz_ixN q)
    have eF : f_X4_inForce hm boxOf shutBy around x = 0 := by unfold f_X4_inForce; rw [if_pos z.2.1]
    rw [e, if_neg pz_o1, if_neg pz_o1, pz_iF q, eF, if_pos z.2.2]
  · rw [e, if_pos rfl, if_pos rfl]
/-- grounds: both sides alike -/
theorem pz_Bgr (h : pz_B k frules heads ends inforce usable rt hm boxOf shutBy around inner) {x y : Int32} (hx : vp_in x 60) (hh : ¬ heads x.toNatClampNeg = -1) (hy0 : 0 ≤ y.toInt) (hyx : y.toInt ≤ x.toInt) : f_X0_isGround frules ends y x = f_X4_hangsOn rt boxOf around x y := by
  have xi := vp_in_iff.mp hx
  have xn := pz_ixN hx
  have ex := pz_tn xi.1
  have ey := pz_tn hy0
  have hy : vp_in y 60 := pz_inI hy0 (by omega)
  have xk : x.toNatClampNeg < k := by
    rcases Nat.lt_or_ge x.toNatClampNeg k with q | q
    · exact q
    · exact absurd (h.2.2.1 _ q xn).2.1 hh
  have yk : y.toNatClampNeg < k := by omega
  have fr := (h.2.1 _ yk).1
  have eG : f_X0_isGround frules ends y x = if f_X0_ruleOf frules y = 0 then 1 else if f_X0_liesInBox frules ends x y = 0 then 0 else 1 := rfl
  have eL : f_X0_liesInBox frules ends x y = if f_X0_ruleOf frules y = 1 then (if x < y then 0 else (if f_X0_endOf ends y = -1 then 1 else (if f_X0_endOf ends y < x then 0 else 1))) else 0 := rfl
  have eH : f_X4_hangsOn rt boxOf around x y = if rt y.toNatClampNeg = 0 then (if y ≤ x then 1 else (if rt y.toNatClampNeg = 1 then (if f_X4_liesIn boxOf around x y = 0 then 0 else 1) else 0)) else (if rt y.toNatClampNeg = 1 then (if f_X4_liesIn boxOf around x y = 0 then 0 else 1) else 0) := rfl
  rw [eG, eL, eH, pz_rO hy, pz_eO hy, fr]
  by_cases c0 : rt y.toNatClampNeg = 0
  · rw [if_pos c0, if_pos c0, if_pos (by rw [Int32.le_iff_toInt_le]; exact hyx)]
  rw [if_neg c0, if_neg c0]
  by_cases c1 : rt y.toNatClampNeg = 1
  · have nlt : ¬ x < y := by rw [Int32.lt_iff_toInt_lt]; omega
    rw [if_pos c1, if_pos c1, if_neg nlt]
    have b4 := h.2.2.2.1 _ (by omega : y.toNatClampNeg < 60) c1
    have li := pz_li (boxOf := boxOf) (x1 := x) (pz_BCL h xn) (by omega : y.toNatClampNeg < 60) 62 60 (boxOf x.toNatClampNeg) (by decide) (pz_Btop h xk)
    rw [← pz_nI hy0] at li
    have lie : f_X4_liesIn boxOf around x y = F_X4_liesIn_7 62 boxOf around x y (boxOf x.toNatClampNeg) := rfl
    rw [lie]
    have en : ends y.toNatClampNeg = -1 ∧ shutBy y.toNatClampNeg = -1 ∨ (¬ ends y.toNatClampNeg = -1 ∧ ¬ shutBy y.toNatClampNeg = -1 ∧ (ends y.toNatClampNeg).toInt = (shutBy y.toNatClampNeg).toInt - 1) := by
      have e := b4.2.2
      by_cases cs : shutBy y.toNatClampNeg = -1
      · rw [if_pos cs] at e; exact Or.inl ⟨e, cs⟩
      · rw [if_neg cs] at e
        rcases b4.2.1 with q | q
        · exact absurd q cs
        · have s1 := pz_sub1 (f := shutBy y.toNatClampNeg) (by omega)
          refine Or.inr ⟨fun z => ?_, cs, by rw [e]; exact s1⟩
          rw [e] at z
          have := congrArg Int32.toInt z
          rw [s1, pz_m1] at this
          omega
    rcases en with ⟨e1, e2⟩ | ⟨e1, e2, e3⟩
    · rw [if_pos e1, if_neg pz_o1]
      rcases li with ⟨r, -, -⟩ | ⟨r, z⟩
      · rw [r, if_neg pz_o1]
      · exact absurd ⟨by omega, c1, by omega, Or.inl e2⟩ z
    · rw [if_neg e1]
      by_cases cl : ends y.toNatClampNeg < x
      · rw [if_pos cl, if_pos rfl]
        have := pz_lt cl
        rcases li with ⟨r, -, z⟩ | ⟨r, -⟩
        · rcases z.2.2 with q | q
          · exact absurd q e2
          · exact absurd q (by omega)
        · rw [r, if_pos rfl]
      · rw [if_neg cl, if_neg pz_o1]
        have := pz_nlt cl
        rcases li with ⟨r, -, -⟩ | ⟨r, z⟩
        · rw [r, if_neg pz_o1]
        · exact absurd ⟨by omega, c1, by omega, Or.inr (by omega)⟩ z
  · rw [if_neg c1, if_neg c1, if_pos rfl]
end PzBx
