/-! the pure part: sound -/
theorem pz_hO {heads : Nat → Int32} {x : Int32} (hx : vp_in x 60) : f_X0_headOf heads x = heads x.toNatClampNeg := by
  have e : f_X0_headOf heads x = if f_X3_isLine x = 0 then -1 else heads x.toNatClampNeg := rfl
  rw [e, pz_l1 hx, if_neg pz_o1]
def pz_al (W : Int64) : Nat → Int32
  | 0 => 1
  | j + 1 => if pz_bit W j = true then 0 else pz_al W j
theorem pz_al01 (W : Int64) : ∀ n, (pz_al W n = 1 ∧ ∀ j, j < n → pz_bit W j = false) ∨ (pz_al W n = 0 ∧ ∃ j, j < n ∧ pz_bit W j = true) := by
  intro n
  induction n with
  | zero => exact Or.inl ⟨rfl, fun j hj => absurd hj (Nat.not_lt_zero _)⟩
  | succ n ih =>
    unfold pz_al
    cases hb : pz_bit W n
    · rw [if_neg (by decide)]
      rcases ih with ⟨a, b⟩ | ⟨a, j, hj, b⟩
      · refine Or.inl ⟨a, fun j hj => ?_⟩
        by_cases c : j = n
        · rw [c]; exact hb
        · exact b j (by omega)
      · exact Or.inr ⟨a, j, by omega, b⟩
    · rw [if_pos rfl]
      exact Or.inr ⟨rfl, n, by omega, hb⟩
theorem pz_al64 (W : Int64) : (if lg_cmp W 0 = 0 then (1 : Int32) else 0) = pz_al W 64 := by
  have z : (lg_cmp W 0 = 0) ↔ W = 0 := lg_cmp_eq W 0
  rcases pz_al01 W 64 with ⟨a, b⟩ | ⟨a, j, hj, b⟩
  · rw [a]
    have : W = 0 := by
      rw [← Int64.toBitVec_inj]
      apply BitVec.eq_of_getLsbD_eq
      intro i hi
      have q1 : pz_bit W i = false := b i hi
      have q2 := pz_bit_0 i
      unfold pz_bit at q1 q2
      rw [q1, q2]
    rw [if_pos (z.mpr this)]
  · rw [a]
    have : ¬ W = 0 := fun q => by
      rw [q, pz_bit_0] at b
      exact absurd b (by decide)
    rw [if_neg (fun q => this (z.mp q))]
theorem pz_bf {t : Int64} {v : Nat} (h : pz_bit t v = false) : pz_b t v = 0 := (pz_b01 t v).mpr h
theorem pz_bt {t : Int64} {v : Nat} (h : pz_bit t v = true) : pz_b t v = 1 := by unfold pz_b; rw [if_pos h]
section PzSd
variable {k : Nat} {cnt : Int32} {kinds firsts seconds heights : Nat → Int32} {tables : Nat → Int64} {frules heads ends inforce usable rt hm boxOf shutBy around : Nat → Int32} {inner x1 : Int32}
theorem pz_hg01 {y : Int32} (h : ¬ f_X4_hangsOn rt boxOf around x1 y = 0) : rt y.toNatClampNeg = 0 ∨ rt y.toNatClampNeg = 1 := by
  have eH : f_X4_hangsOn rt boxOf around x1 y = if rt y.toNatClampNeg = 0 then (if y ≤ x1 then 1 else (if rt y.toNatClampNeg = 1 then (if f_X4_liesIn boxOf around x1 y = 0 then 0 else 1) else 0)) else (if rt y.toNatClampNeg = 1 then (if f_X4_liesIn boxOf around x1 y = 0 then 0 else 1) else 0) := rfl
  by_cases c0 : rt y.toNatClampNeg = 0
  · exact Or.inl c0
  · by_cases c1 : rt y.toNatClampNeg = 1
    · exact Or.inr c1
    · rw [eH, if_neg c0, if_neg c1] at h
      exact absurd rfl h
theorem pz_sd1 (h : pz_B k frules heads ends inforce usable rt hm boxOf shutBy around inner) (hg : pz_gr cnt rt hm) (hx : vp_in x1 60) (hh : ¬ heads x1.toNatClampNeg = -1) {tr : Nat → Int32} {v : Nat} (ht : ∀ f : Int32, pz_vf cnt f → tr f.toNatClampNeg = pz_b (tables f.toNatClampNeg) v) {K : Int32 → Int32 × (Nat → Int32)} {y2 y3 : Int32} : ∀ (n : Nat) (T : Int64) (x5 : Int32), 0 ≤ x5.toInt → x5.toInt ≤ 60 → 61 ≤ x5.toInt + n → F_X4_sound_43 n K cnt kinds firsts seconds rt hm boxOf around tr x1 y2 y3 (pz_b T v) x5 = K (pz_b (F_X3_groundsTable_7 n cnt tables frules heads ends x1 T x5) v) := by
  have xi := vp_in_iff.mp hx
  have e60 : (60 : Int32).toInt = 60 := rfl
  intro n
  induction n with
  | zero => intro T x5 h0 h1 hn; exact absurd hn (by omega)
  | succ n ih =>
    intro T x5 h0 h1 hn
    unfold F_X4_sound_43 F_X3_groundsTable_7
    by_cases c : x1 < x5
    · rw [if_pos c, if_pos c]
    have cl := pz_nlt c
    have n60 : ¬ (60 : Int32) ≤ x5 := by rw [Int32.le_iff_toInt_le, e60]; omega
    have i := pz_up60 n60
    have hy : vp_in x5 60 := pz_inI h0 (by omega)
    have yn := pz_ixN hy
    have nx := fun T => ih T (x5 + 1) (by omega) (by omega) (by omega)
    rw [if_neg c, if_neg c, if_neg n60, pz_be rfl, pz_be rfl, pz_Bgr h hx hh h0 cl]
    by_cases cg : f_X4_hangsOn rt boxOf around x1 x5 = 0
    · rw [if_pos cg, if_pos cg]
      cases hb : pz_bit T v
      · have e := nx T
        rw [pz_bf hb] at e ⊢
        rw [if_pos rfl]; exact e
      · have e := nx T
        rw [pz_bt hb] at e ⊢
        rw [if_neg pz_o1]; exact e
    · rw [if_neg cg, if_neg cg, pz_be rfl, pz_be rfl, pz_hO hy, h.1.2 _ yn]
      have vf := hg _ yn (pz_hg01 cg)
      rw [pz_tOf vf, ht _ vf]
      have e := nx (T &&& tables (hm x5.toNatClampNeg).toNatClampNeg)
      have ba := pz_bit_and T (tables (hm x5.toNatClampNeg).toNatClampNeg) v
      cases hb : pz_bit T v
      · rw [hb] at ba
        rw [pz_bf ba] at e
        rw [pz_bf hb, if_pos rfl]; exact e
      · rw [pz_bt hb, if_neg pz_o1]
        rw [hb] at ba
        cases hc : pz_bit (tables (hm x5.toNatClampNeg).toNatClampNeg) v
        · rw [hc] at ba
          rw [pz_bf ba] at e
          rw [pz_bf hc, if_pos rfl]; exact e
        · rw [hc] at ba
          rw [pz_bt ba] at e
          rw [pz_bt hc, if_neg pz_o1]; exact e
theorem pz_sd2 (hf : pz_Rf cnt kinds firsts seconds heights tables) (h : pz_B k frules heads ends inforce usable rt hm boxOf shutBy around inner) (hg : pz_gr cnt rt hm) (hx : vp_in x1 60) (hh : ¬ heads x1.toNatClampNeg = -1) (hv : pz_vf cnt (hm x1.toNatClampNeg)) {W : Int64} (hW : W = f_X3_groundsTable cnt tables frules heads ends x1 &&& (tables (hm x1.toNatClampNeg).toNatClampNeg ^^^ (-1))) : ∀ (n : Nat) (truth : Nat → Int32) (x3 : Int32), 0 ≤ x3.toInt → x3.toInt ≤ 64 → 65 ≤ x3.toInt + n → (F_X4_sound_26 n cnt kinds firsts seconds rt hm boxOf around truth x1 (pz_al W x3.toNatClampNeg) x3).1 = pz_al W 64 := by
  have e64 : (64 : Int32).toInt = 64 := rfl
  intro n
  induction n with
  | zero => intro truth x3 h0 h1 hn; exact absurd hn (by omega)
  | succ n ih =>
    intro truth x3 h0 h1 hn
    have t := pz_tn h0
    unfold F_X4_sound_26
    by_cases c : (64 : Int32) ≤ x3
    · rw [if_pos c]
      have := pz_le c
      have e : x3.toNatClampNeg = 64 := by omega
      rw [e]
      rcases pz_al01 W 64 with ⟨a, -⟩ | ⟨a, -⟩
      · rw [a, if_neg pz_o1]
      · rw [a, if_pos rfl]
    · rw [if_neg c, pz_be rfl]
      have u := pz_upk (N := 64) c rfl (by decide)
      have t1 : (x3 + 1).toNatClampNeg = x3.toNatClampNeg + 1 := by
        have := pz_tn (x := x3 + 1) (by omega)
        omega
      have s1 := pz_sd1 (kinds := kinds) (firsts := firsts) (seconds := seconds) (tables := tables) (v := x3.toNatClampNeg) (tr := f_X4_evaluate cnt kinds firsts seconds truth x3) h hg hx hh (fun f q => pz_evf hf ⟨h0, u.2⟩ truth q) (K := (fun x4 => if (pz_al W x3.toNatClampNeg) = 0 then (F_X4_sound_26 n cnt kinds firsts seconds rt hm boxOf around (f_X4_evaluate cnt kinds firsts seconds truth x3) x1 0 (x3 + 1)) else (if x4 = 0 then (F_X4_sound_26 n cnt kinds firsts seconds rt hm boxOf around (f_X4_evaluate cnt kinds firsts seconds truth x3) x1 1 (x3 + 1)) else (if ((f_X4_evaluate cnt kinds firsts seconds truth x3) ((hm (x1).toNatClampNeg)).toNatClampNeg) = 0 then (F_X4_sound_26 n cnt kinds firsts seconds rt hm boxOf around (f_X4_evaluate cnt kinds firsts seconds truth x3) x1 0 (x3 + 1)) else (F_X4_sound_26 n cnt kinds firsts seconds rt hm boxOf around (f_X4_evaluate cnt kinds firsts seconds truth x3) x1 1 (x3 + 1)))))) (y2 := pz_al W x3.toNatClampNeg) (y3 := x3) 61 (-1) 0 (by decide) (by decide) (by decide)
      have b1 : pz_b (-1) x3.toNatClampNeg = 1 := by
        refine pz_bt ?_
        have q := pz_bit_not 0 (v := x3.toNatClampNeg) (by omega)
        rw [pz_bit_0] at q
        exact q
      rw [b1] at s1
      rw [s1]
      have nx := ih (f_X4_evaluate cnt kinds firsts seconds truth x3) (x3 + 1) (by omega) (by omega) (by omega)
      rw [t1] at nx
      have bw : pz_bit W x3.toNatClampNeg = (pz_bit (f_X3_groundsTable cnt tables frules heads ends x1) x3.toNatClampNeg && !pz_bit (tables (hm x1.toNatClampNeg).toNatClampNeg) x3.toNatClampNeg) := by
        rw [hW, pz_bit_and, pz_bit_not _ (by omega)]
      have as : pz_al W (x3.toNatClampNeg + 1) = if pz_bit W x3.toNatClampNeg = true then 0 else pz_al W x3.toNatClampNeg := rfl
      rw [as] at nx
      have gt : F_X3_groundsTable_7 61 cnt tables frules heads ends x1 (-1) 0 = f_X3_groundsTable cnt tables frules heads ends x1 := rfl
      rw [gt]
      show (if (pz_al W x3.toNatClampNeg) = 0 then _ else _ : Int32 × (Nat → Int32)).1 = _
      rcases pz_al01 W x3.toNatClampNeg with ⟨a, -⟩ | ⟨a, -⟩
      · rw [a] at nx ⊢
        rw [if_neg pz_o1]
        cases hb : pz_bit (f_X3_groundsTable cnt tables frules heads ends x1) x3.toNatClampNeg
        · rw [hb] at bw
          have bw2 : pz_bit W x3.toNatClampNeg = false := bw
          rw [bw2, if_neg (by decide)] at nx
          rw [pz_bf hb, if_pos rfl]; exact nx
        · rw [hb] at bw
          rw [pz_bt hb, if_neg pz_o1, pz_evf hf ⟨h0, u.2⟩ truth hv]
          cases hc : pz_bit (tables (hm x1.toNatClampNeg).toNatClampNeg) x3.toNatClampNeg
          · rw [hc] at bw
            have bw2 : pz_bit W x3.toNatClampNeg = true := bw
            rw [bw2, if_pos rfl] at nx
            rw [pz_bf hc, if_pos rfl]; exact nx
          · rw [hc] at bw
            have bw2 : pz_bit W x3.toNatClampNeg = false := bw
            rw [bw2, if_neg (by decide)] at nx
            rw [pz_bt hc, if_neg pz_o1]; exact nx
      · rw [a] at nx ⊢
        rw [if_pos rfl]
        cases hb : pz_bit W x3.toNatClampNeg
        · rw [hb, if_neg (by decide)] at nx; exact nx
        · rw [hb, if_pos rfl] at nx; exact nx
theorem pz_q_sound (hf : pz_Rf cnt kinds firsts seconds heights tables) (hd : pz_Rm cnt rt hm boxOf around) (h : pz_B k frules heads ends inforce usable rt hm boxOf shutBy around inner) (truth : Nat → Int32) : f_X3_sound cnt tables frules heads ends x1 = (f_X4_sound cnt kinds firsts seconds rt hm boxOf around truth x1).1 := by
  have eX : f_X3_sound cnt tables frules heads ends x1 = if f_X3_isLine x1 = 0 then -3 else if f_X0_headOf heads x1 = -1 then -1 else if lg_cmp (f_X3_groundsTable cnt tables frules heads ends x1 &&& (f_X1_tableOf cnt tables (f_X0_headOf heads x1) ^^^ (-1))) 0 = 0 then 1 else 0 := rfl
  have eM : f_X4_sound cnt kinds firsts seconds rt hm boxOf around truth x1 = if f_X4_isLine x1 = 0 then (-3, truth) else if hm x1.toNatClampNeg = -1 then (-1, truth) else F_X4_sound_26 65 cnt kinds firsts seconds rt hm boxOf around truth x1 1 0 := rfl
  rw [eX, eM, ← pz_lineE]
  rcases pz_line01 x1 with ⟨e, q⟩ | ⟨e, q⟩
  · have xn := pz_ixN q
    have hh := h.1.2 _ xn
    rw [e, if_neg pz_o1, if_neg pz_o1, pz_hO q, hh]
    by_cases c : hm x1.toNatClampNeg = -1
    · rw [if_pos c, if_pos c]
    · rw [if_neg c, if_neg c]
      have vf := (hd.2.1 _ xn c).1
      rw [pz_tOf vf, pz_al64]
      exact (pz_sd2 hf h (hd.2.2 _ xn c) q (by rw [hh]; exact c) vf rfl 65 truth 0 (by decide) (by decide) (by decide)).symm
  · rw [e, if_pos rfl, if_pos rfl]
theorem pz_q_sound0 (h : ∀ j, j < 60 → heads j = -1 ∧ hm j = -1 ∧ inforce j = 0) (truth : Nat → Int32) : f_X3_sound cnt tables frules heads ends x1 = (f_X4_sound cnt kinds firsts seconds rt hm boxOf around truth x1).1 := by
  have eX : f_X3_sound cnt tables frules heads ends x1 = if f_X3_isLine x1 = 0 then -3 else if f_X0_headOf heads x1 = -1 then -1 else if lg_cmp (f_X3_groundsTable cnt tables frules heads ends x1 &&& (f_X1_tableOf cnt tables (f_X0_headOf heads x1) ^^^ (-1))) 0 = 0 then 1 else 0 := rfl
  have eM : f_X4_sound cnt kinds firsts seconds rt hm boxOf around truth x1 = if f_X4_isLine x1 = 0 then (-3, truth) else if hm x1.toNatClampNeg = -1 then (-1, truth) else F_X4_sound_26 65 cnt kinds firsts seconds rt hm boxOf around truth x1 1 0 := rfl
  rw [eX, eM, ← pz_lineE]
  rcases pz_line01 x1 with ⟨e, q⟩ | ⟨e, q⟩
  · have z := h _ (pz_ixN q)
    rw [e, if_neg pz_o1, if_neg pz_o1, pz_hO q, if_pos z.1, if_pos z.2.1]
  · rw [e, if_pos rfl, if_pos rfl]
end PzSd
