/-! the pure part: instead: the call -/
def pz_IQ (cnt : Int32) (X : pz_TX8) (M : pz_TM8) : Prop := (X.1 = M.1 ∧ X.2.1 = M.2.1 ∧ X.2.2.1 = M.2.2.1 ∧ X.2.2.2.1 = M.2.2.2.1 ∧ X.2.2.2.2.1 = M.2.2.2.2.1 ∧ X.2.2.2.2.2.1 = M.2.2.2.2.2.1) ∧ pz_RfZ X ∧ cnt.toInt ≤ X.2.1.toInt
section PzIq
variable {cnt x1 x2 x3 : Int32} {kinds firsts seconds heights : Nat → Int32} {tables : Nat → Int64} {replaced turned pile : Nat → Int32}
theorem pz_lett : f_X3_isLetter x2 = f_X4_within x2 0 5 := by
  have e5 : (5 : Int32).toInt = 5 := rfl
  have e6 : (6 : Int32).toInt = 6 := rfl
  unfold f_X3_isLetter
  rcases pz_within (r := f_X4_within x2 0 5) rfl with ⟨a, b, c⟩ | ⟨a, b⟩
  · rw [pz_zero] at b
    rw [e5] at c
    rw [a, if_neg (by rw [Int32.lt_iff_toInt_lt, pz_zero]; omega), if_neg (by rw [Int32.le_iff_toInt_le, e6]; omega)]
  · rw [pz_zero, e5] at b
    rw [a]
    by_cases c1 : x2 < 0
    · rw [if_pos c1]
    · rw [if_neg c1]
      have := pz_n0 c1
      rw [if_pos (by rw [Int32.le_iff_toInt_le, e6]; omega)]
theorem pz_110t {N : Nat} (hp : pile ((1 : Int32) - 1).toNatClampNeg = x1) (h : ¬ turned x1.toNatClampNeg = -1) : F_X4_instead_110 (N + 1 + 1) cnt kinds firsts seconds heights turned pile x1 x2 x3 1 = (turned x1.toNatClampNeg, cnt, kinds, firsts, seconds, heights, turned, pile) := by
  rw [F_X4_instead_110, if_neg (by decide), hp, if_neg h, F_X4_instead_110, if_pos (by decide)]
theorem pz_iq (hR : pz_Rf cnt kinds firsts seconds heights tables) (hv : pz_vf cnt x1) (h3 : pz_vf cnt x3) : pz_IQ cnt (f_X1_replace cnt kinds firsts seconds heights tables replaced x1 x2 x3) (F_X4_instead_34 81 cnt kinds firsts seconds heights turned pile x1 x2 x3 0) := by
  have tb := hv.2
  have cb := hR.1.1.2
  have t0 := hv.1
  obtain ⟨t, e, ht⟩ := pz_i34 (x2 := x2) (pile := pile) hR hv h3 81 turned 0 (by decide) (by rw [pz_zero]; omega) (by rw [pz_zero]; omega) (fun j hj => absurd hj (by rw [pz_zero]; omega))
  rw [e]
  have i := pz_inc (x := x1) (by omega)
  have tu : pz_tu cnt kinds t (x1 + 1) := fun j hj => by
    have hj : (j : Int) ≤ x1.toInt := by omega
    have q := ht j hj
    by_cases k2 : 2 ≤ kinds j
    · exact Or.inl ⟨q.1 k2, pz_k01 k2⟩
    · refine Or.inr ?_
      have vj : pz_vf cnt (nI j) := by
        have e : (nI j).toInt = j := nI_toInt (by omega)
        exact ⟨by omega, by omega⟩
      rw [q.2 k2]
      by_cases k1 : kinds j = 1
      · rw [if_pos k1]
        by_cases k3 : firsts j = x2
        · rw [if_pos k3]; exact h3
        · rw [if_neg k3]; exact vj
      · rw [if_neg k1]; exact vj
  have W := pz_W0 (pile := pile) tu (by rw [Int32.lt_iff_toInt_lt]; omega) hv
  unfold f_X1_replace f_J7_fill_53178
  rw [pz_be rfl, pz_be rfl]
  generalize hr : F_J7_fill_53178_5 81 replaced (-1) 0 80 = rp
  have hL : pz_Lk x1 x2 x3 kinds firsts rp t := fun j hj => ⟨fun k2 => by rw [← hr, pz_fl 81 replaced 0 (by decide) (by decide) (by decide) (fun j hj => absurd hj (by rw [pz_zero]; omega)) j (by omega), (ht j hj).1 k2], fun k2 => (ht j hj).2 k2⟩
  have e0 : upd pile (0 : Int32).toNatClampNeg x1 ((1 : Int32) - 1).toNatClampNeg = x1 := by rw [show (1 : Int32) - 1 = 0 from rfl, pk_us]
  have ex := pz_tn t0
  by_cases c : t x1.toNatClampNeg = -1
  · have q := pz_P (x2 := x2) (x3 := x3) (top := x1) 12 cnt kinds firsts seconds heights tables rp t (upd pile (0 : Int32).toNatClampNeg x1) 1 1 16200 hR hv h3 W hL (by decide) (by rw [e0]; exact c) (by rw [e0]; exact (hR.2 x1.toNatClampNeg (by omega)).2.2.2.1.2) (by decide) (by decide)
    rw [e0] at q
    generalize f_X1_replaceIn 12 cnt kinds firsts seconds heights tables rp x1 x2 x3 1 = Z at q ⊢
    obtain ⟨⟨a, rf⟩, q⟩ := q
    rcases q with ⟨z, t2, p2, g⟩ | ⟨v2, N, t2, p2, g2, g3, g4, g5, g6, g7, g8⟩
    · rw [g]; exact ⟨⟨z, rfl, rfl, rfl, rfl, rfl⟩, rf, a.1⟩
    · obtain ⟨N2, rfl⟩ : ∃ N2, N = N2 + 1 := ⟨N - 1, by have := g3.1.2; omega⟩
      rw [g2, F_X4_instead_110, if_pos (by decide)]
      exact ⟨⟨g5.symm, rfl, rfl, rfl, rfl, rfl⟩, rf, a.1⟩
  · have eZ : f_X1_replaceIn 12 cnt kinds firsts seconds heights tables rp x1 x2 x3 1 = _ := pz_ri0 (n := 11) hL hv (Int.le_refl _) (by decide) c
    have eG : F_X4_instead_110 16200 cnt kinds firsts seconds heights t (upd pile (0 : Int32).toNatClampNeg x1) x1 x2 x3 1 = _ := pz_110t (N := 16198) e0 c
    rw [eZ, eG]
    exact ⟨⟨rfl, rfl, rfl, rfl, rfl, rfl⟩, hR, Int.le_refl _⟩
theorem pz_q_instead (hR : pz_Rf cnt kinds firsts seconds heights tables) : pz_IQ cnt (f_X3_instead cnt kinds firsts seconds heights tables replaced x1 x2 x3) (f_X4_instead cnt kinds firsts seconds heights turned pile x1 x2 x3) := by
  unfold f_X3_instead f_X4_instead
  have hc := hR.1.1
  have same : ∀ c : Int32, pz_IQ cnt (c, cnt, kinds, firsts, seconds, heights, tables, replaced) (c, cnt, kinds, firsts, seconds, heights, turned, pile) := fun c => ⟨⟨rfl, rfl, rfl, rfl, rfl, rfl⟩, hR, Int.le_refl _⟩
  rw [pz_be rfl, pz_be (x := f_X4_isFormula cnt x1) (pz_isF1 hc).symm]
  rcases pz_has1 (cnt := cnt) (x := x1) with ⟨e, hv⟩ | ⟨e, hv⟩
  · rw [e, if_neg pz_o1, if_neg pz_o1, pz_be rfl, pz_be (x := f_X4_isFormula cnt x3) (pz_isF1 hc).symm]
    rcases pz_has1 (cnt := cnt) (x := x3) with ⟨e3, h3⟩ | ⟨e3, h3⟩
    · rw [e3, if_neg pz_o1, if_neg pz_o1, pz_be rfl, pz_be (x := f_X4_within x2 0 5) pz_lett]
      by_cases c : f_X3_isLetter x2 = 0
      · rw [if_pos c, if_pos c]; exact same _
      · rw [if_neg c, if_neg c, pz_be rfl]
        exact pz_iq hR hv h3
    · rw [e3, if_pos rfl, if_pos rfl]; exact same _
  · rw [e, if_pos rfl, if_pos rfl]; exact same _
end PzIq
