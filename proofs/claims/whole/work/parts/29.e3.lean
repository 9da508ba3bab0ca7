/-! the pure part: truth tables -/
def pz_bit (t : Int64) (v : Nat) : Bool := t.toBitVec.getLsbD v
def pz_b (t : Int64) (v : Nat) : Int32 := if pz_bit t v = true then 1 else 0
theorem pz_bit_and (a b : Int64) (v : Nat) : pz_bit (a &&& b) v = (pz_bit a v && pz_bit b v) := by
  unfold pz_bit; rw [Int64.toBitVec_and, BitVec.getLsbD_and]
theorem pz_bit_or (a b : Int64) (v : Nat) : pz_bit (a ||| b) v = (pz_bit a v || pz_bit b v) := by
  unfold pz_bit; rw [Int64.toBitVec_or, BitVec.getLsbD_or]
theorem pz_bit_not (a : Int64) {v : Nat} (h : v < 64) : pz_bit (a ^^^ (-1)) v = !pz_bit a v := by
  unfold pz_bit
  rw [Int64.toBitVec_xor, BitVec.getLsbD_xor]
  have e : ∀ v, v < 64 → (-1 : Int64).toBitVec.getLsbD v = true := by decide +kernel
  rw [e v h]; simp
theorem pz_bit_0 (v : Nat) : pz_bit 0 v = false := by
  unfold pz_bit
  show (0#64).getLsbD v = false
  simp
theorem pz_LBbit : ∀ n, n < 6 → ∀ v, v < 64 → (((nI v >>> (nI n &&& 31)) &&& 1) = 1 ↔ pz_bit (pz_LB n) v = true) := by decide +kernel
theorem pz_b01 (t : Int64) (v : Nat) : (pz_b t v = 0 ↔ pz_bit t v = false) := by
  unfold pz_b
  cases pz_bit t v
  · simp
  · simp
theorem pz_nI {x : Int32} (h : 0 ≤ x.toInt) : x = nI x.toNatClampNeg := by
  have e := pz_tn h
  have l := Int32.toInt_lt x
  exact Int32.toInt_inj.mp (by rw [nI_toInt (by omega)]; exact e.symm)
theorem pz_shr1 {w : Int64} {s : UInt64} {j : Nat} (hj : j < 64) (hs : s.toNat = j) : ((w.toUInt64 >>> s).toInt64 &&& 1) = if pz_bit w j = true then 1 else 0 := by
  have e : (w.toUInt64 >>> s).toInt64.toBitVec = w.toBitVec >>> j := by
    apply BitVec.eq_of_toNat_eq
    show (w.toUInt64 >>> s).toNat = _
    rw [UInt64.toNat_shiftRight, hs, Nat.mod_eq_of_lt hj, BitVec.toNat_ushiftRight]
    rfl
  rw [← Int64.toBitVec_inj, Int64.toBitVec_and, e]
  show w.toBitVec >>> j &&& 1#64 = _
  rw [BitVec.and_one_eq_setWidth_ofBool_getLsbD]
  unfold pz_bit
  have g : (w.toBitVec >>> j).getLsbD 0 = w.toBitVec.getLsbD j := by simp
  rw [g]
  cases w.toBitVec.getLsbD j <;> rfl
theorem pz_sh63 : ∀ k, k < 64 → ((nI k).toInt64.toUInt64 &&& Int64.toUInt64 63).toNat = k := by decide +kernel
theorem pz_b32 (t : Int64) (v : Nat) : (if pz_bit t v = true then (1 : Int64) else 0).toInt32 = pz_b t v := by
  unfold pz_b
  cases pz_bit t v <;> rfl
section PzEv
variable {cnt : Int32} {kinds firsts seconds heights : Nat → Int32} {tables : Nat → Int64} {x1 : Int32}
theorem pz_ev (h : pz_Rf cnt kinds firsts seconds heights tables) (hv : 0 ≤ x1.toInt ∧ x1.toInt < 64) : ∀ (n : Nat) (truth : Nat → Int32) (x2 : Int32), 0 ≤ x2.toInt → x2.toInt ≤ 80 → 81 ≤ x2.toInt + n → (∀ j : Nat, (j : Int) < x2.toInt → truth j = pz_b (tables j) x1.toNatClampNeg) → ∀ j : Nat, (j : Int) < cnt.toInt → F_X4_evaluate_2 n cnt kinds firsts seconds truth x1 x2 j = pz_b (tables j) x1.toNatClampNeg := by
  have ev := pz_tn hv.1
  intro n
  induction n with
  | zero => intro truth x2 h0 h1 hn; exact absurd hn (by omega)
  | succ n ih =>
    intro truth x2 h0 h1 hn ht j hj
    unfold F_X4_evaluate_2
    by_cases c : cnt ≤ x2
    · rw [if_pos c]
      exact ht j (by have := pz_le c; omega)
    rw [if_neg c]
    have e := pz_incf h.1.1 c
    have e2 := pz_tn h0
    have cl := pz_nle c
    have hj0 : ((x2.toNatClampNeg : Nat) : Int) < cnt.toInt := by omega
    have step : ∀ w : Int32, w = pz_b (tables x2.toNatClampNeg) x1.toNatClampNeg → F_X4_evaluate_2 n cnt kinds firsts seconds (upd truth x2.toNatClampNeg w) x1 (x2 + 1) j = pz_b (tables j) x1.toNatClampNeg := by
      intro w hw
      refine ih _ (x2 + 1) (by omega) (by omega) (by omega) (fun i hi => ?_) j hj
      by_cases ci : i = x2.toNatClampNeg
      · rw [ci, pk_us]; exact hw
      · rw [pk_un ci]; exact ht i (by omega)
    obtain ⟨kb, lb, tb, -, -⟩ := h.2 _ hj0
    have fF := h.1.2 _ hj0
    unfold pz_tb at tb
    by_cases k0 : kinds x2.toNatClampNeg = 0
    · rw [if_pos k0]
      refine step _ ?_
      rw [k0, if_neg (by decide), if_neg (by decide), if_neg (by decide), if_neg (by decide)] at tb
      rw [tb]; exact ((pz_b01 0 _).mpr (pz_bit_0 _)).symm
    rw [if_neg k0]
    by_cases k1 : kinds x2.toNatClampNeg = 1
    · rw [if_pos k1]
      rw [if_pos k1] at tb
      have l := lb k1
      have el := pz_tn l.1
      have q := pz_LBbit (firsts x2.toNatClampNeg).toNatClampNeg (by omega) x1.toNatClampNeg (by omega)
      rw [← pz_nI hv.1, ← pz_nI l.1, ← tb] at q
      by_cases cb : ((x1 >>> (firsts x2.toNatClampNeg &&& 31)) &&& 1) = 1
      · rw [if_pos cb]; refine step _ ?_
        unfold pz_b; rw [if_pos (q.mp cb)]
      · rw [if_neg cb]; refine step _ ?_
        unfold pz_b; rw [if_neg (fun z => cb (q.mpr z))]
    rw [if_neg k1]
    rw [if_neg k1] at tb
    have f := fF k0 k1
    have el := pz_tn f.1.1
    have er := pz_tn f.2.1
    have tl := ht (firsts x2.toNatClampNeg).toNatClampNeg (by omega)
    have tr := ht (seconds x2.toNatClampNeg).toNatClampNeg (by omega)
    rw [tl, tr]
    have zl := pz_b01 (tables (firsts x2.toNatClampNeg).toNatClampNeg) x1.toNatClampNeg
    have zr := pz_b01 (tables (seconds x2.toNatClampNeg).toNatClampNeg) x1.toNatClampNeg
    have one : ∀ t : Int64, pz_bit t x1.toNatClampNeg = true → (1 : Int32) = pz_b t x1.toNatClampNeg := fun t q => by unfold pz_b; rw [if_pos q]
    have zero : ∀ t : Int64, pz_bit t x1.toNatClampNeg = false → (0 : Int32) = pz_b t x1.toNatClampNeg := fun t q => ((pz_b01 t _).mpr q).symm
    have tt : ∀ t : Int64, ¬ pz_b t x1.toNatClampNeg = 0 → pz_bit t x1.toNatClampNeg = true := fun t q => by
      cases hq : pz_bit t x1.toNatClampNeg
      · exact absurd ((pz_b01 t _).mpr hq) q
      · rfl
    by_cases k2 : kinds x2.toNatClampNeg = 2
    · rw [if_pos k2]
      rw [if_pos k2] at tb
      by_cases a : pz_b (tables (firsts x2.toNatClampNeg).toNatClampNeg) x1.toNatClampNeg = 0
      · rw [if_pos a]; refine step _ (zero _ ?_); rw [tb, pz_bit_and, zl.mp a]; rfl
      · rw [if_neg a]
        by_cases b : pz_b (tables (seconds x2.toNatClampNeg).toNatClampNeg) x1.toNatClampNeg = 0
        · rw [if_pos b]; refine step _ (zero _ ?_); rw [tb, pz_bit_and, zr.mp b]; exact Bool.and_false _
        · rw [if_neg b]; refine step _ (one _ ?_); rw [tb, pz_bit_and, tt _ a, tt _ b]; rfl
    rw [if_neg k2]
    rw [if_neg k2] at tb
    by_cases k3 : kinds x2.toNatClampNeg = 3
    · rw [if_pos k3]
      rw [if_pos k3] at tb
      by_cases a : pz_b (tables (firsts x2.toNatClampNeg).toNatClampNeg) x1.toNatClampNeg = 0
      · rw [if_pos a]
        by_cases b : pz_b (tables (seconds x2.toNatClampNeg).toNatClampNeg) x1.toNatClampNeg = 0
        · rw [if_pos b]; refine step _ (zero _ ?_); rw [tb, pz_bit_or, zl.mp a, zr.mp b]; rfl
        · rw [if_neg b]; refine step _ (one _ ?_); rw [tb, pz_bit_or, tt _ b]; exact Bool.or_true _
      · rw [if_neg a]; refine step _ (one _ ?_); rw [tb, pz_bit_or, tt _ a]; exact Bool.true_or _
    rw [if_neg k3]
    rw [if_neg k3] at tb
    have k4 : kinds x2.toNatClampNeg = 4 := by
      have p0 := pz_ne k0; have p1 := pz_ne k1; have p2 := pz_ne k2; have p3 := pz_ne k3
      have e1 : (1 : Int32).toInt = 1 := rfl
      have e22 : (2 : Int32).toInt = 2 := rfl
      have e3 : (3 : Int32).toInt = 3 := rfl
      have e4 : (4 : Int32).toInt = 4 := rfl
      rw [pz_zero] at p0
      exact Int32.toInt_inj.mp (by rw [e4]; omega)
    rw [if_pos k4] at tb
    by_cases a : pz_b (tables (firsts x2.toNatClampNeg).toNatClampNeg) x1.toNatClampNeg = 0
    · rw [if_pos a]; refine step _ (one _ ?_); rw [tb, pz_bit_or, pz_bit_not _ (by omega), zl.mp a]; rfl
    · rw [if_neg a]
      by_cases b : pz_b (tables (seconds x2.toNatClampNeg).toNatClampNeg) x1.toNatClampNeg = 0
      · rw [if_pos b]; refine step _ (zero _ ?_); rw [tb, pz_bit_or, pz_bit_not _ (by omega), tt _ a, zr.mp b]; rfl
      · rw [if_neg b]; refine step _ (one _ ?_); rw [tb, pz_bit_or, tt _ b]; exact Bool.or_true _
theorem pz_evf (h : pz_Rf cnt kinds firsts seconds heights tables) (hv : 0 ≤ x1.toInt ∧ x1.toInt < 64) (truth : Nat → Int32) {f : Int32} (hf : pz_vf cnt f) : f_X4_evaluate cnt kinds firsts seconds truth x1 f.toNatClampNeg = pz_b (tables f.toNatClampNeg) x1.toNatClampNeg :=
  pz_ev h hv 81 truth 0 (by decide) (by decide) (by decide) (fun j hj => absurd hj (by rw [pz_zero]; omega)) _ (by have := pz_tn hf.1; have := hf.2; omega)
theorem pz_q_value (h : pz_Rf cnt kinds firsts seconds heights tables) {x2 : Int32} (truth : Nat → Int32) : f_X3_value cnt tables x1 x2 = (f_X4_value cnt kinds firsts seconds truth x1 x2).1 := by
  have e63 : (63 : Int32).toInt = 63 := rfl
  have e64 : (64 : Int32).toInt = 64 := rfl
  have o : ¬ (1 : Int32) = 0 := by decide
  unfold f_X3_value f_X4_value
  simp only [pz_bnd]
  rw [pz_isF1 h.1.1]
  rcases pz_has1 (cnt := cnt) (x := x1) with ⟨e, hf⟩ | ⟨e, hf⟩
  · rw [e, if_neg o, if_neg o]
    rcases pz_within (r := f_X4_within x2 0 63) rfl with ⟨ew, hw⟩ | ⟨ew, hw⟩
    · rw [pz_zero, e63] at hw
      rw [ew, if_neg o, if_neg (by rw [Int32.lt_iff_toInt_lt, pz_zero]; omega), if_pos (by rw [Int32.lt_iff_toInt_lt, e64]; omega), pz_tOf hf]
      have t := pz_tn hw.1
      have s := pz_sh63 x2.toNatClampNeg (by omega)
      rw [← pz_nI hw.1] at s
      rw [pz_shr1 (by omega) s, pz_b32, pz_evf h ⟨hw.1, by omega⟩ truth hf]
      unfold pz_b
      cases pz_bit (tables x1.toNatClampNeg) x2.toNatClampNeg <;> rfl
    · rw [pz_zero, e63] at hw
      rw [ew, if_pos rfl]
      by_cases c1 : x2 < 0
      · rw [if_pos c1]
      · rw [if_neg c1]
        have := pz_n0 c1
        rw [if_neg (by rw [Int32.lt_iff_toInt_lt, e64]; omega)]
  · rw [e]; rfl
end PzEv
