/-! the pure part: the number of bits -/
def pz_U (x : Int64) : Nat := x.toBitVec.toNat
theorem pz_U_lt (x : Int64) : pz_U x < 18446744073709551616 := x.toBitVec.isLt
theorem pz_U_and (x y : Int64) : pz_U (x &&& y) = pz_U x &&& pz_U y := by
  unfold pz_U; rw [Int64.toBitVec_and, BitVec.toNat_and]
theorem pz_U_shr {x : Int64} {s : UInt64} {k : Nat} (hk : k < 64) (hs : s.toNat = k) : pz_U ((x.toUInt64 >>> s).toInt64) = pz_U x / 2 ^ k := by
  have e : (x.toUInt64 >>> s).toInt64.toBitVec = x.toBitVec >>> k := by
    apply BitVec.eq_of_toNat_eq
    show (x.toUInt64 >>> s).toNat = _
    rw [UInt64.toNat_shiftRight, hs, Nat.mod_eq_of_lt hk, BitVec.toNat_ushiftRight]
    rfl
  unfold pz_U
  rw [e, BitVec.toNat_ushiftRight, Nat.shiftRight_eq_div_pow]
theorem pz_U_add {x y : Int64} (h : pz_U x + pz_U y < 18446744073709551616) : pz_U (x + y) = pz_U x + pz_U y := by
  unfold pz_U at h ⊢
  rw [Int64.toBitVec_add, BitVec.toNat_add]
  exact Nat.mod_eq_of_lt h
theorem pz_U_sub {x y : Int64} (h : pz_U y ≤ pz_U x) : pz_U (x - y) = pz_U x - pz_U y := by
  unfold pz_U at h ⊢
  rw [Int64.toBitVec_sub]
  exact BitVec.toNat_sub_of_le h
def pz_mk8 (c : Nat) : Nat → Nat
  | 0 => 0
  | w + 1 => c + 256 * pz_mk8 c w
theorem pz_and8 {a c m d : Nat} (ha : a < 256) (hc : c < 256) : (a + 256 * m) &&& (c + 256 * d) = (a &&& c) + 256 * (m &&& d) := by
  have hac : a &&& c < 256 := Nat.lt_of_le_of_lt Nat.and_le_left ha
  apply Nat.eq_of_testBit_eq
  intro i
  rw [Nat.testBit_and, Nat.add_comm a, Nat.add_comm c, Nat.add_comm (a &&& c)]
  show ((2 ^ 8 * m + a).testBit i && (2 ^ 8 * d + c).testBit i) = (2 ^ 8 * (m &&& d) + (a &&& c)).testBit i
  rw [Nat.testBit_two_pow_mul_add m ha, Nat.testBit_two_pow_mul_add d hc, Nat.testBit_two_pow_mul_add (m &&& d) hac]
  by_cases h : i < 8
  · rw [if_pos h, if_pos h, if_pos h, Nat.testBit_and]
  · rw [if_neg h, if_neg h, if_neg h, Nat.testBit_and]
def pz_cb (n : Nat) : Nat → Nat
  | 0 => 0
  | j + 1 => pz_cb n j + (if n.testBit j = true then 1 else 0)
theorem pz_cb8 {a m : Nat} (ha : a < 256) : ∀ j, pz_cb (a + 256 * m) (8 + j) = pz_cb a 8 + pz_cb m j := by
  have tb : ∀ i, (a + 256 * m).testBit i = if i < 8 then a.testBit i else m.testBit (i - 8) := by
    intro i
    rw [Nat.add_comm a]
    show (2 ^ 8 * m + a).testBit i = _
    rw [Nat.testBit_two_pow_mul_add m ha]
  intro j
  induction j with
  | zero =>
    show pz_cb (a + 256 * m) 8 = pz_cb a 8 + 0
    have low : ∀ i, i ≤ 8 → pz_cb (a + 256 * m) i = pz_cb a i := by
      intro i
      induction i with
      | zero => intro _; rfl
      | succ i ih =>
        intro hi
        have t : (a + 256 * m).testBit i = a.testBit i := by rw [tb i, if_pos (by omega)]
        unfold pz_cb
        rw [ih (by omega), t]
    rw [low 8 (Nat.le_refl 8)]; rfl
  | succ j ih =>
    show pz_cb (a + 256 * m) (8 + j) + (if (a + 256 * m).testBit (8 + j) = true then 1 else 0) = pz_cb a 8 + (pz_cb m j + (if m.testBit j = true then 1 else 0))
    have t : (a + 256 * m).testBit (8 + j) = m.testBit j := by rw [tb (8 + j), if_neg (by omega), Nat.add_sub_cancel_left]
    rw [ih, t]
    omega
def pz_n1 (w n : Nat) : Nat := n - ((n / 2) &&& pz_mk8 85 w)
def pz_n2 (w n : Nat) : Nat := (pz_n1 w n &&& pz_mk8 51 w) + ((pz_n1 w n / 4) &&& pz_mk8 51 w)
def pz_n3 (w n : Nat) : Nat := (pz_n2 w n + pz_n2 w n / 16) &&& pz_mk8 15 w
theorem pz_d1 : ∀ a, a < 256 → ∀ e, e < 2 → ((a / 2 + 128 * e) &&& 85) = (a / 2) &&& 85 := by decide +kernel
theorem pz_d2 : ∀ a, a < 256 → ∀ e, e < 4 → ((a / 4 + 64 * e) &&& 51) = (a / 4) &&& 51 := by decide +kernel
def pz_a1 (a : Nat) : Nat := a - ((a / 2) &&& 85)
def pz_a2 (a : Nat) : Nat := (pz_a1 a &&& 51) + ((pz_a1 a / 4) &&& 51)
theorem pz_d3 : ∀ a, a < 256 → pz_a2 a ≤ 68 ∧ pz_a2 a % 16 ≤ 4 ∧ ∀ e, e < 5 → ((pz_a2 a + pz_a2 a / 16 + 16 * e) &&& 15) = pz_cb a 8 := by decide +kernel
theorem pz_d4 : ∀ a, a < 256 → pz_cb a 8 ≤ 8 := by decide +kernel
theorem pz_S1 {a m w : Nat} (ha : a < 256) : pz_n1 (w + 1) (a + 256 * m) = pz_a1 a + 256 * pz_n1 w m := by
  have e1 : (a + 256 * m) / 2 = (a / 2 + 128 * (m % 2)) + 256 * (m / 2) := by omega
  have hy : ((a + 256 * m) / 2) &&& pz_mk8 85 (w + 1) = ((a / 2) &&& 85) + 256 * ((m / 2) &&& pz_mk8 85 w) := by
    rw [e1]
    show _ &&& (85 + 256 * pz_mk8 85 w) = _
    rw [pz_and8 (by omega) (by decide), pz_d1 a ha (m % 2) (by omega)]
  unfold pz_n1 pz_a1
  rw [hy]
  have l1 : (a / 2) &&& 85 ≤ a / 2 := Nat.and_le_left
  have l2 : (m / 2) &&& pz_mk8 85 w ≤ m / 2 := Nat.and_le_left
  omega
theorem pz_S2 {a m w : Nat} (ha : a < 256) : pz_n2 (w + 1) (a + 256 * m) = pz_a2 a + 256 * pz_n2 w m := by
  have h1 : pz_a1 a < 256 := by unfold pz_a1; omega
  have e1 : (pz_a1 a + 256 * pz_n1 w m) / 4 = (pz_a1 a / 4 + 64 * (pz_n1 w m % 4)) + 256 * (pz_n1 w m / 4) := by omega
  unfold pz_n2
  rw [pz_S1 ha, e1]
  show (_ &&& (51 + 256 * pz_mk8 51 w)) + (_ &&& (51 + 256 * pz_mk8 51 w)) = _
  rw [pz_and8 h1 (by decide), pz_and8 (by omega) (by decide), pz_d2 _ h1 (pz_n1 w m % 4) (by omega)]
  unfold pz_a2
  omega
theorem pz_S3 : ∀ (w n : Nat), n < 256 ^ w → pz_n2 w n % 16 ≤ 4 := by
  intro w n hn
  match w, hn with
  | 0, hn =>
    have e : n = 0 := by rw [Nat.pow_zero] at hn; omega
    subst e
    decide
  | w + 1, hn =>
    have en : n % 256 + 256 * (n / 256) = n := by omega
    have ha : n % 256 < 256 := by omega
    have d := pz_d3 (n % 256) ha
    have q := pz_S2 (w := w) (m := n / 256) ha
    rw [en] at q
    rw [q]
    omega
theorem pz_S4 {a m w : Nat} (ha : a < 256) (hm : m < 256 ^ w) : pz_n3 (w + 1) (a + 256 * m) = pz_cb a 8 + 256 * pz_n3 w m := by
  have d := pz_d3 a ha
  have q := pz_S3 w m hm
  unfold pz_n3
  rw [pz_S2 ha]
  have e1 : pz_a2 a + 256 * pz_n2 w m + (pz_a2 a + 256 * pz_n2 w m) / 16 = (pz_a2 a + pz_a2 a / 16 + 16 * (pz_n2 w m % 16)) + 256 * (pz_n2 w m + pz_n2 w m / 16) := by omega
  rw [e1]
  show _ &&& (15 + 256 * pz_mk8 15 w) = _
  rw [pz_and8 (by omega) (by decide), d.2.2 _ (by omega)]
/-- all eight bytes -/
theorem pz_S8 {n : Nat} (hn : n < 18446744073709551616) : ∃ t0 t1 t2 t3 t4 t5 t6 t7 : Nat, (t0 ≤ 8 ∧ t1 ≤ 8 ∧ t2 ≤ 8 ∧ t3 ≤ 8 ∧ t4 ≤ 8 ∧ t5 ≤ 8 ∧ t6 ≤ 8 ∧ t7 ≤ 8) ∧ pz_n3 8 n = t0 + 256 * (t1 + 256 * (t2 + 256 * (t3 + 256 * (t4 + 256 * (t5 + 256 * (t6 + 256 * t7)))))) ∧ pz_cb n 64 = t0 + (t1 + (t2 + (t3 + (t4 + (t5 + (t6 + t7)))))) := by
  have step : ∀ (w n : Nat), n < 256 ^ (w + 1) → n / 256 < 256 ^ w ∧ pz_n3 (w + 1) n = pz_cb (n % 256) 8 + 256 * pz_n3 w (n / 256) ∧ ∀ j, pz_cb n (8 + j) = pz_cb (n % 256) 8 + pz_cb (n / 256) j := by
    intro w n h
    have en : n % 256 + 256 * (n / 256) = n := by omega
    have ha : n % 256 < 256 := by omega
    have hm : n / 256 < 256 ^ w := by rw [Nat.pow_succ] at h; omega
    refine ⟨hm, ?_, fun j => ?_⟩
    · have := pz_S4 (w := w) ha hm
      rw [en] at this; exact this
    · have := pz_cb8 (m := n / 256) ha j
      rw [en] at this; exact this
  have d : ∀ n : Nat, pz_cb (n % 256) 8 ≤ 8 := fun n => pz_d4 _ (by omega)
  obtain ⟨h1, a1, c1⟩ := step 7 n hn
  obtain ⟨h2, a2, c2⟩ := step 6 _ h1
  obtain ⟨h3, a3, c3⟩ := step 5 _ h2
  obtain ⟨h4, a4, c4⟩ := step 4 _ h3
  obtain ⟨h5, a5, c5⟩ := step 3 _ h4
  obtain ⟨h6, a6, c6⟩ := step 2 _ h5
  obtain ⟨h7, a7, c7⟩ := step 1 _ h6
  obtain ⟨h8, a8, c8⟩ := step 0 _ h7
  refine ⟨_, _, _, _, _, _, _, _, ⟨d (n), d (n / 256), d (n / 256 / 256), d (n / 256 / 256 / 256), d (n / 256 / 256 / 256 / 256), d (n / 256 / 256 / 256 / 256 / 256), d (n / 256 / 256 / 256 / 256 / 256 / 256), d (n / 256 / 256 / 256 / 256 / 256 / 256 / 256)⟩, ?_, ?_⟩
  · rw [a1, a2, a3, a4, a5, a6, a7, a8]
    have z : pz_n3 0 (n / 256 / 256 / 256 / 256 / 256 / 256 / 256 / 256) = 0 := by
      unfold pz_n3; exact Nat.and_zero _
    rw [z, Nat.mul_zero, Nat.add_zero]
  · have k1 := c1 56
    have k2 := c2 48
    have k3 := c3 40
    have k4 := c4 32
    have k5 := c5 24
    have k6 := c6 16
    have k7 := c7 8
    have k8 := c8 0
    have z : pz_cb (n / 256 / 256 / 256 / 256 / 256 / 256 / 256 / 256) 0 = 0 := rfl
    simp only [Nat.reduceAdd] at k1 k2 k3 k4 k5 k6 k7 k8
    rw [k1, k2, k3, k4, k5, k6, k7, k8, z, Nat.add_zero]
theorem pz_dv {A B c n : Nat} (h : n = A + c * B) (hA : A < c) : n / c = B := by
  rw [h, Nat.add_mul_div_left _ _ (by omega), Nat.div_eq_of_lt hA, Nat.zero_add]
theorem pz_md {A B c n : Nat} (h : n = A + c * B) (hA : A < c) : n % c = A := by
  rw [h, Nat.add_mul_mod_self_left, Nat.mod_eq_of_lt hA]
def pz_i1 (x : Int64) : Int64 := x - (((x.toUInt64 >>> ((1 : Int32).toInt64.toUInt64 &&& Int64.toUInt64 63)).toInt64) &&& 6148914691236517205)
def pz_i2 (y : Int64) : Int64 := (y &&& 3689348814741910323) + (((y.toUInt64 >>> ((2 : Int32).toInt64.toUInt64 &&& Int64.toUInt64 63)).toInt64) &&& 3689348814741910323)
def pz_i3 (y : Int64) : Int64 := (y + ((y.toUInt64 >>> ((4 : Int32).toInt64.toUInt64 &&& Int64.toUInt64 63)).toInt64)) &&& 1085102592571150095
def pz_i4 (k : Int32) (y : Int64) : Int64 := y + ((y.toUInt64 >>> (k.toInt64.toUInt64 &&& Int64.toUInt64 63)).toInt64)
theorem pz_bc (x : Int64) : f_J13_bitCount_95d88 x = ((pz_i4 32 (pz_i4 16 (pz_i4 8 (pz_i3 (pz_i2 (pz_i1 x)))))).toInt32 &&& 127) := rfl
