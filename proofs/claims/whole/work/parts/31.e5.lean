section PzAr
variable {t0 t1 t2 t3 t4 t5 t6 t7 : Nat}
theorem pz_g1 (b0 : t0 ≤ 8) (b1 : t1 ≤ 8) (b2 : t2 ≤ 8) (b3 : t3 ≤ 8) (b4 : t4 ≤ 8) (b5 : t5 ≤ 8) (b6 : t6 ≤ 8) (b7 : t7 ≤ 8) : (t0 + 256 * (t1 + 256 * (t2 + 256 * (t3 + 256 * (t4 + 256 * (t5 + 256 * (t6 + 256 * t7))))))) / 256 = (t1 + 256 * (t2 + 256 * (t3 + 256 * (t4 + 256 * (t5 + 256 * (t6 + 256 * t7)))))) := pz_dv rfl (by omega)
theorem pz_g2 : (t0 + 256 * (t1 + 256 * (t2 + 256 * (t3 + 256 * (t4 + 256 * (t5 + 256 * (t6 + 256 * t7))))))) + (t1 + 256 * (t2 + 256 * (t3 + 256 * (t4 + 256 * (t5 + 256 * (t6 + 256 * t7)))))) = ((t0 + t1) + 256 * ((t1 + t2) + 256 * ((t2 + t3) + 256 * ((t3 + t4) + 256 * ((t4 + t5) + 256 * ((t5 + t6) + 256 * ((t6 + t7) + 256 * t7))))))) := by omega
theorem pz_g3 (b0 : t0 ≤ 8) (b1 : t1 ≤ 8) (b2 : t2 ≤ 8) (b3 : t3 ≤ 8) (b4 : t4 ≤ 8) (b5 : t5 ≤ 8) (b6 : t6 ≤ 8) (b7 : t7 ≤ 8) : ((t0 + t1) + 256 * ((t1 + t2) + 256 * ((t2 + t3) + 256 * ((t3 + t4) + 256 * ((t4 + t5) + 256 * ((t5 + t6) + 256 * ((t6 + t7) + 256 * t7))))))) / 65536 = ((t2 + t3) + 256 * ((t3 + t4) + 256 * ((t4 + t5) + 256 * ((t5 + t6) + 256 * ((t6 + t7) + 256 * t7))))) := pz_dv (A := (t0 + t1) + 256 * (t1 + t2)) (by omega) (by omega)
theorem pz_g4 : ((t0 + t1) + 256 * ((t1 + t2) + 256 * ((t2 + t3) + 256 * ((t3 + t4) + 256 * ((t4 + t5) + 256 * ((t5 + t6) + 256 * ((t6 + t7) + 256 * t7))))))) + ((t2 + t3) + 256 * ((t3 + t4) + 256 * ((t4 + t5) + 256 * ((t5 + t6) + 256 * ((t6 + t7) + 256 * t7))))) = ((t0 + t1 + t2 + t3) + 256 * ((t1 + t2 + t3 + t4) + 256 * ((t2 + t3 + t4 + t5) + 256 * ((t3 + t4 + t5 + t6) + 256 * ((t4 + t5 + t6 + t7) + 256 * ((t5 + t6 + t7) + 256 * ((t6 + t7) + 256 * t7))))))) := by omega
theorem pz_g5 (b0 : t0 ≤ 8) (b1 : t1 ≤ 8) (b2 : t2 ≤ 8) (b3 : t3 ≤ 8) (b4 : t4 ≤ 8) (b5 : t5 ≤ 8) (b6 : t6 ≤ 8) (b7 : t7 ≤ 8) : ((t0 + t1 + t2 + t3) + 256 * ((t1 + t2 + t3 + t4) + 256 * ((t2 + t3 + t4 + t5) + 256 * ((t3 + t4 + t5 + t6) + 256 * ((t4 + t5 + t6 + t7) + 256 * ((t5 + t6 + t7) + 256 * ((t6 + t7) + 256 * t7))))))) / 4294967296 = ((t4 + t5 + t6 + t7) + 256 * ((t5 + t6 + t7) + 256 * ((t6 + t7) + 256 * t7))) := pz_dv (A := (t0 + t1 + t2 + t3) + 256 * ((t1 + t2 + t3 + t4) + 256 * ((t2 + t3 + t4 + t5) + 256 * (t3 + t4 + t5 + t6)))) (by omega) (by omega)
theorem pz_g6 (b0 : t0 ≤ 8) (b1 : t1 ≤ 8) (b2 : t2 ≤ 8) (b3 : t3 ≤ 8) (b4 : t4 ≤ 8) (b5 : t5 ≤ 8) (b6 : t6 ≤ 8) (b7 : t7 ≤ 8) : (((t0 + t1 + t2 + t3) + 256 * ((t1 + t2 + t3 + t4) + 256 * ((t2 + t3 + t4 + t5) + 256 * ((t3 + t4 + t5 + t6) + 256 * ((t4 + t5 + t6 + t7) + 256 * ((t5 + t6 + t7) + 256 * ((t6 + t7) + 256 * t7))))))) + ((t4 + t5 + t6 + t7) + 256 * ((t5 + t6 + t7) + 256 * ((t6 + t7) + 256 * t7)))) % 128 = (t0 + (t1 + (t2 + (t3 + (t4 + (t5 + (t6 + t7))))))) := pz_md (B := (2 * ((t1 + t2 + t3 + t4 + (t5 + t6 + t7)) + 256 * ((t2 + t3 + t4 + t5 + (t6 + t7)) + 256 * ((t3 + t4 + t5 + t6 + t7) + 256 * ((t4 + t5 + t6 + t7) + 256 * ((t5 + t6 + t7) + 256 * ((t6 + t7) + 256 * t7)))))))) (by omega) (by omega)
theorem pz_g7 (b0 : t0 ≤ 8) (b1 : t1 ≤ 8) (b2 : t2 ≤ 8) (b3 : t3 ≤ 8) (b4 : t4 ≤ 8) (b5 : t5 ≤ 8) (b6 : t6 ≤ 8) (b7 : t7 ≤ 8) : (t0 + 256 * (t1 + 256 * (t2 + 256 * (t3 + 256 * (t4 + 256 * (t5 + 256 * (t6 + 256 * t7))))))) + (t1 + 256 * (t2 + 256 * (t3 + 256 * (t4 + 256 * (t5 + 256 * (t6 + 256 * t7)))))) < 18446744073709551616 ∧ ((t0 + t1) + 256 * ((t1 + t2) + 256 * ((t2 + t3) + 256 * ((t3 + t4) + 256 * ((t4 + t5) + 256 * ((t5 + t6) + 256 * ((t6 + t7) + 256 * t7))))))) + ((t2 + t3) + 256 * ((t3 + t4) + 256 * ((t4 + t5) + 256 * ((t5 + t6) + 256 * ((t6 + t7) + 256 * t7))))) < 18446744073709551616 ∧ ((t0 + t1 + t2 + t3) + 256 * ((t1 + t2 + t3 + t4) + 256 * ((t2 + t3 + t4 + t5) + 256 * ((t3 + t4 + t5 + t6) + 256 * ((t4 + t5 + t6 + t7) + 256 * ((t5 + t6 + t7) + 256 * ((t6 + t7) + 256 * t7))))))) + ((t4 + t5 + t6 + t7) + 256 * ((t5 + t6 + t7) + 256 * ((t6 + t7) + 256 * t7))) < 18446744073709551616 := ⟨by omega, by omega, by omega⟩
end PzAr
theorem pz_fin (y : Int64) : (y.toInt32 &&& 127) = nI (pz_U y % 128) := by
  rw [pk_and y.toInt32 (m := 127) 7 (by decide)]
  have : y.toInt32.toBitVec.toNat = pz_U y % 4294967296 := by
    show (y.toBitVec.signExtend 32).toNat = _
    rw [BitVec.signExtend_eq_setWidth_of_le _ (by decide), BitVec.toNat_setWidth]
    rfl
  rw [this]
  congr 1
  omega
theorem pz_bc64 (x : Int64) : f_J13_bitCount_95d88 x = nI (pz_cb (pz_U x) 64) := by
  have c5 : pz_U 6148914691236517205 = pz_mk8 85 8 := by decide +kernel
  have c3 : pz_U 3689348814741910323 = pz_mk8 51 8 := by decide +kernel
  have cf : pz_U 1085102592571150095 = pz_mk8 15 8 := by decide +kernel
  have b3 : pz_mk8 51 8 = 3689348814741910323 := by decide +kernel
  have s : ∀ k : Nat, k < 64 → ((nI k).toInt64.toUInt64 &&& Int64.toUInt64 63).toNat = k := pz_sh63
  have hn := pz_U_lt x
  have u1 : pz_U (pz_i1 x) = pz_n1 8 (pz_U x) := by
    unfold pz_i1 pz_n1
    have sh := pz_U_shr (x := x) (k := 1) (by decide) (s 1 (by decide))
    have e : pz_U (((x.toUInt64 >>> ((1 : Int32).toInt64.toUInt64 &&& Int64.toUInt64 63)).toInt64) &&& 6148914691236517205) = (pz_U x / 2) &&& pz_mk8 85 8 := by
      rw [pz_U_and, c5]; exact congrArg (fun z => z &&& pz_mk8 85 8) sh
    have l : (pz_U x / 2) &&& pz_mk8 85 8 ≤ pz_U x / 2 := Nat.and_le_left
    rw [pz_U_sub (by rw [e]; omega), e]
  have l1 : pz_U (pz_i1 x) < 18446744073709551616 := pz_U_lt _
  have u2 : pz_U (pz_i2 (pz_i1 x)) = pz_n2 8 (pz_U x) := by
    unfold pz_i2 pz_n2
    have sh := pz_U_shr (x := pz_i1 x) (k := 2) (by decide) (s 2 (by decide))
    have e1 : pz_U (pz_i1 x &&& 3689348814741910323) = pz_n1 8 (pz_U x) &&& pz_mk8 51 8 := by rw [pz_U_and, c3, u1]
    have e2 : pz_U ((((pz_i1 x).toUInt64 >>> ((2 : Int32).toInt64.toUInt64 &&& Int64.toUInt64 63)).toInt64) &&& 3689348814741910323) = (pz_n1 8 (pz_U x) / 4) &&& pz_mk8 51 8 := by
      rw [pz_U_and, c3, ← u1]; exact congrArg (fun z => z &&& pz_mk8 51 8) sh
    have r1 : pz_n1 8 (pz_U x) &&& pz_mk8 51 8 ≤ pz_mk8 51 8 := Nat.and_le_right
    have r2 : (pz_n1 8 (pz_U x) / 4) &&& pz_mk8 51 8 ≤ pz_mk8 51 8 := Nat.and_le_right
    rw [b3] at r1 r2
    rw [pz_U_add (by rw [e1, e2, b3]; rw [b3] at *; omega), e1, e2]
  have bd : pz_n2 8 (pz_U x) ≤ 7378697629483820646 := by
    unfold pz_n2
    have r1 : pz_n1 8 (pz_U x) &&& pz_mk8 51 8 ≤ pz_mk8 51 8 := Nat.and_le_right
    have r2 : (pz_n1 8 (pz_U x) / 4) &&& pz_mk8 51 8 ≤ pz_mk8 51 8 := Nat.and_le_right
    rw [b3] at r1 r2 ⊢
    omega
  have u3 : pz_U (pz_i3 (pz_i2 (pz_i1 x))) = pz_n3 8 (pz_U x) := by
    unfold pz_i3 pz_n3
    have sh := pz_U_shr (x := pz_i2 (pz_i1 x)) (k := 4) (by decide) (s 4 (by decide))
    have sh2 : pz_U (((pz_i2 (pz_i1 x)).toUInt64 >>> ((4 : Int32).toInt64.toUInt64 &&& Int64.toUInt64 63)).toInt64) = pz_n2 8 (pz_U x) / 16 := by rw [← u2]; exact sh
    rw [pz_U_and, cf, pz_U_add (by rw [u2, sh2]; omega), u2, sh2]
  obtain ⟨t0, t1, t2, t3, t4, t5, t6, t7, ⟨b0, b1, b2, b4, b5, b6, b7, b8⟩, eT, eC⟩ := pz_S8 hn
  rw [eT] at u3
  have st : ∀ (y : Int64) (k : Nat), k < 64 → pz_U y + pz_U y / 2 ^ k < 18446744073709551616 → pz_U (pz_i4 (nI k) y) = pz_U y + pz_U y / 2 ^ k := by
    intro y k hk hb
    have sh := pz_U_shr (x := y) (k := k) hk (s k hk)
    unfold pz_i4
    rw [pz_U_add (by rw [sh]; exact hb), sh]
  have p8 : (2 : Nat) ^ 8 = 256 := rfl
  have p16 : (2 : Nat) ^ 16 = 65536 := rfl
  have p32 : (2 : Nat) ^ 32 = 4294967296 := rfl
  have q1 := pz_g1 b0 b1 b2 b4 b5 b6 b7 b8
  have g7 := pz_g7 b0 b1 b2 b4 b5 b6 b7 b8
  have u4 := st (pz_i3 (pz_i2 (pz_i1 x))) 8 (by decide) (by rw [u3, p8, q1]; exact g7.1)
  have g2 := @pz_g2 t0 t1 t2 t3 t4 t5 t6 t7
  rw [u3, p8, q1, g2] at u4
  have q2 := pz_g3 b0 b1 b2 b4 b5 b6 b7 b8
  have u5 := st (pz_i4 (nI 8) (pz_i3 (pz_i2 (pz_i1 x)))) 16 (by decide) (by rw [u4, p16, q2]; exact g7.2.1)
  have g4 := @pz_g4 t0 t1 t2 t3 t4 t5 t6 t7
  rw [u4, p16, q2, g4] at u5
  have q3 := pz_g5 b0 b1 b2 b4 b5 b6 b7 b8
  have u6 := st (pz_i4 (nI 16) (pz_i4 (nI 8) (pz_i3 (pz_i2 (pz_i1 x))))) 32 (by decide) (by rw [u5, p32, q3]; exact g7.2.2)
  rw [u5, p32, q3] at u6
  rw [pz_bc]
  rw [pz_fin]
  congr 1
  rw [eC]
  show pz_U (pz_i4 (nI 32) (pz_i4 (nI 16) (pz_i4 (nI 8) (pz_i3 (pz_i2 (pz_i1 x)))))) % 128 = _
  rw [u6]
  exact pz_g6 b0 b1 b2 b4 b5 b6 b7 b8
