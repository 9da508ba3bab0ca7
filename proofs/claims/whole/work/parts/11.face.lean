def pz_Q_X3_lookAt (z : Int32 × (Int32) × (Nat → Int32) × (Nat → Int32) × (Nat → Int32) × (Nat → Int32) × (Nat → Int64) × (Nat → Int32) × (Nat → Int32) × (Nat → Int32) × (Nat → Int32) × (Nat → Int32)) : Prop := pz_c z.2.1
theorem pz_Qm_X3_lookAt {a cnt : Int32} {r : (Nat → Int32) × (Nat → Int32) × (Nat → Int32) × (Nat → Int32) × (Nat → Int64) × (Nat → Int32) × (Nat → Int32) × (Nat → Int32) × (Nat → Int32) × (Nat → Int32)} (hc : pz_c cnt) : pz_Q_X3_lookAt (a, cnt, r) := hc
theorem pz_X3_lookAt_c {cnt : Int32} {kinds : Nat → Int32} {firsts : Nat → Int32} {seconds : Nat → Int32} {heights : Nat → Int32} {tables : Nat → Int64} {rules : Nat → Int32} {ps : Nat → Int32} {qs : Nat → Int32} {rs : Nat → Int32} {fs : Nat → Int32} {frules : Nat → Int32} {heads : Nat → Int32} {ends : Nat → Int32} {inforce : Nat → Int32} {usable : Nat → Int32} {x1 : Int32} (hc : pz_c cnt) : pz_c (f_X3_lookAt cnt kinds firsts seconds heights tables rules ps qs rs fs frules heads ends inforce usable x1).2.1 := by
  unfold f_X3_lookAt
  show pz_Q_X3_lookAt _
  refine pz_bi (fun z1 _ => ?_)
  refine pz_it (fun _ => ?_) (fun _ => pz_Qm_X3_lookAt hc)
  refine pz_bi (fun z2 h2 => ?_)
  have hc2 : pz_c z2.2.1 := by rw [h2]; exact pz_X3_conclude_c hc
  refine pz_it (fun _ => pz_Qm_X3_lookAt hc2) (fun _ => ?_)
  refine pz_bi (fun z3 _ => ?_)
  refine pz_bi (fun z4 _ => ?_)
  exact pz_Qm_X3_lookAt hc2

-- == J13_bitCount_95d88
def f_J13_bitCount_95d88 (x0 : Int64) : Int32 := (((((((((((x0 - ((((x0).toUInt64 >>> ((1 : Int32).toInt64.toUInt64 &&& Int64.toUInt64 63)).toInt64) &&& (6148914691236517205))) &&& (3689348814741910323)) + (((((x0 - ((((x0).toUInt64 >>> ((1 : Int32).toInt64.toUInt64 &&& Int64.toUInt64 63)).toInt64) &&& (6148914691236517205)))).toUInt64 >>> ((2 : Int32).toInt64.toUInt64 &&& Int64.toUInt64 63)).toInt64) &&& (3689348814741910323))) + ((((((x0 - ((((x0).toUInt64 >>> ((1 : Int32).toInt64.toUInt64 &&& Int64.toUInt64 63)).toInt64) &&& (6148914691236517205))) &&& (3689348814741910323)) + (((((x0 - ((((x0).toUInt64 >>> ((1 : Int32).toInt64.toUInt64 &&& Int64.toUInt64 63)).toInt64) &&& (6148914691236517205)))).toUInt64 >>> ((2 : Int32).toInt64.toUInt64 &&& Int64.toUInt64 63)).toInt64) &&& (3689348814741910323)))).toUInt64 >>> ((4 : Int32).toInt64.toUInt64 &&& Int64.toUInt64 63)).toInt64)) &&& (1085102592571150095)) + ((((((((x0 - ((((x0).toUInt64 >>> ((1 : Int32).toInt64.toUInt64 &&& Int64.toUInt64 63)).toInt64) &&& (6148914691236517205))) &&& (3689348814741910323)) + (((((x0 - ((((x0).toUInt64 >>> ((1 : Int32).toInt64.toUInt64 &&& Int64.toUInt64 63)).toInt64) &&& (6148914691236517205)))).toUInt64 >>> ((2 : Int32).toInt64.toUInt64 &&& Int64.toUInt64 63)).toInt64) &&& (3689348814741910323))) + ((((((x0 - ((((x0).toUInt64 >>> ((1 : Int32).toInt64.toUInt64 &&& Int64.toUInt64 63)).toInt64) &&& (6148914691236517205))) &&& (3689348814741910323)) + (((((x0 - ((((x0).toUInt64 >>> ((1 : Int32).toInt64.toUInt64 &&& Int64.toUInt64 63)).toInt64) &&& (6148914691236517205)))).toUInt64 >>> ((2 : Int32).toInt64.toUInt64 &&& Int64.toUInt64 63)).toInt64) &&& (3689348814741910323)))).toUInt64 >>> ((4 : Int32).toInt64.toUInt64 &&& Int64.toUInt64 63)).toInt64)) &&& (1085102592571150095))).toUInt64 >>> ((8 : Int32).toInt64.toUInt64 &&& Int64.toUInt64 63)).toInt64)) + (((((((((x0 - ((((x0).toUInt64 >>> ((1 : Int32).toInt64.toUInt64 &&& Int64.toUInt64 63)).toInt64) &&& (6148914691236517205))) &&& (3689348814741910323)) + (((((x0 - ((((x0).toUInt64 >>> ((1 : Int32).toInt64.toUInt64 &&& Int64.toUInt64 63)).toInt64) &&& (6148914691236517205)))).toUInt64 >>> ((2 : Int32).toInt64.toUInt64 &&& Int64.toUInt64 63)).toInt64) &&& (3689348814741910323))) + ((((((x0 - ((((x0).toUInt64 >>> ((1 : Int32).toInt64.toUInt64 &&& Int64.toUInt64 63)).toInt64) &&& (6148914691236517205))) &&& (3689348814741910323)) + (((((x0 - ((((x0).toUInt64 >>> ((1 : Int32).toInt64.toUInt64 &&& Int64.toUInt64 63)).toInt64) &&& (6148914691236517205)))).toUInt64 >>> ((2 : Int32).toInt64.toUInt64 &&& Int64.toUInt64 63)).toInt64) &&& (3689348814741910323)))).toUInt64 >>> ((4 : Int32).toInt64.toUInt64 &&& Int64.toUInt64 63)).toInt64)) &&& (1085102592571150095)) + ((((((((x0 - ((((x0).toUInt64 >>> ((1 : Int32).toInt64.toUInt64 &&& Int64.toUInt64 63)).toInt64) &&& (6148914691236517205))) &&& (3689348814741910323)) + (((((x0 - ((((x0).toUInt64 >>> ((1 : Int32).toInt64.toUInt64 &&& Int64.toUInt64 63)).toInt64) &&& (6148914691236517205)))).toUInt64 >>> ((2 : Int32).toInt64.toUInt64 &&& Int64.toUInt64 63)).toInt64) &&& (3689348814741910323))) + ((((((x0 - ((((x0).toUInt64 >>> ((1 : Int32).toInt64.toUInt64 &&& Int64.toUInt64 63)).toInt64) &&& (6148914691236517205))) &&& (3689348814741910323)) + (((((x0 - ((((x0).toUInt64 >>> ((1 : Int32).toInt64.toUInt64 &&& Int64.toUInt64 63)).toInt64) &&& (6148914691236517205)))).toUInt64 >>> ((2 : Int32).toInt64.toUInt64 &&& Int64.toUInt64 63)).toInt64) &&& (3689348814741910323)))).toUInt64 >>> ((4 : Int32).toInt64.toUInt64 &&& Int64.toUInt64 63)).toInt64)) &&& (1085102592571150095))).toUInt64 >>> ((8 : Int32).toInt64.toUInt64 &&& Int64.toUInt64 63)).toInt64))).toUInt64 >>> ((16 : Int32).toInt64.toUInt64 &&& Int64.toUInt64 63)).toInt64)) + ((((((((((x0 - ((((x0).toUInt64 >>> ((1 : Int32).toInt64.toUInt64 &&& Int64.toUInt64 63)).toInt64) &&& (6148914691236517205))) &&& (3689348814741910323)) + (((((x0 - ((((x0).toUInt64 >>> ((1 : Int32).toInt64.toUInt64 &&& Int64.toUInt64 63)).toInt64) &&& (6148914691236517205)))).toUInt64 >>> ((2 : Int32).toInt64.toUInt64 &&& Int64.toUInt64 63)).toInt64) &&& (3689348814741910323))) + ((((((x0 - ((((x0).toUInt64 >>> ((1 : Int32).toInt64.toUInt64 &&& Int64.toUInt64 63)).toInt64) &&& (6148914691236517205))) &&& (3689348814741910323)) + (((((x0 - ((((x0).toUInt64 >>> ((1 : Int32).toInt64.toUInt64 &&& Int64.toUInt64 63)).toInt64) &&& (6148914691236517205)))).toUInt64 >>> ((2 : Int32).toInt64.toUInt64 &&& Int64.toUInt64 63)).toInt64) &&& (3689348814741910323)))).toUInt64 >>> ((4 : Int32).toInt64.toUInt64 &&& Int64.toUInt64 63)).toInt64)) &&& (1085102592571150095)) + ((((((((x0 - ((((x0).toUInt64 >>> ((1 : Int32).toInt64.toUInt64 &&& Int64.toUInt64 63)).toInt64) &&& (6148914691236517205))) &&& (3689348814741910323)) + (((((x0 - ((((x0).toUInt64 >>> ((1 : Int32).toInt64.toUInt64 &&& Int64.toUInt64 63)).toInt64) &&& (6148914691236517205)))).toUInt64 >>> ((2 : Int32).toInt64.toUInt64 &&& Int64.toUInt64 63)).toInt64) &&& (3689348814741910323))) + ((((((x0 - ((((x0).toUInt64 >>> ((1 : Int32).toInt64.toUInt64 &&& Int64.toUInt64 63)).toInt64) &&& (6148914691236517205))) &&& (3689348814741910323)) + (((((x0 - ((((x0).toUInt64 >>> ((1 : Int32).toInt64.toUInt64 &&& Int64.toUInt64 63)).toInt64) &&& (6148914691236517205)))).toUInt64 >>> ((2 : Int32).toInt64.toUInt64 &&& Int64.toUInt64 63)).toInt64) &&& (3689348814741910323)))).toUInt64 >>> ((4 : Int32).toInt64.toUInt64 &&& Int64.toUInt64 63)).toInt64)) &&& (1085102592571150095))).toUInt64 >>> ((8 : Int32).toInt64.toUInt64 &&& Int64.toUInt64 63)).toInt64)) + (((((((((x0 - ((((x0).toUInt64 >>> ((1 : Int32).toInt64.toUInt64 &&& Int64.toUInt64 63)).toInt64) &&& (6148914691236517205))) &&& (3689348814741910323)) + (((((x0 - ((((x0).toUInt64 >>> ((1 : Int32).toInt64.toUInt64 &&& Int64.toUInt64 63)).toInt64) &&& (6148914691236517205)))).toUInt64 >>> ((2 : Int32).toInt64.toUInt64 &&& Int64.toUInt64 63)).toInt64) &&& (3689348814741910323))) + ((((((x0 - ((((x0).toUInt64 >>> ((1 : Int32).toInt64.toUInt64 &&& Int64.toUInt64 63)).toInt64) &&& (6148914691236517205))) &&& (3689348814741910323)) + (((((x0 - ((((x0).toUInt64 >>> ((1 : Int32).toInt64.toUInt64 &&& Int64.toUInt64 63)).toInt64) &&& (6148914691236517205)))).toUInt64 >>> ((2 : Int32).toInt64.toUInt64 &&& Int64.toUInt64 63)).toInt64) &&& (3689348814741910323)))).toUInt64 >>> ((4 : Int32).toInt64.toUInt64 &&& Int64.toUInt64 63)).toInt64)) &&& (1085102592571150095)) + ((((((((x0 - ((((x0).toUInt64 >>> ((1 : Int32).toInt64.toUInt64 &&& Int64.toUInt64 63)).toInt64) &&& (6148914691236517205))) &&& (3689348814741910323)) + (((((x0 - ((((x0).toUInt64 >>> ((1 : Int32).toInt64.toUInt64 &&& Int64.toUInt64 63)).toInt64) &&& (6148914691236517205)))).toUInt64 >>> ((2 : Int32).toInt64.toUInt64 &&& Int64.toUInt64 63)).toInt64) &&& (3689348814741910323))) + ((((((x0 - ((((x0).toUInt64 >>> ((1 : Int32).toInt64.toUInt64 &&& Int64.toUInt64 63)).toInt64) &&& (6148914691236517205))) &&& (3689348814741910323)) + (((((x0 - ((((x0).toUInt64 >>> ((1 : Int32).toInt64.toUInt64 &&& Int64.toUInt64 63)).toInt64) &&& (6148914691236517205)))).toUInt64 >>> ((2 : Int32).toInt64.toUInt64 &&& Int64.toUInt64 63)).toInt64) &&& (3689348814741910323)))).toUInt64 >>> ((4 : Int32).toInt64.toUInt64 &&& Int64.toUInt64 63)).toInt64)) &&& (1085102592571150095))).toUInt64 >>> ((8 : Int32).toInt64.toUInt64 &&& Int64.toUInt64 63)).toInt64))).toUInt64 >>> ((16 : Int32).toInt64.toUInt64 &&& Int64.toUInt64 63)).toInt64))).toUInt64 >>> ((32 : Int32).toInt64.toUInt64 &&& Int64.toUInt64 63)).toInt64))).toInt32) &&& 127)
theorem mm_J13_bitCount_95d88_Cond_constantLong_RJ13_314__6148914691236517205_ : Cond.constantLong RJ13 314 (6148914691236517205) ∈ wsJ13_bitCount_95d88 := by decide +kernel
theorem mm_J13_bitCount_95d88_Cond_constantLong_RJ13_316__3689348814741910323_ : Cond.constantLong RJ13 316 (3689348814741910323) ∈ wsJ13_bitCount_95d88 := by decide +kernel
theorem mm_J13_bitCount_95d88_Cond_constantLong_RJ13_318__1085102592571150095_ : Cond.constantLong RJ13 318 (1085102592571150095) ∈ wsJ13_bitCount_95d88 := by decide +kernel
set_option maxHeartbeats 4000000 in
set_option maxRecDepth 100000 in
theorem c_J13_bitCount_95d88 (l : Launch)   (x0 : Int64)  : Met l yJ13_bitCount_95d88 wsJ13_bitCount_95d88 ({ frames := 0, cells := 0, slots := 0, locals := 0 }) (va_Pc [.long (x0)] (fun _ => True)) (va_Qi (fun r (_ : Unit) => r = (f_J13_bitCount_95d88 x0)) (fun _ _ => True) (fun _ => False)) 0 0 (fun _ => False) := by
  refine Met.ofW (cc := cJ13_bitCount_95d88) (maxL := 2) (ret := (some .int)) (by decide) rfl ?_
  intro p e s m args below meth c s₁ B hml hv
  obtain ⟨rfl, -⟩ := hv
  have hx := B.exec
  have hb := B.bytes
  have hr := B.returns
  have hts := atoms_spec (ws := wsJ13_bitCount_95d88) B.pre
  have hown : s.vm.findClass RJ13 = some m.cls := findClass_of_methodNamed B.named
  have hlocks := B.notSynchronized
  have hC : pz_C p s m ([.long (x0)] : List Value).toArray meth c cJ13_bitCount_95d88 wsJ13_bitCount_95d88 RJ13 2 (some .int) := ⟨hx, hb, hml, hown, hts, hr, hlocks⟩
  have hS : va_S (fun _ => False) s.heap s.heap [] := va_S.rf
  have hl := lv_entry [.long (x0)] (n := 2) (Nat.le_of_ble_eq_true rfl)
  rw [lg_entry_eq]
  generalize (lg_sl [.long (x0)] ++ List.replicate (2 - (lg_sl [.long (x0)]).length) Slot.unset).toArray = ls at hl ⊢
  have hl : lv_has ls 2 [(0, .long (x0))] := hl
  generalize hF : f_J13_bitCount_95d88 x0 = G
  replace hF := hF.symm
  unfold f_J13_bitCount_95d88 at hF
  refine lv_lload_n hx hb dJ13_bitCount_95d88_0 rfl (lv_at hl 0 rfl) ?_
  refine lv_lload_n hx hb dJ13_bitCount_95d88_1 rfl (lv_at hl 0 rfl) ?_
  refine lv_iconst (v := 1) hx hb dJ13_bitCount_95d88_2 (by decide) ?_
  refine lv_lushr (v := ((x0).toUInt64 >>> ((1 : Int32).toInt64.toUInt64 &&& Int64.toUInt64 63)).toInt64) hx hb dJ13_bitCount_95d88_3 rfl ?_
  refine lv_ldc2 hx hb hown (hts _ mm_J13_bitCount_95d88_Cond_constantLong_RJ13_314__6148914691236517205_) dJ13_bitCount_95d88_4 ?_
  refine lv_land hx hb dJ13_bitCount_95d88_7 ?_
  refine lv_lsub hx hb dJ13_bitCount_95d88_8 ?_
  refine lv_lstore_n (lv' := [(0, .long ((x0 - ((((x0).toUInt64 >>> ((1 : Int32).toInt64.toUInt64 &&& Int64.toUInt64 63)).toInt64) &&& (6148914691236517205)))))]) hx hb dJ13_bitCount_95d88_9 rfl hl (by decide) rfl (fun ls hl => ?_)
  refine lv_lload_n hx hb dJ13_bitCount_95d88_10 rfl (lv_at hl 0 rfl) ?_
  refine lv_ldc2 hx hb hown (hts _ mm_J13_bitCount_95d88_Cond_constantLong_RJ13_316__3689348814741910323_) dJ13_bitCount_95d88_11 ?_
  refine lv_land hx hb dJ13_bitCount_95d88_14 ?_
  refine lv_lload_n hx hb dJ13_bitCount_95d88_15 rfl (lv_at hl 0 rfl) ?_
  refine lv_iconst (v := 2) hx hb dJ13_bitCount_95d88_16 (by decide) ?_
  refine lv_lushr (v := (((x0 - ((((x0).toUInt64 >>> ((1 : Int32).toInt64.toUInt64 &&& Int64.toUInt64 63)).toInt64) &&& (6148914691236517205)))).toUInt64 >>> ((2 : Int32).toInt64.toUInt64 &&& Int64.toUInt64 63)).toInt64) hx hb dJ13_bitCount_95d88_17 rfl ?_
  refine lv_ldc2 hx hb hown (hts _ mm_J13_bitCount_95d88_Cond_constantLong_RJ13_316__3689348814741910323_) dJ13_bitCount_95d88_18 ?_
  refine lv_land hx hb dJ13_bitCount_95d88_21 ?_
  refine lv_ladd hx hb dJ13_bitCount_95d88_22 ?_
  refine lv_lstore_n (lv' := [(0, .long ((((x0 - ((((x0).toUInt64 >>> ((1 : Int32).toInt64.toUInt64 &&& Int64.toUInt64 63)).toInt64) &&& (6148914691236517205))) &&& (3689348814741910323)) + (((((x0 - ((((x0).toUInt64 >>> ((1 : Int32).toInt64.toUInt64 &&& Int64.toUInt64 63)).toInt64) &&& (6148914691236517205)))).toUInt64 >>> ((2 : Int32).toInt64.toUInt64 &&& Int64.toUInt64 63)).toInt64) &&& (3689348814741910323)))))]) hx hb dJ13_bitCount_95d88_23 rfl hl (by decide) rfl (fun ls hl => ?_)
  refine lv_lload_n hx hb dJ13_bitCount_95d88_24 rfl (lv_at hl 0 rfl) ?_
  refine lv_lload_n hx hb dJ13_bitCount_95d88_25 rfl (lv_at hl 0 rfl) ?_
  refine lv_iconst (v := 4) hx hb dJ13_bitCount_95d88_26 (by decide) ?_
  refine lv_lushr (v := (((((x0 - ((((x0).toUInt64 >>> ((1 : Int32).toInt64.toUInt64 &&& Int64.toUInt64 63)).toInt64) &&& (6148914691236517205))) &&& (3689348814741910323)) + (((((x0 - ((((x0).toUInt64 >>> ((1 : Int32).toInt64.toUInt64 &&& Int64.toUInt64 63)).toInt64) &&& (6148914691236517205)))).toUInt64 >>> ((2 : Int32).toInt64.toUInt64 &&& Int64.toUInt64 63)).toInt64) &&& (3689348814741910323)))).toUInt64 >>> ((4 : Int32).toInt64.toUInt64 &&& Int64.toUInt64 63)).toInt64) hx hb dJ13_bitCount_95d88_27 rfl ?_
  refine lv_ladd hx hb dJ13_bitCount_95d88_28 ?_
  refine lv_ldc2 hx hb hown (hts _ mm_J13_bitCount_95d88_Cond_constantLong_RJ13_318__1085102592571150095_) dJ13_bitCount_95d88_29 ?_
  refine lv_land hx hb dJ13_bitCount_95d88_32 ?_
  refine lv_lstore_n (lv' := [(0, .long ((((((x0 - ((((x0).toUInt64 >>> ((1 : Int32).toInt64.toUInt64 &&& Int64.toUInt64 63)).toInt64) &&& (6148914691236517205))) &&& (3689348814741910323)) + (((((x0 - ((((x0).toUInt64 >>> ((1 : Int32).toInt64.toUInt64 &&& Int64.toUInt64 63)).toInt64) &&& (6148914691236517205)))).toUInt64 >>> ((2 : Int32).toInt64.toUInt64 &&& Int64.toUInt64 63)).toInt64) &&& (3689348814741910323))) + ((((((x0 - ((((x0).toUInt64 >>> ((1 : Int32).toInt64.toUInt64 &&& Int64.toUInt64 63)).toInt64) &&& (6148914691236517205))) &&& (3689348814741910323)) + (((((x0 - ((((x0).toUInt64 >>> ((1 : Int32).toInt64.toUInt64 &&& Int64.toUInt64 63)).toInt64) &&& (6148914691236517205)))).toUInt64 >>> ((2 : Int32).toInt64.toUInt64 &&& Int64.toUInt64 63)).toInt64) &&& (3689348814741910323)))).toUInt64 >>> ((4 : Int32).toInt64.toUInt64 &&& Int64.toUInt64 63)).toInt64)) &&& (1085102592571150095))))]) hx hb dJ13_bitCount_95d88_33 rfl hl (by decide) rfl (fun ls hl => ?_)
  refine lv_lload_n hx hb dJ13_bitCount_95d88_34 rfl (lv_at hl 0 rfl) ?_
  refine lv_lload_n hx hb dJ13_bitCount_95d88_35 rfl (lv_at hl 0 rfl) ?_
  refine lv_bipush (v := 8) hx hb dJ13_bitCount_95d88_36 (by decide) ?_
  refine lv_lushr (v := (((((((x0 - ((((x0).toUInt64 >>> ((1 : Int32).toInt64.toUInt64 &&& Int64.toUInt64 63)).toInt64) &&& (6148914691236517205))) &&& (3689348814741910323)) + (((((x0 - ((((x0).toUInt64 >>> ((1 : Int32).toInt64.toUInt64 &&& Int64.toUInt64 63)).toInt64) &&& (6148914691236517205)))).toUInt64 >>> ((2 : Int32).toInt64.toUInt64 &&& Int64.toUInt64 63)).toInt64) &&& (3689348814741910323))) + ((((((x0 - ((((x0).toUInt64 >>> ((1 : Int32).toInt64.toUInt64 &&& Int64.toUInt64 63)).toInt64) &&& (6148914691236517205))) &&& (3689348814741910323)) + (((((x0 - ((((x0).toUInt64 >>> ((1 : Int32).toInt64.toUInt64 &&& Int64.toUInt64 63)).toInt64) &&& (6148914691236517205)))).toUInt64 >>> ((2 : Int32).toInt64.toUInt64 &&& Int64.toUInt64 63)).toInt64) &&& (3689348814741910323)))).toUInt64 >>> ((4 : Int32).toInt64.toUInt64 &&& Int64.toUInt64 63)).toInt64)) &&& (1085102592571150095))).toUInt64 >>> ((8 : Int32).toInt64.toUInt64 &&& Int64.toUInt64 63)).toInt64) hx hb dJ13_bitCount_95d88_38 rfl ?_
  refine lv_ladd hx hb dJ13_bitCount_95d88_39 ?_
  refine lv_lstore_n (lv' := [(0, .long (((((((x0 - ((((x0).toUInt64 >>> ((1 : Int32).toInt64.toUInt64 &&& Int64.toUInt64 63)).toInt64) &&& (6148914691236517205))) &&& (3689348814741910323)) + (((((x0 - ((((x0).toUInt64 >>> ((1 : Int32).toInt64.toUInt64 &&& Int64.toUInt64 63)).toInt64) &&& (6148914691236517205)))).toUInt64 >>> ((2 : Int32).toInt64.toUInt64 &&& Int64.toUInt64 63)).toInt64) &&& (3689348814741910323))) + ((((((x0 - ((((x0).toUInt64 >>> ((1 : Int32).toInt64.toUInt64 &&& Int64.toUInt64 63)).toInt64) &&& (6148914691236517205))) &&& (3689348814741910323)) + (((((x0 - ((((x0).toUInt64 >>> ((1 : Int32).toInt64.toUInt64 &&& Int64.toUInt64 63)).toInt64) &&& (6148914691236517205)))).toUInt64 >>> ((2 : Int32).toInt64.toUInt64 &&& Int64.toUInt64 63)).toInt64) &&& (3689348814741910323)))).toUInt64 >>> ((4 : Int32).toInt64.toUInt64 &&& Int64.toUInt64 63)).toInt64)) &&& (1085102592571150095)) + ((((((((x0 - ((((x0).toUInt64 >>> ((1 : Int32).toInt64.toUInt64 &&& Int64.toUInt64 63)).toInt64) &&& (6148914691236517205))) &&& (3689348814741910323)) + (((((x0 - ((((x0).toUInt64 >>> ((1 : Int32).toInt64.toUInt64 &&& Int64.toUInt64 63)).toInt64) &&& (6148914691236517205)))).toUInt64 >>> ((2 : Int32).toInt64.toUInt64 &&& Int64.toUInt64 63)).toInt64) &&& (3689348814741910323))) + ((((((x0 - ((((x0).toUInt64 >>> ((1 : Int32).toInt64.toUInt64 &&& Int64.toUInt64 63)).toInt64) &&& (6148914691236517205))) &&& (3689348814741910323)) + (((((x0 - ((((x0).toUInt64 >>> ((1 : Int32).toInt64.toUInt64 &&& Int64.toUInt64 63)).toInt64) &&& (6148914691236517205)))).toUInt64 >>> ((2 : Int32).toInt64.toUInt64 &&& Int64.toUInt64 63)).toInt64) &&& (3689348814741910323)))).toUInt64 >>> ((4 : Int32).toInt64.toUInt64 &&& Int64.toUInt64 63)).toInt64)) &&& (1085102592571150095))).toUInt64 >>> ((8 : Int32).toInt64.toUInt64 &&& Int64.toUInt64 63)).toInt64))))]) hx hb dJ13_bitCount_95d88_40 rfl hl (by decide) rfl (fun ls hl => ?_)
  refine lv_lload_n hx hb dJ13_bitCount_95d88_41 rfl (lv_at hl 0 rfl) ?_
  refine lv_lload_n hx hb dJ13_bitCount_95d88_42 rfl (lv_at hl 0 rfl) ?_
  refine lv_bipush (v := 16) hx hb dJ13_bitCount_95d88_43 (by decide) ?_
  refine lv_lushr (v := ((((((((x0 - ((((x0).toUInt64 >>> ((1 : Int32).toInt64.toUInt64 &&& Int64.toUInt64 63)).toInt64) &&& (6148914691236517205))) &&& (3689348814741910323)) + (((((x0 - ((((x0).toUInt64 >>> ((1 : Int32).toInt64.toUInt64 &&& Int64.toUInt64 63)).toInt64) &&& (6148914691236517205)))).toUInt64 >>> ((2 : Int32).toInt64.toUInt64 &&& Int64.toUInt64 63)).toInt64) &&& (3689348814741910323))) + ((((((x0 - ((((x0).toUInt64 >>> ((1 : Int32).toInt64.toUInt64 &&& Int64.toUInt64 63)).toInt64) &&& (6148914691236517205))) &&& (3689348814741910323)) + (((((x0 - ((((x0).toUInt64 >>> ((1 : Int32).toInt64.toUInt64 &&& Int64.toUInt64 63)).toInt64) &&& (6148914691236517205)))).toUInt64 >>> ((2 : Int32).toInt64.toUInt64 &&& Int64.toUInt64 63)).toInt64) &&& (3689348814741910323)))).toUInt64 >>> ((4 : Int32).toInt64.toUInt64 &&& Int64.toUInt64 63)).toInt64)) &&& (1085102592571150095)) + ((((((((x0 - ((((x0).toUInt64 >>> ((1 : Int32).toInt64.toUInt64 &&& Int64.toUInt64 63)).toInt64) &&& (6148914691236517205))) &&& (3689348814741910323)) + (((((x0 - ((((x0).toUInt64 >>> ((1 : Int32).toInt64.toUInt64 &&& Int64.toUInt64 63)).toInt64) &&& (6148914691236517205)))).toUInt64 >>> ((2 : Int32).toInt64.toUInt64 &&& Int64.toUInt64 63)).toInt64) &&& (3689348814741910323))) + ((((((x0 - ((((x0).toUInt64 >>> ((1 : Int32).toInt64.toUInt64 &&& Int64.toUInt64 63)).toInt64) &&& (6148914691236517205))) &&& (3689348814741910323)) + (((((x0 - ((((x0).toUInt64 >>> ((1 : Int32).toInt64.toUInt64 &&& Int64.toUInt64 63)).toInt64) &&& (6148914691236517205)))).toUInt64 >>> ((2 : Int32).toInt64.toUInt64 &&& Int64.toUInt64 63)).toInt64) &&& (3689348814741910323)))).toUInt64 >>> ((4 : Int32).toInt64.toUInt64 &&& Int64.toUInt64 63)).toInt64)) &&& (1085102592571150095))).toUInt64 >>> ((8 : Int32).toInt64.toUInt64 &&& Int64.toUInt64 63)).toInt64))).toUInt64 >>> ((16 : Int32).toInt64.toUInt64 &&& Int64.toUInt64 63)).toInt64) hx hb dJ13_bitCount_95d88_45 rfl ?_
  refine lv_ladd hx hb dJ13_bitCount_95d88_46 ?_
  refine lv_lstore_n (lv' := [(0, .long ((((((((x0 - ((((x0).toUInt64 >>> ((1 : Int32).toInt64.toUInt64 &&& Int64.toUInt64 63)).toInt64) &&& (6148914691236517205))) &&& (3689348814741910323)) + (((((x0 - ((((x0).toUInt64 >>> ((1 : Int32).toInt64.toUInt64 &&& Int64.toUInt64 63)).toInt64) &&& (6148914691236517205)))).toUInt64 >>> ((2 : Int32).toInt64.toUInt64 &&& Int64.toUInt64 63)).toInt64) &&& (3689348814741910323))) + ((((((x0 - ((((x0).toUInt64 >>> ((1 : Int32).toInt64.toUInt64 &&& Int64.toUInt64 63)).toInt64) &&& (6148914691236517205))) &&& (3689348814741910323)) + (((((x0 - ((((x0).toUInt64 >>> ((1 : Int32).toInt64.toUInt64 &&& Int64.toUInt64 63)).toInt64) &&& (6148914691236517205)))).toUInt64 >>> ((2 : Int32).toInt64.toUInt64 &&& Int64.toUInt64 63)).toInt64) &&& (3689348814741910323)))).toUInt64 >>> ((4 : Int32).toInt64.toUInt64 &&& Int64.toUInt64 63)).toInt64)) &&& (1085102592571150095)) + ((((((((x0 - ((((x0).toUInt64 >>> ((1 : Int32).toInt64.toUInt64 &&& Int64.toUInt64 63)).toInt64) &&& (6148914691236517205))) &&& (3689348814741910323)) + (((((x0 - ((((x0).toUInt64 >>> ((1 : Int32).toInt64.toUInt64 &&& Int64.toUInt64 63)).toInt64) &&& (6148914691236517205)))).toUInt64 >>> ((2 : Int32).toInt64.toUInt64 &&& Int64.toUInt64 63)).toInt64) &&& (3689348814741910323))) + ((((((x0 - ((((x0).toUInt64 >>> ((1 : Int32).toInt64.toUInt64 &&& Int64.toUInt64 63)).toInt64) &&& (6148914691236517205))) &&& (3689348814741910323)) + (((((x0 - ((((x0).toUInt64 >>> ((1 : Int32).toInt64.toUInt64 &&& Int64.toUInt64 63)).toInt64) &&& (6148914691236517205)))).toUInt64 >>> ((2 : Int32).toInt64.toUInt64 &&& Int64.toUInt64 63)).toInt64) &&& (3689348814741910323)))).toUInt64 >>> ((4 : Int32).toInt64.toUInt64 &&& Int64.toUInt64 63)).toInt64)) &&& (1085102592571150095))).toUInt64 >>> ((8 : Int32).toInt64.toUInt64 &&& Int64.toUInt64 63)).toInt64)) + (((((((((x0 - ((((x0).toUInt64 >>> ((1 : Int32).toInt64.toUInt64 &&& Int64.toUInt64 63)).toInt64) &&& (6148914691236517205))) &&& (3689348814741910323)) + (((((x0 - ((((x0).toUInt64 >>> ((1 : Int32).toInt64.toUInt64 &&& Int64.toUInt64 63)).toInt64) &&& (6148914691236517205)))).toUInt64 >>> ((2 : Int32).toInt64.toUInt64 &&& Int64.toUInt64 63)).toInt64) &&& (3689348814741910323))) + ((((((x0 - ((((x0).toUInt64 >>> ((1 : Int32).toInt64.toUInt64 &&& Int64.toUInt64 63)).toInt64) &&& (6148914691236517205))) &&& (3689348814741910323)) + (((((x0 - ((((x0).toUInt64 >>> ((1 : Int32).toInt64.toUInt64 &&& Int64.toUInt64 63)).toInt64) &&& (6148914691236517205)))).toUInt64 >>> ((2 : Int32).toInt64.toUInt64 &&& Int64.toUInt64 63)).toInt64) &&& (3689348814741910323)))).toUInt64 >>> ((4 : Int32).toInt64.toUInt64 &&& Int64.toUInt64 63)).toInt64)) &&& (1085102592571150095)) + ((((((((x0 - ((((x0).toUInt64 >>> ((1 : Int32).toInt64.toUInt64 &&& Int64.toUInt64 63)).toInt64) &&& (6148914691236517205))) &&& (3689348814741910323)) + (((((x0 - ((((x0).toUInt64 >>> ((1 : Int32).toInt64.toUInt64 &&& Int64.toUInt64 63)).toInt64) &&& (6148914691236517205)))).toUInt64 >>> ((2 : Int32).toInt64.toUInt64 &&& Int64.toUInt64 63)).toInt64) &&& (3689348814741910323))) + ((((((x0 - ((((x0).toUInt64 >>> ((1 : Int32).toInt64.toUInt64 &&& Int64.toUInt64 63)).toInt64) &&& (6148914691236517205))) &&& (3689348814741910323)) + (((((x0 - ((((x0).toUInt64 >>> ((1 : Int32).toInt64.toUInt64 &&& Int64.toUInt64 63)).toInt64) &&& (6148914691236517205)))).toUInt64 >>> ((2 : Int32).toInt64.toUInt64 &&& Int64.toUInt64 63)).toInt64) &&& (3689348814741910323)))).toUInt64 >>> ((4 : Int32).toInt64.toUInt64 &&& Int64.toUInt64 63)).toInt64)) &&& (1085102592571150095))).toUInt64 >>> ((8 : Int32).toInt64.toUInt64 &&& Int64.toUInt64 63)).toInt64))).toUInt64 >>> ((16 : Int32).toInt64.toUInt64 &&& Int64.toUInt64 63)).toInt64))))]) hx hb dJ13_bitCount_95d88_47 rfl hl (by decide) rfl (fun ls hl => ?_)
  refine lv_lload_n hx hb dJ13_bitCount_95d88_48 rfl (lv_at hl 0 rfl) ?_
  refine lv_lload_n hx hb dJ13_bitCount_95d88_49 rfl (lv_at hl 0 rfl) ?_
  refine lv_bipush (v := 32) hx hb dJ13_bitCount_95d88_50 (by decide) ?_
  refine lv_lushr (v := (((((((((x0 - ((((x0).toUInt64 >>> ((1 : Int32).toInt64.toUInt64 &&& Int64.toUInt64 63)).toInt64) &&& (6148914691236517205))) &&& (3689348814741910323)) + (((((x0 - ((((x0).toUInt64 >>> ((1 : Int32).toInt64.toUInt64 &&& Int64.toUInt64 63)).toInt64) &&& (6148914691236517205)))).toUInt64 >>> ((2 : Int32).toInt64.toUInt64 &&& Int64.toUInt64 63)).toInt64) &&& (3689348814741910323))) + ((((((x0 - ((((x0).toUInt64 >>> ((1 : Int32).toInt64.toUInt64 &&& Int64.toUInt64 63)).toInt64) &&& (6148914691236517205))) &&& (3689348814741910323)) + (((((x0 - ((((x0).toUInt64 >>> ((1 : Int32).toInt64.toUInt64 &&& Int64.toUInt64 63)).toInt64) &&& (6148914691236517205)))).toUInt64 >>> ((2 : Int32).toInt64.toUInt64 &&& Int64.toUInt64 63)).toInt64) &&& (3689348814741910323)))).toUInt64 >>> ((4 : Int32).toInt64.toUInt64 &&& Int64.toUInt64 63)).toInt64)) &&& (1085102592571150095)) + ((((((((x0 - ((((x0).toUInt64 >>> ((1 : Int32).toInt64.toUInt64 &&& Int64.toUInt64 63)).toInt64) &&& (6148914691236517205))) &&& (3689348814741910323)) + (((((x0 - ((((x0).toUInt64 >>> ((1 : Int32).toInt64.toUInt64 &&& Int64.toUInt64 63)).toInt64) &&& (6148914691236517205)))).toUInt64 >>> ((2 : Int32).toInt64.toUInt64 &&& Int64.toUInt64 63)).toInt64) &&& (3689348814741910323))) + ((((((x0 - ((((x0).toUInt64 >>> ((1 : Int32).toInt64.toUInt64 &&& Int64.toUInt64 63)).toInt64) &&& (6148914691236517205))) &&& (3689348814741910323)) + (((((x0 - ((((x0).toUInt64 >>> ((1 : Int32).toInt64.toUInt64 &&& Int64.toUInt64 63)).toInt64) &&& (6148914691236517205)))).toUInt64 >>> ((2 : Int32).toInt64.toUInt64 &&& Int64.toUInt64 63)).toInt64) &&& (3689348814741910323)))).toUInt64 >>> ((4 : Int32).toInt64.toUInt64 &&& Int64.toUInt64 63)).toInt64)) &&& (1085102592571150095))).toUInt64 >>> ((8 : Int32).toInt64.toUInt64 &&& Int64.toUInt64 63)).toInt64)) + (((((((((x0 - ((((x0).toUInt64 >>> ((1 : Int32).toInt64.toUInt64 &&& Int64.toUInt64 63)).toInt64) &&& (6148914691236517205))) &&& (3689348814741910323)) + (((((x0 - ((((x0).toUInt64 >>> ((1 : Int32).toInt64.toUInt64 &&& Int64.toUInt64 63)).toInt64) &&& (6148914691236517205)))).toUInt64 >>> ((2 : Int32).toInt64.toUInt64 &&& Int64.toUInt64 63)).toInt64) &&& (3689348814741910323))) + ((((((x0 - ((((x0).toUInt64 >>> ((1 : Int32).toInt64.toUInt64 &&& Int64.toUInt64 63)).toInt64) &&& (6148914691236517205))) &&& (3689348814741910323)) + (((((x0 - ((((x0).toUInt64 >>> ((1 : Int32).toInt64.toUInt64 &&& Int64.toUInt64 63)).toInt64) &&& (6148914691236517205)))).toUInt64 >>> ((2 : Int32).toInt64.toUInt64 &&& Int64.toUInt64 63)).toInt64) &&& (3689348814741910323)))).toUInt64 >>> ((4 : Int32).toInt64.toUInt64 &&& Int64.toUInt64 63)).toInt64)) &&& (1085102592571150095)) + ((((((((x0 - ((((x0).toUInt64 >>> ((1 : Int32).toInt64.toUInt64 &&& Int64.toUInt64 63)).toInt64) &&& (6148914691236517205))) &&& (3689348814741910323)) + (((((x0 - ((((x0).toUInt64 >>> ((1 : Int32).toInt64.toUInt64 &&& Int64.toUInt64 63)).toInt64) &&& (6148914691236517205)))).toUInt64 >>> ((2 : Int32).toInt64.toUInt64 &&& Int64.toUInt64 63)).toInt64) &&& (3689348814741910323))) + ((((((x0 - ((((x0).toUInt64 >>> ((1 : Int32).toInt64.toUInt64 &&& Int64.toUInt64 63)).toInt64) &&& (6148914691236517205))) &&& (3689348814741910323)) + (((((x0 - ((((x0).toUInt64 >>> ((1 : Int32).toInt64.toUInt64 &&& Int64.toUInt64 63)).toInt64) &&& (6148914691236517205)))).toUInt64 >>> ((2 : Int32).toInt64.toUInt64 &&& Int64.toUInt64 63)).toInt64) &&& (3689348814741910323)))).toUInt64 >>> ((4 : Int32).toInt64.toUInt64 &&& Int64.toUInt64 63)).toInt64)) &&& (1085102592571150095))).toUInt64 >>> ((8 : Int32).toInt64.toUInt64 &&& Int64.toUInt64 63)).toInt64))).toUInt64 >>> ((16 : Int32).toInt64.toUInt64 &&& Int64.toUInt64 63)).toInt64))).toUInt64 >>> ((32 : Int32).toInt64.toUInt64 &&& Int64.toUInt64 63)).toInt64) hx hb dJ13_bitCount_95d88_52 rfl ?_
  refine lv_ladd hx hb dJ13_bitCount_95d88_53 ?_
  refine lv_lstore_n (lv' := [(0, .long (((((((((x0 - ((((x0).toUInt64 >>> ((1 : Int32).toInt64.toUInt64 &&& Int64.toUInt64 63)).toInt64) &&& (6148914691236517205))) &&& (3689348814741910323)) + (((((x0 - ((((x0).toUInt64 >>> ((1 : Int32).toInt64.toUInt64 &&& Int64.toUInt64 63)).toInt64) &&& (6148914691236517205)))).toUInt64 >>> ((2 : Int32).toInt64.toUInt64 &&& Int64.toUInt64 63)).toInt64) &&& (3689348814741910323))) + ((((((x0 - ((((x0).toUInt64 >>> ((1 : Int32).toInt64.toUInt64 &&& Int64.toUInt64 63)).toInt64) &&& (6148914691236517205))) &&& (3689348814741910323)) + (((((x0 - ((((x0).toUInt64 >>> ((1 : Int32).toInt64.toUInt64 &&& Int64.toUInt64 63)).toInt64) &&& (6148914691236517205)))).toUInt64 >>> ((2 : Int32).toInt64.toUInt64 &&& Int64.toUInt64 63)).toInt64) &&& (3689348814741910323)))).toUInt64 >>> ((4 : Int32).toInt64.toUInt64 &&& Int64.toUInt64 63)).toInt64)) &&& (1085102592571150095)) + ((((((((x0 - ((((x0).toUInt64 >>> ((1 : Int32).toInt64.toUInt64 &&& Int64.toUInt64 63)).toInt64) &&& (6148914691236517205))) &&& (3689348814741910323)) + (((((x0 - ((((x0).toUInt64 >>> ((1 : Int32).toInt64.toUInt64 &&& Int64.toUInt64 63)).toInt64) &&& (6148914691236517205)))).toUInt64 >>> ((2 : Int32).toInt64.toUInt64 &&& Int64.toUInt64 63)).toInt64) &&& (3689348814741910323))) + ((((((x0 - ((((x0).toUInt64 >>> ((1 : Int32).toInt64.toUInt64 &&& Int64.toUInt64 63)).toInt64) &&& (6148914691236517205))) &&& (3689348814741910323)) + (((((x0 - ((((x0).toUInt64 >>> ((1 : Int32).toInt64.toUInt64 &&& Int64.toUInt64 63)).toInt64) &&& (6148914691236517205)))).toUInt64 >>> ((2 : Int32).toInt64.toUInt64 &&& Int64.toUInt64 63)).toInt64) &&& (3689348814741910323)))).toUInt64 >>> ((4 : Int32).toInt64.toUInt64 &&& Int64.toUInt64 63)).toInt64)) &&& (1085102592571150095))).toUInt64 >>> ((8 : Int32).toInt64.toUInt64 &&& Int64.toUInt64 63)).toInt64)) + (((((((((x0 - ((((x0).toUInt64 >>> ((1 : Int32).toInt64.toUInt64 &&& Int64.toUInt64 63)).toInt64) &&& (6148914691236517205))) &&& (3689348814741910323)) + (((((x0 - ((((x0).toUInt64 >>> ((1 : Int32).toInt64.toUInt64 &&& Int64.toUInt64 63)).toInt64) &&& (6148914691236517205)))).toUInt64 >>> ((2 : Int32).toInt64.toUInt64 &&& Int64.toUInt64 63)).toInt64) &&& (3689348814741910323))) + ((((((x0 - ((((x0).toUInt64 >>> ((1 : Int32).toInt64.toUInt64 &&& Int64.toUInt64 63)).toInt64) &&& (6148914691236517205))) &&& (3689348814741910323)) + (((((x0 - ((((x0).toUInt64 >>> ((1 : Int32).toInt64.toUInt64 &&& Int64.toUInt64 63)).toInt64) &&& (6148914691236517205)))).toUInt64 >>> ((2 : Int32).toInt64.toUInt64 &&& Int64.toUInt64 63)).toInt64) &&& (3689348814741910323)))).toUInt64 >>> ((4 : Int32).toInt64.toUInt64 &&& Int64.toUInt64 63)).toInt64)) &&& (1085102592571150095)) + ((((((((x0 - ((((x0).toUInt64 >>> ((1 : Int32).toInt64.toUInt64 &&& Int64.toUInt64 63)).toInt64) &&& (6148914691236517205))) &&& (3689348814741910323)) + (((((x0 - ((((x0).toUInt64 >>> ((1 : Int32).toInt64.toUInt64 &&& Int64.toUInt64 63)).toInt64) &&& (6148914691236517205)))).toUInt64 >>> ((2 : Int32).toInt64.toUInt64 &&& Int64.toUInt64 63)).toInt64) &&& (3689348814741910323))) + ((((((x0 - ((((x0).toUInt64 >>> ((1 : Int32).toInt64.toUInt64 &&& Int64.toUInt64 63)).toInt64) &&& (6148914691236517205))) &&& (3689348814741910323)) + (((((x0 - ((((x0).toUInt64 >>> ((1 : Int32).toInt64.toUInt64 &&& Int64.toUInt64 63)).toInt64) &&& (6148914691236517205)))).toUInt64 >>> ((2 : Int32).toInt64.toUInt64 &&& Int64.toUInt64 63)).toInt64) &&& (3689348814741910323)))).toUInt64 >>> ((4 : Int32).toInt64.toUInt64 &&& Int64.toUInt64 63)).toInt64)) &&& (1085102592571150095))).toUInt64 >>> ((8 : Int32).toInt64.toUInt64 &&& Int64.toUInt64 63)).toInt64))).toUInt64 >>> ((16 : Int32).toInt64.toUInt64 &&& Int64.toUInt64 63)).toInt64)) + ((((((((((x0 - ((((x0).toUInt64 >>> ((1 : Int32).toInt64.toUInt64 &&& Int64.toUInt64 63)).toInt64) &&& (6148914691236517205))) &&& (3689348814741910323)) + (((((x0 - ((((x0).toUInt64 >>> ((1 : Int32).toInt64.toUInt64 &&& Int64.toUInt64 63)).toInt64) &&& (6148914691236517205)))).toUInt64 >>> ((2 : Int32).toInt64.toUInt64 &&& Int64.toUInt64 63)).toInt64) &&& (3689348814741910323))) + ((((((x0 - ((((x0).toUInt64 >>> ((1 : Int32).toInt64.toUInt64 &&& Int64.toUInt64 63)).toInt64) &&& (6148914691236517205))) &&& (3689348814741910323)) + (((((x0 - ((((x0).toUInt64 >>> ((1 : Int32).toInt64.toUInt64 &&& Int64.toUInt64 63)).toInt64) &&& (6148914691236517205)))).toUInt64 >>> ((2 : Int32).toInt64.toUInt64 &&& Int64.toUInt64 63)).toInt64) &&& (3689348814741910323)))).toUInt64 >>> ((4 : Int32).toInt64.toUInt64 &&& Int64.toUInt64 63)).toInt64)) &&& (1085102592571150095)) + ((((((((x0 - ((((x0).toUInt64 >>> ((1 : Int32).toInt64.toUInt64 &&& Int64.toUInt64 63)).toInt64) &&& (6148914691236517205))) &&& (3689348814741910323)) + (((((x0 - ((((x0).toUInt64 >>> ((1 : Int32).toInt64.toUInt64 &&& Int64.toUInt64 63)).toInt64) &&& (6148914691236517205)))).toUInt64 >>> ((2 : Int32).toInt64.toUInt64 &&& Int64.toUInt64 63)).toInt64) &&& (3689348814741910323))) + ((((((x0 - ((((x0).toUInt64 >>> ((1 : Int32).toInt64.toUInt64 &&& Int64.toUInt64 63)).toInt64) &&& (6148914691236517205))) &&& (3689348814741910323)) + (((((x0 - ((((x0).toUInt64 >>> ((1 : Int32).toInt64.toUInt64 &&& Int64.toUInt64 63)).toInt64) &&& (6148914691236517205)))).toUInt64 >>> ((2 : Int32).toInt64.toUInt64 &&& Int64.toUInt64 63)).toInt64) &&& (3689348814741910323)))).toUInt64 >>> ((4 : Int32).toInt64.toUInt64 &&& Int64.toUInt64 63)).toInt64)) &&& (1085102592571150095))).toUInt64 >>> ((8 : Int32).toInt64.toUInt64 &&& Int64.toUInt64 63)).toInt64)) + (((((((((x0 - ((((x0).toUInt64 >>> ((1 : Int32).toInt64.toUInt64 &&& Int64.toUInt64 63)).toInt64) &&& (6148914691236517205))) &&& (3689348814741910323)) + (((((x0 - ((((x0).toUInt64 >>> ((1 : Int32).toInt64.toUInt64 &&& Int64.toUInt64 63)).toInt64) &&& (6148914691236517205)))).toUInt64 >>> ((2 : Int32).toInt64.toUInt64 &&& Int64.toUInt64 63)).toInt64) &&& (3689348814741910323))) + ((((((x0 - ((((x0).toUInt64 >>> ((1 : Int32).toInt64.toUInt64 &&& Int64.toUInt64 63)).toInt64) &&& (6148914691236517205))) &&& (3689348814741910323)) + (((((x0 - ((((x0).toUInt64 >>> ((1 : Int32).toInt64.toUInt64 &&& Int64.toUInt64 63)).toInt64) &&& (6148914691236517205)))).toUInt64 >>> ((2 : Int32).toInt64.toUInt64 &&& Int64.toUInt64 63)).toInt64) &&& (3689348814741910323)))).toUInt64 >>> ((4 : Int32).toInt64.toUInt64 &&& Int64.toUInt64 63)).toInt64)) &&& (1085102592571150095)) + ((((((((x0 - ((((x0).toUInt64 >>> ((1 : Int32).toInt64.toUInt64 &&& Int64.toUInt64 63)).toInt64) &&& (6148914691236517205))) &&& (3689348814741910323)) + (((((x0 - ((((x0).toUInt64 >>> ((1 : Int32).toInt64.toUInt64 &&& Int64.toUInt64 63)).toInt64) &&& (6148914691236517205)))).toUInt64 >>> ((2 : Int32).toInt64.toUInt64 &&& Int64.toUInt64 63)).toInt64) &&& (3689348814741910323))) + ((((((x0 - ((((x0).toUInt64 >>> ((1 : Int32).toInt64.toUInt64 &&& Int64.toUInt64 63)).toInt64) &&& (6148914691236517205))) &&& (3689348814741910323)) + (((((x0 - ((((x0).toUInt64 >>> ((1 : Int32).toInt64.toUInt64 &&& Int64.toUInt64 63)).toInt64) &&& (6148914691236517205)))).toUInt64 >>> ((2 : Int32).toInt64.toUInt64 &&& Int64.toUInt64 63)).toInt64) &&& (3689348814741910323)))).toUInt64 >>> ((4 : Int32).toInt64.toUInt64 &&& Int64.toUInt64 63)).toInt64)) &&& (1085102592571150095))).toUInt64 >>> ((8 : Int32).toInt64.toUInt64 &&& Int64.toUInt64 63)).toInt64))).toUInt64 >>> ((16 : Int32).toInt64.toUInt64 &&& Int64.toUInt64 63)).toInt64))).toUInt64 >>> ((32 : Int32).toInt64.toUInt64 &&& Int64.toUInt64 63)).toInt64))))]) hx hb dJ13_bitCount_95d88_54 rfl hl (by decide) rfl (fun ls hl => ?_)
  refine lv_lload_n hx hb dJ13_bitCount_95d88_55 rfl (lv_at hl 0 rfl) ?_
  refine lv_l2i (v := (((((((((x0 - ((((x0).toUInt64 >>> ((1 : Int32).toInt64.toUInt64 &&& Int64.toUInt64 63)).toInt64) &&& (6148914691236517205))) &&& (3689348814741910323)) + (((((x0 - ((((x0).toUInt64 >>> ((1 : Int32).toInt64.toUInt64 &&& Int64.toUInt64 63)).toInt64) &&& (6148914691236517205)))).toUInt64 >>> ((2 : Int32).toInt64.toUInt64 &&& Int64.toUInt64 63)).toInt64) &&& (3689348814741910323))) + ((((((x0 - ((((x0).toUInt64 >>> ((1 : Int32).toInt64.toUInt64 &&& Int64.toUInt64 63)).toInt64) &&& (6148914691236517205))) &&& (3689348814741910323)) + (((((x0 - ((((x0).toUInt64 >>> ((1 : Int32).toInt64.toUInt64 &&& Int64.toUInt64 63)).toInt64) &&& (6148914691236517205)))).toUInt64 >>> ((2 : Int32).toInt64.toUInt64 &&& Int64.toUInt64 63)).toInt64) &&& (3689348814741910323)))).toUInt64 >>> ((4 : Int32).toInt64.toUInt64 &&& Int64.toUInt64 63)).toInt64)) &&& (1085102592571150095)) + ((((((((x0 - ((((x0).toUInt64 >>> ((1 : Int32).toInt64.toUInt64 &&& Int64.toUInt64 63)).toInt64) &&& (6148914691236517205))) &&& (3689348814741910323)) + (((((x0 - ((((x0).toUInt64 >>> ((1 : Int32).toInt64.toUInt64 &&& Int64.toUInt64 63)).toInt64) &&& (6148914691236517205)))).toUInt64 >>> ((2 : Int32).toInt64.toUInt64 &&& Int64.toUInt64 63)).toInt64) &&& (3689348814741910323))) + ((((((x0 - ((((x0).toUInt64 >>> ((1 : Int32).toInt64.toUInt64 &&& Int64.toUInt64 63)).toInt64) &&& (6148914691236517205))) &&& (3689348814741910323)) + (((((x0 - ((((x0).toUInt64 >>> ((1 : Int32).toInt64.toUInt64 &&& Int64.toUInt64 63)).toInt64) &&& (6148914691236517205)))).toUInt64 >>> ((2 : Int32).toInt64.toUInt64 &&& Int64.toUInt64 63)).toInt64) &&& (3689348814741910323)))).toUInt64 >>> ((4 : Int32).toInt64.toUInt64 &&& Int64.toUInt64 63)).toInt64)) &&& (1085102592571150095))).toUInt64 >>> ((8 : Int32).toInt64.toUInt64 &&& Int64.toUInt64 63)).toInt64)) + (((((((((x0 - ((((x0).toUInt64 >>> ((1 : Int32).toInt64.toUInt64 &&& Int64.toUInt64 63)).toInt64) &&& (6148914691236517205))) &&& (3689348814741910323)) + (((((x0 - ((((x0).toUInt64 >>> ((1 : Int32).toInt64.toUInt64 &&& Int64.toUInt64 63)).toInt64) &&& (6148914691236517205)))).toUInt64 >>> ((2 : Int32).toInt64.toUInt64 &&& Int64.toUInt64 63)).toInt64) &&& (3689348814741910323))) + ((((((x0 - ((((x0).toUInt64 >>> ((1 : Int32).toInt64.toUInt64 &&& Int64.toUInt64 63)).toInt64) &&& (6148914691236517205))) &&& (3689348814741910323)) + (((((x0 - ((((x0).toUInt64 >>> ((1 : Int32).toInt64.toUInt64 &&& Int64.toUInt64 63)).toInt64) &&& (6148914691236517205)))).toUInt64 >>> ((2 : Int32).toInt64.toUInt64 &&& Int64.toUInt64 63)).toInt64) &&& (3689348814741910323)))).toUInt64 >>> ((4 : Int32).toInt64.toUInt64 &&& Int64.toUInt64 63)).toInt64)) &&& (1085102592571150095)) + ((((((((x0 - ((((x0).toUInt64 >>> ((1 : Int32).toInt64.toUInt64 &&& Int64.toUInt64 63)).toInt64) &&& (6148914691236517205))) &&& (3689348814741910323)) + (((((x0 - ((((x0).toUInt64 >>> ((1 : Int32).toInt64.toUInt64 &&& Int64.toUInt64 63)).toInt64) &&& (6148914691236517205)))).toUInt64 >>> ((2 : Int32).toInt64.toUInt64 &&& Int64.toUInt64 63)).toInt64) &&& (3689348814741910323))) + ((((((x0 - ((((x0).toUInt64 >>> ((1 : Int32).toInt64.toUInt64 &&& Int64.toUInt64 63)).toInt64) &&& (6148914691236517205))) &&& (3689348814741910323)) + (((((x0 - ((((x0).toUInt64 >>> ((1 : Int32).toInt64.toUInt64 &&& Int64.toUInt64 63)).toInt64) &&& (6148914691236517205)))).toUInt64 >>> ((2 : Int32).toInt64.toUInt64 &&& Int64.toUInt64 63)).toInt64) &&& (3689348814741910323)))).toUInt64 >>> ((4 : Int32).toInt64.toUInt64 &&& Int64.toUInt64 63)).toInt64)) &&& (1085102592571150095))).toUInt64 >>> ((8 : Int32).toInt64.toUInt64 &&& Int64.toUInt64 63)).toInt64))).toUInt64 >>> ((16 : Int32).toInt64.toUInt64 &&& Int64.toUInt64 63)).toInt64)) + ((((((((((x0 - ((((x0).toUInt64 >>> ((1 : Int32).toInt64.toUInt64 &&& Int64.toUInt64 63)).toInt64) &&& (6148914691236517205))) &&& (3689348814741910323)) + (((((x0 - ((((x0).toUInt64 >>> ((1 : Int32).toInt64.toUInt64 &&& Int64.toUInt64 63)).toInt64) &&& (6148914691236517205)))).toUInt64 >>> ((2 : Int32).toInt64.toUInt64 &&& Int64.toUInt64 63)).toInt64) &&& (3689348814741910323))) + ((((((x0 - ((((x0).toUInt64 >>> ((1 : Int32).toInt64.toUInt64 &&& Int64.toUInt64 63)).toInt64) &&& (6148914691236517205))) &&& (3689348814741910323)) + (((((x0 - ((((x0).toUInt64 >>> ((1 : Int32).toInt64.toUInt64 &&& Int64.toUInt64 63)).toInt64) &&& (6148914691236517205)))).toUInt64 >>> ((2 : Int32).toInt64.toUInt64 &&& Int64.toUInt64 63)).toInt64) &&& (3689348814741910323)))).toUInt64 >>> ((4 : Int32).toInt64.toUInt64 &&& Int64.toUInt64 63)).toInt64)) &&& (1085102592571150095)) + ((((((((x0 - ((((x0).toUInt64 >>> ((1 : Int32).toInt64.toUInt64 &&& Int64.toUInt64 63)).toInt64) &&& (6148914691236517205))) &&& (3689348814741910323)) + (((((x0 - ((((x0).toUInt64 >>> ((1 : Int32).toInt64.toUInt64 &&& Int64.toUInt64 63)).toInt64) &&& (6148914691236517205)))).toUInt64 >>> ((2 : Int32).toInt64.toUInt64 &&& Int64.toUInt64 63)).toInt64) &&& (3689348814741910323))) + ((((((x0 - ((((x0).toUInt64 >>> ((1 : Int32).toInt64.toUInt64 &&& Int64.toUInt64 63)).toInt64) &&& (6148914691236517205))) &&& (3689348814741910323)) + (((((x0 - ((((x0).toUInt64 >>> ((1 : Int32).toInt64.toUInt64 &&& Int64.toUInt64 63)).toInt64) &&& (6148914691236517205)))).toUInt64 >>> ((2 : Int32).toInt64.toUInt64 &&& Int64.toUInt64 63)).toInt64) &&& (3689348814741910323)))).toUInt64 >>> ((4 : Int32).toInt64.toUInt64 &&& Int64.toUInt64 63)).toInt64)) &&& (1085102592571150095))).toUInt64 >>> ((8 : Int32).toInt64.toUInt64 &&& Int64.toUInt64 63)).toInt64)) + (((((((((x0 - ((((x0).toUInt64 >>> ((1 : Int32).toInt64.toUInt64 &&& Int64.toUInt64 63)).toInt64) &&& (6148914691236517205))) &&& (3689348814741910323)) + (((((x0 - ((((x0).toUInt64 >>> ((1 : Int32).toInt64.toUInt64 &&& Int64.toUInt64 63)).toInt64) &&& (6148914691236517205)))).toUInt64 >>> ((2 : Int32).toInt64.toUInt64 &&& Int64.toUInt64 63)).toInt64) &&& (3689348814741910323))) + ((((((x0 - ((((x0).toUInt64 >>> ((1 : Int32).toInt64.toUInt64 &&& Int64.toUInt64 63)).toInt64) &&& (6148914691236517205))) &&& (3689348814741910323)) + (((((x0 - ((((x0).toUInt64 >>> ((1 : Int32).toInt64.toUInt64 &&& Int64.toUInt64 63)).toInt64) &&& (6148914691236517205)))).toUInt64 >>> ((2 : Int32).toInt64.toUInt64 &&& Int64.toUInt64 63)).toInt64) &&& (3689348814741910323)))).toUInt64 >>> ((4 : Int32).toInt64.toUInt64 &&& Int64.toUInt64 63)).toInt64)) &&& (1085102592571150095)) + ((((((((x0 - ((((x0).toUInt64 >>> ((1 : Int32).toInt64.toUInt64 &&& Int64.toUInt64 63)).toInt64) &&& (6148914691236517205))) &&& (3689348814741910323)) + (((((x0 - ((((x0).toUInt64 >>> ((1 : Int32).toInt64.toUInt64 &&& Int64.toUInt64 63)).toInt64) &&& (6148914691236517205)))).toUInt64 >>> ((2 : Int32).toInt64.toUInt64 &&& Int64.toUInt64 63)).toInt64) &&& (3689348814741910323))) + ((((((x0 - ((((x0).toUInt64 >>> ((1 : Int32).toInt64.toUInt64 &&& Int64.toUInt64 63)).toInt64) &&& (6148914691236517205))) &&& (3689348814741910323)) + (((((x0 - ((((x0).toUInt64 >>> ((1 : Int32).toInt64.toUInt64 &&& Int64.toUInt64 63)).toInt64) &&& (6148914691236517205)))).toUInt64 >>> ((2 : Int32).toInt64.toUInt64 &&& Int64.toUInt64 63)).toInt64) &&& (3689348814741910323)))).toUInt64 >>> ((4 : Int32).toInt64.toUInt64 &&& Int64.toUInt64 63)).toInt64)) &&& (1085102592571150095))).toUInt64 >>> ((8 : Int32).toInt64.toUInt64 &&& Int64.toUInt64 63)).toInt64))).toUInt64 >>> ((16 : Int32).toInt64.toUInt64 &&& Int64.toUInt64 63)).toInt64))).toUInt64 >>> ((32 : Int32).toInt64.toUInt64 &&& Int64.toUInt64 63)).toInt64))).toInt32) hx hb dJ13_bitCount_95d88_56 rfl ?_
  refine lv_bipush (v := 127) hx hb dJ13_bitCount_95d88_57 (by decide) ?_
  refine lv_iand hx hb dJ13_bitCount_95d88_59 ?_
  exact W.iret (v := (((((((((((x0 - ((((x0).toUInt64 >>> ((1 : Int32).toInt64.toUInt64 &&& Int64.toUInt64 63)).toInt64) &&& (6148914691236517205))) &&& (3689348814741910323)) + (((((x0 - ((((x0).toUInt64 >>> ((1 : Int32).toInt64.toUInt64 &&& Int64.toUInt64 63)).toInt64) &&& (6148914691236517205)))).toUInt64 >>> ((2 : Int32).toInt64.toUInt64 &&& Int64.toUInt64 63)).toInt64) &&& (3689348814741910323))) + ((((((x0 - ((((x0).toUInt64 >>> ((1 : Int32).toInt64.toUInt64 &&& Int64.toUInt64 63)).toInt64) &&& (6148914691236517205))) &&& (3689348814741910323)) + (((((x0 - ((((x0).toUInt64 >>> ((1 : Int32).toInt64.toUInt64 &&& Int64.toUInt64 63)).toInt64) &&& (6148914691236517205)))).toUInt64 >>> ((2 : Int32).toInt64.toUInt64 &&& Int64.toUInt64 63)).toInt64) &&& (3689348814741910323)))).toUInt64 >>> ((4 : Int32).toInt64.toUInt64 &&& Int64.toUInt64 63)).toInt64)) &&& (1085102592571150095)) + ((((((((x0 - ((((x0).toUInt64 >>> ((1 : Int32).toInt64.toUInt64 &&& Int64.toUInt64 63)).toInt64) &&& (6148914691236517205))) &&& (3689348814741910323)) + (((((x0 - ((((x0).toUInt64 >>> ((1 : Int32).toInt64.toUInt64 &&& Int64.toUInt64 63)).toInt64) &&& (6148914691236517205)))).toUInt64 >>> ((2 : Int32).toInt64.toUInt64 &&& Int64.toUInt64 63)).toInt64) &&& (3689348814741910323))) + ((((((x0 - ((((x0).toUInt64 >>> ((1 : Int32).toInt64.toUInt64 &&& Int64.toUInt64 63)).toInt64) &&& (6148914691236517205))) &&& (3689348814741910323)) + (((((x0 - ((((x0).toUInt64 >>> ((1 : Int32).toInt64.toUInt64 &&& Int64.toUInt64 63)).toInt64) &&& (6148914691236517205)))).toUInt64 >>> ((2 : Int32).toInt64.toUInt64 &&& Int64.toUInt64 63)).toInt64) &&& (3689348814741910323)))).toUInt64 >>> ((4 : Int32).toInt64.toUInt64 &&& Int64.toUInt64 63)).toInt64)) &&& (1085102592571150095))).toUInt64 >>> ((8 : Int32).toInt64.toUInt64 &&& Int64.toUInt64 63)).toInt64)) + (((((((((x0 - ((((x0).toUInt64 >>> ((1 : Int32).toInt64.toUInt64 &&& Int64.toUInt64 63)).toInt64) &&& (6148914691236517205))) &&& (3689348814741910323)) + (((((x0 - ((((x0).toUInt64 >>> ((1 : Int32).toInt64.toUInt64 &&& Int64.toUInt64 63)).toInt64) &&& (6148914691236517205)))).toUInt64 >>> ((2 : Int32).toInt64.toUInt64 &&& Int64.toUInt64 63)).toInt64) &&& (3689348814741910323))) + ((((((x0 - ((((x0).toUInt64 >>> ((1 : Int32).toInt64.toUInt64 &&& Int64.toUInt64 63)).toInt64) &&& (6148914691236517205))) &&& (3689348814741910323)) + (((((x0 - ((((x0).toUInt64 >>> ((1 : Int32).toInt64.toUInt64 &&& Int64.toUInt64 63)).toInt64) &&& (6148914691236517205)))).toUInt64 >>> ((2 : Int32).toInt64.toUInt64 &&& Int64.toUInt64 63)).toInt64) &&& (3689348814741910323)))).toUInt64 >>> ((4 : Int32).toInt64.toUInt64 &&& Int64.toUInt64 63)).toInt64)) &&& (1085102592571150095)) + ((((((((x0 - ((((x0).toUInt64 >>> ((1 : Int32).toInt64.toUInt64 &&& Int64.toUInt64 63)).toInt64) &&& (6148914691236517205))) &&& (3689348814741910323)) + (((((x0 - ((((x0).toUInt64 >>> ((1 : Int32).toInt64.toUInt64 &&& Int64.toUInt64 63)).toInt64) &&& (6148914691236517205)))).toUInt64 >>> ((2 : Int32).toInt64.toUInt64 &&& Int64.toUInt64 63)).toInt64) &&& (3689348814741910323))) + ((((((x0 - ((((x0).toUInt64 >>> ((1 : Int32).toInt64.toUInt64 &&& Int64.toUInt64 63)).toInt64) &&& (6148914691236517205))) &&& (3689348814741910323)) + (((((x0 - ((((x0).toUInt64 >>> ((1 : Int32).toInt64.toUInt64 &&& Int64.toUInt64 63)).toInt64) &&& (6148914691236517205)))).toUInt64 >>> ((2 : Int32).toInt64.toUInt64 &&& Int64.toUInt64 63)).toInt64) &&& (3689348814741910323)))).toUInt64 >>> ((4 : Int32).toInt64.toUInt64 &&& Int64.toUInt64 63)).toInt64)) &&& (1085102592571150095))).toUInt64 >>> ((8 : Int32).toInt64.toUInt64 &&& Int64.toUInt64 63)).toInt64))).toUInt64 >>> ((16 : Int32).toInt64.toUInt64 &&& Int64.toUInt64 63)).toInt64)) + ((((((((((x0 - ((((x0).toUInt64 >>> ((1 : Int32).toInt64.toUInt64 &&& Int64.toUInt64 63)).toInt64) &&& (6148914691236517205))) &&& (3689348814741910323)) + (((((x0 - ((((x0).toUInt64 >>> ((1 : Int32).toInt64.toUInt64 &&& Int64.toUInt64 63)).toInt64) &&& (6148914691236517205)))).toUInt64 >>> ((2 : Int32).toInt64.toUInt64 &&& Int64.toUInt64 63)).toInt64) &&& (3689348814741910323))) + ((((((x0 - ((((x0).toUInt64 >>> ((1 : Int32).toInt64.toUInt64 &&& Int64.toUInt64 63)).toInt64) &&& (6148914691236517205))) &&& (3689348814741910323)) + (((((x0 - ((((x0).toUInt64 >>> ((1 : Int32).toInt64.toUInt64 &&& Int64.toUInt64 63)).toInt64) &&& (6148914691236517205)))).toUInt64 >>> ((2 : Int32).toInt64.toUInt64 &&& Int64.toUInt64 63)).toInt64) &&& (3689348814741910323)))).toUInt64 >>> ((4 : Int32).toInt64.toUInt64 &&& Int64.toUInt64 63)).toInt64)) &&& (1085102592571150095)) + ((((((((x0 - ((((x0).toUInt64 >>> ((1 : Int32).toInt64.toUInt64 &&& Int64.toUInt64 63)).toInt64) &&& (6148914691236517205))) &&& (3689348814741910323)) + (((((x0 - ((((x0).toUInt64 >>> ((1 : Int32).toInt64.toUInt64 &&& Int64.toUInt64 63)).toInt64) &&& (6148914691236517205)))).toUInt64 >>> ((2 : Int32).toInt64.toUInt64 &&& Int64.toUInt64 63)).toInt64) &&& (3689348814741910323))) + ((((((x0 - ((((x0).toUInt64 >>> ((1 : Int32).toInt64.toUInt64 &&& Int64.toUInt64 63)).toInt64) &&& (6148914691236517205))) &&& (3689348814741910323)) + (((((x0 - ((((x0).toUInt64 >>> ((1 : Int32).toInt64.toUInt64 &&& Int64.toUInt64 63)).toInt64) &&& (6148914691236517205)))).toUInt64 >>> ((2 : Int32).toInt64.toUInt64 &&& Int64.toUInt64 63)).toInt64) &&& (3689348814741910323)))).toUInt64 >>> ((4 : Int32).toInt64.toUInt64 &&& Int64.toUInt64 63)).toInt64)) &&& (1085102592571150095))).toUInt64 >>> ((8 : Int32).toInt64.toUInt64 &&& Int64.toUInt64 63)).toInt64)) + (((((((((x0 - ((((x0).toUInt64 >>> ((1 : Int32).toInt64.toUInt64 &&& Int64.toUInt64 63)).toInt64) &&& (6148914691236517205))) &&& (3689348814741910323)) + (((((x0 - ((((x0).toUInt64 >>> ((1 : Int32).toInt64.toUInt64 &&& Int64.toUInt64 63)).toInt64) &&& (6148914691236517205)))).toUInt64 >>> ((2 : Int32).toInt64.toUInt64 &&& Int64.toUInt64 63)).toInt64) &&& (3689348814741910323))) + ((((((x0 - ((((x0).toUInt64 >>> ((1 : Int32).toInt64.toUInt64 &&& Int64.toUInt64 63)).toInt64) &&& (6148914691236517205))) &&& (3689348814741910323)) + (((((x0 - ((((x0).toUInt64 >>> ((1 : Int32).toInt64.toUInt64 &&& Int64.toUInt64 63)).toInt64) &&& (6148914691236517205)))).toUInt64 >>> ((2 : Int32).toInt64.toUInt64 &&& Int64.toUInt64 63)).toInt64) &&& (3689348814741910323)))).toUInt64 >>> ((4 : Int32).toInt64.toUInt64 &&& Int64.toUInt64 63)).toInt64)) &&& (1085102592571150095)) + ((((((((x0 - ((((x0).toUInt64 >>> ((1 : Int32).toInt64.toUInt64 &&& Int64.toUInt64 63)).toInt64) &&& (6148914691236517205))) &&& (3689348814741910323)) + (((((x0 - ((((x0).toUInt64 >>> ((1 : Int32).toInt64.toUInt64 &&& Int64.toUInt64 63)).toInt64) &&& (6148914691236517205)))).toUInt64 >>> ((2 : Int32).toInt64.toUInt64 &&& Int64.toUInt64 63)).toInt64) &&& (3689348814741910323))) + ((((((x0 - ((((x0).toUInt64 >>> ((1 : Int32).toInt64.toUInt64 &&& Int64.toUInt64 63)).toInt64) &&& (6148914691236517205))) &&& (3689348814741910323)) + (((((x0 - ((((x0).toUInt64 >>> ((1 : Int32).toInt64.toUInt64 &&& Int64.toUInt64 63)).toInt64) &&& (6148914691236517205)))).toUInt64 >>> ((2 : Int32).toInt64.toUInt64 &&& Int64.toUInt64 63)).toInt64) &&& (3689348814741910323)))).toUInt64 >>> ((4 : Int32).toInt64.toUInt64 &&& Int64.toUInt64 63)).toInt64)) &&& (1085102592571150095))).toUInt64 >>> ((8 : Int32).toInt64.toUInt64 &&& Int64.toUInt64 63)).toInt64))).toUInt64 >>> ((16 : Int32).toInt64.toUInt64 &&& Int64.toUInt64 63)).toInt64))).toUInt64 >>> ((32 : Int32).toInt64.toUInt64 &&& Int64.toUInt64 63)).toInt64))).toInt32) &&& 127)) hx hb hr (fun t ht hW => ⟨⟨(((((((((((x0 - ((((x0).toUInt64 >>> ((1 : Int32).toInt64.toUInt64 &&& Int64.toUInt64 63)).toInt64) &&& (6148914691236517205))) &&& (3689348814741910323)) + (((((x0 - ((((x0).toUInt64 >>> ((1 : Int32).toInt64.toUInt64 &&& Int64.toUInt64 63)).toInt64) &&& (6148914691236517205)))).toUInt64 >>> ((2 : Int32).toInt64.toUInt64 &&& Int64.toUInt64 63)).toInt64) &&& (3689348814741910323))) + ((((((x0 - ((((x0).toUInt64 >>> ((1 : Int32).toInt64.toUInt64 &&& Int64.toUInt64 63)).toInt64) &&& (6148914691236517205))) &&& (3689348814741910323)) + (((((x0 - ((((x0).toUInt64 >>> ((1 : Int32).toInt64.toUInt64 &&& Int64.toUInt64 63)).toInt64) &&& (6148914691236517205)))).toUInt64 >>> ((2 : Int32).toInt64.toUInt64 &&& Int64.toUInt64 63)).toInt64) &&& (3689348814741910323)))).toUInt64 >>> ((4 : Int32).toInt64.toUInt64 &&& Int64.toUInt64 63)).toInt64)) &&& (1085102592571150095)) + ((((((((x0 - ((((x0).toUInt64 >>> ((1 : Int32).toInt64.toUInt64 &&& Int64.toUInt64 63)).toInt64) &&& (6148914691236517205))) &&& (3689348814741910323)) + (((((x0 - ((((x0).toUInt64 >>> ((1 : Int32).toInt64.toUInt64 &&& Int64.toUInt64 63)).toInt64) &&& (6148914691236517205)))).toUInt64 >>> ((2 : Int32).toInt64.toUInt64 &&& Int64.toUInt64 63)).toInt64) &&& (3689348814741910323))) + ((((((x0 - ((((x0).toUInt64 >>> ((1 : Int32).toInt64.toUInt64 &&& Int64.toUInt64 63)).toInt64) &&& (6148914691236517205))) &&& (3689348814741910323)) + (((((x0 - ((((x0).toUInt64 >>> ((1 : Int32).toInt64.toUInt64 &&& Int64.toUInt64 63)).toInt64) &&& (6148914691236517205)))).toUInt64 >>> ((2 : Int32).toInt64.toUInt64 &&& Int64.toUInt64 63)).toInt64) &&& (3689348814741910323)))).toUInt64 >>> ((4 : Int32).toInt64.toUInt64 &&& Int64.toUInt64 63)).toInt64)) &&& (1085102592571150095))).toUInt64 >>> ((8 : Int32).toInt64.toUInt64 &&& Int64.toUInt64 63)).toInt64)) + (((((((((x0 - ((((x0).toUInt64 >>> ((1 : Int32).toInt64.toUInt64 &&& Int64.toUInt64 63)).toInt64) &&& (6148914691236517205))) &&& (3689348814741910323)) + (((((x0 - ((((x0).toUInt64 >>> ((1 : Int32).toInt64.toUInt64 &&& Int64.toUInt64 63)).toInt64) &&& (6148914691236517205)))).toUInt64 >>> ((2 : Int32).toInt64.toUInt64 &&& Int64.toUInt64 63)).toInt64) &&& (3689348814741910323))) + ((((((x0 - ((((x0).toUInt64 >>> ((1 : Int32).toInt64.toUInt64 &&& Int64.toUInt64 63)).toInt64) &&& (6148914691236517205))) &&& (3689348814741910323)) + (((((x0 - ((((x0).toUInt64 >>> ((1 : Int32).toInt64.toUInt64 &&& Int64.toUInt64 63)).toInt64) &&& (6148914691236517205)))).toUInt64 >>> ((2 : Int32).toInt64.toUInt64 &&& Int64.toUInt64 63)).toInt64) &&& (3689348814741910323)))).toUInt64 >>> ((4 : Int32).toInt64.toUInt64 &&& Int64.toUInt64 63)).toInt64)) &&& (1085102592571150095)) + ((((((((x0 - ((((x0).toUInt64 >>> ((1 : Int32).toInt64.toUInt64 &&& Int64.toUInt64 63)).toInt64) &&& (6148914691236517205))) &&& (3689348814741910323)) + (((((x0 - ((((x0).toUInt64 >>> ((1 : Int32).toInt64.toUInt64 &&& Int64.toUInt64 63)).toInt64) &&& (6148914691236517205)))).toUInt64 >>> ((2 : Int32).toInt64.toUInt64 &&& Int64.toUInt64 63)).toInt64) &&& (3689348814741910323))) + ((((((x0 - ((((x0).toUInt64 >>> ((1 : Int32).toInt64.toUInt64 &&& Int64.toUInt64 63)).toInt64) &&& (6148914691236517205))) &&& (3689348814741910323)) + (((((x0 - ((((x0).toUInt64 >>> ((1 : Int32).toInt64.toUInt64 &&& Int64.toUInt64 63)).toInt64) &&& (6148914691236517205)))).toUInt64 >>> ((2 : Int32).toInt64.toUInt64 &&& Int64.toUInt64 63)).toInt64) &&& (3689348814741910323)))).toUInt64 >>> ((4 : Int32).toInt64.toUInt64 &&& Int64.toUInt64 63)).toInt64)) &&& (1085102592571150095))).toUInt64 >>> ((8 : Int32).toInt64.toUInt64 &&& Int64.toUInt64 63)).toInt64))).toUInt64 >>> ((16 : Int32).toInt64.toUInt64 &&& Int64.toUInt64 63)).toInt64)) + ((((((((((x0 - ((((x0).toUInt64 >>> ((1 : Int32).toInt64.toUInt64 &&& Int64.toUInt64 63)).toInt64) &&& (6148914691236517205))) &&& (3689348814741910323)) + (((((x0 - ((((x0).toUInt64 >>> ((1 : Int32).toInt64.toUInt64 &&& Int64.toUInt64 63)).toInt64) &&& (6148914691236517205)))).toUInt64 >>> ((2 : Int32).toInt64.toUInt64 &&& Int64.toUInt64 63)).toInt64) &&& (3689348814741910323))) + ((((((x0 - ((((x0).toUInt64 >>> ((1 : Int32).toInt64.toUInt64 &&& Int64.toUInt64 63)).toInt64) &&& (6148914691236517205))) &&& (3689348814741910323)) + (((((x0 - ((((x0).toUInt64 >>> ((1 : Int32).toInt64.toUInt64 &&& Int64.toUInt64 63)).toInt64) &&& (6148914691236517205)))).toUInt64 >>> ((2 : Int32).toInt64.toUInt64 &&& Int64.toUInt64 63)).toInt64) &&& (3689348814741910323)))).toUInt64 >>> ((4 : Int32).toInt64.toUInt64 &&& Int64.toUInt64 63)).toInt64)) &&& (1085102592571150095)) + ((((((((x0 - ((((x0).toUInt64 >>> ((1 : Int32).toInt64.toUInt64 &&& Int64.toUInt64 63)).toInt64) &&& (6148914691236517205))) &&& (3689348814741910323)) + (((((x0 - ((((x0).toUInt64 >>> ((1 : Int32).toInt64.toUInt64 &&& Int64.toUInt64 63)).toInt64) &&& (6148914691236517205)))).toUInt64 >>> ((2 : Int32).toInt64.toUInt64 &&& Int64.toUInt64 63)).toInt64) &&& (3689348814741910323))) + ((((((x0 - ((((x0).toUInt64 >>> ((1 : Int32).toInt64.toUInt64 &&& Int64.toUInt64 63)).toInt64) &&& (6148914691236517205))) &&& (3689348814741910323)) + (((((x0 - ((((x0).toUInt64 >>> ((1 : Int32).toInt64.toUInt64 &&& Int64.toUInt64 63)).toInt64) &&& (6148914691236517205)))).toUInt64 >>> ((2 : Int32).toInt64.toUInt64 &&& Int64.toUInt64 63)).toInt64) &&& (3689348814741910323)))).toUInt64 >>> ((4 : Int32).toInt64.toUInt64 &&& Int64.toUInt64 63)).toInt64)) &&& (1085102592571150095))).toUInt64 >>> ((8 : Int32).toInt64.toUInt64 &&& Int64.toUInt64 63)).toInt64)) + (((((((((x0 - ((((x0).toUInt64 >>> ((1 : Int32).toInt64.toUInt64 &&& Int64.toUInt64 63)).toInt64) &&& (6148914691236517205))) &&& (3689348814741910323)) + (((((x0 - ((((x0).toUInt64 >>> ((1 : Int32).toInt64.toUInt64 &&& Int64.toUInt64 63)).toInt64) &&& (6148914691236517205)))).toUInt64 >>> ((2 : Int32).toInt64.toUInt64 &&& Int64.toUInt64 63)).toInt64) &&& (3689348814741910323))) + ((((((x0 - ((((x0).toUInt64 >>> ((1 : Int32).toInt64.toUInt64 &&& Int64.toUInt64 63)).toInt64) &&& (6148914691236517205))) &&& (3689348814741910323)) + (((((x0 - ((((x0).toUInt64 >>> ((1 : Int32).toInt64.toUInt64 &&& Int64.toUInt64 63)).toInt64) &&& (6148914691236517205)))).toUInt64 >>> ((2 : Int32).toInt64.toUInt64 &&& Int64.toUInt64 63)).toInt64) &&& (3689348814741910323)))).toUInt64 >>> ((4 : Int32).toInt64.toUInt64 &&& Int64.toUInt64 63)).toInt64)) &&& (1085102592571150095)) + ((((((((x0 - ((((x0).toUInt64 >>> ((1 : Int32).toInt64.toUInt64 &&& Int64.toUInt64 63)).toInt64) &&& (6148914691236517205))) &&& (3689348814741910323)) + (((((x0 - ((((x0).toUInt64 >>> ((1 : Int32).toInt64.toUInt64 &&& Int64.toUInt64 63)).toInt64) &&& (6148914691236517205)))).toUInt64 >>> ((2 : Int32).toInt64.toUInt64 &&& Int64.toUInt64 63)).toInt64) &&& (3689348814741910323))) + ((((((x0 - ((((x0).toUInt64 >>> ((1 : Int32).toInt64.toUInt64 &&& Int64.toUInt64 63)).toInt64) &&& (6148914691236517205))) &&& (3689348814741910323)) + (((((x0 - ((((x0).toUInt64 >>> ((1 : Int32).toInt64.toUInt64 &&& Int64.toUInt64 63)).toInt64) &&& (6148914691236517205)))).toUInt64 >>> ((2 : Int32).toInt64.toUInt64 &&& Int64.toUInt64 63)).toInt64) &&& (3689348814741910323)))).toUInt64 >>> ((4 : Int32).toInt64.toUInt64 &&& Int64.toUInt64 63)).toInt64)) &&& (1085102592571150095))).toUInt64 >>> ((8 : Int32).toInt64.toUInt64 &&& Int64.toUInt64 63)).toInt64))).toUInt64 >>> ((16 : Int32).toInt64.toUInt64 &&& Int64.toUInt64 63)).toInt64))).toUInt64 >>> ((32 : Int32).toInt64.toUInt64 &&& Int64.toUInt64 63)).toInt64))).toInt32) &&& 127), (), rfl, hF.symm, trivial⟩, hS.F ht⟩) hS.2.2 dJ13_bitCount_95d88_60 hlocks

-- == X3_groundsTable
def F_X3_groundsTable_7 : Nat → (Int32) → (Nat → Int64) → (Nat → Int32) → (Nat → Int32) → (Nat → Int32) → (Int32) → (Int64) → (Int32) → Int64
  | 0, cnt, tables, frules, heads, ends, x1, x2, x4 => 0
  | n + 1, cnt, tables, frules, heads, ends, x1, x2, x4 => if x1 < x4 then (x2) else (if 60 ≤ x4 then (x2) else (pz_bnd (f_X0_isGround frules ends x4 x1) (fun z_3 => if z_3 = 0 then (F_X3_groundsTable_7 n cnt tables frules heads ends x1 x2 (x4 + 1)) else (pz_bnd (f_X0_headOf heads x4) (fun z_5 => pz_bnd (f_X1_tableOf cnt tables z_5) (fun z_6 => F_X3_groundsTable_7 n cnt tables frules heads ends x1 (x2 &&& z_6) (x4 + 1)))))))
def f_X3_groundsTable (cnt : Int32) (tables : Nat → Int64) (frules : Nat → Int32) (heads : Nat → Int32) (ends : Nat → Int32) (x1 : Int32) : Int64 := F_X3_groundsTable_7 61 cnt tables frules heads ends x1 (-1) 0
theorem fl_X3_groundsTable_10 : Cond.fieldLink RX3 10 "BoxProofs" "known" "LBoxProofs$Formulas;" ∈ wsX3_groundsTable := by decide +kernel
theorem fl_X3_groundsTable_26 : Cond.fieldLink RX3 26 "BoxProofs" "findings" "LBoxProofs$Findings;" ∈ wsX3_groundsTable := by decide +kernel
theorem in_X3_groundsTable_X3 : ∀ w ∈ wsX30, w ∈ wsX3_groundsTable := by decide +kernel
theorem mm_X3_groundsTable_Cond_constantLong_RX3_111___1_ : Cond.constantLong RX3 111 (-1) ∈ wsX3_groundsTable := by decide +kernel
set_option maxHeartbeats 4000000 in
set_option maxRecDepth 100000 in
theorem k_X3_groundsTable_7 {p : Program} {l : Launch} {e : Env} {s : State} {m : MethodId} {args : Array Value} {below : List Frame} {meth : Method} {c : Code} {D : va_G} {q : Nat → Nat} {k : Nat → ClassId} {t : Nat → Nat} (hC : pz_C p s m args meth c cX3_groundsTable wsX3_groundsTable RX3 5 (some .long)) (hKX : pz_KX D q k t s) (cnt : Int32) (kinds : Nat → Int32) (firsts : Nat → Int32) (seconds : Nat → Int32) (heights : Nat → Int32) (tables : Nat → Int64) (replaced : Nat → Int32) (laid : Nat → Int32) (rules : Nat → Int32) (ps : Nat → Int32) (qs : Nat → Int32) (rs : Nat → Int32) (fs : Nat → Int32) (frules : Nat → Int32) (heads : Nat → Int32) (ends : Nat → Int32) (inforce : Nat → Int32) (usable : Nat → Int32) (summ : Nat → Int32) {G : Int64} :
    ∀ (n : Nat) (x1 : Int32) (x2 : Int64) (x4 : Int32) (h0 : 0 ≤ x4.toInt) (h1 : x4.toInt ≤ 60) (hn : 61 ≤ x4.toInt + n) (hc : pz_c cnt) (H : Heap) (locs : List Loc) (ls : Array Slot), G = F_X3_groundsTable_7 n cnt tables frules heads ends x1 x2 x4 → va_P D vwCl (pz_X q k cnt kinds firsts seconds heights tables replaced laid rules ps qs rs fs frules heads ends inforce usable summ) H → va_S (pz_A 22 q) s.heap H locs → lv_has ls 5 [(0, .ref (q 0)), (1, .int (x1)), (2, .long (x2)), (4, .int (x4))] → W p l e (headSpec wsX3_groundsTable { frames := 4, cells := 0, slots := 0, locals := 85 }).room s m args below meth c H locs 0 0 (MQ below (va_Ql (fun r (_ : Unit) => r = G) (fun _ t => va_P D vwCl (pz_X q k cnt kinds firsts seconds heights tables replaced laid rules ps qs rs fs frules heads ends inforce usable summ) t.heap) (pz_A 22 q)) args s 0 0 (pz_A 22 q)) (F0 m 7 ls []) := by
  obtain ⟨hx, hb, hml, hown, hts, hr, hlocks⟩ := hC
  have hC : pz_C p s m args meth c cX3_groundsTable wsX3_groundsTable RX3 5 (some .long) := ⟨hx, hb, hml, hown, hts, hr, hlocks⟩
  have hK := hKX.1
  intro n
  induction n with
  | zero =>
    intro x1 x2 x4 h0 h1 hn hc H locs ls hF hP hS hl
    exact absurd hn (by omega)
  | succ n ih =>
    intro x1 x2 x4 h0 h1 hn hc H locs ls hF hP hS hl
    unfold F_X3_groundsTable_7 at hF
    refine lv_iload hx hb dX3_groundsTable_7 (lv_at hl 3 rfl) ?_
    refine lv_iload_n hx hb dX3_groundsTable_9 rfl (lv_at hl 1 rfl) ?_
    refine lv_icmp_gt (tgt := 58) hx hb dX3_groundsTable_10 (by decide) (fun c_1 => ?_) (fun c_1 => ?_)
    · have hF := hF.trans (if_pos c_1)
      refine lv_lload_n hx hb dX3_groundsTable_58 rfl (lv_at hl 2 rfl) ?_
      exact W.lret (v := x2) hx hb hr (fun t ht hW => ⟨⟨x2, (), rfl, hF.symm, pz_hp ht hP⟩, hS.F ht⟩) hS.2.2 dX3_groundsTable_59 hlocks
    · have hF := hF.trans (if_neg c_1)
      refine lv_iload hx hb dX3_groundsTable_13 (lv_at hl 3 rfl) ?_
      refine lv_bipush (v := 60) hx hb dX3_groundsTable_15 (by decide) ?_
      refine lv_icmp_ge (tgt := 58) hx hb dX3_groundsTable_17 (by decide) (fun c_2 => ?_) (fun c_2 => ?_)
      · have hF := hF.trans (if_pos c_2)
        refine lv_lload_n hx hb dX3_groundsTable_58 rfl (lv_at hl 2 rfl) ?_
        exact W.lret (v := x2) hx hb hr (fun t ht hW => ⟨⟨x2, (), rfl, hF.symm, pz_hp ht hP⟩, hS.F ht⟩) hS.2.2 dX3_groundsTable_59 hlocks
      · have hF := hF.trans (if_neg c_2)
        refine lv_aload_n hx hb dX3_groundsTable_20 rfl (lv_at hl 0 rfl) ?_
        refine va_get (D := D) (ci := 3) (v := .ref (q 3)) (C := RX3) (T := TX3) (N := 3) hx hb hts in_X3_groundsTable_X3 hown hK hP 0 rfl rfl 2 (by decide) (hts _ fl_X3_groundsTable_26) (fun _ h9 => h9) rfl dX3_groundsTable_21 ?_
        refine lv_iload hx hb dX3_groundsTable_24 (lv_at hl 3 rfl) ?_
        refine lv_iload_n hx hb dX3_groundsTable_26 rfl (lv_at hl 1 rfl) ?_
        refine pz_Vi (As := [.int (x4), .int (x1)]) (rest := []) ⟨hx, hb, hml, hown, hts⟩ (c_X0_isGround l D q k t cnt kinds firsts seconds heights tables replaced laid rules ps qs rs fs frules heads ends inforce usable summ x4 x1) (cwV 2 hts gX3_groundsTable_X0_isGround rfl rfl rfl hdV_X0_isGround ⟨Nat.le_of_ble_eq_true rfl, Nat.le_of_ble_eq_true rfl⟩) pz_KX.call (hKX.go hS) (va_recv hK hP (ci := 0) (q0 := 3) rfl rfl) hP hS rfl hl.1 rfl (Nat.le_of_ble_eq_true rfl) dX3_groundsTable_27 ⟨Nat.zero_le _, Nat.zero_le _⟩ (fun r_3 u_3 H locs hF_3 hP hS => ?_)
        have hF := hF.trans (pz_be hF_3)
        refine lv_if_eq (tgt := 52) hx hb dX3_groundsTable_30 (by decide) (fun c_4 => ?_) (fun c_4 => ?_)
        · have hF := hF.trans (if_pos c_4)
          refine lv_iinc (v := (x4 + 1)) (lv' := [(4, .int ((x4 + 1))), (0, .ref (q 0)), (1, .int (x1)), (2, .long (x2))]) hx hb dX3_groundsTable_52 hl (k := 3) rfl rfl (by decide) rfl (fun ls hl => ?_)
          refine lv_goto (tgt := 7) hx hb dX3_groundsTable_55 (by decide) ?_
          exact ih x1 x2 (x4 + 1) (by have e := pz_up60 ‹¬ (60 : Int32) ≤ x4›; omega) (by have e := pz_up60 ‹¬ (60 : Int32) ≤ x4›; omega) (by have e := pz_up60 ‹¬ (60 : Int32) ≤ x4›; omega) hc _ _ _ hF hP hS (lv_sub hl [1, 2, 3, 0] rfl)
        · have hF := hF.trans (if_neg c_4)
          refine lv_lload_n hx hb dX3_groundsTable_33 rfl (lv_at hl 2 rfl) ?_
          refine lv_aload_n hx hb dX3_groundsTable_34 rfl (lv_at hl 0 rfl) ?_
          refine va_get (D := D) (ci := 3) (v := .ref (q 1)) (C := RX3) (T := TX3) (N := 3) hx hb hts in_X3_groundsTable_X3 hown hK hP 0 rfl rfl 0 (by decide) (hts _ fl_X3_groundsTable_10) (fun _ h9 => h9) rfl dX3_groundsTable_35 ?_
          refine lv_aload_n hx hb dX3_groundsTable_38 rfl (lv_at hl 0 rfl) ?_
          refine va_get (D := D) (ci := 3) (v := .ref (q 3)) (C := RX3) (T := TX3) (N := 3) hx hb hts in_X3_groundsTable_X3 hown hK hP 0 rfl rfl 2 (by decide) (hts _ fl_X3_groundsTable_26) (fun _ h9 => h9) rfl dX3_groundsTable_39 ?_
          refine lv_iload hx hb dX3_groundsTable_42 (lv_at hl 3 rfl) ?_
          refine pz_Vi (As := [.int (x4)]) (rest := [.ref (q 1), .long (x2)]) ⟨hx, hb, hml, hown, hts⟩ (c_X0_headOf l D q k t cnt kinds firsts seconds heights tables replaced laid rules ps qs rs fs frules heads ends inforce usable summ x4) (cwV 1 hts gX3_groundsTable_X0_headOf rfl rfl rfl hdV_X0_headOf ⟨Nat.le_of_ble_eq_true rfl, Nat.le_of_ble_eq_true rfl⟩) pz_KX.call (hKX.go hS) (va_recv hK hP (ci := 0) (q0 := 3) rfl rfl) hP hS rfl hl.1 rfl (Nat.le_of_ble_eq_true rfl) dX3_groundsTable_44 ⟨Nat.zero_le _, Nat.zero_le _⟩ (fun r_5 u_5 H locs hF_5 hP hS => ?_)
          have hF := hF.trans (pz_be hF_5)
          refine pz_Vl (As := [.int (r_5)]) (rest := [.long (x2)]) ⟨hx, hb, hml, hown, hts⟩ (c_X1_tableOf l D q k t cnt kinds firsts seconds heights tables replaced laid rules ps qs rs fs frules heads ends inforce usable summ r_5 hc) (cwV 1 hts gX3_groundsTable_X1_tableOf rfl rfl rfl hdV_X1_tableOf ⟨Nat.le_of_ble_eq_true rfl, Nat.le_of_ble_eq_true rfl⟩) pz_KX.call (hKX.go hS) (va_recv hK hP (ci := 1) (q0 := 1) rfl rfl) hP hS rfl hl.1 rfl (Nat.le_of_ble_eq_true rfl) dX3_groundsTable_47 ⟨Nat.zero_le _, Nat.zero_le _⟩ (fun r_6 u_6 H locs hF_6 hP hS => ?_)
          have hF := hF.trans (pz_be hF_6)
          refine lv_land hx hb dX3_groundsTable_50 ?_
          refine lv_lstore_n (lv' := [(2, .long ((x2 &&& r_6))), (0, .ref (q 0)), (1, .int (x1)), (4, .int (x4))]) hx hb dX3_groundsTable_51 rfl hl (by decide) rfl (fun ls hl => ?_)
          refine lv_iinc (v := (x4 + 1)) (lv' := [(4, .int ((x4 + 1))), (2, .long ((x2 &&& r_6))), (0, .ref (q 0)), (1, .int (x1))]) hx hb dX3_groundsTable_52 hl (k := 3) rfl rfl (by decide) rfl (fun ls hl => ?_)
          refine lv_goto (tgt := 7) hx hb dX3_groundsTable_55 (by decide) ?_
          exact ih x1 (x2 &&& r_6) (x4 + 1) (by have e := pz_up60 ‹¬ (60 : Int32) ≤ x4›; omega) (by have e := pz_up60 ‹¬ (60 : Int32) ≤ x4›; omega) (by have e := pz_up60 ‹¬ (60 : Int32) ≤ x4›; omega) hc _ _ _ hF hP hS (lv_sub hl [2, 3, 1, 0] rfl)
set_option maxHeartbeats 4000000 in
set_option maxRecDepth 100000 in
theorem c_X3_groundsTable (l : Launch) (D : va_G) (q : Nat → Nat) (k : Nat → ClassId) (t : Nat → Nat) (cnt : Int32) (kinds : Nat → Int32) (firsts : Nat → Int32) (seconds : Nat → Int32) (heights : Nat → Int32) (tables : Nat → Int64) (replaced : Nat → Int32) (laid : Nat → Int32) (rules : Nat → Int32) (ps : Nat → Int32) (qs : Nat → Int32) (rs : Nat → Int32) (fs : Nat → Int32) (frules : Nat → Int32) (heads : Nat → Int32) (ends : Nat → Int32) (inforce : Nat → Int32) (usable : Nat → Int32) (summ : Nat → Int32) (x1 : Int32) (hc : pz_c cnt) : Met l yX3_groundsTable wsX3_groundsTable ({ frames := 4, cells := 0, slots := 0, locals := 85 }) (va_Pc [.ref (q 0), .int (x1)] (fun U => va_P D vwCl (pz_X q k cnt kinds firsts seconds heights tables replaced laid rules ps qs rs fs frules heads ends inforce usable summ) U.heap ∧ pz_KX D q k t U)) (va_Ql (fun r (_ : Unit) => r = (f_X3_groundsTable cnt tables frules heads ends x1)) (fun _ t => va_P D vwCl (pz_X q k cnt kinds firsts seconds heights tables replaced laid rules ps qs rs fs frules heads ends inforce usable summ) t.heap) (pz_A 22 q)) 0 0 (pz_A 22 q) := by
  refine Met.ofW (cc := cX3_groundsTable) (maxL := 5) (ret := (some .long)) (by decide) rfl ?_
  intro p e s m args below meth c s₁ B hml hv
  obtain ⟨rfl, hP, hKX⟩ := hv
  have hx := B.exec
  have hb := B.bytes
  have hr := B.returns
  have hts := atoms_spec (ws := wsX3_groundsTable) B.pre
  have hown : s.vm.findClass RX3 = some m.cls := findClass_of_methodNamed B.named
  have hlocks := B.notSynchronized
  have hC : pz_C p s m ([.ref (q 0), .int (x1)] : List Value).toArray meth c cX3_groundsTable wsX3_groundsTable RX3 5 (some .long) := ⟨hx, hb, hml, hown, hts, hr, hlocks⟩
  have hK := hKX.1
  have hS : va_S (pz_A 22 q) s.heap s.heap [] := va_S.rf
  have hl := lv_entry [.ref (q 0), .int (x1)] (n := 5) (Nat.le_of_ble_eq_true rfl)
  rw [lg_entry_eq]
  generalize (lg_sl [.ref (q 0), .int (x1)] ++ List.replicate (5 - (lg_sl [.ref (q 0), .int (x1)]).length) Slot.unset).toArray = ls at hl ⊢
  have hl : lv_has ls 5 [(0, .ref (q 0)), (1, .int (x1))] := hl
  generalize hF : f_X3_groundsTable cnt tables frules heads ends x1 = G
  replace hF := hF.symm
  unfold f_X3_groundsTable at hF
  refine lv_ldc2 hx hb hown (hts _ mm_X3_groundsTable_Cond_constantLong_RX3_111___1_) dX3_groundsTable_0 ?_
  refine lv_lstore_n (lv' := [(2, .long ((-1))), (0, .ref (q 0)), (1, .int (x1))]) hx hb dX3_groundsTable_3 rfl hl (by decide) rfl (fun ls hl => ?_)
  refine lv_iconst (v := 0) hx hb dX3_groundsTable_4 (by decide) ?_
  refine lv_istore (lv' := [(4, .int (0)), (2, .long ((-1))), (0, .ref (q 0)), (1, .int (x1))]) hx hb dX3_groundsTable_5 hl (by decide) rfl (fun ls hl => ?_)
  exact k_X3_groundsTable_7 hC hKX cnt kinds firsts seconds heights tables replaced laid rules ps qs rs fs frules heads ends inforce usable summ 61 x1 (-1) 0 (by decide) (by decide) (by decide) hc _ _ _ hF hP hS (lv_sub hl [2, 3, 1, 0] rfl)

-- == X3_formula
def f_X3_formula (cnt : Int32) (kinds : Nat → Int32) (firsts : Nat → Int32) (seconds : Nat → Int32) (heights : Nat → Int32) (tables : Nat → Int64) (x1 : Int32) (x2 : Int32) (x3 : Int32) : Int32 × (Int32) × (Nat → Int32) × (Nat → Int32) × (Nat → Int32) × (Nat → Int32) × (Nat → Int64) := if x1 = 0 then (pz_bnd (f_X1_make cnt kinds firsts seconds heights tables 0 (-1) (-1)) (fun z_2 => (z_2.1, z_2.2.1, z_2.2.2.1, z_2.2.2.2.1, z_2.2.2.2.2.1, z_2.2.2.2.2.2.1, z_2.2.2.2.2.2.2))) else (if x1 = 1 then (pz_bnd (f_X3_isLetter x2) (fun z_4 => if z_4 = 0 then (((-3), cnt, kinds, firsts, seconds, heights, tables)) else (pz_bnd (f_X1_make cnt kinds firsts seconds heights tables 1 x2 (-1)) (fun z_6 => (z_6.1, z_6.2.1, z_6.2.2.1, z_6.2.2.2.1, z_6.2.2.2.2.1, z_6.2.2.2.2.2.1, z_6.2.2.2.2.2.2))))) else (if x1 = 2 then (pz_bnd (f_X1_has cnt x2) (fun z_8 => if z_8 = 0 then (((-2), cnt, kinds, firsts, seconds, heights, tables)) else (pz_bnd (f_X1_has cnt x3) (fun z_10 => if z_10 = 0 then (((-2), cnt, kinds, firsts, seconds, heights, tables)) else (pz_bnd (f_X1_make cnt kinds firsts seconds heights tables x1 x2 x3) (fun z_12 => (z_12.1, z_12.2.1, z_12.2.2.1, z_12.2.2.2.1, z_12.2.2.2.2.1, z_12.2.2.2.2.2.1, z_12.2.2.2.2.2.2))))))) else (if x1 = 3 then (pz_bnd (f_X1_has cnt x2) (fun z_14 => if z_14 = 0 then (((-2), cnt, kinds, firsts, seconds, heights, tables)) else (pz_bnd (f_X1_has cnt x3) (fun z_16 => if z_16 = 0 then (((-2), cnt, kinds, firsts, seconds, heights, tables)) else (pz_bnd (f_X1_make cnt kinds firsts seconds heights tables x1 x2 x3) (fun z_18 => (z_18.1, z_18.2.1, z_18.2.2.1, z_18.2.2.2.1, z_18.2.2.2.2.1, z_18.2.2.2.2.2.1, z_18.2.2.2.2.2.2))))))) else (if x1 = 4 then (pz_bnd (f_X1_has cnt x2) (fun z_20 => if z_20 = 0 then (((-2), cnt, kinds, firsts, seconds, heights, tables)) else (pz_bnd (f_X1_has cnt x3) (fun z_22 => if z_22 = 0 then (((-2), cnt, kinds, firsts, seconds, heights, tables)) else (pz_bnd (f_X1_make cnt kinds firsts seconds heights tables x1 x2 x3) (fun z_24 => (z_24.1, z_24.2.1, z_24.2.2.1, z_24.2.2.2.1, z_24.2.2.2.2.1, z_24.2.2.2.2.2.1, z_24.2.2.2.2.2.2))))))) else (((-3), cnt, kinds, firsts, seconds, heights, tables))))))
theorem fl_X3_formula_10 : Cond.fieldLink RX3 10 "BoxProofs" "known" "LBoxProofs$Formulas;" ∈ wsX3_formula := by decide +kernel
theorem in_X3_formula_X3 : ∀ w ∈ wsX30, w ∈ wsX3_formula := by decide +kernel
set_option maxHeartbeats 4000000 in
set_option maxRecDepth 100000 in
theorem c_X3_formula (l : Launch) (D : va_G) (q : Nat → Nat) (k : Nat → ClassId) (t : Nat → Nat) (cnt : Int32) (kinds : Nat → Int32) (firsts : Nat → Int32) (seconds : Nat → Int32) (heights : Nat → Int32) (tables : Nat → Int64) (replaced : Nat → Int32) (laid : Nat → Int32) (rules : Nat → Int32) (ps : Nat → Int32) (qs : Nat → Int32) (rs : Nat → Int32) (fs : Nat → Int32) (frules : Nat → Int32) (heads : Nat → Int32) (ends : Nat → Int32) (inforce : Nat → Int32) (usable : Nat → Int32) (summ : Nat → Int32) (x1 : Int32) (x2 : Int32) (x3 : Int32) (hc : pz_c cnt) : Met l yX3_formula wsX3_formula ({ frames := 4, cells := 0, slots := 0, locals := 90 }) (va_Pc [.ref (q 0), .int (x1), .int (x2), .int (x3)] (fun U => va_P D vwCl (pz_X q k cnt kinds firsts seconds heights tables replaced laid rules ps qs rs fs frules heads ends inforce usable summ) U.heap ∧ pz_KX D q k t U)) (va_Qi (fun r (u : (Int32) × (Nat → Int32) × (Nat → Int32) × (Nat → Int32) × (Nat → Int32) × (Nat → Int64)) => (r, u) = (f_X3_formula cnt kinds firsts seconds heights tables x1 x2 x3)) (fun u t => va_P D vwCl (pz_X q k u.1 u.2.1 u.2.2.1 u.2.2.2.1 u.2.2.2.2.1 u.2.2.2.2.2 replaced laid rules ps qs rs fs frules heads ends inforce usable summ) t.heap) (pz_A 22 q)) 0 0 (pz_A 22 q) := by
  refine Met.ofW (cc := cX3_formula) (maxL := 4) (ret := (some .int)) (by decide) rfl ?_
  intro p e s m args below meth c s₁ B hml hv
  obtain ⟨rfl, hP, hKX⟩ := hv
  have hx := B.exec
  have hb := B.bytes
  have hr := B.returns
  have hts := atoms_spec (ws := wsX3_formula) B.pre
  have hown : s.vm.findClass RX3 = some m.cls := findClass_of_methodNamed B.named
  have hlocks := B.notSynchronized
  have hC : pz_C p s m ([.ref (q 0), .int (x1), .int (x2), .int (x3)] : List Value).toArray meth c cX3_formula wsX3_formula RX3 4 (some .int) := ⟨hx, hb, hml, hown, hts, hr, hlocks⟩
  have hK := hKX.1
  have hS : va_S (pz_A 22 q) s.heap s.heap [] := va_S.rf
  have hl := lv_entry [.ref (q 0), .int (x1), .int (x2), .int (x3)] (n := 4) (Nat.le_of_ble_eq_true rfl)
  rw [lg_entry_eq]
  generalize (lg_sl [.ref (q 0), .int (x1), .int (x2), .int (x3)] ++ List.replicate (4 - (lg_sl [.ref (q 0), .int (x1), .int (x2), .int (x3)]).length) Slot.unset).toArray = ls at hl ⊢
  have hl : lv_has ls 4 [(0, .ref (q 0)), (1, .int (x1)), (2, .int (x2)), (3, .int (x3))] := hl
  generalize hF : f_X3_formula cnt kinds firsts seconds heights tables x1 x2 x3 = G
  replace hF := hF.symm
  unfold f_X3_formula at hF
  refine lv_iload_n hx hb dX3_formula_0 rfl (lv_at hl 1 rfl) ?_
  refine pz_cases (P := x1 = 0) (fun c_1 => ?_) (fun c_1 => ?_)
  · have hF := hF.trans (if_pos c_1)
    refine pz_table (tgt := 36) (off := 35) hx hb dX3_formula_1 rfl (by rw [c_1]; rfl) (by decide) ?_
    refine lv_aload_n hx hb dX3_formula_36 rfl (lv_at hl 0 rfl) ?_
    refine va_get (D := D) (ci := 3) (v := .ref (q 1)) (C := RX3) (T := TX3) (N := 3) hx hb hts in_X3_formula_X3 hown hK hP 0 rfl rfl 0 (by decide) (hts _ fl_X3_formula_10) (fun _ h9 => h9) rfl dX3_formula_37 ?_
    refine lv_iconst (v := 0) hx hb dX3_formula_40 (by decide) ?_
    refine lv_iconst (v := (-1)) hx hb dX3_formula_41 (by decide) ?_
    refine lv_iconst (v := (-1)) hx hb dX3_formula_42 (by decide) ?_
    refine pz_Vi (As := [.int (0), .int ((-1)), .int ((-1))]) (rest := []) ⟨hx, hb, hml, hown, hts⟩ (c_X1_make l D q k t cnt kinds firsts seconds heights tables replaced laid rules ps qs rs fs frules heads ends inforce usable summ 0 (-1) (-1) hc) (cwV 3 hts gX3_formula_X1_make rfl rfl rfl hdV_X1_make ⟨Nat.le_of_ble_eq_true rfl, Nat.le_of_ble_eq_true rfl⟩) pz_KX.call (hKX.go hS) (va_recv hK hP (ci := 1) (q0 := 1) rfl rfl) hP hS rfl hl.1 rfl (Nat.le_of_ble_eq_true rfl) dX3_formula_43 ⟨Nat.zero_le _, Nat.zero_le _⟩ (fun r_2 u_2 H locs hF_2 hP hS => ?_)
    obtain ⟨w_2_cnt, w_2_kinds, w_2_firsts, w_2_seconds, w_2_heights, w_2_tables⟩ := u_2
    have hP : va_P D vwCl (pz_X q k w_2_cnt w_2_kinds w_2_firsts w_2_seconds w_2_heights w_2_tables replaced laid rules ps qs rs fs frules heads ends inforce usable summ) H := hP
    have hF := hF.trans (pz_be hF_2)
    try dsimp only at hF
    exact W.iret (v := r_2) hx hb hr (fun t ht hW => ⟨⟨r_2, (w_2_cnt, w_2_kinds, w_2_firsts, w_2_seconds, w_2_heights, w_2_tables), rfl, hF.symm, pz_hp ht hP⟩, hS.F ht⟩) hS.2.2 dX3_formula_46 hlocks
  · have hF := hF.trans (if_neg c_1)
    refine pz_cases (P := x1 = 1) (fun c_3 => ?_) (fun c_3 => ?_)
    · have hF := hF.trans (if_pos c_3)
      refine pz_table (tgt := 47) (off := 46) hx hb dX3_formula_1 rfl (by rw [c_3]; rfl) (by decide) ?_
      refine lv_iload_n hx hb dX3_formula_47 rfl (lv_at hl 2 rfl) ?_
      refine pz_Si (As := [.int (x2)]) (rest := []) ⟨hx, hb, hml, hown, hts⟩ (c_X3_isLetter l x2) (va_cwS 1 hts gX3_formula_X3_isLetter rfl rfl rfl hdS_X3_isLetter ⟨Nat.le_of_ble_eq_true rfl, Nat.le_of_ble_eq_true rfl⟩) hP hS rfl hl.1 rfl (Nat.le_of_ble_eq_true rfl) dX3_formula_48 ⟨Nat.zero_le _, Nat.zero_le _⟩ (fun r_4 H locs hF_4 hP hS => ?_)
      have hF := hF.trans (pz_be hF_4)
      refine lv_if_eq (tgt := 67) hx hb dX3_formula_51 (by decide) (fun c_5 => ?_) (fun c_5 => ?_)
      · have hF := hF.trans (if_pos c_5)
        refine lv_bipush (v := (-3)) hx hb dX3_formula_67 (by decide) ?_
        exact W.iret (v := (-3)) hx hb hr (fun t ht hW => ⟨⟨(-3), (cnt, kinds, firsts, seconds, heights, tables), rfl, hF.symm, pz_hp ht hP⟩, hS.F ht⟩) hS.2.2 dX3_formula_69 hlocks
      · have hF := hF.trans (if_neg c_5)
        refine lv_aload_n hx hb dX3_formula_54 rfl (lv_at hl 0 rfl) ?_
        refine va_get (D := D) (ci := 3) (v := .ref (q 1)) (C := RX3) (T := TX3) (N := 3) hx hb hts in_X3_formula_X3 hown hK hP 0 rfl rfl 0 (by decide) (hts _ fl_X3_formula_10) (fun _ h9 => h9) rfl dX3_formula_55 ?_
        refine lv_iconst (v := 1) hx hb dX3_formula_58 (by decide) ?_
        refine lv_iload_n hx hb dX3_formula_59 rfl (lv_at hl 2 rfl) ?_
        refine lv_iconst (v := (-1)) hx hb dX3_formula_60 (by decide) ?_
        refine pz_Vi (As := [.int (1), .int (x2), .int ((-1))]) (rest := []) ⟨hx, hb, hml, hown, hts⟩ (c_X1_make l D q k t cnt kinds firsts seconds heights tables replaced laid rules ps qs rs fs frules heads ends inforce usable summ 1 x2 (-1) hc) (cwV 3 hts gX3_formula_X1_make rfl rfl rfl hdV_X1_make ⟨Nat.le_of_ble_eq_true rfl, Nat.le_of_ble_eq_true rfl⟩) pz_KX.call (hKX.go hS) (va_recv hK hP (ci := 1) (q0 := 1) rfl rfl) hP hS rfl hl.1 rfl (Nat.le_of_ble_eq_true rfl) dX3_formula_61 ⟨Nat.zero_le _, Nat.zero_le _⟩ (fun r_6 u_6 H locs hF_6 hP hS => ?_)
        obtain ⟨w_6_cnt, w_6_kinds, w_6_firsts, w_6_seconds, w_6_heights, w_6_tables⟩ := u_6
        have hP : va_P D vwCl (pz_X q k w_6_cnt w_6_kinds w_6_firsts w_6_seconds w_6_heights w_6_tables replaced laid rules ps qs rs fs frules heads ends inforce usable summ) H := hP
        have hF := hF.trans (pz_be hF_6)
        try dsimp only at hF
        refine lv_goto (tgt := 69) hx hb dX3_formula_64 (by decide) ?_
        exact W.iret (v := r_6) hx hb hr (fun t ht hW => ⟨⟨r_6, (w_6_cnt, w_6_kinds, w_6_firsts, w_6_seconds, w_6_heights, w_6_tables), rfl, hF.symm, pz_hp ht hP⟩, hS.F ht⟩) hS.2.2 dX3_formula_69 hlocks
    · have hF := hF.trans (if_neg c_3)
      refine pz_cases (P := x1 = 2) (fun c_7 => ?_) (fun c_7 => ?_)
      · have hF := hF.trans (if_pos c_7)
        refine pz_table (tgt := 70) (off := 69) hx hb dX3_formula_1 rfl (by rw [c_7]; rfl) (by decide) ?_
        refine lv_aload_n hx hb dX3_formula_70 rfl (lv_at hl 0 rfl) ?_
        refine va_get (D := D) (ci := 3) (v := .ref (q 1)) (C := RX3) (T := TX3) (N := 3) hx hb hts in_X3_formula_X3 hown hK hP 0 rfl rfl 0 (by decide) (hts _ fl_X3_formula_10) (fun _ h9 => h9) rfl dX3_formula_71 ?_
        refine lv_iload_n hx hb dX3_formula_74 rfl (lv_at hl 2 rfl) ?_
        refine pz_Vi (As := [.int (x2)]) (rest := []) ⟨hx, hb, hml, hown, hts⟩ (c_X1_has l D q k t cnt kinds firsts seconds heights tables replaced laid rules ps qs rs fs frules heads ends inforce usable summ x2) (cwV 1 hts gX3_formula_X1_has rfl rfl rfl hdV_X1_has ⟨Nat.le_of_ble_eq_true rfl, Nat.le_of_ble_eq_true rfl⟩) pz_KX.call (hKX.go hS) (va_recv hK hP (ci := 1) (q0 := 1) rfl rfl) hP hS rfl hl.1 rfl (Nat.le_of_ble_eq_true rfl) dX3_formula_75 ⟨Nat.zero_le _, Nat.zero_le _⟩ (fun r_8 u_8 H locs hF_8 hP hS => ?_)
        have hF := hF.trans (pz_be hF_8)
        refine lv_if_eq (tgt := 105) hx hb dX3_formula_78 (by decide) (fun c_9 => ?_) (fun c_9 => ?_)
        · have hF := hF.trans (if_pos c_9)
          refine lv_bipush (v := (-2)) hx hb dX3_formula_105 (by decide) ?_
          exact W.iret (v := (-2)) hx hb hr (fun t ht hW => ⟨⟨(-2), (cnt, kinds, firsts, seconds, heights, tables), rfl, hF.symm, pz_hp ht hP⟩, hS.F ht⟩) hS.2.2 dX3_formula_107 hlocks
        · have hF := hF.trans (if_neg c_9)
          refine lv_aload_n hx hb dX3_formula_81 rfl (lv_at hl 0 rfl) ?_
          refine va_get (D := D) (ci := 3) (v := .ref (q 1)) (C := RX3) (T := TX3) (N := 3) hx hb hts in_X3_formula_X3 hown hK hP 0 rfl rfl 0 (by decide) (hts _ fl_X3_formula_10) (fun _ h9 => h9) rfl dX3_formula_82 ?_
          refine lv_iload_n hx hb dX3_formula_85 rfl (lv_at hl 3 rfl) ?_
          refine pz_Vi (As := [.int (x3)]) (rest := []) ⟨hx, hb, hml, hown, hts⟩ (c_X1_has l D q k t cnt kinds firsts seconds heights tables replaced laid rules ps qs rs fs frules heads ends inforce usable summ x3) (cwV 1 hts gX3_formula_X1_has rfl rfl rfl hdV_X1_has ⟨Nat.le_of_ble_eq_true rfl, Nat.le_of_ble_eq_true rfl⟩) pz_KX.call (hKX.go hS) (va_recv hK hP (ci := 1) (q0 := 1) rfl rfl) hP hS rfl hl.1 rfl (Nat.le_of_ble_eq_true rfl) dX3_formula_86 ⟨Nat.zero_le _, Nat.zero_le _⟩ (fun r_10 u_10 H locs hF_10 hP hS => ?_)
          have hF := hF.trans (pz_be hF_10)
          refine lv_if_eq (tgt := 105) hx hb dX3_formula_89 (by decide) (fun c_11 => ?_) (fun c_11 => ?_)
          · have hF := hF.trans (if_pos c_11)
            refine lv_bipush (v := (-2)) hx hb dX3_formula_105 (by decide) ?_
            exact W.iret (v := (-2)) hx hb hr (fun t ht hW => ⟨⟨(-2), (cnt, kinds, firsts, seconds, heights, tables), rfl, hF.symm, pz_hp ht hP⟩, hS.F ht⟩) hS.2.2 dX3_formula_107 hlocks
          · have hF := hF.trans (if_neg c_11)
            refine lv_aload_n hx hb dX3_formula_92 rfl (lv_at hl 0 rfl) ?_
            refine va_get (D := D) (ci := 3) (v := .ref (q 1)) (C := RX3) (T := TX3) (N := 3) hx hb hts in_X3_formula_X3 hown hK hP 0 rfl rfl 0 (by decide) (hts _ fl_X3_formula_10) (fun _ h9 => h9) rfl dX3_formula_93 ?_
            refine lv_iload_n hx hb dX3_formula_96 rfl (lv_at hl 1 rfl) ?_
            refine lv_iload_n hx hb dX3_formula_97 rfl (lv_at hl 2 rfl) ?_
            refine lv_iload_n hx hb dX3_formula_98 rfl (lv_at hl 3 rfl) ?_
            refine pz_Vi (As := [.int (x1), .int (x2), .int (x3)]) (rest := []) ⟨hx, hb, hml, hown, hts⟩ (c_X1_make l D q k t cnt kinds firsts seconds heights tables replaced laid rules ps qs rs fs frules heads ends inforce usable summ x1 x2 x3 hc) (cwV 3 hts gX3_formula_X1_make rfl rfl rfl hdV_X1_make ⟨Nat.le_of_ble_eq_true rfl, Nat.le_of_ble_eq_true rfl⟩) pz_KX.call (hKX.go hS) (va_recv hK hP (ci := 1) (q0 := 1) rfl rfl) hP hS rfl hl.1 rfl (Nat.le_of_ble_eq_true rfl) dX3_formula_99 ⟨Nat.zero_le _, Nat.zero_le _⟩ (fun r_12 u_12 H locs hF_12 hP hS => ?_)
            obtain ⟨w_12_cnt, w_12_kinds, w_12_firsts, w_12_seconds, w_12_heights, w_12_tables⟩ := u_12
            have hP : va_P D vwCl (pz_X q k w_12_cnt w_12_kinds w_12_firsts w_12_seconds w_12_heights w_12_tables replaced laid rules ps qs rs fs frules heads ends inforce usable summ) H := hP
            have hF := hF.trans (pz_be hF_12)
            try dsimp only at hF
            refine lv_goto (tgt := 107) hx hb dX3_formula_102 (by decide) ?_
            exact W.iret (v := r_12) hx hb hr (fun t ht hW => ⟨⟨r_12, (w_12_cnt, w_12_kinds, w_12_firsts, w_12_seconds, w_12_heights, w_12_tables), rfl, hF.symm, pz_hp ht hP⟩, hS.F ht⟩) hS.2.2 dX3_formula_107 hlocks
      · have hF := hF.trans (if_neg c_7)
        refine pz_cases (P := x1 = 3) (fun c_13 => ?_) (fun c_13 => ?_)
        · have hF := hF.trans (if_pos c_13)
          refine pz_table (tgt := 70) (off := 69) hx hb dX3_formula_1 rfl (by rw [c_13]; rfl) (by decide) ?_
          refine lv_aload_n hx hb dX3_formula_70 rfl (lv_at hl 0 rfl) ?_
          refine va_get (D := D) (ci := 3) (v := .ref (q 1)) (C := RX3) (T := TX3) (N := 3) hx hb hts in_X3_formula_X3 hown hK hP 0 rfl rfl 0 (by decide) (hts _ fl_X3_formula_10) (fun _ h9 => h9) rfl dX3_formula_71 ?_
          refine lv_iload_n hx hb dX3_formula_74 rfl (lv_at hl 2 rfl) ?_
          refine pz_Vi (As := [.int (x2)]) (rest := []) ⟨hx, hb, hml, hown, hts⟩ (c_X1_has l D q k t cnt kinds firsts seconds heights tables replaced laid rules ps qs rs fs frules heads ends inforce usable summ x2) (cwV 1 hts gX3_formula_X1_has rfl rfl rfl hdV_X1_has ⟨Nat.le_of_ble_eq_true rfl, Nat.le_of_ble_eq_true rfl⟩) pz_KX.call (hKX.go hS) (va_recv hK hP (ci := 1) (q0 := 1) rfl rfl) hP hS rfl hl.1 rfl (Nat.le_of_ble_eq_true rfl) dX3_formula_75 ⟨Nat.zero_le _, Nat.zero_le _⟩ (fun r_14 u_14 H locs hF_14 hP hS => ?_)
          have hF := hF.trans (pz_be hF_14)
          refine lv_if_eq (tgt := 105) hx hb dX3_formula_78 (by decide) (fun c_15 => ?_) (fun c_15 => ?_)
          · have hF := hF.trans (if_pos c_15)
            refine lv_bipush (v := (-2)) hx hb dX3_formula_105 (by decide) ?_
            exact W.iret (v := (-2)) hx hb hr (fun t ht hW => ⟨⟨(-2), (cnt, kinds, firsts, seconds, heights, tables), rfl, hF.symm, pz_hp ht hP⟩, hS.F ht⟩) hS.2.2 dX3_formula_107 hlocks
          · have hF := hF.trans (if_neg c_15)
            refine lv_aload_n hx hb dX3_formula_81 rfl (lv_at hl 0 rfl) ?_
            refine va_get (D := D) (ci := 3) (v := .ref (q 1)) (C := RX3) (T := TX3) (N := 3) hx hb hts in_X3_formula_X3 hown hK hP 0 rfl rfl 0 (by decide) (hts _ fl_X3_formula_10) (fun _ h9 => h9) rfl dX3_formula_82 ?_
            refine lv_iload_n hx hb dX3_formula_85 rfl (lv_at hl 3 rfl) ?_
            refine pz_Vi (As := [.int (x3)]) (rest := []) ⟨hx, hb, hml, hown, hts⟩ (c_X1_has l D q k t cnt kinds firsts seconds heights tables replaced laid rules ps qs rs fs frules heads ends inforce usable summ x3) (cwV 1 hts gX3_formula_X1_has rfl rfl rfl hdV_X1_has ⟨Nat.le_of_ble_eq_true rfl, Nat.le_of_ble_eq_true rfl⟩) pz_KX.call (hKX.go hS) (va_recv hK hP (ci := 1) (q0 := 1) rfl rfl) hP hS rfl hl.1 rfl (Nat.le_of_ble_eq_true rfl) dX3_formula_86 ⟨Nat.zero_le _, Nat.zero_le _⟩ (fun r_16 u_16 H locs hF_16 hP hS => ?_)
            have hF := hF.trans (pz_be hF_16)
            refine lv_if_eq (tgt := 105) hx hb dX3_formula_89 (by decide) (fun c_17 => ?_) (fun c_17 => ?_)
            · have hF := hF.trans (if_pos c_17)
              refine lv_bipush (v := (-2)) hx hb dX3_formula_105 (by decide) ?_
              exact W.iret (v := (-2)) hx hb hr (fun t ht hW => ⟨⟨(-2), (cnt, kinds, firsts, seconds, heights, tables), rfl, hF.symm, pz_hp ht hP⟩, hS.F ht⟩) hS.2.2 dX3_formula_107 hlocks
            · have hF := hF.trans (if_neg c_17)
              refine lv_aload_n hx hb dX3_formula_92 rfl (lv_at hl 0 rfl) ?_
              refine va_get (D := D) (ci := 3) (v := .ref (q 1)) (C := RX3) (T := TX3) (N := 3) hx hb hts in_X3_formula_X3 hown hK hP 0 rfl rfl 0 (by decide) (hts _ fl_X3_formula_10) (fun _ h9 => h9) rfl dX3_formula_93 ?_
              refine lv_iload_n hx hb dX3_formula_96 rfl (lv_at hl 1 rfl) ?_
              refine lv_iload_n hx hb dX3_formula_97 rfl (lv_at hl 2 rfl) ?_
              refine lv_iload_n hx hb dX3_formula_98 rfl (lv_at hl 3 rfl) ?_
              refine pz_Vi (As := [.int (x1), .int (x2), .int (x3)]) (rest := []) ⟨hx, hb, hml, hown, hts⟩ (c_X1_make l D q k t cnt kinds firsts seconds heights tables replaced laid rules ps qs rs fs frules heads ends inforce usable summ x1 x2 x3 hc) (cwV 3 hts gX3_formula_X1_make rfl rfl rfl hdV_X1_make ⟨Nat.le_of_ble_eq_true rfl, Nat.le_of_ble_eq_true rfl⟩) pz_KX.call (hKX.go hS) (va_recv hK hP (ci := 1) (q0 := 1) rfl rfl) hP hS rfl hl.1 rfl (Nat.le_of_ble_eq_true rfl) dX3_formula_99 ⟨Nat.zero_le _, Nat.zero_le _⟩ (fun r_18 u_18 H locs hF_18 hP hS => ?_)
              obtain ⟨w_18_cnt, w_18_kinds, w_18_firsts, w_18_seconds, w_18_heights, w_18_tables⟩ := u_18
              have hP : va_P D vwCl (pz_X q k w_18_cnt w_18_kinds w_18_firsts w_18_seconds w_18_heights w_18_tables replaced laid rules ps qs rs fs frules heads ends inforce usable summ) H := hP
              have hF := hF.trans (pz_be hF_18)
              try dsimp only at hF
              refine lv_goto (tgt := 107) hx hb dX3_formula_102 (by decide) ?_
              exact W.iret (v := r_18) hx hb hr (fun t ht hW => ⟨⟨r_18, (w_18_cnt, w_18_kinds, w_18_firsts, w_18_seconds, w_18_heights, w_18_tables), rfl, hF.symm, pz_hp ht hP⟩, hS.F ht⟩) hS.2.2 dX3_formula_107 hlocks
        · have hF := hF.trans (if_neg c_13)
          refine pz_cases (P := x1 = 4) (fun c_19 => ?_) (fun c_19 => ?_)
          · have hF := hF.trans (if_pos c_19)
            refine pz_table (tgt := 70) (off := 69) hx hb dX3_formula_1 rfl (by rw [c_19]; rfl) (by decide) ?_
            refine lv_aload_n hx hb dX3_formula_70 rfl (lv_at hl 0 rfl) ?_
            refine va_get (D := D) (ci := 3) (v := .ref (q 1)) (C := RX3) (T := TX3) (N := 3) hx hb hts in_X3_formula_X3 hown hK hP 0 rfl rfl 0 (by decide) (hts _ fl_X3_formula_10) (fun _ h9 => h9) rfl dX3_formula_71 ?_
            refine lv_iload_n hx hb dX3_formula_74 rfl (lv_at hl 2 rfl) ?_
            refine pz_Vi (As := [.int (x2)]) (rest := []) ⟨hx, hb, hml, hown, hts⟩ (c_X1_has l D q k t cnt kinds firsts seconds heights tables replaced laid rules ps qs rs fs frules heads ends inforce usable summ x2) (cwV 1 hts gX3_formula_X1_has rfl rfl rfl hdV_X1_has ⟨Nat.le_of_ble_eq_true rfl, Nat.le_of_ble_eq_true rfl⟩) pz_KX.call (hKX.go hS) (va_recv hK hP (ci := 1) (q0 := 1) rfl rfl) hP hS rfl hl.1 rfl (Nat.le_of_ble_eq_true rfl) dX3_formula_75 ⟨Nat.zero_le _, Nat.zero_le _⟩ (fun r_20 u_20 H locs hF_20 hP hS => ?_)
            have hF := hF.trans (pz_be hF_20)
            refine lv_if_eq (tgt := 105) hx hb dX3_formula_78 (by decide) (fun c_21 => ?_) (fun c_21 => ?_)
            · have hF := hF.trans (if_pos c_21)
              refine lv_bipush (v := (-2)) hx hb dX3_formula_105 (by decide) ?_
              exact W.iret (v := (-2)) hx hb hr (fun t ht hW => ⟨⟨(-2), (cnt, kinds, firsts, seconds, heights, tables), rfl, hF.symm, pz_hp ht hP⟩, hS.F ht⟩) hS.2.2 dX3_formula_107 hlocks
            · have hF := hF.trans (if_neg c_21)
              refine lv_aload_n hx hb dX3_formula_81 rfl (lv_at hl 0 rfl) ?_
              refine va_get (D := D) (ci := 3) (v := .ref (q 1)) (C := RX3) (T := TX3) (N := 3) hx hb hts in_X3_formula_X3 hown hK hP 0 rfl rfl 0 (by decide) (hts _ fl_X3_formula_10) (fun _ h9 => h9) rfl dX3_formula_82 ?_
              refine lv_iload_n hx hb dX3_formula_85 rfl (lv_at hl 3 rfl) ?_
              refine pz_Vi (As := [.int (x3)]) (rest := []) ⟨hx, hb, hml, hown, hts⟩ (c_X1_has l D q k t cnt kinds firsts seconds heights tables replaced laid rules ps qs rs fs frules heads ends inforce usable summ x3) (cwV 1 hts gX3_formula_X1_has rfl rfl rfl hdV_X1_has ⟨Nat.le_of_ble_eq_true rfl, Nat.le_of_ble_eq_true rfl⟩) pz_KX.call (hKX.go hS) (va_recv hK hP (ci := 1) (q0 := 1) rfl rfl) hP hS rfl hl.1 rfl (Nat.le_of_ble_eq_true rfl) dX3_formula_86 ⟨Nat.zero_le _, Nat.zero_le _⟩ (fun r_22 u_22 H locs hF_22 hP hS => ?_)
              have hF := hF.trans (pz_be hF_22)
              refine lv_if_eq (tgt := 105) hx hb dX3_formula_89 (by decide) (fun c_23 => ?_) (fun c_23 => ?_)
              · have hF := hF.trans (if_pos c_23)
                refine lv_bipush (v := (-2)) hx hb dX3_formula_105 (by decide) ?_
                exact W.iret (v := (-2)) hx hb hr (fun t ht hW => ⟨⟨(-2), (cnt, kinds, firsts, seconds, heights, tables), rfl, hF.symm, pz_hp ht hP⟩, hS.F ht⟩) hS.2.2 dX3_formula_107 hlocks
              · have hF := hF.trans (if_neg c_23)
                refine lv_aload_n hx hb dX3_formula_92 rfl (lv_at hl 0 rfl) ?_
                refine va_get (D := D) (ci := 3) (v := .ref (q 1)) (C := RX3) (T := TX3) (N := 3) hx hb hts in_X3_formula_X3 hown hK hP 0 rfl rfl 0 (by decide) (hts _ fl_X3_formula_10) (fun _ h9 => h9) rfl dX3_formula_93 ?_
                refine lv_iload_n hx hb dX3_formula_96 rfl (lv_at hl 1 rfl) ?_
                refine lv_iload_n hx hb dX3_formula_97 rfl (lv_at hl 2 rfl) ?_
                refine lv_iload_n hx hb dX3_formula_98 rfl (lv_at hl 3 rfl) ?_
                refine pz_Vi (As := [.int (x1), .int (x2), .int (x3)]) (rest := []) ⟨hx, hb, hml, hown, hts⟩ (c_X1_make l D q k t cnt kinds firsts seconds heights tables replaced laid rules ps qs rs fs frules heads ends inforce usable summ x1 x2 x3 hc) (cwV 3 hts gX3_formula_X1_make rfl rfl rfl hdV_X1_make ⟨Nat.le_of_ble_eq_true rfl, Nat.le_of_ble_eq_true rfl⟩) pz_KX.call (hKX.go hS) (va_recv hK hP (ci := 1) (q0 := 1) rfl rfl) hP hS rfl hl.1 rfl (Nat.le_of_ble_eq_true rfl) dX3_formula_99 ⟨Nat.zero_le _, Nat.zero_le _⟩ (fun r_24 u_24 H locs hF_24 hP hS => ?_)
                obtain ⟨w_24_cnt, w_24_kinds, w_24_firsts, w_24_seconds, w_24_heights, w_24_tables⟩ := u_24
                have hP : va_P D vwCl (pz_X q k w_24_cnt w_24_kinds w_24_firsts w_24_seconds w_24_heights w_24_tables replaced laid rules ps qs rs fs frules heads ends inforce usable summ) H := hP
                have hF := hF.trans (pz_be hF_24)
                try dsimp only at hF
                refine lv_goto (tgt := 107) hx hb dX3_formula_102 (by decide) ?_
                exact W.iret (v := r_24) hx hb hr (fun t ht hW => ⟨⟨r_24, (w_24_cnt, w_24_kinds, w_24_firsts, w_24_seconds, w_24_heights, w_24_tables), rfl, hF.symm, pz_hp ht hP⟩, hS.F ht⟩) hS.2.2 dX3_formula_107 hlocks
          · have hF := hF.trans (if_neg c_19)
            have ho : pz_off (107) (0) (4) #[35, 46, 69, 69, 69] x1 = 107 := by
              unfold pz_off
              split
              · rfl
              · have hz : (x1).toInt = 0 ∨ (x1).toInt = 1 ∨ (x1).toInt = 2 ∨ (x1).toInt = 3 ∨ (x1).toInt = 4 := by omega
                rcases hz with hz | hz | hz | hz | hz
                · exact absurd (Int32.toInt_inj.mp (hz.trans (show (0 : Int) = (0 : Int32).toInt from rfl))) c_1
                · exact absurd (Int32.toInt_inj.mp (hz.trans (show (1 : Int) = (1 : Int32).toInt from rfl))) c_3
                · exact absurd (Int32.toInt_inj.mp (hz.trans (show (2 : Int) = (2 : Int32).toInt from rfl))) c_7
                · exact absurd (Int32.toInt_inj.mp (hz.trans (show (3 : Int) = (3 : Int32).toInt from rfl))) c_13
                · exact absurd (Int32.toInt_inj.mp (hz.trans (show (4 : Int) = (4 : Int32).toInt from rfl))) c_19
            refine pz_table (tgt := 108) hx hb dX3_formula_1 rfl ho (by decide) ?_
            refine lv_bipush (v := (-3)) hx hb dX3_formula_108 (by decide) ?_
            exact W.iret (v := (-3)) hx hb hr (fun t ht hW => ⟨⟨(-3), (cnt, kinds, firsts, seconds, heights, tables), rfl, hF.symm, pz_hp ht hP⟩, hS.F ht⟩) hS.2.2 dX3_formula_110 hlocks

-- == X3_about
def f_X3_about (cnt : Int32) (kinds : Nat → Int32) (firsts : Nat → Int32) (seconds : Nat → Int32) (heights : Nat → Int32) (x1 : Int32) (x2 : Int32) : Int32 := pz_bnd (f_X1_has cnt x1) (fun z_1 => if z_1 = 0 then ((-2)) else (if x2 = 0 then (pz_bnd (f_X1_kindOf cnt kinds x1) (fun z_4 => z_4)) else (if x2 = 1 then (pz_bnd (f_X1_firstOf cnt firsts x1) (fun z_6 => z_6)) else (if x2 = 2 then (pz_bnd (f_X1_secondOf cnt seconds x1) (fun z_8 => z_8)) else (if x2 = 3 then (pz_bnd (f_X1_heightOf cnt heights x1) (fun z_10 => z_10)) else ((-3)))))))
theorem fl_X3_about_10 : Cond.fieldLink RX3 10 "BoxProofs" "known" "LBoxProofs$Formulas;" ∈ wsX3_about := by decide +kernel
theorem in_X3_about_X3 : ∀ w ∈ wsX30, w ∈ wsX3_about := by decide +kernel
set_option maxHeartbeats 4000000 in
set_option maxRecDepth 100000 in
theorem c_X3_about (l : Launch) (D : va_G) (q : Nat → Nat) (k : Nat → ClassId) (t : Nat → Nat) (cnt : Int32) (kinds : Nat → Int32) (firsts : Nat → Int32) (seconds : Nat → Int32) (heights : Nat → Int32) (tables : Nat → Int64) (replaced : Nat → Int32) (laid : Nat → Int32) (rules : Nat → Int32) (ps : Nat → Int32) (qs : Nat → Int32) (rs : Nat → Int32) (fs : Nat → Int32) (frules : Nat → Int32) (heads : Nat → Int32) (ends : Nat → Int32) (inforce : Nat → Int32) (usable : Nat → Int32) (summ : Nat → Int32) (x1 : Int32) (x2 : Int32) (hc : pz_c cnt) : Met l yX3_about wsX3_about ({ frames := 2, cells := 0, slots := 0, locals := 42 }) (va_Pc [.ref (q 0), .int (x1), .int (x2)] (fun U => va_P D vwCl (pz_X q k cnt kinds firsts seconds heights tables replaced laid rules ps qs rs fs frules heads ends inforce usable summ) U.heap ∧ pz_KX D q k t U)) (va_Qi (fun r (_ : Unit) => r = (f_X3_about cnt kinds firsts seconds heights x1 x2)) (fun _ t => va_P D vwCl (pz_X q k cnt kinds firsts seconds heights tables replaced laid rules ps qs rs fs frules heads ends inforce usable summ) t.heap) (pz_A 22 q)) 0 0 (pz_A 22 q) := by
  refine Met.ofW (cc := cX3_about) (maxL := 3) (ret := (some .int)) (by decide) rfl ?_
  intro p e s m args below meth c s₁ B hml hv
  obtain ⟨rfl, hP, hKX⟩ := hv
  have hx := B.exec
  have hb := B.bytes
  have hr := B.returns
  have hts := atoms_spec (ws := wsX3_about) B.pre
  have hown : s.vm.findClass RX3 = some m.cls := findClass_of_methodNamed B.named
  have hlocks := B.notSynchronized
  have hC : pz_C p s m ([.ref (q 0), .int (x1), .int (x2)] : List Value).toArray meth c cX3_about wsX3_about RX3 3 (some .int) := ⟨hx, hb, hml, hown, hts, hr, hlocks⟩
  have hK := hKX.1
  have hS : va_S (pz_A 22 q) s.heap s.heap [] := va_S.rf
  have hl := lv_entry [.ref (q 0), .int (x1), .int (x2)] (n := 3) (Nat.le_of_ble_eq_true rfl)
  rw [lg_entry_eq]
  generalize (lg_sl [.ref (q 0), .int (x1), .int (x2)] ++ List.replicate (3 - (lg_sl [.ref (q 0), .int (x1), .int (x2)]).length) Slot.unset).toArray = ls at hl ⊢
  have hl : lv_has ls 3 [(0, .ref (q 0)), (1, .int (x1)), (2, .int (x2))] := hl
  generalize hF : f_X3_about cnt kinds firsts seconds heights x1 x2 = G
  replace hF := hF.symm
  unfold f_X3_about at hF
  refine lv_aload_n hx hb dX3_about_0 rfl (lv_at hl 0 rfl) ?_
  refine va_get (D := D) (ci := 3) (v := .ref (q 1)) (C := RX3) (T := TX3) (N := 3) hx hb hts in_X3_about_X3 hown hK hP 0 rfl rfl 0 (by decide) (hts _ fl_X3_about_10) (fun _ h9 => h9) rfl dX3_about_1 ?_
  refine lv_iload_n hx hb dX3_about_4 rfl (lv_at hl 1 rfl) ?_
  refine pz_Vi (As := [.int (x1)]) (rest := []) ⟨hx, hb, hml, hown, hts⟩ (c_X1_has l D q k t cnt kinds firsts seconds heights tables replaced laid rules ps qs rs fs frules heads ends inforce usable summ x1) (cwV 1 hts gX3_about_X1_has rfl rfl rfl hdV_X1_has ⟨Nat.le_of_ble_eq_true rfl, Nat.le_of_ble_eq_true rfl⟩) pz_KX.call (hKX.go hS) (va_recv hK hP (ci := 1) (q0 := 1) rfl rfl) hP hS rfl hl.1 rfl (Nat.le_of_ble_eq_true rfl) dX3_about_5 ⟨Nat.zero_le _, Nat.zero_le _⟩ (fun r_1 u_1 H locs hF_1 hP hS => ?_)
  have hF := hF.trans (pz_be hF_1)
  refine lv_if_ne (tgt := 14) hx hb dX3_about_8 (by decide) (fun c_2 => ?_) (fun c_2 => ?_)
  · have hF := hF.trans (if_neg c_2)
    refine lv_iload_n hx hb dX3_about_14 rfl (lv_at hl 2 rfl) ?_
    refine pz_cases (P := x2 = 0) (fun c_3 => ?_) (fun c_3 => ?_)
    · have hF := hF.trans (if_pos c_3)
      refine pz_table (tgt := 44) (off := 29) hx hb dX3_about_15 rfl (by rw [c_3]; rfl) (by decide) ?_
      refine lv_aload_n hx hb dX3_about_44 rfl (lv_at hl 0 rfl) ?_
      refine va_get (D := D) (ci := 3) (v := .ref (q 1)) (C := RX3) (T := TX3) (N := 3) hx hb hts in_X3_about_X3 hown hK hP 0 rfl rfl 0 (by decide) (hts _ fl_X3_about_10) (fun _ h9 => h9) rfl dX3_about_45 ?_
      refine lv_iload_n hx hb dX3_about_48 rfl (lv_at hl 1 rfl) ?_
      refine pz_Vi (As := [.int (x1)]) (rest := []) ⟨hx, hb, hml, hown, hts⟩ (c_X1_kindOf l D q k t cnt kinds firsts seconds heights tables replaced laid rules ps qs rs fs frules heads ends inforce usable summ x1 hc) (cwV 1 hts gX3_about_X1_kindOf rfl rfl rfl hdV_X1_kindOf ⟨Nat.le_of_ble_eq_true rfl, Nat.le_of_ble_eq_true rfl⟩) pz_KX.call (hKX.go hS) (va_recv hK hP (ci := 1) (q0 := 1) rfl rfl) hP hS rfl hl.1 rfl (Nat.le_of_ble_eq_true rfl) dX3_about_49 ⟨Nat.zero_le _, Nat.zero_le _⟩ (fun r_4 u_4 H locs hF_4 hP hS => ?_)
      have hF := hF.trans (pz_be hF_4)
      exact W.iret (v := r_4) hx hb hr (fun t ht hW => ⟨⟨r_4, (), rfl, hF.symm, pz_hp ht hP⟩, hS.F ht⟩) hS.2.2 dX3_about_52 hlocks
    · have hF := hF.trans (if_neg c_3)
      refine pz_cases (P := x2 = 1) (fun c_5 => ?_) (fun c_5 => ?_)
      · have hF := hF.trans (if_pos c_5)
        refine pz_table (tgt := 53) (off := 38) hx hb dX3_about_15 rfl (by rw [c_5]; rfl) (by decide) ?_
        refine lv_aload_n hx hb dX3_about_53 rfl (lv_at hl 0 rfl) ?_
        refine va_get (D := D) (ci := 3) (v := .ref (q 1)) (C := RX3) (T := TX3) (N := 3) hx hb hts in_X3_about_X3 hown hK hP 0 rfl rfl 0 (by decide) (hts _ fl_X3_about_10) (fun _ h9 => h9) rfl dX3_about_54 ?_
        refine lv_iload_n hx hb dX3_about_57 rfl (lv_at hl 1 rfl) ?_
        refine pz_Vi (As := [.int (x1)]) (rest := []) ⟨hx, hb, hml, hown, hts⟩ (c_X1_firstOf l D q k t cnt kinds firsts seconds heights tables replaced laid rules ps qs rs fs frules heads ends inforce usable summ x1 hc) (cwV 1 hts gX3_about_X1_firstOf rfl rfl rfl hdV_X1_firstOf ⟨Nat.le_of_ble_eq_true rfl, Nat.le_of_ble_eq_true rfl⟩) pz_KX.call (hKX.go hS) (va_recv hK hP (ci := 1) (q0 := 1) rfl rfl) hP hS rfl hl.1 rfl (Nat.le_of_ble_eq_true rfl) dX3_about_58 ⟨Nat.zero_le _, Nat.zero_le _⟩ (fun r_6 u_6 H locs hF_6 hP hS => ?_)
        have hF := hF.trans (pz_be hF_6)
        exact W.iret (v := r_6) hx hb hr (fun t ht hW => ⟨⟨r_6, (), rfl, hF.symm, pz_hp ht hP⟩, hS.F ht⟩) hS.2.2 dX3_about_61 hlocks
      · have hF := hF.trans (if_neg c_5)
        refine pz_cases (P := x2 = 2) (fun c_7 => ?_) (fun c_7 => ?_)
        · have hF := hF.trans (if_pos c_7)
          refine pz_table (tgt := 62) (off := 47) hx hb dX3_about_15 rfl (by rw [c_7]; rfl) (by decide) ?_
          refine lv_aload_n hx hb dX3_about_62 rfl (lv_at hl 0 rfl) ?_
          refine va_get (D := D) (ci := 3) (v := .ref (q 1)) (C := RX3) (T := TX3) (N := 3) hx hb hts in_X3_about_X3 hown hK hP 0 rfl rfl 0 (by decide) (hts _ fl_X3_about_10) (fun _ h9 => h9) rfl dX3_about_63 ?_
          refine lv_iload_n hx hb dX3_about_66 rfl (lv_at hl 1 rfl) ?_
          refine pz_Vi (As := [.int (x1)]) (rest := []) ⟨hx, hb, hml, hown, hts⟩ (c_X1_secondOf l D q k t cnt kinds firsts seconds heights tables replaced laid rules ps qs rs fs frules heads ends inforce usable summ x1 hc) (cwV 1 hts gX3_about_X1_secondOf rfl rfl rfl hdV_X1_secondOf ⟨Nat.le_of_ble_eq_true rfl, Nat.le_of_ble_eq_true rfl⟩) pz_KX.call (hKX.go hS) (va_recv hK hP (ci := 1) (q0 := 1) rfl rfl) hP hS rfl hl.1 rfl (Nat.le_of_ble_eq_true rfl) dX3_about_67 ⟨Nat.zero_le _, Nat.zero_le _⟩ (fun r_8 u_8 H locs hF_8 hP hS => ?_)
          have hF := hF.trans (pz_be hF_8)
          exact W.iret (v := r_8) hx hb hr (fun t ht hW => ⟨⟨r_8, (), rfl, hF.symm, pz_hp ht hP⟩, hS.F ht⟩) hS.2.2 dX3_about_70 hlocks
        · have hF := hF.trans (if_neg c_7)
          refine pz_cases (P := x2 = 3) (fun c_9 => ?_) (fun c_9 => ?_)
          · have hF := hF.trans (if_pos c_9)
            refine pz_table (tgt := 71) (off := 56) hx hb dX3_about_15 rfl (by rw [c_9]; rfl) (by decide) ?_
            refine lv_aload_n hx hb dX3_about_71 rfl (lv_at hl 0 rfl) ?_
            refine va_get (D := D) (ci := 3) (v := .ref (q 1)) (C := RX3) (T := TX3) (N := 3) hx hb hts in_X3_about_X3 hown hK hP 0 rfl rfl 0 (by decide) (hts _ fl_X3_about_10) (fun _ h9 => h9) rfl dX3_about_72 ?_
            refine lv_iload_n hx hb dX3_about_75 rfl (lv_at hl 1 rfl) ?_
            refine pz_Vi (As := [.int (x1)]) (rest := []) ⟨hx, hb, hml, hown, hts⟩ (c_X1_heightOf l D q k t cnt kinds firsts seconds heights tables replaced laid rules ps qs rs fs frules heads ends inforce usable summ x1 hc) (cwV 1 hts gX3_about_X1_heightOf rfl rfl rfl hdV_X1_heightOf ⟨Nat.le_of_ble_eq_true rfl, Nat.le_of_ble_eq_true rfl⟩) pz_KX.call (hKX.go hS) (va_recv hK hP (ci := 1) (q0 := 1) rfl rfl) hP hS rfl hl.1 rfl (Nat.le_of_ble_eq_true rfl) dX3_about_76 ⟨Nat.zero_le _, Nat.zero_le _⟩ (fun r_10 u_10 H locs hF_10 hP hS => ?_)
            have hF := hF.trans (pz_be hF_10)
            exact W.iret (v := r_10) hx hb hr (fun t ht hW => ⟨⟨r_10, (), rfl, hF.symm, pz_hp ht hP⟩, hS.F ht⟩) hS.2.2 dX3_about_79 hlocks
          · have hF := hF.trans (if_neg c_9)
            have ho : pz_off (65) (0) (3) #[29, 38, 47, 56] x2 = 65 := by
              unfold pz_off
              split
              · rfl
              · have hz : (x2).toInt = 0 ∨ (x2).toInt = 1 ∨ (x2).toInt = 2 ∨ (x2).toInt = 3 := by omega
                rcases hz with hz | hz | hz | hz
                · exact absurd (Int32.toInt_inj.mp (hz.trans (show (0 : Int) = (0 : Int32).toInt from rfl))) c_3
                · exact absurd (Int32.toInt_inj.mp (hz.trans (show (1 : Int) = (1 : Int32).toInt from rfl))) c_5
                · exact absurd (Int32.toInt_inj.mp (hz.trans (show (2 : Int) = (2 : Int32).toInt from rfl))) c_7
                · exact absurd (Int32.toInt_inj.mp (hz.trans (show (3 : Int) = (3 : Int32).toInt from rfl))) c_9
            refine pz_table (tgt := 80) hx hb dX3_about_15 rfl ho (by decide) ?_
            refine lv_bipush (v := (-3)) hx hb dX3_about_80 (by decide) ?_
            exact W.iret (v := (-3)) hx hb hr (fun t ht hW => ⟨⟨(-3), (), rfl, hF.symm, pz_hp ht hP⟩, hS.F ht⟩) hS.2.2 dX3_about_82 hlocks
  · have hF := hF.trans (if_pos c_2)
    refine lv_bipush (v := (-2)) hx hb dX3_about_11 (by decide) ?_
    exact W.iret (v := (-2)) hx hb hr (fun t ht hW => ⟨⟨(-2), (), rfl, hF.symm, pz_hp ht hP⟩, hS.F ht⟩) hS.2.2 dX3_about_13 hlocks

-- == X3_value
def f_X3_value (cnt : Int32) (tables : Nat → Int64) (x1 : Int32) (x2 : Int32) : Int32 := pz_bnd (f_X1_has cnt x1) (fun z_1 => if z_1 = 0 then ((-2)) else (if x2 < 0 then ((-3)) else (if x2 < 64 then (pz_bnd (f_X1_tableOf cnt tables x1) (fun z_5 => ((((((z_5).toUInt64 >>> ((x2 : Int32).toInt64.toUInt64 &&& Int64.toUInt64 63)).toInt64) &&& 1)).toInt32))) else ((-3)))))
theorem fl_X3_value_10 : Cond.fieldLink RX3 10 "BoxProofs" "known" "LBoxProofs$Formulas;" ∈ wsX3_value := by decide +kernel
theorem in_X3_value_X3 : ∀ w ∈ wsX30, w ∈ wsX3_value := by decide +kernel
set_option maxHeartbeats 4000000 in
set_option maxRecDepth 100000 in
theorem c_X3_value (l : Launch) (D : va_G) (q : Nat → Nat) (k : Nat → ClassId) (t : Nat → Nat) (cnt : Int32) (kinds : Nat → Int32) (firsts : Nat → Int32) (seconds : Nat → Int32) (heights : Nat → Int32) (tables : Nat → Int64) (replaced : Nat → Int32) (laid : Nat → Int32) (rules : Nat → Int32) (ps : Nat → Int32) (qs : Nat → Int32) (rs : Nat → Int32) (fs : Nat → Int32) (frules : Nat → Int32) (heads : Nat → Int32) (ends : Nat → Int32) (inforce : Nat → Int32) (usable : Nat → Int32) (summ : Nat → Int32) (x1 : Int32) (x2 : Int32) (hc : pz_c cnt) : Met l yX3_value wsX3_value ({ frames := 2, cells := 0, slots := 0, locals := 42 }) (va_Pc [.ref (q 0), .int (x1), .int (x2)] (fun U => va_P D vwCl (pz_X q k cnt kinds firsts seconds heights tables replaced laid rules ps qs rs fs frules heads ends inforce usable summ) U.heap ∧ pz_KX D q k t U)) (va_Qi (fun r (_ : Unit) => r = (f_X3_value cnt tables x1 x2)) (fun _ t => va_P D vwCl (pz_X q k cnt kinds firsts seconds heights tables replaced laid rules ps qs rs fs frules heads ends inforce usable summ) t.heap) (pz_A 22 q)) 0 0 (pz_A 22 q) := by
  refine Met.ofW (cc := cX3_value) (maxL := 3) (ret := (some .int)) (by decide) rfl ?_
  intro p e s m args below meth c s₁ B hml hv
  obtain ⟨rfl, hP, hKX⟩ := hv
  have hx := B.exec
  have hb := B.bytes
  have hr := B.returns
  have hts := atoms_spec (ws := wsX3_value) B.pre
  have hown : s.vm.findClass RX3 = some m.cls := findClass_of_methodNamed B.named
  have hlocks := B.notSynchronized
  have hC : pz_C p s m ([.ref (q 0), .int (x1), .int (x2)] : List Value).toArray meth c cX3_value wsX3_value RX3 3 (some .int) := ⟨hx, hb, hml, hown, hts, hr, hlocks⟩
  have hK := hKX.1
  have hS : va_S (pz_A 22 q) s.heap s.heap [] := va_S.rf
  have hl := lv_entry [.ref (q 0), .int (x1), .int (x2)] (n := 3) (Nat.le_of_ble_eq_true rfl)
  rw [lg_entry_eq]
  generalize (lg_sl [.ref (q 0), .int (x1), .int (x2)] ++ List.replicate (3 - (lg_sl [.ref (q 0), .int (x1), .int (x2)]).length) Slot.unset).toArray = ls at hl ⊢
  have hl : lv_has ls 3 [(0, .ref (q 0)), (1, .int (x1)), (2, .int (x2))] := hl
  generalize hF : f_X3_value cnt tables x1 x2 = G
  replace hF := hF.symm
  unfold f_X3_value at hF
  refine lv_aload_n hx hb dX3_value_0 rfl (lv_at hl 0 rfl) ?_
  refine va_get (D := D) (ci := 3) (v := .ref (q 1)) (C := RX3) (T := TX3) (N := 3) hx hb hts in_X3_value_X3 hown hK hP 0 rfl rfl 0 (by decide) (hts _ fl_X3_value_10) (fun _ h9 => h9) rfl dX3_value_1 ?_
  refine lv_iload_n hx hb dX3_value_4 rfl (lv_at hl 1 rfl) ?_
  refine pz_Vi (As := [.int (x1)]) (rest := []) ⟨hx, hb, hml, hown, hts⟩ (c_X1_has l D q k t cnt kinds firsts seconds heights tables replaced laid rules ps qs rs fs frules heads ends inforce usable summ x1) (cwV 1 hts gX3_value_X1_has rfl rfl rfl hdV_X1_has ⟨Nat.le_of_ble_eq_true rfl, Nat.le_of_ble_eq_true rfl⟩) pz_KX.call (hKX.go hS) (va_recv hK hP (ci := 1) (q0 := 1) rfl rfl) hP hS rfl hl.1 rfl (Nat.le_of_ble_eq_true rfl) dX3_value_5 ⟨Nat.zero_le _, Nat.zero_le _⟩ (fun r_1 u_1 H locs hF_1 hP hS => ?_)
  have hF := hF.trans (pz_be hF_1)
  refine lv_if_ne (tgt := 14) hx hb dX3_value_8 (by decide) (fun c_2 => ?_) (fun c_2 => ?_)
  · have hF := hF.trans (if_neg c_2)
    refine lv_iload_n hx hb dX3_value_14 rfl (lv_at hl 2 rfl) ?_
    refine lv_if_lt (tgt := 24) hx hb dX3_value_15 (by decide) (fun c_3 => ?_) (fun c_3 => ?_)
    · have hF := hF.trans (if_pos c_3)
      refine lv_bipush (v := (-3)) hx hb dX3_value_24 (by decide) ?_
      exact W.iret (v := (-3)) hx hb hr (fun t ht hW => ⟨⟨(-3), (), rfl, hF.symm, pz_hp ht hP⟩, hS.F ht⟩) hS.2.2 dX3_value_26 hlocks
    · have hF := hF.trans (if_neg c_3)
      refine lv_iload_n hx hb dX3_value_18 rfl (lv_at hl 2 rfl) ?_
      refine lv_bipush (v := 64) hx hb dX3_value_19 (by decide) ?_
      refine lv_icmp_lt (tgt := 27) hx hb dX3_value_21 (by decide) (fun c_4 => ?_) (fun c_4 => ?_)
      · have hF := hF.trans (if_pos c_4)
        refine lv_aload_n hx hb dX3_value_27 rfl (lv_at hl 0 rfl) ?_
        refine va_get (D := D) (ci := 3) (v := .ref (q 1)) (C := RX3) (T := TX3) (N := 3) hx hb hts in_X3_value_X3 hown hK hP 0 rfl rfl 0 (by decide) (hts _ fl_X3_value_10) (fun _ h9 => h9) rfl dX3_value_28 ?_
        refine lv_iload_n hx hb dX3_value_31 rfl (lv_at hl 1 rfl) ?_
        refine pz_Vl (As := [.int (x1)]) (rest := []) ⟨hx, hb, hml, hown, hts⟩ (c_X1_tableOf l D q k t cnt kinds firsts seconds heights tables replaced laid rules ps qs rs fs frules heads ends inforce usable summ x1 hc) (cwV 1 hts gX3_value_X1_tableOf rfl rfl rfl hdV_X1_tableOf ⟨Nat.le_of_ble_eq_true rfl, Nat.le_of_ble_eq_true rfl⟩) pz_KX.call (hKX.go hS) (va_recv hK hP (ci := 1) (q0 := 1) rfl rfl) hP hS rfl hl.1 rfl (Nat.le_of_ble_eq_true rfl) dX3_value_32 ⟨Nat.zero_le _, Nat.zero_le _⟩ (fun r_5 u_5 H locs hF_5 hP hS => ?_)
        have hF := hF.trans (pz_be hF_5)
        refine lv_iload_n hx hb dX3_value_35 rfl (lv_at hl 2 rfl) ?_
        refine lv_lushr (v := ((r_5).toUInt64 >>> ((x2 : Int32).toInt64.toUInt64 &&& Int64.toUInt64 63)).toInt64) hx hb dX3_value_36 rfl ?_
        refine lv_lconst (v := 1) hx hb dX3_value_37 (by decide) ?_
        refine lv_land hx hb dX3_value_38 ?_
        refine lv_l2i (v := (((((r_5).toUInt64 >>> ((x2 : Int32).toInt64.toUInt64 &&& Int64.toUInt64 63)).toInt64) &&& 1)).toInt32) hx hb dX3_value_39 rfl ?_
        exact W.iret (v := ((((((r_5).toUInt64 >>> ((x2 : Int32).toInt64.toUInt64 &&& Int64.toUInt64 63)).toInt64) &&& 1)).toInt32)) hx hb hr (fun t ht hW => ⟨⟨((((((r_5).toUInt64 >>> ((x2 : Int32).toInt64.toUInt64 &&& Int64.toUInt64 63)).toInt64) &&& 1)).toInt32), (), rfl, hF.symm, pz_hp ht hP⟩, hS.F ht⟩) hS.2.2 dX3_value_40 hlocks
      · have hF := hF.trans (if_neg c_4)
        refine lv_bipush (v := (-3)) hx hb dX3_value_24 (by decide) ?_
        exact W.iret (v := (-3)) hx hb hr (fun t ht hW => ⟨⟨(-3), (), rfl, hF.symm, pz_hp ht hP⟩, hS.F ht⟩) hS.2.2 dX3_value_26 hlocks
  · have hF := hF.trans (if_pos c_2)
    refine lv_bipush (v := (-2)) hx hb dX3_value_11 (by decide) ?_
    exact W.iret (v := (-2)) hx hb hr (fun t ht hW => ⟨⟨(-2), (), rfl, hF.symm, pz_hp ht hP⟩, hS.F ht⟩) hS.2.2 dX3_value_13 hlocks

-- == X3_truths
def f_X3_truths (cnt : Int32) (tables : Nat → Int64) (x1 : Int32) : Int32 := pz_bnd (f_X1_has cnt x1) (fun z_1 => if z_1 = 0 then ((-2)) else (pz_bnd (f_X1_tableOf cnt tables x1) (fun z_3 => pz_bnd (f_J13_bitCount_95d88 z_3) (fun z_4 => z_4))))
theorem fl_X3_truths_10 : Cond.fieldLink RX3 10 "BoxProofs" "known" "LBoxProofs$Formulas;" ∈ wsX3_truths := by decide +kernel
theorem hdS_J13_bitCount_95d88 : yJ13_bitCount_95d88.cls ≠ "java/lang/invoke/MethodHandle" ∧ yJ13_bitCount_95d88.cls ≠ "java/lang/invoke/VarHandle" ∧ (parseMethodDescriptor yJ13_bitCount_95d88.desc).map (fun d => d.parameters.length) = some 1 := by decide +kernel
theorem in_X3_truths_X3 : ∀ w ∈ wsX30, w ∈ wsX3_truths := by decide +kernel
set_option maxHeartbeats 4000000 in
set_option maxRecDepth 100000 in
theorem c_X3_truths (l : Launch) (D : va_G) (q : Nat → Nat) (k : Nat → ClassId) (t : Nat → Nat) (cnt : Int32) (kinds : Nat → Int32) (firsts : Nat → Int32) (seconds : Nat → Int32) (heights : Nat → Int32) (tables : Nat → Int64) (replaced : Nat → Int32) (laid : Nat → Int32) (rules : Nat → Int32) (ps : Nat → Int32) (qs : Nat → Int32) (rs : Nat → Int32) (fs : Nat → Int32) (frules : Nat → Int32) (heads : Nat → Int32) (ends : Nat → Int32) (inforce : Nat → Int32) (usable : Nat → Int32) (summ : Nat → Int32) (x1 : Int32) (hc : pz_c cnt) : Met l yX3_truths wsX3_truths ({ frames := 2, cells := 0, slots := 0, locals := 42 }) (va_Pc [.ref (q 0), .int (x1)] (fun U => va_P D vwCl (pz_X q k cnt kinds firsts seconds heights tables replaced laid rules ps qs rs fs frules heads ends inforce usable summ) U.heap ∧ pz_KX D q k t U)) (va_Qi (fun r (_ : Unit) => r = (f_X3_truths cnt tables x1)) (fun _ t => va_P D vwCl (pz_X q k cnt kinds firsts seconds heights tables replaced laid rules ps qs rs fs frules heads ends inforce usable summ) t.heap) (pz_A 22 q)) 0 0 (pz_A 22 q) := by
  refine Met.ofW (cc := cX3_truths) (maxL := 2) (ret := (some .int)) (by decide) rfl ?_
  intro p e s m args below meth c s₁ B hml hv
  obtain ⟨rfl, hP, hKX⟩ := hv
  have hx := B.exec
  have hb := B.bytes
  have hr := B.returns
  have hts := atoms_spec (ws := wsX3_truths) B.pre
  have hown : s.vm.findClass RX3 = some m.cls := findClass_of_methodNamed B.named
  have hlocks := B.notSynchronized
  have hC : pz_C p s m ([.ref (q 0), .int (x1)] : List Value).toArray meth c cX3_truths wsX3_truths RX3 2 (some .int) := ⟨hx, hb, hml, hown, hts, hr, hlocks⟩
  have hK := hKX.1
  have hS : va_S (pz_A 22 q) s.heap s.heap [] := va_S.rf
  have hl := lv_entry [.ref (q 0), .int (x1)] (n := 2) (Nat.le_of_ble_eq_true rfl)
  rw [lg_entry_eq]
  generalize (lg_sl [.ref (q 0), .int (x1)] ++ List.replicate (2 - (lg_sl [.ref (q 0), .int (x1)]).length) Slot.unset).toArray = ls at hl ⊢
  have hl : lv_has ls 2 [(0, .ref (q 0)), (1, .int (x1))] := hl
  generalize hF : f_X3_truths cnt tables x1 = G
  replace hF := hF.symm
  unfold f_X3_truths at hF
  refine lv_aload_n hx hb dX3_truths_0 rfl (lv_at hl 0 rfl) ?_
  refine va_get (D := D) (ci := 3) (v := .ref (q 1)) (C := RX3) (T := TX3) (N := 3) hx hb hts in_X3_truths_X3 hown hK hP 0 rfl rfl 0 (by decide) (hts _ fl_X3_truths_10) (fun _ h9 => h9) rfl dX3_truths_1 ?_
  refine lv_iload_n hx hb dX3_truths_4 rfl (lv_at hl 1 rfl) ?_
  refine pz_Vi (As := [.int (x1)]) (rest := []) ⟨hx, hb, hml, hown, hts⟩ (c_X1_has l D q k t cnt kinds firsts seconds heights tables replaced laid rules ps qs rs fs frules heads ends inforce usable summ x1) (cwV 1 hts gX3_truths_X1_has rfl rfl rfl hdV_X1_has ⟨Nat.le_of_ble_eq_true rfl, Nat.le_of_ble_eq_true rfl⟩) pz_KX.call (hKX.go hS) (va_recv hK hP (ci := 1) (q0 := 1) rfl rfl) hP hS rfl hl.1 rfl (Nat.le_of_ble_eq_true rfl) dX3_truths_5 ⟨Nat.zero_le _, Nat.zero_le _⟩ (fun r_1 u_1 H locs hF_1 hP hS => ?_)
  have hF := hF.trans (pz_be hF_1)
  refine lv_if_eq (tgt := 25) hx hb dX3_truths_8 (by decide) (fun c_2 => ?_) (fun c_2 => ?_)
  · have hF := hF.trans (if_pos c_2)
    refine lv_bipush (v := (-2)) hx hb dX3_truths_25 (by decide) ?_
    exact W.iret (v := (-2)) hx hb hr (fun t ht hW => ⟨⟨(-2), (), rfl, hF.symm, pz_hp ht hP⟩, hS.F ht⟩) hS.2.2 dX3_truths_27 hlocks
  · have hF := hF.trans (if_neg c_2)
    refine lv_aload_n hx hb dX3_truths_11 rfl (lv_at hl 0 rfl) ?_
    refine va_get (D := D) (ci := 3) (v := .ref (q 1)) (C := RX3) (T := TX3) (N := 3) hx hb hts in_X3_truths_X3 hown hK hP 0 rfl rfl 0 (by decide) (hts _ fl_X3_truths_10) (fun _ h9 => h9) rfl dX3_truths_12 ?_
    refine lv_iload_n hx hb dX3_truths_15 rfl (lv_at hl 1 rfl) ?_
    refine pz_Vl (As := [.int (x1)]) (rest := []) ⟨hx, hb, hml, hown, hts⟩ (c_X1_tableOf l D q k t cnt kinds firsts seconds heights tables replaced laid rules ps qs rs fs frules heads ends inforce usable summ x1 hc) (cwV 1 hts gX3_truths_X1_tableOf rfl rfl rfl hdV_X1_tableOf ⟨Nat.le_of_ble_eq_true rfl, Nat.le_of_ble_eq_true rfl⟩) pz_KX.call (hKX.go hS) (va_recv hK hP (ci := 1) (q0 := 1) rfl rfl) hP hS rfl hl.1 rfl (Nat.le_of_ble_eq_true rfl) dX3_truths_16 ⟨Nat.zero_le _, Nat.zero_le _⟩ (fun r_3 u_3 H locs hF_3 hP hS => ?_)
    have hF := hF.trans (pz_be hF_3)
    refine pz_Si (As := [.long (r_3)]) (rest := []) ⟨hx, hb, hml, hown, hts⟩ (c_J13_bitCount_95d88 l r_3) (va_cwS 1 hts gX3_truths_J13_bitCount_95d88 rfl rfl rfl hdS_J13_bitCount_95d88 ⟨Nat.le_of_ble_eq_true rfl, Nat.le_of_ble_eq_true rfl⟩) hP hS rfl hl.1 rfl (Nat.le_of_ble_eq_true rfl) dX3_truths_19 ⟨Nat.zero_le _, Nat.zero_le _⟩ (fun r_4 H locs hF_4 hP hS => ?_)
    have hF := hF.trans (pz_be hF_4)
    refine lv_goto (tgt := 27) hx hb dX3_truths_22 (by decide) ?_
    exact W.iret (v := r_4) hx hb hr (fun t ht hW => ⟨⟨r_4, (), rfl, hF.symm, pz_hp ht hP⟩, hS.F ht⟩) hS.2.2 dX3_truths_27 hlocks

-- == X3_instead
def f_X3_instead (cnt : Int32) (kinds : Nat → Int32) (firsts : Nat → Int32) (seconds : Nat → Int32) (heights : Nat → Int32) (tables : Nat → Int64) (replaced : Nat → Int32) (x1 : Int32) (x2 : Int32) (x3 : Int32) : Int32 × (Int32) × (Nat → Int32) × (Nat → Int32) × (Nat → Int32) × (Nat → Int32) × (Nat → Int64) × (Nat → Int32) := pz_bnd (f_X1_has cnt x1) (fun z_1 => if z_1 = 0 then (((-2), cnt, kinds, firsts, seconds, heights, tables, replaced)) else (pz_bnd (f_X1_has cnt x3) (fun z_3 => if z_3 = 0 then (((-2), cnt, kinds, firsts, seconds, heights, tables, replaced)) else (pz_bnd (f_X3_isLetter x2) (fun z_5 => if z_5 = 0 then (((-3), cnt, kinds, firsts, seconds, heights, tables, replaced)) else (pz_bnd (f_X1_replace cnt kinds firsts seconds heights tables replaced x1 x2 x3) (fun z_7 => (z_7.1, z_7.2.1, z_7.2.2.1, z_7.2.2.2.1, z_7.2.2.2.2.1, z_7.2.2.2.2.2.1, z_7.2.2.2.2.2.2.1, z_7.2.2.2.2.2.2.2))))))))
theorem fl_X3_instead_10 : Cond.fieldLink RX3 10 "BoxProofs" "known" "LBoxProofs$Formulas;" ∈ wsX3_instead := by decide +kernel
theorem hdV_X1_replace : yX1_replace.cls = RX1 ∧ yX1_replace.cls ≠ "java/lang/invoke/MethodHandle" ∧ yX1_replace.cls ≠ "java/lang/invoke/VarHandle" ∧ (parseMethodDescriptor yX1_replace.desc).map (fun d => d.parameters.length) = some 3 := by decide +kernel
theorem in_X3_instead_X3 : ∀ w ∈ wsX30, w ∈ wsX3_instead := by decide +kernel
set_option maxHeartbeats 4000000 in
set_option maxRecDepth 100000 in
theorem c_X3_instead (l : Launch) (D : va_G) (q : Nat → Nat) (k : Nat → ClassId) (t : Nat → Nat) (cnt : Int32) (kinds : Nat → Int32) (firsts : Nat → Int32) (seconds : Nat → Int32) (heights : Nat → Int32) (tables : Nat → Int64) (replaced : Nat → Int32) (laid : Nat → Int32) (rules : Nat → Int32) (ps : Nat → Int32) (qs : Nat → Int32) (rs : Nat → Int32) (fs : Nat → Int32) (frules : Nat → Int32) (heads : Nat → Int32) (ends : Nat → Int32) (inforce : Nat → Int32) (usable : Nat → Int32) (summ : Nat → Int32) (x1 : Int32) (x2 : Int32) (x3 : Int32) (hc : pz_c cnt) : Met l yX3_instead wsX3_instead ({ frames := 19, cells := 0, slots := 0, locals := 451 }) (va_Pc [.ref (q 0), .int (x1), .int (x2), .int (x3)] (fun U => va_P D vwCl (pz_X q k cnt kinds firsts seconds heights tables replaced laid rules ps qs rs fs frules heads ends inforce usable summ) U.heap ∧ pz_KX D q k t U)) (va_Qi (fun r (u : (Int32) × (Nat → Int32) × (Nat → Int32) × (Nat → Int32) × (Nat → Int32) × (Nat → Int64) × (Nat → Int32)) => (r, u) = (f_X3_instead cnt kinds firsts seconds heights tables replaced x1 x2 x3)) (fun u t => va_P D vwCl (pz_X q k u.1 u.2.1 u.2.2.1 u.2.2.2.1 u.2.2.2.2.1 u.2.2.2.2.2.1 u.2.2.2.2.2.2 laid rules ps qs rs fs frules heads ends inforce usable summ) t.heap) (pz_A 22 q)) 0 0 (pz_A 22 q) := by
  refine Met.ofW (cc := cX3_instead) (maxL := 4) (ret := (some .int)) (by decide) rfl ?_
  intro p e s m args below meth c s₁ B hml hv
  obtain ⟨rfl, hP, hKX⟩ := hv
  have hx := B.exec
  have hb := B.bytes
  have hr := B.returns
  have hts := atoms_spec (ws := wsX3_instead) B.pre
  have hown : s.vm.findClass RX3 = some m.cls := findClass_of_methodNamed B.named
  have hlocks := B.notSynchronized
  have hC : pz_C p s m ([.ref (q 0), .int (x1), .int (x2), .int (x3)] : List Value).toArray meth c cX3_instead wsX3_instead RX3 4 (some .int) := ⟨hx, hb, hml, hown, hts, hr, hlocks⟩
  have hK := hKX.1
  have hS : va_S (pz_A 22 q) s.heap s.heap [] := va_S.rf
  have hl := lv_entry [.ref (q 0), .int (x1), .int (x2), .int (x3)] (n := 4) (Nat.le_of_ble_eq_true rfl)
  rw [lg_entry_eq]
  generalize (lg_sl [.ref (q 0), .int (x1), .int (x2), .int (x3)] ++ List.replicate (4 - (lg_sl [.ref (q 0), .int (x1), .int (x2), .int (x3)]).length) Slot.unset).toArray = ls at hl ⊢
  have hl : lv_has ls 4 [(0, .ref (q 0)), (1, .int (x1)), (2, .int (x2)), (3, .int (x3))] := hl
  generalize hF : f_X3_instead cnt kinds firsts seconds heights tables replaced x1 x2 x3 = G
  replace hF := hF.symm
  unfold f_X3_instead at hF
  refine lv_aload_n hx hb dX3_instead_0 rfl (lv_at hl 0 rfl) ?_
  refine va_get (D := D) (ci := 3) (v := .ref (q 1)) (C := RX3) (T := TX3) (N := 3) hx hb hts in_X3_instead_X3 hown hK hP 0 rfl rfl 0 (by decide) (hts _ fl_X3_instead_10) (fun _ h9 => h9) rfl dX3_instead_1 ?_
  refine lv_iload_n hx hb dX3_instead_4 rfl (lv_at hl 1 rfl) ?_
  refine pz_Vi (As := [.int (x1)]) (rest := []) ⟨hx, hb, hml, hown, hts⟩ (c_X1_has l D q k t cnt kinds firsts seconds heights tables replaced laid rules ps qs rs fs frules heads ends inforce usable summ x1) (cwV 1 hts gX3_instead_X1_has rfl rfl rfl hdV_X1_has ⟨Nat.le_of_ble_eq_true rfl, Nat.le_of_ble_eq_true rfl⟩) pz_KX.call (hKX.go hS) (va_recv hK hP (ci := 1) (q0 := 1) rfl rfl) hP hS rfl hl.1 rfl (Nat.le_of_ble_eq_true rfl) dX3_instead_5 ⟨Nat.zero_le _, Nat.zero_le _⟩ (fun r_1 u_1 H locs hF_1 hP hS => ?_)
  have hF := hF.trans (pz_be hF_1)
  refine lv_if_eq (tgt := 22) hx hb dX3_instead_8 (by decide) (fun c_2 => ?_) (fun c_2 => ?_)
  · have hF := hF.trans (if_pos c_2)
    refine lv_bipush (v := (-2)) hx hb dX3_instead_22 (by decide) ?_
    exact W.iret (v := (-2)) hx hb hr (fun t ht hW => ⟨⟨(-2), (cnt, kinds, firsts, seconds, heights, tables, replaced), rfl, hF.symm, pz_hp ht hP⟩, hS.F ht⟩) hS.2.2 dX3_instead_24 hlocks
  · have hF := hF.trans (if_neg c_2)
    refine lv_aload_n hx hb dX3_instead_11 rfl (lv_at hl 0 rfl) ?_
    refine va_get (D := D) (ci := 3) (v := .ref (q 1)) (C := RX3) (T := TX3) (N := 3) hx hb hts in_X3_instead_X3 hown hK hP 0 rfl rfl 0 (by decide) (hts _ fl_X3_instead_10) (fun _ h9 => h9) rfl dX3_instead_12 ?_
    refine lv_iload_n hx hb dX3_instead_15 rfl (lv_at hl 3 rfl) ?_
    refine pz_Vi (As := [.int (x3)]) (rest := []) ⟨hx, hb, hml, hown, hts⟩ (c_X1_has l D q k t cnt kinds firsts seconds heights tables replaced laid rules ps qs rs fs frules heads ends inforce usable summ x3) (cwV 1 hts gX3_instead_X1_has rfl rfl rfl hdV_X1_has ⟨Nat.le_of_ble_eq_true rfl, Nat.le_of_ble_eq_true rfl⟩) pz_KX.call (hKX.go hS) (va_recv hK hP (ci := 1) (q0 := 1) rfl rfl) hP hS rfl hl.1 rfl (Nat.le_of_ble_eq_true rfl) dX3_instead_16 ⟨Nat.zero_le _, Nat.zero_le _⟩ (fun r_3 u_3 H locs hF_3 hP hS => ?_)
    have hF := hF.trans (pz_be hF_3)
    refine lv_if_ne (tgt := 25) hx hb dX3_instead_19 (by decide) (fun c_4 => ?_) (fun c_4 => ?_)
    · have hF := hF.trans (if_neg c_4)
      refine lv_iload_n hx hb dX3_instead_25 rfl (lv_at hl 2 rfl) ?_
      refine pz_Si (As := [.int (x2)]) (rest := []) ⟨hx, hb, hml, hown, hts⟩ (c_X3_isLetter l x2) (va_cwS 1 hts gX3_instead_X3_isLetter rfl rfl rfl hdS_X3_isLetter ⟨Nat.le_of_ble_eq_true rfl, Nat.le_of_ble_eq_true rfl⟩) hP hS rfl hl.1 rfl (Nat.le_of_ble_eq_true rfl) dX3_instead_26 ⟨Nat.zero_le _, Nat.zero_le _⟩ (fun r_5 H locs hF_5 hP hS => ?_)
      have hF := hF.trans (pz_be hF_5)
      refine lv_if_eq (tgt := 45) hx hb dX3_instead_29 (by decide) (fun c_6 => ?_) (fun c_6 => ?_)
      · have hF := hF.trans (if_pos c_6)
        refine lv_bipush (v := (-3)) hx hb dX3_instead_45 (by decide) ?_
        exact W.iret (v := (-3)) hx hb hr (fun t ht hW => ⟨⟨(-3), (cnt, kinds, firsts, seconds, heights, tables, replaced), rfl, hF.symm, pz_hp ht hP⟩, hS.F ht⟩) hS.2.2 dX3_instead_47 hlocks
      · have hF := hF.trans (if_neg c_6)
        refine lv_aload_n hx hb dX3_instead_32 rfl (lv_at hl 0 rfl) ?_
        refine va_get (D := D) (ci := 3) (v := .ref (q 1)) (C := RX3) (T := TX3) (N := 3) hx hb hts in_X3_instead_X3 hown hK hP 0 rfl rfl 0 (by decide) (hts _ fl_X3_instead_10) (fun _ h9 => h9) rfl dX3_instead_33 ?_
        refine lv_iload_n hx hb dX3_instead_36 rfl (lv_at hl 1 rfl) ?_
        refine lv_iload_n hx hb dX3_instead_37 rfl (lv_at hl 2 rfl) ?_
        refine lv_iload_n hx hb dX3_instead_38 rfl (lv_at hl 3 rfl) ?_
        refine pz_Vi (As := [.int (x1), .int (x2), .int (x3)]) (rest := []) ⟨hx, hb, hml, hown, hts⟩ (c_X1_replace l D q k t cnt kinds firsts seconds heights tables replaced laid rules ps qs rs fs frules heads ends inforce usable summ x1 x2 x3 hc) (cwV 3 hts gX3_instead_X1_replace rfl rfl rfl hdV_X1_replace ⟨Nat.le_of_ble_eq_true rfl, Nat.le_of_ble_eq_true rfl⟩) pz_KX.call (hKX.go hS) (va_recv hK hP (ci := 1) (q0 := 1) rfl rfl) hP hS rfl hl.1 rfl (Nat.le_of_ble_eq_true rfl) dX3_instead_39 ⟨Nat.zero_le _, Nat.zero_le _⟩ (fun r_7 u_7 H locs hF_7 hP hS => ?_)
        obtain ⟨w_7_cnt, w_7_kinds, w_7_firsts, w_7_seconds, w_7_heights, w_7_tables, w_7_replaced⟩ := u_7
        have hP : va_P D vwCl (pz_X q k w_7_cnt w_7_kinds w_7_firsts w_7_seconds w_7_heights w_7_tables w_7_replaced laid rules ps qs rs fs frules heads ends inforce usable summ) H := hP
        have hF := hF.trans (pz_be hF_7)
        try dsimp only at hF
        refine lv_goto (tgt := 47) hx hb dX3_instead_42 (by decide) ?_
        exact W.iret (v := r_7) hx hb hr (fun t ht hW => ⟨⟨r_7, (w_7_cnt, w_7_kinds, w_7_firsts, w_7_seconds, w_7_heights, w_7_tables, w_7_replaced), rfl, hF.symm, pz_hp ht hP⟩, hS.F ht⟩) hS.2.2 dX3_instead_47 hlocks
    · have hF := hF.trans (if_pos c_4)
      refine lv_bipush (v := (-2)) hx hb dX3_instead_22 (by decide) ?_
      exact W.iret (v := (-2)) hx hb hr (fun t ht hW => ⟨⟨(-2), (cnt, kinds, firsts, seconds, heights, tables, replaced), rfl, hF.symm, pz_hp ht hP⟩, hS.F ht⟩) hS.2.2 dX3_instead_24 hlocks

-- == X3_lay
def f_X3_lay (laid : Nat → Int32) (rules : Nat → Int32) (ps : Nat → Int32) (qs : Nat → Int32) (rs : Nat → Int32) (fs : Nat → Int32) (x1 : Int32) (x2 : Int32) (x3 : Int32) (x4 : Int32) (x5 : Int32) (x6 : Int32) : Int32 × (Nat → Int32) × (Nat → Int32) × (Nat → Int32) × (Nat → Int32) × (Nat → Int32) × (Nat → Int32) := pz_bnd (f_X3_isLine x1) (fun z_1 => if z_1 = 0 then (((-3), laid, rules, ps, qs, rs, fs)) else (pz_bnd (f_X2_isLaid laid x1) (fun z_3 => pz_bnd (f_X2_put laid rules ps qs rs fs x1 x2 x3 x4 x5 x6) (fun z_4 => if z_3 = 0 then ((1, z_4.1, z_4.2.1, z_4.2.2.1, z_4.2.2.2.1, z_4.2.2.2.2.1, z_4.2.2.2.2.2)) else ((0, z_4.1, z_4.2.1, z_4.2.2.1, z_4.2.2.2.1, z_4.2.2.2.2.1, z_4.2.2.2.2.2))))))
theorem fl_X3_lay_19 : Cond.fieldLink RX3 19 "BoxProofs" "proof" "LBoxProofs$Lines;" ∈ wsX3_lay := by decide +kernel
theorem hdV_X2_isLaid : yX2_isLaid.cls = RX2 ∧ yX2_isLaid.cls ≠ "java/lang/invoke/MethodHandle" ∧ yX2_isLaid.cls ≠ "java/lang/invoke/VarHandle" ∧ (parseMethodDescriptor yX2_isLaid.desc).map (fun d => d.parameters.length) = some 1 := by decide +kernel
theorem hdV_X2_put : yX2_put.cls = RX2 ∧ yX2_put.cls ≠ "java/lang/invoke/MethodHandle" ∧ yX2_put.cls ≠ "java/lang/invoke/VarHandle" ∧ (parseMethodDescriptor yX2_put.desc).map (fun d => d.parameters.length) = some 6 := by decide +kernel
theorem in_X3_lay_X3 : ∀ w ∈ wsX30, w ∈ wsX3_lay := by decide +kernel
set_option maxHeartbeats 4000000 in
set_option maxRecDepth 100000 in
theorem c_X3_lay (l : Launch) (D : va_G) (q : Nat → Nat) (k : Nat → ClassId) (t : Nat → Nat) (cnt : Int32) (kinds : Nat → Int32) (firsts : Nat → Int32) (seconds : Nat → Int32) (heights : Nat → Int32) (tables : Nat → Int64) (replaced : Nat → Int32) (laid : Nat → Int32) (rules : Nat → Int32) (ps : Nat → Int32) (qs : Nat → Int32) (rs : Nat → Int32) (fs : Nat → Int32) (frules : Nat → Int32) (heads : Nat → Int32) (ends : Nat → Int32) (inforce : Nat → Int32) (usable : Nat → Int32) (summ : Nat → Int32) (x1 : Int32) (x2 : Int32) (x3 : Int32) (x4 : Int32) (x5 : Int32) (x6 : Int32)  : Met l yX3_lay wsX3_lay ({ frames := 2, cells := 0, slots := 0, locals := 46 }) (va_Pc [.ref (q 0), .int (x1), .int (x2), .int (x3), .int (x4), .int (x5), .int (x6)] (fun U => va_P D vwCl (pz_X q k cnt kinds firsts seconds heights tables replaced laid rules ps qs rs fs frules heads ends inforce usable summ) U.heap ∧ pz_KX D q k t U)) (va_Qi (fun r (u : (Nat → Int32) × (Nat → Int32) × (Nat → Int32) × (Nat → Int32) × (Nat → Int32) × (Nat → Int32)) => (r, u) = (f_X3_lay laid rules ps qs rs fs x1 x2 x3 x4 x5 x6)) (fun u t => va_P D vwCl (pz_X q k cnt kinds firsts seconds heights tables replaced u.1 u.2.1 u.2.2.1 u.2.2.2.1 u.2.2.2.2.1 u.2.2.2.2.2 frules heads ends inforce usable summ) t.heap) (pz_A 22 q)) 0 0 (pz_A 22 q) := by
  refine Met.ofW (cc := cX3_lay) (maxL := 8) (ret := (some .int)) (by decide) rfl ?_
  intro p e s m args below meth c s₁ B hml hv
  obtain ⟨rfl, hP, hKX⟩ := hv
  have hx := B.exec
  have hb := B.bytes
  have hr := B.returns
  have hts := atoms_spec (ws := wsX3_lay) B.pre
  have hown : s.vm.findClass RX3 = some m.cls := findClass_of_methodNamed B.named
  have hlocks := B.notSynchronized
  have hC : pz_C p s m ([.ref (q 0), .int (x1), .int (x2), .int (x3), .int (x4), .int (x5), .int (x6)] : List Value).toArray meth c cX3_lay wsX3_lay RX3 8 (some .int) := ⟨hx, hb, hml, hown, hts, hr, hlocks⟩
  have hK := hKX.1
  have hS : va_S (pz_A 22 q) s.heap s.heap [] := va_S.rf
  have hl := lv_entry [.ref (q 0), .int (x1), .int (x2), .int (x3), .int (x4), .int (x5), .int (x6)] (n := 8) (Nat.le_of_ble_eq_true rfl)
  rw [lg_entry_eq]
  generalize (lg_sl [.ref (q 0), .int (x1), .int (x2), .int (x3), .int (x4), .int (x5), .int (x6)] ++ List.replicate (8 - (lg_sl [.ref (q 0), .int (x1), .int (x2), .int (x3), .int (x4), .int (x5), .int (x6)]).length) Slot.unset).toArray = ls at hl ⊢
  have hl : lv_has ls 8 [(0, .ref (q 0)), (1, .int (x1)), (2, .int (x2)), (3, .int (x3)), (4, .int (x4)), (5, .int (x5)), (6, .int (x6))] := hl
  generalize hF : f_X3_lay laid rules ps qs rs fs x1 x2 x3 x4 x5 x6 = G
  replace hF := hF.symm
  unfold f_X3_lay at hF
  refine lv_iload_n hx hb dX3_lay_0 rfl (lv_at hl 1 rfl) ?_
  refine pz_Si (As := [.int (x1)]) (rest := []) ⟨hx, hb, hml, hown, hts⟩ (c_X3_isLine l x1) (va_cwS 1 hts gX3_lay_X3_isLine rfl rfl rfl hdS_X3_isLine ⟨Nat.le_of_ble_eq_true rfl, Nat.le_of_ble_eq_true rfl⟩) hP hS rfl hl.1 rfl (Nat.le_of_ble_eq_true rfl) dX3_lay_1 ⟨Nat.zero_le _, Nat.zero_le _⟩ (fun r_1 H locs hF_1 hP hS => ?_)
  have hF := hF.trans (pz_be hF_1)
  refine lv_if_ne (tgt := 10) hx hb dX3_lay_4 (by decide) (fun c_2 => ?_) (fun c_2 => ?_)
  · have hF := hF.trans (if_neg c_2)
    refine lv_aload_n hx hb dX3_lay_10 rfl (lv_at hl 0 rfl) ?_
    refine va_get (D := D) (ci := 3) (v := .ref (q 2)) (C := RX3) (T := TX3) (N := 3) hx hb hts in_X3_lay_X3 hown hK hP 0 rfl rfl 1 (by decide) (hts _ fl_X3_lay_19) (fun _ h9 => h9) rfl dX3_lay_11 ?_
    refine lv_iload_n hx hb dX3_lay_14 rfl (lv_at hl 1 rfl) ?_
    refine pz_Vi (As := [.int (x1)]) (rest := []) ⟨hx, hb, hml, hown, hts⟩ (c_X2_isLaid l D q k t cnt kinds firsts seconds heights tables replaced laid rules ps qs rs fs frules heads ends inforce usable summ x1) (cwV 1 hts gX3_lay_X2_isLaid rfl rfl rfl hdV_X2_isLaid ⟨Nat.le_of_ble_eq_true rfl, Nat.le_of_ble_eq_true rfl⟩) pz_KX.call (hKX.go hS) (va_recv hK hP (ci := 2) (q0 := 2) rfl rfl) hP hS rfl hl.1 rfl (Nat.le_of_ble_eq_true rfl) dX3_lay_15 ⟨Nat.zero_le _, Nat.zero_le _⟩ (fun r_3 u_3 H locs hF_3 hP hS => ?_)
    have hF := hF.trans (pz_be hF_3)
    refine lv_istore (lv' := [(7, .int (r_3)), (0, .ref (q 0)), (1, .int (x1)), (2, .int (x2)), (3, .int (x3)), (4, .int (x4)), (5, .int (x5)), (6, .int (x6))]) hx hb dX3_lay_18 hl (by decide) rfl (fun ls hl => ?_)
    refine lv_aload_n hx hb dX3_lay_20 rfl (lv_at hl 1 rfl) ?_
    refine va_get (D := D) (ci := 3) (v := .ref (q 2)) (C := RX3) (T := TX3) (N := 3) hx hb hts in_X3_lay_X3 hown hK hP 0 rfl rfl 1 (by decide) (hts _ fl_X3_lay_19) (fun _ h9 => h9) rfl dX3_lay_21 ?_
    refine lv_iload_n hx hb dX3_lay_24 rfl (lv_at hl 2 rfl) ?_
    refine lv_iload_n hx hb dX3_lay_25 rfl (lv_at hl 3 rfl) ?_
    refine lv_iload_n hx hb dX3_lay_26 rfl (lv_at hl 4 rfl) ?_
    refine lv_iload hx hb dX3_lay_27 (lv_at hl 5 rfl) ?_
    refine lv_iload hx hb dX3_lay_29 (lv_at hl 6 rfl) ?_
    refine lv_iload hx hb dX3_lay_31 (lv_at hl 7 rfl) ?_
    refine pz_Vv (As := [.int (x1), .int (x2), .int (x3), .int (x4), .int (x5), .int (x6)]) (rest := []) ⟨hx, hb, hml, hown, hts⟩ (c_X2_put l D q k t cnt kinds firsts seconds heights tables replaced laid rules ps qs rs fs frules heads ends inforce usable summ x1 x2 x3 x4 x5 x6) (cwV 6 hts gX3_lay_X2_put rfl rfl rfl hdV_X2_put ⟨Nat.le_of_ble_eq_true rfl, Nat.le_of_ble_eq_true rfl⟩) pz_KX.call (hKX.go hS) (va_recv hK hP (ci := 2) (q0 := 2) rfl rfl) hP hS rfl hl.1 rfl (Nat.le_of_ble_eq_true rfl) dX3_lay_33 ⟨Nat.zero_le _, Nat.zero_le _⟩ (fun u_4 H locs hF_4 hP hS => ?_)
    obtain ⟨w_4_laid, w_4_rules, w_4_ps, w_4_qs, w_4_rs, w_4_fs⟩ := u_4
    have hP : va_P D vwCl (pz_X q k cnt kinds firsts seconds heights tables replaced w_4_laid w_4_rules w_4_ps w_4_qs w_4_rs w_4_fs frules heads ends inforce usable summ) H := hP
    have hF := hF.trans (pz_be hF_4)
    try dsimp only at hF
    refine lv_iload hx hb dX3_lay_36 (lv_at hl 0 rfl) ?_
    refine lv_if_eq (tgt := 45) hx hb dX3_lay_38 (by decide) (fun c_5 => ?_) (fun c_5 => ?_)
    · have hF := hF.trans (if_pos c_5)
      refine lv_iconst (v := 1) hx hb dX3_lay_45 (by decide) ?_
      exact W.iret (v := 1) hx hb hr (fun t ht hW => ⟨⟨1, (w_4_laid, w_4_rules, w_4_ps, w_4_qs, w_4_rs, w_4_fs), rfl, hF.symm, pz_hp ht hP⟩, hS.F ht⟩) hS.2.2 dX3_lay_46 hlocks
    · have hF := hF.trans (if_neg c_5)
      refine lv_iconst (v := 0) hx hb dX3_lay_41 (by decide) ?_
      refine lv_goto (tgt := 46) hx hb dX3_lay_42 (by decide) ?_
      exact W.iret (v := 0) hx hb hr (fun t ht hW => ⟨⟨0, (w_4_laid, w_4_rules, w_4_ps, w_4_qs, w_4_rs, w_4_fs), rfl, hF.symm, pz_hp ht hP⟩, hS.F ht⟩) hS.2.2 dX3_lay_46 hlocks
  · have hF := hF.trans (if_pos c_2)
    refine lv_bipush (v := (-3)) hx hb dX3_lay_7 (by decide) ?_
    exact W.iret (v := (-3)) hx hb hr (fun t ht hW => ⟨⟨(-3), (laid, rules, ps, qs, rs, fs), rfl, hF.symm, pz_hp ht hP⟩, hS.F ht⟩) hS.2.2 dX3_lay_9 hlocks

-- == X3_take
def f_X3_take (laid : Nat → Int32) (x1 : Int32) : Int32 × (Nat → Int32) := pz_bnd (f_X3_isLine x1) (fun z_1 => if z_1 = 0 then (((-3), laid)) else (pz_bnd (f_X2_isLaid laid x1) (fun z_3 => pz_bnd (f_X2_clear laid x1) (fun z_4 => if z_3 = 0 then ((0, z_4)) else ((1, z_4))))))
theorem fl_X3_take_19 : Cond.fieldLink RX3 19 "BoxProofs" "proof" "LBoxProofs$Lines;" ∈ wsX3_take := by decide +kernel
theorem hdV_X2_clear : yX2_clear.cls = RX2 ∧ yX2_clear.cls ≠ "java/lang/invoke/MethodHandle" ∧ yX2_clear.cls ≠ "java/lang/invoke/VarHandle" ∧ (parseMethodDescriptor yX2_clear.desc).map (fun d => d.parameters.length) = some 1 := by decide +kernel
theorem in_X3_take_X3 : ∀ w ∈ wsX30, w ∈ wsX3_take := by decide +kernel
set_option maxHeartbeats 4000000 in
set_option maxRecDepth 100000 in
theorem c_X3_take (l : Launch) (D : va_G) (q : Nat → Nat) (k : Nat → ClassId) (t : Nat → Nat) (cnt : Int32) (kinds : Nat → Int32) (firsts : Nat → Int32) (seconds : Nat → Int32) (heights : Nat → Int32) (tables : Nat → Int64) (replaced : Nat → Int32) (laid : Nat → Int32) (rules : Nat → Int32) (ps : Nat → Int32) (qs : Nat → Int32) (rs : Nat → Int32) (fs : Nat → Int32) (frules : Nat → Int32) (heads : Nat → Int32) (ends : Nat → Int32) (inforce : Nat → Int32) (usable : Nat → Int32) (summ : Nat → Int32) (x1 : Int32)  : Met l yX3_take wsX3_take ({ frames := 2, cells := 0, slots := 0, locals := 41 }) (va_Pc [.ref (q 0), .int (x1)] (fun U => va_P D vwCl (pz_X q k cnt kinds firsts seconds heights tables replaced laid rules ps qs rs fs frules heads ends inforce usable summ) U.heap ∧ pz_KX D q k t U)) (va_Qi (fun r (u : (Nat → Int32)) => (r, u) = (f_X3_take laid x1)) (fun u t => va_P D vwCl (pz_X q k cnt kinds firsts seconds heights tables replaced u rules ps qs rs fs frules heads ends inforce usable summ) t.heap) (pz_A 22 q)) 0 0 (pz_A 22 q) := by
  refine Met.ofW (cc := cX3_take) (maxL := 3) (ret := (some .int)) (by decide) rfl ?_
  intro p e s m args below meth c s₁ B hml hv
  obtain ⟨rfl, hP, hKX⟩ := hv
  have hx := B.exec
  have hb := B.bytes
  have hr := B.returns
  have hts := atoms_spec (ws := wsX3_take) B.pre
  have hown : s.vm.findClass RX3 = some m.cls := findClass_of_methodNamed B.named
  have hlocks := B.notSynchronized
  have hC : pz_C p s m ([.ref (q 0), .int (x1)] : List Value).toArray meth c cX3_take wsX3_take RX3 3 (some .int) := ⟨hx, hb, hml, hown, hts, hr, hlocks⟩
  have hK := hKX.1
  have hS : va_S (pz_A 22 q) s.heap s.heap [] := va_S.rf
  have hl := lv_entry [.ref (q 0), .int (x1)] (n := 3) (Nat.le_of_ble_eq_true rfl)
  rw [lg_entry_eq]
  generalize (lg_sl [.ref (q 0), .int (x1)] ++ List.replicate (3 - (lg_sl [.ref (q 0), .int (x1)]).length) Slot.unset).toArray = ls at hl ⊢
  have hl : lv_has ls 3 [(0, .ref (q 0)), (1, .int (x1))] := hl
  generalize hF : f_X3_take laid x1 = G
  replace hF := hF.symm
  unfold f_X3_take at hF
  refine lv_iload_n hx hb dX3_take_0 rfl (lv_at hl 1 rfl) ?_
  refine pz_Si (As := [.int (x1)]) (rest := []) ⟨hx, hb, hml, hown, hts⟩ (c_X3_isLine l x1) (va_cwS 1 hts gX3_take_X3_isLine rfl rfl rfl hdS_X3_isLine ⟨Nat.le_of_ble_eq_true rfl, Nat.le_of_ble_eq_true rfl⟩) hP hS rfl hl.1 rfl (Nat.le_of_ble_eq_true rfl) dX3_take_1 ⟨Nat.zero_le _, Nat.zero_le _⟩ (fun r_1 H locs hF_1 hP hS => ?_)
  have hF := hF.trans (pz_be hF_1)
  refine lv_if_ne (tgt := 10) hx hb dX3_take_4 (by decide) (fun c_2 => ?_) (fun c_2 => ?_)
  · have hF := hF.trans (if_neg c_2)
    refine lv_aload_n hx hb dX3_take_10 rfl (lv_at hl 0 rfl) ?_
    refine va_get (D := D) (ci := 3) (v := .ref (q 2)) (C := RX3) (T := TX3) (N := 3) hx hb hts in_X3_take_X3 hown hK hP 0 rfl rfl 1 (by decide) (hts _ fl_X3_take_19) (fun _ h9 => h9) rfl dX3_take_11 ?_
    refine lv_iload_n hx hb dX3_take_14 rfl (lv_at hl 1 rfl) ?_
    refine pz_Vi (As := [.int (x1)]) (rest := []) ⟨hx, hb, hml, hown, hts⟩ (c_X2_isLaid l D q k t cnt kinds firsts seconds heights tables replaced laid rules ps qs rs fs frules heads ends inforce usable summ x1) (cwV 1 hts gX3_take_X2_isLaid rfl rfl rfl hdV_X2_isLaid ⟨Nat.le_of_ble_eq_true rfl, Nat.le_of_ble_eq_true rfl⟩) pz_KX.call (hKX.go hS) (va_recv hK hP (ci := 2) (q0 := 2) rfl rfl) hP hS rfl hl.1 rfl (Nat.le_of_ble_eq_true rfl) dX3_take_15 ⟨Nat.zero_le _, Nat.zero_le _⟩ (fun r_3 u_3 H locs hF_3 hP hS => ?_)
    have hF := hF.trans (pz_be hF_3)
    refine lv_istore_n (lv' := [(2, .int (r_3)), (0, .ref (q 0)), (1, .int (x1))]) hx hb dX3_take_18 rfl hl (by decide) rfl (fun ls hl => ?_)
    refine lv_aload_n hx hb dX3_take_19 rfl (lv_at hl 1 rfl) ?_
    refine va_get (D := D) (ci := 3) (v := .ref (q 2)) (C := RX3) (T := TX3) (N := 3) hx hb hts in_X3_take_X3 hown hK hP 0 rfl rfl 1 (by decide) (hts _ fl_X3_take_19) (fun _ h9 => h9) rfl dX3_take_20 ?_
    refine lv_iload_n hx hb dX3_take_23 rfl (lv_at hl 2 rfl) ?_
    refine pz_Vv (As := [.int (x1)]) (rest := []) ⟨hx, hb, hml, hown, hts⟩ (c_X2_clear l D q k t cnt kinds firsts seconds heights tables replaced laid rules ps qs rs fs frules heads ends inforce usable summ x1) (cwV 1 hts gX3_take_X2_clear rfl rfl rfl hdV_X2_clear ⟨Nat.le_of_ble_eq_true rfl, Nat.le_of_ble_eq_true rfl⟩) pz_KX.call (hKX.go hS) (va_recv hK hP (ci := 2) (q0 := 2) rfl rfl) hP hS rfl hl.1 rfl (Nat.le_of_ble_eq_true rfl) dX3_take_24 ⟨Nat.zero_le _, Nat.zero_le _⟩ (fun u_4 H locs hF_4 hP hS => ?_)
    obtain ⟨w_4_laid, rfl⟩ : ∃ z, z = u_4 := ⟨_, rfl⟩
    have hP : va_P D vwCl (pz_X q k cnt kinds firsts seconds heights tables replaced w_4_laid rules ps qs rs fs frules heads ends inforce usable summ) H := hP
    have hF := hF.trans (pz_be hF_4)
    try dsimp only at hF
    refine lv_iload_n hx hb dX3_take_27 rfl (lv_at hl 0 rfl) ?_
    refine lv_if_eq (tgt := 35) hx hb dX3_take_28 (by decide) (fun c_5 => ?_) (fun c_5 => ?_)
    · have hF := hF.trans (if_pos c_5)
      refine lv_iconst (v := 0) hx hb dX3_take_35 (by decide) ?_
      exact W.iret (v := 0) hx hb hr (fun t ht hW => ⟨⟨0, w_4_laid, rfl, hF.symm, pz_hp ht hP⟩, hS.F ht⟩) hS.2.2 dX3_take_36 hlocks
    · have hF := hF.trans (if_neg c_5)
      refine lv_iconst (v := 1) hx hb dX3_take_31 (by decide) ?_
      refine lv_goto (tgt := 36) hx hb dX3_take_32 (by decide) ?_
      exact W.iret (v := 1) hx hb hr (fun t ht hW => ⟨⟨1, w_4_laid, rfl, hF.symm, pz_hp ht hP⟩, hS.F ht⟩) hS.2.2 dX3_take_36 hlocks
  · have hF := hF.trans (if_pos c_2)
    refine lv_bipush (v := (-3)) hx hb dX3_take_7 (by decide) ?_
    exact W.iret (v := (-3)) hx hb hr (fun t ht hW => ⟨⟨(-3), laid, rfl, hF.symm, pz_hp ht hP⟩, hS.F ht⟩) hS.2.2 dX3_take_9 hlocks

-- == X3_told
def f_X3_told (summ : Nat → Int32) (x1 : Int32) : Int32 := if x1 < 0 then ((-3)) else (if 4 ≤ x1 then ((-3)) else (pz_bnd (f_X0_summaryOf summ x1) (fun z_3 => z_3)))
theorem fl_X3_told_26 : Cond.fieldLink RX3 26 "BoxProofs" "findings" "LBoxProofs$Findings;" ∈ wsX3_told := by decide +kernel
theorem hdV_X0_summaryOf : yX0_summaryOf.cls = RX0 ∧ yX0_summaryOf.cls ≠ "java/lang/invoke/MethodHandle" ∧ yX0_summaryOf.cls ≠ "java/lang/invoke/VarHandle" ∧ (parseMethodDescriptor yX0_summaryOf.desc).map (fun d => d.parameters.length) = some 1 := by decide +kernel
theorem in_X3_told_X3 : ∀ w ∈ wsX30, w ∈ wsX3_told := by decide +kernel
set_option maxHeartbeats 4000000 in
set_option maxRecDepth 100000 in
theorem c_X3_told (l : Launch) (D : va_G) (q : Nat → Nat) (k : Nat → ClassId) (t : Nat → Nat) (cnt : Int32) (kinds : Nat → Int32) (firsts : Nat → Int32) (seconds : Nat → Int32) (heights : Nat → Int32) (tables : Nat → Int64) (replaced : Nat → Int32) (laid : Nat → Int32) (rules : Nat → Int32) (ps : Nat → Int32) (qs : Nat → Int32) (rs : Nat → Int32) (fs : Nat → Int32) (frules : Nat → Int32) (heads : Nat → Int32) (ends : Nat → Int32) (inforce : Nat → Int32) (usable : Nat → Int32) (summ : Nat → Int32) (x1 : Int32)  : Met l yX3_told wsX3_told ({ frames := 1, cells := 0, slots := 0, locals := 21 }) (va_Pc [.ref (q 0), .int (x1)] (fun U => va_P D vwCl (pz_X q k cnt kinds firsts seconds heights tables replaced laid rules ps qs rs fs frules heads ends inforce usable summ) U.heap ∧ pz_KX D q k t U)) (va_Qi (fun r (_ : Unit) => r = (f_X3_told summ x1)) (fun _ t => va_P D vwCl (pz_X q k cnt kinds firsts seconds heights tables replaced laid rules ps qs rs fs frules heads ends inforce usable summ) t.heap) (pz_A 22 q)) 0 0 (pz_A 22 q) := by
  refine Met.ofW (cc := cX3_told) (maxL := 2) (ret := (some .int)) (by decide) rfl ?_
  intro p e s m args below meth c s₁ B hml hv
  obtain ⟨rfl, hP, hKX⟩ := hv
  have hx := B.exec
  have hb := B.bytes
  have hr := B.returns
  have hts := atoms_spec (ws := wsX3_told) B.pre
  have hown : s.vm.findClass RX3 = some m.cls := findClass_of_methodNamed B.named
  have hlocks := B.notSynchronized
  have hC : pz_C p s m ([.ref (q 0), .int (x1)] : List Value).toArray meth c cX3_told wsX3_told RX3 2 (some .int) := ⟨hx, hb, hml, hown, hts, hr, hlocks⟩
  have hK := hKX.1
  have hS : va_S (pz_A 22 q) s.heap s.heap [] := va_S.rf
  have hl := lv_entry [.ref (q 0), .int (x1)] (n := 2) (Nat.le_of_ble_eq_true rfl)
  rw [lg_entry_eq]
  generalize (lg_sl [.ref (q 0), .int (x1)] ++ List.replicate (2 - (lg_sl [.ref (q 0), .int (x1)]).length) Slot.unset).toArray = ls at hl ⊢
  have hl : lv_has ls 2 [(0, .ref (q 0)), (1, .int (x1))] := hl
  generalize hF : f_X3_told summ x1 = G
  replace hF := hF.symm
  unfold f_X3_told at hF
  refine lv_iload_n hx hb dX3_told_0 rfl (lv_at hl 1 rfl) ?_
  refine lv_if_lt (tgt := 20) hx hb dX3_told_1 (by decide) (fun c_1 => ?_) (fun c_1 => ?_)
  · have hF := hF.trans (if_pos c_1)
    refine lv_bipush (v := (-3)) hx hb dX3_told_20 (by decide) ?_
    exact W.iret (v := (-3)) hx hb hr (fun t ht hW => ⟨⟨(-3), (), rfl, hF.symm, pz_hp ht hP⟩, hS.F ht⟩) hS.2.2 dX3_told_22 hlocks
  · have hF := hF.trans (if_neg c_1)
    refine lv_iload_n hx hb dX3_told_4 rfl (lv_at hl 1 rfl) ?_
    refine lv_iconst (v := 4) hx hb dX3_told_5 (by decide) ?_
    refine lv_icmp_ge (tgt := 20) hx hb dX3_told_6 (by decide) (fun c_2 => ?_) (fun c_2 => ?_)
    · have hF := hF.trans (if_pos c_2)
      refine lv_bipush (v := (-3)) hx hb dX3_told_20 (by decide) ?_
      exact W.iret (v := (-3)) hx hb hr (fun t ht hW => ⟨⟨(-3), (), rfl, hF.symm, pz_hp ht hP⟩, hS.F ht⟩) hS.2.2 dX3_told_22 hlocks
    · have hF := hF.trans (if_neg c_2)
      refine lv_aload_n hx hb dX3_told_9 rfl (lv_at hl 0 rfl) ?_
      refine va_get (D := D) (ci := 3) (v := .ref (q 3)) (C := RX3) (T := TX3) (N := 3) hx hb hts in_X3_told_X3 hown hK hP 0 rfl rfl 2 (by decide) (hts _ fl_X3_told_26) (fun _ h9 => h9) rfl dX3_told_10 ?_
      refine lv_iload_n hx hb dX3_told_13 rfl (lv_at hl 1 rfl) ?_
      refine pz_Vi (As := [.int (x1)]) (rest := []) ⟨hx, hb, hml, hown, hts⟩ (c_X0_summaryOf l D q k t cnt kinds firsts seconds heights tables replaced laid rules ps qs rs fs frules heads ends inforce usable summ x1) (cwV 1 hts gX3_told_X0_summaryOf rfl rfl rfl hdV_X0_summaryOf ⟨Nat.le_of_ble_eq_true rfl, Nat.le_of_ble_eq_true rfl⟩) pz_KX.call (hKX.go hS) (va_recv hK hP (ci := 0) (q0 := 3) rfl rfl) hP hS rfl hl.1 rfl (Nat.le_of_ble_eq_true rfl) dX3_told_14 ⟨Nat.zero_le _, Nat.zero_le _⟩ (fun r_3 u_3 H locs hF_3 hP hS => ?_)
      have hF := hF.trans (pz_be hF_3)
      refine lv_goto (tgt := 22) hx hb dX3_told_17 (by decide) ?_
      exact W.iret (v := r_3) hx hb hr (fun t ht hW => ⟨⟨r_3, (), rfl, hF.symm, pz_hp ht hP⟩, hS.F ht⟩) hS.2.2 dX3_told_22 hlocks

-- == X3_head
def f_X3_head (heads : Nat → Int32) (x1 : Int32) : Int32 := pz_bnd (f_X3_isLine x1) (fun z_1 => if z_1 = 0 then ((-3)) else (pz_bnd (f_X0_headOf heads x1) (fun z_3 => z_3)))
theorem fl_X3_head_26 : Cond.fieldLink RX3 26 "BoxProofs" "findings" "LBoxProofs$Findings;" ∈ wsX3_head := by decide +kernel
theorem in_X3_head_X3 : ∀ w ∈ wsX30, w ∈ wsX3_head := by decide +kernel
set_option maxHeartbeats 4000000 in
set_option maxRecDepth 100000 in
theorem c_X3_head (l : Launch) (D : va_G) (q : Nat → Nat) (k : Nat → ClassId) (t : Nat → Nat) (cnt : Int32) (kinds : Nat → Int32) (firsts : Nat → Int32) (seconds : Nat → Int32) (heights : Nat → Int32) (tables : Nat → Int64) (replaced : Nat → Int32) (laid : Nat → Int32) (rules : Nat → Int32) (ps : Nat → Int32) (qs : Nat → Int32) (rs : Nat → Int32) (fs : Nat → Int32) (frules : Nat → Int32) (heads : Nat → Int32) (ends : Nat → Int32) (inforce : Nat → Int32) (usable : Nat → Int32) (summ : Nat → Int32) (x1 : Int32)  : Met l yX3_head wsX3_head ({ frames := 2, cells := 0, slots := 0, locals := 41 }) (va_Pc [.ref (q 0), .int (x1)] (fun U => va_P D vwCl (pz_X q k cnt kinds firsts seconds heights tables replaced laid rules ps qs rs fs frules heads ends inforce usable summ) U.heap ∧ pz_KX D q k t U)) (va_Qi (fun r (_ : Unit) => r = (f_X3_head heads x1)) (fun _ t => va_P D vwCl (pz_X q k cnt kinds firsts seconds heights tables replaced laid rules ps qs rs fs frules heads ends inforce usable summ) t.heap) (pz_A 22 q)) 0 0 (pz_A 22 q) := by
  refine Met.ofW (cc := cX3_head) (maxL := 2) (ret := (some .int)) (by decide) rfl ?_
  intro p e s m args below meth c s₁ B hml hv
  obtain ⟨rfl, hP, hKX⟩ := hv
  have hx := B.exec
  have hb := B.bytes
  have hr := B.returns
  have hts := atoms_spec (ws := wsX3_head) B.pre
  have hown : s.vm.findClass RX3 = some m.cls := findClass_of_methodNamed B.named
  have hlocks := B.notSynchronized
  have hC : pz_C p s m ([.ref (q 0), .int (x1)] : List Value).toArray meth c cX3_head wsX3_head RX3 2 (some .int) := ⟨hx, hb, hml, hown, hts, hr, hlocks⟩
  have hK := hKX.1
  have hS : va_S (pz_A 22 q) s.heap s.heap [] := va_S.rf
  have hl := lv_entry [.ref (q 0), .int (x1)] (n := 2) (Nat.le_of_ble_eq_true rfl)
  rw [lg_entry_eq]
  generalize (lg_sl [.ref (q 0), .int (x1)] ++ List.replicate (2 - (lg_sl [.ref (q 0), .int (x1)]).length) Slot.unset).toArray = ls at hl ⊢
  have hl : lv_has ls 2 [(0, .ref (q 0)), (1, .int (x1))] := hl
  generalize hF : f_X3_head heads x1 = G
  replace hF := hF.symm
  unfold f_X3_head at hF
  refine lv_iload_n hx hb dX3_head_0 rfl (lv_at hl 1 rfl) ?_
  refine pz_Si (As := [.int (x1)]) (rest := []) ⟨hx, hb, hml, hown, hts⟩ (c_X3_isLine l x1) (va_cwS 1 hts gX3_head_X3_isLine rfl rfl rfl hdS_X3_isLine ⟨Nat.le_of_ble_eq_true rfl, Nat.le_of_ble_eq_true rfl⟩) hP hS rfl hl.1 rfl (Nat.le_of_ble_eq_true rfl) dX3_head_1 ⟨Nat.zero_le _, Nat.zero_le _⟩ (fun r_1 H locs hF_1 hP hS => ?_)
  have hF := hF.trans (pz_be hF_1)
  refine lv_if_eq (tgt := 18) hx hb dX3_head_4 (by decide) (fun c_2 => ?_) (fun c_2 => ?_)
  · have hF := hF.trans (if_pos c_2)
    refine lv_bipush (v := (-3)) hx hb dX3_head_18 (by decide) ?_
    exact W.iret (v := (-3)) hx hb hr (fun t ht hW => ⟨⟨(-3), (), rfl, hF.symm, pz_hp ht hP⟩, hS.F ht⟩) hS.2.2 dX3_head_20 hlocks
  · have hF := hF.trans (if_neg c_2)
    refine lv_aload_n hx hb dX3_head_7 rfl (lv_at hl 0 rfl) ?_
    refine va_get (D := D) (ci := 3) (v := .ref (q 3)) (C := RX3) (T := TX3) (N := 3) hx hb hts in_X3_head_X3 hown hK hP 0 rfl rfl 2 (by decide) (hts _ fl_X3_head_26) (fun _ h9 => h9) rfl dX3_head_8 ?_
    refine lv_iload_n hx hb dX3_head_11 rfl (lv_at hl 1 rfl) ?_
    refine pz_Vi (As := [.int (x1)]) (rest := []) ⟨hx, hb, hml, hown, hts⟩ (c_X0_headOf l D q k t cnt kinds firsts seconds heights tables replaced laid rules ps qs rs fs frules heads ends inforce usable summ x1) (cwV 1 hts gX3_head_X0_headOf rfl rfl rfl hdV_X0_headOf ⟨Nat.le_of_ble_eq_true rfl, Nat.le_of_ble_eq_true rfl⟩) pz_KX.call (hKX.go hS) (va_recv hK hP (ci := 0) (q0 := 3) rfl rfl) hP hS rfl hl.1 rfl (Nat.le_of_ble_eq_true rfl) dX3_head_12 ⟨Nat.zero_le _, Nat.zero_le _⟩ (fun r_3 u_3 H locs hF_3 hP hS => ?_)
    have hF := hF.trans (pz_be hF_3)
    refine lv_goto (tgt := 20) hx hb dX3_head_15 (by decide) ?_
    exact W.iret (v := r_3) hx hb hr (fun t ht hW => ⟨⟨r_3, (), rfl, hF.symm, pz_hp ht hP⟩, hS.F ht⟩) hS.2.2 dX3_head_20 hlocks

-- == X3_force
def f_X3_force (inforce : Nat → Int32) (x1 : Int32) : Int32 := pz_bnd (f_X3_isLine x1) (fun z_1 => if z_1 = 0 then ((-3)) else (pz_bnd (f_X0_isInForce inforce x1) (fun z_3 => if z_3 = 0 then (0) else (1))))
theorem fl_X3_force_26 : Cond.fieldLink RX3 26 "BoxProofs" "findings" "LBoxProofs$Findings;" ∈ wsX3_force := by decide +kernel
theorem in_X3_force_X3 : ∀ w ∈ wsX30, w ∈ wsX3_force := by decide +kernel
set_option maxHeartbeats 4000000 in
set_option maxRecDepth 100000 in
theorem c_X3_force (l : Launch) (D : va_G) (q : Nat → Nat) (k : Nat → ClassId) (t : Nat → Nat) (cnt : Int32) (kinds : Nat → Int32) (firsts : Nat → Int32) (seconds : Nat → Int32) (heights : Nat → Int32) (tables : Nat → Int64) (replaced : Nat → Int32) (laid : Nat → Int32) (rules : Nat → Int32) (ps : Nat → Int32) (qs : Nat → Int32) (rs : Nat → Int32) (fs : Nat → Int32) (frules : Nat → Int32) (heads : Nat → Int32) (ends : Nat → Int32) (inforce : Nat → Int32) (usable : Nat → Int32) (summ : Nat → Int32) (x1 : Int32)  : Met l yX3_force wsX3_force ({ frames := 2, cells := 0, slots := 0, locals := 41 }) (va_Pc [.ref (q 0), .int (x1)] (fun U => va_P D vwCl (pz_X q k cnt kinds firsts seconds heights tables replaced laid rules ps qs rs fs frules heads ends inforce usable summ) U.heap ∧ pz_KX D q k t U)) (va_Qi (fun r (_ : Unit) => r = (f_X3_force inforce x1)) (fun _ t => va_P D vwCl (pz_X q k cnt kinds firsts seconds heights tables replaced laid rules ps qs rs fs frules heads ends inforce usable summ) t.heap) (pz_A 22 q)) 0 0 (pz_A 22 q) := by
  refine Met.ofW (cc := cX3_force) (maxL := 2) (ret := (some .int)) (by decide) rfl ?_
  intro p e s m args below meth c s₁ B hml hv
  obtain ⟨rfl, hP, hKX⟩ := hv
  have hx := B.exec
  have hb := B.bytes
  have hr := B.returns
  have hts := atoms_spec (ws := wsX3_force) B.pre
  have hown : s.vm.findClass RX3 = some m.cls := findClass_of_methodNamed B.named
  have hlocks := B.notSynchronized
  have hC : pz_C p s m ([.ref (q 0), .int (x1)] : List Value).toArray meth c cX3_force wsX3_force RX3 2 (some .int) := ⟨hx, hb, hml, hown, hts, hr, hlocks⟩
  have hK := hKX.1
  have hS : va_S (pz_A 22 q) s.heap s.heap [] := va_S.rf
  have hl := lv_entry [.ref (q 0), .int (x1)] (n := 2) (Nat.le_of_ble_eq_true rfl)
  rw [lg_entry_eq]
  generalize (lg_sl [.ref (q 0), .int (x1)] ++ List.replicate (2 - (lg_sl [.ref (q 0), .int (x1)]).length) Slot.unset).toArray = ls at hl ⊢
  have hl : lv_has ls 2 [(0, .ref (q 0)), (1, .int (x1))] := hl
  generalize hF : f_X3_force inforce x1 = G
  replace hF := hF.symm
  unfold f_X3_force at hF
  refine lv_iload_n hx hb dX3_force_0 rfl (lv_at hl 1 rfl) ?_
  refine pz_Si (As := [.int (x1)]) (rest := []) ⟨hx, hb, hml, hown, hts⟩ (c_X3_isLine l x1) (va_cwS 1 hts gX3_force_X3_isLine rfl rfl rfl hdS_X3_isLine ⟨Nat.le_of_ble_eq_true rfl, Nat.le_of_ble_eq_true rfl⟩) hP hS rfl hl.1 rfl (Nat.le_of_ble_eq_true rfl) dX3_force_1 ⟨Nat.zero_le _, Nat.zero_le _⟩ (fun r_1 H locs hF_1 hP hS => ?_)
  have hF := hF.trans (pz_be hF_1)
  refine lv_if_ne (tgt := 10) hx hb dX3_force_4 (by decide) (fun c_2 => ?_) (fun c_2 => ?_)
  · have hF := hF.trans (if_neg c_2)
    refine lv_aload_n hx hb dX3_force_10 rfl (lv_at hl 0 rfl) ?_
    refine va_get (D := D) (ci := 3) (v := .ref (q 3)) (C := RX3) (T := TX3) (N := 3) hx hb hts in_X3_force_X3 hown hK hP 0 rfl rfl 2 (by decide) (hts _ fl_X3_force_26) (fun _ h9 => h9) rfl dX3_force_11 ?_
    refine lv_iload_n hx hb dX3_force_14 rfl (lv_at hl 1 rfl) ?_
    refine pz_Vi (As := [.int (x1)]) (rest := []) ⟨hx, hb, hml, hown, hts⟩ (c_X0_isInForce l D q k t cnt kinds firsts seconds heights tables replaced laid rules ps qs rs fs frules heads ends inforce usable summ x1) (cwV 1 hts gX3_force_X0_isInForce rfl rfl rfl hdV_X0_isInForce ⟨Nat.le_of_ble_eq_true rfl, Nat.le_of_ble_eq_true rfl⟩) pz_KX.call (hKX.go hS) (va_recv hK hP (ci := 0) (q0 := 3) rfl rfl) hP hS rfl hl.1 rfl (Nat.le_of_ble_eq_true rfl) dX3_force_15 ⟨Nat.zero_le _, Nat.zero_le _⟩ (fun r_3 u_3 H locs hF_3 hP hS => ?_)
    have hF := hF.trans (pz_be hF_3)
    refine lv_if_eq (tgt := 25) hx hb dX3_force_18 (by decide) (fun c_4 => ?_) (fun c_4 => ?_)
    · have hF := hF.trans (if_pos c_4)
      refine lv_iconst (v := 0) hx hb dX3_force_25 (by decide) ?_
      exact W.iret (v := 0) hx hb hr (fun t ht hW => ⟨⟨0, (), rfl, hF.symm, pz_hp ht hP⟩, hS.F ht⟩) hS.2.2 dX3_force_26 hlocks
    · have hF := hF.trans (if_neg c_4)
      refine lv_iconst (v := 1) hx hb dX3_force_21 (by decide) ?_
      refine lv_goto (tgt := 26) hx hb dX3_force_22 (by decide) ?_
      exact W.iret (v := 1) hx hb hr (fun t ht hW => ⟨⟨1, (), rfl, hF.symm, pz_hp ht hP⟩, hS.F ht⟩) hS.2.2 dX3_force_26 hlocks
  · have hF := hF.trans (if_pos c_2)
    refine lv_bipush (v := (-3)) hx hb dX3_force_7 (by decide) ?_
    exact W.iret (v := (-3)) hx hb hr (fun t ht hW => ⟨⟨(-3), (), rfl, hF.symm, pz_hp ht hP⟩, hS.F ht⟩) hS.2.2 dX3_force_9 hlocks

-- == X3_hangs
def f_X3_hangs (frules : Nat → Int32) (heads : Nat → Int32) (ends : Nat → Int32) (x1 : Int32) (x2 : Int32) : Int32 := pz_bnd (f_X3_isLine x1) (fun z_1 => if z_1 = 0 then ((-3)) else (pz_bnd (f_X0_groundOf frules heads ends x1 x2) (fun z_3 => z_3)))
theorem fl_X3_hangs_26 : Cond.fieldLink RX3 26 "BoxProofs" "findings" "LBoxProofs$Findings;" ∈ wsX3_hangs := by decide +kernel
theorem hdV_X0_groundOf : yX0_groundOf.cls = RX0 ∧ yX0_groundOf.cls ≠ "java/lang/invoke/MethodHandle" ∧ yX0_groundOf.cls ≠ "java/lang/invoke/VarHandle" ∧ (parseMethodDescriptor yX0_groundOf.desc).map (fun d => d.parameters.length) = some 2 := by decide +kernel
theorem in_X3_hangs_X3 : ∀ w ∈ wsX30, w ∈ wsX3_hangs := by decide +kernel
set_option maxHeartbeats 4000000 in
set_option maxRecDepth 100000 in
theorem c_X3_hangs (l : Launch) (D : va_G) (q : Nat → Nat) (k : Nat → ClassId) (t : Nat → Nat) (cnt : Int32) (kinds : Nat → Int32) (firsts : Nat → Int32) (seconds : Nat → Int32) (heights : Nat → Int32) (tables : Nat → Int64) (replaced : Nat → Int32) (laid : Nat → Int32) (rules : Nat → Int32) (ps : Nat → Int32) (qs : Nat → Int32) (rs : Nat → Int32) (fs : Nat → Int32) (frules : Nat → Int32) (heads : Nat → Int32) (ends : Nat → Int32) (inforce : Nat → Int32) (usable : Nat → Int32) (summ : Nat → Int32) (x1 : Int32) (x2 : Int32)  : Met l yX3_hangs wsX3_hangs ({ frames := 5, cells := 0, slots := 0, locals := 109 }) (va_Pc [.ref (q 0), .int (x1), .int (x2)] (fun U => va_P D vwCl (pz_X q k cnt kinds firsts seconds heights tables replaced laid rules ps qs rs fs frules heads ends inforce usable summ) U.heap ∧ pz_KX D q k t U)) (va_Qi (fun r (_ : Unit) => r = (f_X3_hangs frules heads ends x1 x2)) (fun _ t => va_P D vwCl (pz_X q k cnt kinds firsts seconds heights tables replaced laid rules ps qs rs fs frules heads ends inforce usable summ) t.heap) (pz_A 22 q)) 0 0 (pz_A 22 q) := by
  refine Met.ofW (cc := cX3_hangs) (maxL := 3) (ret := (some .int)) (by decide) rfl ?_
  intro p e s m args below meth c s₁ B hml hv
  obtain ⟨rfl, hP, hKX⟩ := hv
  have hx := B.exec
  have hb := B.bytes
  have hr := B.returns
  have hts := atoms_spec (ws := wsX3_hangs) B.pre
  have hown : s.vm.findClass RX3 = some m.cls := findClass_of_methodNamed B.named
  have hlocks := B.notSynchronized
  have hC : pz_C p s m ([.ref (q 0), .int (x1), .int (x2)] : List Value).toArray meth c cX3_hangs wsX3_hangs RX3 3 (some .int) := ⟨hx, hb, hml, hown, hts, hr, hlocks⟩
  have hK := hKX.1
  have hS : va_S (pz_A 22 q) s.heap s.heap [] := va_S.rf
  have hl := lv_entry [.ref (q 0), .int (x1), .int (x2)] (n := 3) (Nat.le_of_ble_eq_true rfl)
  rw [lg_entry_eq]
  generalize (lg_sl [.ref (q 0), .int (x1), .int (x2)] ++ List.replicate (3 - (lg_sl [.ref (q 0), .int (x1), .int (x2)]).length) Slot.unset).toArray = ls at hl ⊢
  have hl : lv_has ls 3 [(0, .ref (q 0)), (1, .int (x1)), (2, .int (x2))] := hl
  generalize hF : f_X3_hangs frules heads ends x1 x2 = G
  replace hF := hF.symm
  unfold f_X3_hangs at hF
  refine lv_iload_n hx hb dX3_hangs_0 rfl (lv_at hl 1 rfl) ?_
  refine pz_Si (As := [.int (x1)]) (rest := []) ⟨hx, hb, hml, hown, hts⟩ (c_X3_isLine l x1) (va_cwS 1 hts gX3_hangs_X3_isLine rfl rfl rfl hdS_X3_isLine ⟨Nat.le_of_ble_eq_true rfl, Nat.le_of_ble_eq_true rfl⟩) hP hS rfl hl.1 rfl (Nat.le_of_ble_eq_true rfl) dX3_hangs_1 ⟨Nat.zero_le _, Nat.zero_le _⟩ (fun r_1 H locs hF_1 hP hS => ?_)
  have hF := hF.trans (pz_be hF_1)
  refine lv_if_eq (tgt := 19) hx hb dX3_hangs_4 (by decide) (fun c_2 => ?_) (fun c_2 => ?_)
  · have hF := hF.trans (if_pos c_2)
    refine lv_bipush (v := (-3)) hx hb dX3_hangs_19 (by decide) ?_
    exact W.iret (v := (-3)) hx hb hr (fun t ht hW => ⟨⟨(-3), (), rfl, hF.symm, pz_hp ht hP⟩, hS.F ht⟩) hS.2.2 dX3_hangs_21 hlocks
  · have hF := hF.trans (if_neg c_2)
    refine lv_aload_n hx hb dX3_hangs_7 rfl (lv_at hl 0 rfl) ?_
    refine va_get (D := D) (ci := 3) (v := .ref (q 3)) (C := RX3) (T := TX3) (N := 3) hx hb hts in_X3_hangs_X3 hown hK hP 0 rfl rfl 2 (by decide) (hts _ fl_X3_hangs_26) (fun _ h9 => h9) rfl dX3_hangs_8 ?_
    refine lv_iload_n hx hb dX3_hangs_11 rfl (lv_at hl 1 rfl) ?_
    refine lv_iload_n hx hb dX3_hangs_12 rfl (lv_at hl 2 rfl) ?_
    refine pz_Vi (As := [.int (x1), .int (x2)]) (rest := []) ⟨hx, hb, hml, hown, hts⟩ (c_X0_groundOf l D q k t cnt kinds firsts seconds heights tables replaced laid rules ps qs rs fs frules heads ends inforce usable summ x1 x2) (cwV 2 hts gX3_hangs_X0_groundOf rfl rfl rfl hdV_X0_groundOf ⟨Nat.le_of_ble_eq_true rfl, Nat.le_of_ble_eq_true rfl⟩) pz_KX.call (hKX.go hS) (va_recv hK hP (ci := 0) (q0 := 3) rfl rfl) hP hS rfl hl.1 rfl (Nat.le_of_ble_eq_true rfl) dX3_hangs_13 ⟨Nat.zero_le _, Nat.zero_le _⟩ (fun r_3 u_3 H locs hF_3 hP hS => ?_)
    have hF := hF.trans (pz_be hF_3)
    refine lv_goto (tgt := 21) hx hb dX3_hangs_16 (by decide) ?_
    exact W.iret (v := r_3) hx hb hr (fun t ht hW => ⟨⟨r_3, (), rfl, hF.symm, pz_hp ht hP⟩, hS.F ht⟩) hS.2.2 dX3_hangs_21 hlocks

-- == X3_formulas
def f_X3_formulas (cnt : Int32) : Int32 := pz_bnd (f_X1_count cnt) (fun z_1 => z_1)
theorem fl_X3_formulas_10 : Cond.fieldLink RX3 10 "BoxProofs" "known" "LBoxProofs$Formulas;" ∈ wsX3_formulas := by decide +kernel
theorem hdV_X1_count : yX1_count.cls = RX1 ∧ yX1_count.cls ≠ "java/lang/invoke/MethodHandle" ∧ yX1_count.cls ≠ "java/lang/invoke/VarHandle" ∧ (parseMethodDescriptor yX1_count.desc).map (fun d => d.parameters.length) = some 0 := by decide +kernel
theorem in_X3_formulas_X3 : ∀ w ∈ wsX30, w ∈ wsX3_formulas := by decide +kernel
set_option maxHeartbeats 4000000 in
set_option maxRecDepth 100000 in
theorem c_X3_formulas (l : Launch) (D : va_G) (q : Nat → Nat) (k : Nat → ClassId) (t : Nat → Nat) (cnt : Int32) (kinds : Nat → Int32) (firsts : Nat → Int32) (seconds : Nat → Int32) (heights : Nat → Int32) (tables : Nat → Int64) (replaced : Nat → Int32) (laid : Nat → Int32) (rules : Nat → Int32) (ps : Nat → Int32) (qs : Nat → Int32) (rs : Nat → Int32) (fs : Nat → Int32) (frules : Nat → Int32) (heads : Nat → Int32) (ends : Nat → Int32) (inforce : Nat → Int32) (usable : Nat → Int32) (summ : Nat → Int32)   : Met l yX3_formulas wsX3_formulas ({ frames := 1, cells := 0, slots := 0, locals := 20 }) (va_Pc [.ref (q 0)] (fun U => va_P D vwCl (pz_X q k cnt kinds firsts seconds heights tables replaced laid rules ps qs rs fs frules heads ends inforce usable summ) U.heap ∧ pz_KX D q k t U)) (va_Qi (fun r (_ : Unit) => r = (f_X3_formulas cnt)) (fun _ t => va_P D vwCl (pz_X q k cnt kinds firsts seconds heights tables replaced laid rules ps qs rs fs frules heads ends inforce usable summ) t.heap) (pz_A 22 q)) 0 0 (pz_A 22 q) := by
  refine Met.ofW (cc := cX3_formulas) (maxL := 1) (ret := (some .int)) (by decide) rfl ?_
  intro p e s m args below meth c s₁ B hml hv
  obtain ⟨rfl, hP, hKX⟩ := hv
  have hx := B.exec
  have hb := B.bytes
  have hr := B.returns
  have hts := atoms_spec (ws := wsX3_formulas) B.pre
  have hown : s.vm.findClass RX3 = some m.cls := findClass_of_methodNamed B.named
  have hlocks := B.notSynchronized
  have hC : pz_C p s m ([.ref (q 0)] : List Value).toArray meth c cX3_formulas wsX3_formulas RX3 1 (some .int) := ⟨hx, hb, hml, hown, hts, hr, hlocks⟩
  have hK := hKX.1
  have hS : va_S (pz_A 22 q) s.heap s.heap [] := va_S.rf
  have hl := lv_entry [.ref (q 0)] (n := 1) (Nat.le_of_ble_eq_true rfl)
  rw [lg_entry_eq]
  generalize (lg_sl [.ref (q 0)] ++ List.replicate (1 - (lg_sl [.ref (q 0)]).length) Slot.unset).toArray = ls at hl ⊢
  have hl : lv_has ls 1 [(0, .ref (q 0))] := hl
  generalize hF : f_X3_formulas cnt = G
  replace hF := hF.symm
  unfold f_X3_formulas at hF
  refine lv_aload_n hx hb dX3_formulas_0 rfl (lv_at hl 0 rfl) ?_
  refine va_get (D := D) (ci := 3) (v := .ref (q 1)) (C := RX3) (T := TX3) (N := 3) hx hb hts in_X3_formulas_X3 hown hK hP 0 rfl rfl 0 (by decide) (hts _ fl_X3_formulas_10) (fun _ h9 => h9) rfl dX3_formulas_1 ?_
  refine pz_Vi (As := []) (rest := []) ⟨hx, hb, hml, hown, hts⟩ (c_X1_count l D q k t cnt kinds firsts seconds heights tables replaced laid rules ps qs rs fs frules heads ends inforce usable summ) (cwV 0 hts gX3_formulas_X1_count rfl rfl rfl hdV_X1_count ⟨Nat.le_of_ble_eq_true rfl, Nat.le_of_ble_eq_true rfl⟩) pz_KX.call (hKX.go hS) (va_recv hK hP (ci := 1) (q0 := 1) rfl rfl) hP hS rfl hl.1 rfl (Nat.le_of_ble_eq_true rfl) dX3_formulas_4 ⟨Nat.zero_le _, Nat.zero_le _⟩ (fun r_1 u_1 H locs hF_1 hP hS => ?_)
  have hF := hF.trans (pz_be hF_1)
  exact W.iret (v := r_1) hx hb hr (fun t ht hW => ⟨⟨r_1, (), rfl, hF.symm, pz_hp ht hP⟩, hS.F ht⟩) hS.2.2 dX3_formulas_7 hlocks

-- == X3_sound
def f_X3_sound (cnt : Int32) (tables : Nat → Int64) (frules : Nat → Int32) (heads : Nat → Int32) (ends : Nat → Int32) (x1 : Int32) : Int32 := pz_bnd (f_X3_isLine x1) (fun z_1 => if z_1 = 0 then ((-3)) else (pz_bnd (f_X0_headOf heads x1) (fun z_3 => if z_3 = (-1) then ((-1)) else (pz_bnd (f_X3_groundsTable cnt tables frules heads ends x1) (fun z_5 => pz_bnd (f_X0_headOf heads x1) (fun z_6 => pz_bnd (f_X1_tableOf cnt tables z_6) (fun z_7 => if (lg_cmp (z_5 &&& (z_7 ^^^ (-1))) 0) = 0 then (1) else (0))))))))
theorem fl_X3_sound_10 : Cond.fieldLink RX3 10 "BoxProofs" "known" "LBoxProofs$Formulas;" ∈ wsX3_sound := by decide +kernel
theorem fl_X3_sound_26 : Cond.fieldLink RX3 26 "BoxProofs" "findings" "LBoxProofs$Findings;" ∈ wsX3_sound := by decide +kernel
theorem hdV_X3_groundsTable : yX3_groundsTable.cls = RX3 ∧ yX3_groundsTable.cls ≠ "java/lang/invoke/MethodHandle" ∧ yX3_groundsTable.cls ≠ "java/lang/invoke/VarHandle" ∧ (parseMethodDescriptor yX3_groundsTable.desc).map (fun d => d.parameters.length) = some 1 := by decide +kernel
theorem in_X3_sound_X3 : ∀ w ∈ wsX30, w ∈ wsX3_sound := by decide +kernel
theorem mm_X3_sound_Cond_constantLong_RX3_111___1_ : Cond.constantLong RX3 111 (-1) ∈ wsX3_sound := by decide +kernel
set_option maxHeartbeats 4000000 in
set_option maxRecDepth 100000 in
theorem c_X3_sound (l : Launch) (D : va_G) (q : Nat → Nat) (k : Nat → ClassId) (t : Nat → Nat) (cnt : Int32) (kinds : Nat → Int32) (firsts : Nat → Int32) (seconds : Nat → Int32) (heights : Nat → Int32) (tables : Nat → Int64) (replaced : Nat → Int32) (laid : Nat → Int32) (rules : Nat → Int32) (ps : Nat → Int32) (qs : Nat → Int32) (rs : Nat → Int32) (fs : Nat → Int32) (frules : Nat → Int32) (heads : Nat → Int32) (ends : Nat → Int32) (inforce : Nat → Int32) (usable : Nat → Int32) (summ : Nat → Int32) (x1 : Int32) (hc : pz_c cnt) : Met l yX3_sound wsX3_sound ({ frames := 5, cells := 0, slots := 0, locals := 109 }) (va_Pc [.ref (q 0), .int (x1)] (fun U => va_P D vwCl (pz_X q k cnt kinds firsts seconds heights tables replaced laid rules ps qs rs fs frules heads ends inforce usable summ) U.heap ∧ pz_KX D q k t U)) (va_Qi (fun r (_ : Unit) => r = (f_X3_sound cnt tables frules heads ends x1)) (fun _ t => va_P D vwCl (pz_X q k cnt kinds firsts seconds heights tables replaced laid rules ps qs rs fs frules heads ends inforce usable summ) t.heap) (pz_A 22 q)) 0 0 (pz_A 22 q) := by
  refine Met.ofW (cc := cX3_sound) (maxL := 2) (ret := (some .int)) (by decide) rfl ?_
  intro p e s m args below meth c s₁ B hml hv
  obtain ⟨rfl, hP, hKX⟩ := hv
  have hx := B.exec
  have hb := B.bytes
  have hr := B.returns
  have hts := atoms_spec (ws := wsX3_sound) B.pre
  have hown : s.vm.findClass RX3 = some m.cls := findClass_of_methodNamed B.named
  have hlocks := B.notSynchronized
  have hC : pz_C p s m ([.ref (q 0), .int (x1)] : List Value).toArray meth c cX3_sound wsX3_sound RX3 2 (some .int) := ⟨hx, hb, hml, hown, hts, hr, hlocks⟩
  have hK := hKX.1
  have hS : va_S (pz_A 22 q) s.heap s.heap [] := va_S.rf
  have hl := lv_entry [.ref (q 0), .int (x1)] (n := 2) (Nat.le_of_ble_eq_true rfl)
  rw [lg_entry_eq]
  generalize (lg_sl [.ref (q 0), .int (x1)] ++ List.replicate (2 - (lg_sl [.ref (q 0), .int (x1)]).length) Slot.unset).toArray = ls at hl ⊢
  have hl : lv_has ls 2 [(0, .ref (q 0)), (1, .int (x1))] := hl
  generalize hF : f_X3_sound cnt tables frules heads ends x1 = G
  replace hF := hF.symm
  unfold f_X3_sound at hF
  refine lv_iload_n hx hb dX3_sound_0 rfl (lv_at hl 1 rfl) ?_
  refine pz_Si (As := [.int (x1)]) (rest := []) ⟨hx, hb, hml, hown, hts⟩ (c_X3_isLine l x1) (va_cwS 1 hts gX3_sound_X3_isLine rfl rfl rfl hdS_X3_isLine ⟨Nat.le_of_ble_eq_true rfl, Nat.le_of_ble_eq_true rfl⟩) hP hS rfl hl.1 rfl (Nat.le_of_ble_eq_true rfl) dX3_sound_1 ⟨Nat.zero_le _, Nat.zero_le _⟩ (fun r_1 H locs hF_1 hP hS => ?_)
  have hF := hF.trans (pz_be hF_1)
  refine lv_if_ne (tgt := 10) hx hb dX3_sound_4 (by decide) (fun c_2 => ?_) (fun c_2 => ?_)
  · have hF := hF.trans (if_neg c_2)
    refine lv_aload_n hx hb dX3_sound_10 rfl (lv_at hl 0 rfl) ?_
    refine va_get (D := D) (ci := 3) (v := .ref (q 3)) (C := RX3) (T := TX3) (N := 3) hx hb hts in_X3_sound_X3 hown hK hP 0 rfl rfl 2 (by decide) (hts _ fl_X3_sound_26) (fun _ h9 => h9) rfl dX3_sound_11 ?_
    refine lv_iload_n hx hb dX3_sound_14 rfl (lv_at hl 1 rfl) ?_
    refine pz_Vi (As := [.int (x1)]) (rest := []) ⟨hx, hb, hml, hown, hts⟩ (c_X0_headOf l D q k t cnt kinds firsts seconds heights tables replaced laid rules ps qs rs fs frules heads ends inforce usable summ x1) (cwV 1 hts gX3_sound_X0_headOf rfl rfl rfl hdV_X0_headOf ⟨Nat.le_of_ble_eq_true rfl, Nat.le_of_ble_eq_true rfl⟩) pz_KX.call (hKX.go hS) (va_recv hK hP (ci := 0) (q0 := 3) rfl rfl) hP hS rfl hl.1 rfl (Nat.le_of_ble_eq_true rfl) dX3_sound_15 ⟨Nat.zero_le _, Nat.zero_le _⟩ (fun r_3 u_3 H locs hF_3 hP hS => ?_)
    have hF := hF.trans (pz_be hF_3)
    refine lv_iconst (v := (-1)) hx hb dX3_sound_18 (by decide) ?_
    refine lv_icmp_ne (tgt := 24) hx hb dX3_sound_19 (by decide) (fun c_4 => ?_) (fun c_4 => ?_)
    · have hF := hF.trans (if_neg c_4)
      refine lv_aload_n hx hb dX3_sound_24 rfl (lv_at hl 0 rfl) ?_
      refine lv_iload_n hx hb dX3_sound_25 rfl (lv_at hl 1 rfl) ?_
      refine pz_Vl (As := [.int (x1)]) (rest := []) ⟨hx, hb, hml, hown, hts⟩ (c_X3_groundsTable l D q k t cnt kinds firsts seconds heights tables replaced laid rules ps qs rs fs frules heads ends inforce usable summ x1 hc) (cwV 1 hts gX3_sound_X3_groundsTable rfl rfl rfl hdV_X3_groundsTable ⟨Nat.le_of_ble_eq_true rfl, Nat.le_of_ble_eq_true rfl⟩) pz_KX.call (hKX.go hS) (va_recv hK hP (ci := 3) (q0 := 0) rfl rfl) hP hS rfl hl.1 rfl (Nat.le_of_ble_eq_true rfl) dX3_sound_26 ⟨Nat.zero_le _, Nat.zero_le _⟩ (fun r_5 u_5 H locs hF_5 hP hS => ?_)
      have hF := hF.trans (pz_be hF_5)
      refine lv_aload_n hx hb dX3_sound_29 rfl (lv_at hl 0 rfl) ?_
      refine va_get (D := D) (ci := 3) (v := .ref (q 1)) (C := RX3) (T := TX3) (N := 3) hx hb hts in_X3_sound_X3 hown hK hP 0 rfl rfl 0 (by decide) (hts _ fl_X3_sound_10) (fun _ h9 => h9) rfl dX3_sound_30 ?_
      refine lv_aload_n hx hb dX3_sound_33 rfl (lv_at hl 0 rfl) ?_
      refine va_get (D := D) (ci := 3) (v := .ref (q 3)) (C := RX3) (T := TX3) (N := 3) hx hb hts in_X3_sound_X3 hown hK hP 0 rfl rfl 2 (by decide) (hts _ fl_X3_sound_26) (fun _ h9 => h9) rfl dX3_sound_34 ?_
      refine lv_iload_n hx hb dX3_sound_37 rfl (lv_at hl 1 rfl) ?_
      refine pz_Vi (As := [.int (x1)]) (rest := [.ref (q 1), .long (r_5)]) ⟨hx, hb, hml, hown, hts⟩ (c_X0_headOf l D q k t cnt kinds firsts seconds heights tables replaced laid rules ps qs rs fs frules heads ends inforce usable summ x1) (cwV 1 hts gX3_sound_X0_headOf rfl rfl rfl hdV_X0_headOf ⟨Nat.le_of_ble_eq_true rfl, Nat.le_of_ble_eq_true rfl⟩) pz_KX.call (hKX.go hS) (va_recv hK hP (ci := 0) (q0 := 3) rfl rfl) hP hS rfl hl.1 rfl (Nat.le_of_ble_eq_true rfl) dX3_sound_38 ⟨Nat.zero_le _, Nat.zero_le _⟩ (fun r_6 u_6 H locs hF_6 hP hS => ?_)
      have hF := hF.trans (pz_be hF_6)
      refine pz_Vl (As := [.int (r_6)]) (rest := [.long (r_5)]) ⟨hx, hb, hml, hown, hts⟩ (c_X1_tableOf l D q k t cnt kinds firsts seconds heights tables replaced laid rules ps qs rs fs frules heads ends inforce usable summ r_6 hc) (cwV 1 hts gX3_sound_X1_tableOf rfl rfl rfl hdV_X1_tableOf ⟨Nat.le_of_ble_eq_true rfl, Nat.le_of_ble_eq_true rfl⟩) pz_KX.call (hKX.go hS) (va_recv hK hP (ci := 1) (q0 := 1) rfl rfl) hP hS rfl hl.1 rfl (Nat.le_of_ble_eq_true rfl) dX3_sound_41 ⟨Nat.zero_le _, Nat.zero_le _⟩ (fun r_7 u_7 H locs hF_7 hP hS => ?_)
      have hF := hF.trans (pz_be hF_7)
      refine lv_ldc2 hx hb hown (hts _ mm_X3_sound_Cond_constantLong_RX3_111___1_) dX3_sound_44 ?_
      refine lv_lxor hx hb dX3_sound_47 ?_
      refine lv_land hx hb dX3_sound_48 ?_
      refine lv_lconst (v := 0) hx hb dX3_sound_49 (by decide) ?_
      refine W.lcmp hx hb dX3_sound_50 ?_
      refine lv_if_ne (tgt := 58) hx hb dX3_sound_51 (by decide) (fun c_8 => ?_) (fun c_8 => ?_)
      · have hF := hF.trans (if_neg c_8)
        refine lv_iconst (v := 0) hx hb dX3_sound_58 (by decide) ?_
        exact W.iret (v := 0) hx hb hr (fun t ht hW => ⟨⟨0, (), rfl, hF.symm, pz_hp ht hP⟩, hS.F ht⟩) hS.2.2 dX3_sound_59 hlocks
      · have hF := hF.trans (if_pos c_8)
        refine lv_iconst (v := 1) hx hb dX3_sound_54 (by decide) ?_
        refine lv_goto (tgt := 59) hx hb dX3_sound_55 (by decide) ?_
        exact W.iret (v := 1) hx hb hr (fun t ht hW => ⟨⟨1, (), rfl, hF.symm, pz_hp ht hP⟩, hS.F ht⟩) hS.2.2 dX3_sound_59 hlocks
    · have hF := hF.trans (if_pos c_4)
      refine lv_iconst (v := (-1)) hx hb dX3_sound_22 (by decide) ?_
      exact W.iret (v := (-1)) hx hb hr (fun t ht hW => ⟨⟨(-1), (), rfl, hF.symm, pz_hp ht hP⟩, hS.F ht⟩) hS.2.2 dX3_sound_23 hlocks
  · have hF := hF.trans (if_pos c_2)
    refine lv_bipush (v := (-3)) hx hb dX3_sound_7 (by decide) ?_
    exact W.iret (v := (-3)) hx hb hr (fun t ht hW => ⟨⟨(-3), (), rfl, hF.symm, pz_hp ht hP⟩, hS.F ht⟩) hS.2.2 dX3_sound_9 hlocks

-- == X3_check
def F_X3_check_55 (cnt : Int32) (kinds : Nat → Int32) (firsts : Nat → Int32) (seconds : Nat → Int32) (heights : Nat → Int32) (tables : Nat → Int64) (laid : Nat → Int32) (rules : Nat → Int32) (ps : Nat → Int32) (qs : Nat → Int32) (rs : Nat → Int32) (fs : Nat → Int32) (frules : Nat → Int32) (heads : Nat → Int32) (ends : Nat → Int32) (inforce : Nat → Int32) (usable : Nat → Int32) (summ : Nat → Int32) (x1 : Int32) (x2 : Int32) (x3 : Int32) : Int32 × (Int32) × (Nat → Int32) × (Nat → Int32) × (Nat → Int32) × (Nat → Int32) × (Nat → Int64) × (Nat → Int32) × (Nat → Int32) × (Nat → Int32) × (Nat → Int32) × (Nat → Int32) × (Nat → Int32) := pz_bnd (f_X1_count cnt) (fun z_1 => pz_bnd (f_X0_sumUp frules ends summ x2 x3 (z_1 - x1)) (fun z_2 => (x3, cnt, kinds, firsts, seconds, heights, tables, frules, heads, ends, inforce, usable, z_2)))
def F_X3_check_19 : Nat → (Int32) → (Nat → Int32) → (Nat → Int32) → (Nat → Int32) → (Nat → Int32) → (Nat → Int64) → (Nat → Int32) → (Nat → Int32) → (Nat → Int32) → (Nat → Int32) → (Nat → Int32) → (Nat → Int32) → (Nat → Int32) → (Nat → Int32) → (Nat → Int32) → (Nat → Int32) → (Nat → Int32) → (Nat → Int32) → (Int32) → (Int32) → (Int32) → Int32 × (Int32) × (Nat → Int32) × (Nat → Int32) × (Nat → Int32) × (Nat → Int32) × (Nat → Int64) × (Nat → Int32) × (Nat → Int32) × (Nat → Int32) × (Nat → Int32) × (Nat → Int32) × (Nat → Int32)
  | 0, cnt, kinds, firsts, seconds, heights, tables, laid, rules, ps, qs, rs, fs, frules, heads, ends, inforce, usable, summ, x1, x2, x3 => (0, cnt, kinds, firsts, seconds, heights, tables, frules, heads, ends, inforce, usable, summ)
  | n + 1, cnt, kinds, firsts, seconds, heights, tables, laid, rules, ps, qs, rs, fs, frules, heads, ends, inforce, usable, summ, x1, x2, x3 => if 60 ≤ x3 then (F_X3_check_55 cnt kinds firsts seconds heights tables laid rules ps qs rs fs frules heads ends inforce usable summ x1 x2 x3) else (pz_bnd (f_X2_isLaid laid x3) (fun z_4 => if z_4 = 0 then (F_X3_check_55 cnt kinds firsts seconds heights tables laid rules ps qs rs fs frules heads ends inforce usable summ x1 x2 x3) else (pz_bnd (f_X3_lookAt cnt kinds firsts seconds heights tables rules ps qs rs fs frules heads ends inforce usable x3) (fun z_6 => if z_6.1 = 0 then (F_X3_check_19 n z_6.2.1 z_6.2.2.1 z_6.2.2.2.1 z_6.2.2.2.2.1 z_6.2.2.2.2.2.1 z_6.2.2.2.2.2.2.1 laid rules ps qs rs fs z_6.2.2.2.2.2.2.2.1 z_6.2.2.2.2.2.2.2.2.1 z_6.2.2.2.2.2.2.2.2.2.1 z_6.2.2.2.2.2.2.2.2.2.2.1 z_6.2.2.2.2.2.2.2.2.2.2.2 summ x1 z_6.1 (x3 + 1)) else (F_X3_check_55 z_6.2.1 z_6.2.2.1 z_6.2.2.2.1 z_6.2.2.2.2.1 z_6.2.2.2.2.2.1 z_6.2.2.2.2.2.2.1 laid rules ps qs rs fs z_6.2.2.2.2.2.2.2.1 z_6.2.2.2.2.2.2.2.2.1 z_6.2.2.2.2.2.2.2.2.2.1 z_6.2.2.2.2.2.2.2.2.2.2.1 z_6.2.2.2.2.2.2.2.2.2.2.2 summ x1 z_6.1 x3)))))
def f_X3_check (cnt : Int32) (kinds : Nat → Int32) (firsts : Nat → Int32) (seconds : Nat → Int32) (heights : Nat → Int32) (tables : Nat → Int64) (laid : Nat → Int32) (rules : Nat → Int32) (ps : Nat → Int32) (qs : Nat → Int32) (rs : Nat → Int32) (fs : Nat → Int32) (frules : Nat → Int32) (heads : Nat → Int32) (ends : Nat → Int32) (inforce : Nat → Int32) (usable : Nat → Int32) (summ : Nat → Int32) : Int32 × (Int32) × (Nat → Int32) × (Nat → Int32) × (Nat → Int32) × (Nat → Int32) × (Nat → Int64) × (Nat → Int32) × (Nat → Int32) × (Nat → Int32) × (Nat → Int32) × (Nat → Int32) × (Nat → Int32) := pz_bnd (f_X1_count cnt) (fun z_8 => pz_bnd (f_X0_forget frules heads ends inforce usable) (fun z_9 => F_X3_check_19 61 cnt kinds firsts seconds heights tables laid rules ps qs rs fs z_9.1 z_9.2.1 z_9.2.2.1 z_9.2.2.2.1 z_9.2.2.2.2 summ z_8 0 0))
theorem fl_X3_check_10 : Cond.fieldLink RX3 10 "BoxProofs" "known" "LBoxProofs$Formulas;" ∈ wsX3_check := by decide +kernel
theorem fl_X3_check_19 : Cond.fieldLink RX3 19 "BoxProofs" "proof" "LBoxProofs$Lines;" ∈ wsX3_check := by decide +kernel
theorem fl_X3_check_26 : Cond.fieldLink RX3 26 "BoxProofs" "findings" "LBoxProofs$Findings;" ∈ wsX3_check := by decide +kernel
theorem hdV_X0_forget : yX0_forget.cls = RX0 ∧ yX0_forget.cls ≠ "java/lang/invoke/MethodHandle" ∧ yX0_forget.cls ≠ "java/lang/invoke/VarHandle" ∧ (parseMethodDescriptor yX0_forget.desc).map (fun d => d.parameters.length) = some 0 := by decide +kernel
theorem hdV_X0_sumUp : yX0_sumUp.cls = RX0 ∧ yX0_sumUp.cls ≠ "java/lang/invoke/MethodHandle" ∧ yX0_sumUp.cls ≠ "java/lang/invoke/VarHandle" ∧ (parseMethodDescriptor yX0_sumUp.desc).map (fun d => d.parameters.length) = some 3 := by decide +kernel
theorem hdV_X3_lookAt : yX3_lookAt.cls = RX3 ∧ yX3_lookAt.cls ≠ "java/lang/invoke/MethodHandle" ∧ yX3_lookAt.cls ≠ "java/lang/invoke/VarHandle" ∧ (parseMethodDescriptor yX3_lookAt.desc).map (fun d => d.parameters.length) = some 1 := by decide +kernel
theorem in_X3_check_X3 : ∀ w ∈ wsX30, w ∈ wsX3_check := by decide +kernel
set_option maxHeartbeats 4000000 in
set_option maxRecDepth 100000 in
theorem k_X3_check_55 {p : Program} {l : Launch} {e : Env} {s : State} {m : MethodId} {args : Array Value} {below : List Frame} {meth : Method} {c : Code} {D : va_G} {q : Nat → Nat} {k : Nat → ClassId} {t : Nat → Nat} (hC : pz_C p s m args meth c cX3_check wsX3_check RX3 4 (some .int)) (hKX : pz_KX D q k t s) (replaced : Nat → Int32) (laid : Nat → Int32) (rules : Nat → Int32) (ps : Nat → Int32) (qs : Nat → Int32) (rs : Nat → Int32) (fs : Nat → Int32) {G : Int32 × (Int32) × (Nat → Int32) × (Nat → Int32) × (Nat → Int32) × (Nat → Int32) × (Nat → Int64) × (Nat → Int32) × (Nat → Int32) × (Nat → Int32) × (Nat → Int32) × (Nat → Int32) × (Nat → Int32)} :
    ∀ (cnt : Int32) (kinds : Nat → Int32) (firsts : Nat → Int32) (seconds : Nat → Int32) (heights : Nat → Int32) (tables : Nat → Int64) (frules : Nat → Int32) (heads : Nat → Int32) (ends : Nat → Int32) (inforce : Nat → Int32) (usable : Nat → Int32) (summ : Nat → Int32) (x1 : Int32) (x2 : Int32) (x3 : Int32)  (hc : pz_c cnt) (H : Heap) (locs : List Loc) (ls : Array Slot), G = F_X3_check_55 cnt kinds firsts seconds heights tables laid rules ps qs rs fs frules heads ends inforce usable summ x1 x2 x3 → va_P D vwCl (pz_X q k cnt kinds firsts seconds heights tables replaced laid rules ps qs rs fs frules heads ends inforce usable summ) H → va_S (pz_A 22 q) s.heap H locs → lv_has ls 4 [(0, .ref (q 0)), (1, .int (x1)), (2, .int (x2)), (3, .int (x3))] → W p l e (headSpec wsX3_check { frames := 6, cells := 0, slots := 0, locals := 137 }).room s m args below meth c H locs 0 0 (MQ below (va_Qi (fun r (u : (Int32) × (Nat → Int32) × (Nat → Int32) × (Nat → Int32) × (Nat → Int32) × (Nat → Int64) × (Nat → Int32) × (Nat → Int32) × (Nat → Int32) × (Nat → Int32) × (Nat → Int32) × (Nat → Int32)) => (r, u) = G) (fun u t => va_P D vwCl (pz_X q k u.1 u.2.1 u.2.2.1 u.2.2.2.1 u.2.2.2.2.1 u.2.2.2.2.2.1 replaced laid rules ps qs rs fs u.2.2.2.2.2.2.1 u.2.2.2.2.2.2.2.1 u.2.2.2.2.2.2.2.2.1 u.2.2.2.2.2.2.2.2.2.1 u.2.2.2.2.2.2.2.2.2.2.1 u.2.2.2.2.2.2.2.2.2.2.2) t.heap) (pz_A 22 q)) args s 0 0 (pz_A 22 q)) (F0 m 55 ls []) := by
  obtain ⟨hx, hb, hml, hown, hts, hr, hlocks⟩ := hC
  have hC : pz_C p s m args meth c cX3_check wsX3_check RX3 4 (some .int) := ⟨hx, hb, hml, hown, hts, hr, hlocks⟩
  have hK := hKX.1
  intro cnt kinds firsts seconds heights tables frules heads ends inforce usable summ x1 x2 x3 hc H locs ls hF hP hS hl
  unfold F_X3_check_55 at hF
  refine lv_aload_n hx hb dX3_check_55 rfl (lv_at hl 0 rfl) ?_
  refine va_get (D := D) (ci := 3) (v := .ref (q 3)) (C := RX3) (T := TX3) (N := 3) hx hb hts in_X3_check_X3 hown hK hP 0 rfl rfl 2 (by decide) (hts _ fl_X3_check_26) (fun _ h9 => h9) rfl dX3_check_56 ?_
  refine lv_iload_n hx hb dX3_check_59 rfl (lv_at hl 2 rfl) ?_
  refine lv_iload_n hx hb dX3_check_60 rfl (lv_at hl 3 rfl) ?_
  refine lv_aload_n hx hb dX3_check_61 rfl (lv_at hl 0 rfl) ?_
  refine va_get (D := D) (ci := 3) (v := .ref (q 1)) (C := RX3) (T := TX3) (N := 3) hx hb hts in_X3_check_X3 hown hK hP 0 rfl rfl 0 (by decide) (hts _ fl_X3_check_10) (fun _ h9 => h9) rfl dX3_check_62 ?_
  refine pz_Vi (As := []) (rest := [.int (x3), .int (x2), .ref (q 3)]) ⟨hx, hb, hml, hown, hts⟩ (c_X1_count l D q k t cnt kinds firsts seconds heights tables replaced laid rules ps qs rs fs frules heads ends inforce usable summ) (cwV 0 hts gX3_check_X1_count rfl rfl rfl hdV_X1_count ⟨Nat.le_of_ble_eq_true rfl, Nat.le_of_ble_eq_true rfl⟩) pz_KX.call (hKX.go hS) (va_recv hK hP (ci := 1) (q0 := 1) rfl rfl) hP hS rfl hl.1 rfl (Nat.le_of_ble_eq_true rfl) dX3_check_65 ⟨Nat.zero_le _, Nat.zero_le _⟩ (fun r_1 u_1 H locs hF_1 hP hS => ?_)
  have hF := hF.trans (pz_be hF_1)
  refine lv_iload_n hx hb dX3_check_68 rfl (lv_at hl 1 rfl) ?_
  refine lv_isub hx hb dX3_check_69 ?_
  refine pz_Vv (As := [.int (x2), .int (x3), .int ((r_1 - x1))]) (rest := []) ⟨hx, hb, hml, hown, hts⟩ (c_X0_sumUp l D q k t cnt kinds firsts seconds heights tables replaced laid rules ps qs rs fs frules heads ends inforce usable summ x2 x3 (r_1 - x1)) (cwV 3 hts gX3_check_X0_sumUp rfl rfl rfl hdV_X0_sumUp ⟨Nat.le_of_ble_eq_true rfl, Nat.le_of_ble_eq_true rfl⟩) pz_KX.call (hKX.go hS) (va_recv hK hP (ci := 0) (q0 := 3) rfl rfl) hP hS rfl hl.1 rfl (Nat.le_of_ble_eq_true rfl) dX3_check_70 ⟨Nat.zero_le _, Nat.zero_le _⟩ (fun u_2 H locs hF_2 hP hS => ?_)
  obtain ⟨w_2_summ, rfl⟩ : ∃ z, z = u_2 := ⟨_, rfl⟩
  have hP : va_P D vwCl (pz_X q k cnt kinds firsts seconds heights tables replaced laid rules ps qs rs fs frules heads ends inforce usable w_2_summ) H := hP
  have hF := hF.trans (pz_be hF_2)
  try dsimp only at hF
  refine lv_iload_n hx hb dX3_check_73 rfl (lv_at hl 3 rfl) ?_
  exact W.iret (v := x3) hx hb hr (fun t ht hW => ⟨⟨x3, (cnt, kinds, firsts, seconds, heights, tables, frules, heads, ends, inforce, usable, w_2_summ), rfl, hF.symm, pz_hp ht hP⟩, hS.F ht⟩) hS.2.2 dX3_check_74 hlocks
set_option maxHeartbeats 4000000 in
set_option maxRecDepth 100000 in
theorem k_X3_check_19 {p : Program} {l : Launch} {e : Env} {s : State} {m : MethodId} {args : Array Value} {below : List Frame} {meth : Method} {c : Code} {D : va_G} {q : Nat → Nat} {k : Nat → ClassId} {t : Nat → Nat} (hC : pz_C p s m args meth c cX3_check wsX3_check RX3 4 (some .int)) (hKX : pz_KX D q k t s) (replaced : Nat → Int32) (laid : Nat → Int32) (rules : Nat → Int32) (ps : Nat → Int32) (qs : Nat → Int32) (rs : Nat → Int32) (fs : Nat → Int32) {G : Int32 × (Int32) × (Nat → Int32) × (Nat → Int32) × (Nat → Int32) × (Nat → Int32) × (Nat → Int64) × (Nat → Int32) × (Nat → Int32) × (Nat → Int32) × (Nat → Int32) × (Nat → Int32) × (Nat → Int32)} :
    ∀ (n : Nat) (cnt : Int32) (kinds : Nat → Int32) (firsts : Nat → Int32) (seconds : Nat → Int32) (heights : Nat → Int32) (tables : Nat → Int64) (frules : Nat → Int32) (heads : Nat → Int32) (ends : Nat → Int32) (inforce : Nat → Int32) (usable : Nat → Int32) (summ : Nat → Int32) (x1 : Int32) (x2 : Int32) (x3 : Int32) (h0 : 0 ≤ x3.toInt) (h1 : x3.toInt ≤ 60) (hn : 61 ≤ x3.toInt + n) (hc : pz_c cnt) (H : Heap) (locs : List Loc) (ls : Array Slot), G = F_X3_check_19 n cnt kinds firsts seconds heights tables laid rules ps qs rs fs frules heads ends inforce usable summ x1 x2 x3 → va_P D vwCl (pz_X q k cnt kinds firsts seconds heights tables replaced laid rules ps qs rs fs frules heads ends inforce usable summ) H → va_S (pz_A 22 q) s.heap H locs → lv_has ls 4 [(0, .ref (q 0)), (1, .int (x1)), (2, .int (x2)), (3, .int (x3))] → W p l e (headSpec wsX3_check { frames := 6, cells := 0, slots := 0, locals := 137 }).room s m args below meth c H locs 0 0 (MQ below (va_Qi (fun r (u : (Int32) × (Nat → Int32) × (Nat → Int32) × (Nat → Int32) × (Nat → Int32) × (Nat → Int64) × (Nat → Int32) × (Nat → Int32) × (Nat → Int32) × (Nat → Int32) × (Nat → Int32) × (Nat → Int32)) => (r, u) = G) (fun u t => va_P D vwCl (pz_X q k u.1 u.2.1 u.2.2.1 u.2.2.2.1 u.2.2.2.2.1 u.2.2.2.2.2.1 replaced laid rules ps qs rs fs u.2.2.2.2.2.2.1 u.2.2.2.2.2.2.2.1 u.2.2.2.2.2.2.2.2.1 u.2.2.2.2.2.2.2.2.2.1 u.2.2.2.2.2.2.2.2.2.2.1 u.2.2.2.2.2.2.2.2.2.2.2) t.heap) (pz_A 22 q)) args s 0 0 (pz_A 22 q)) (F0 m 19 ls []) := by
  obtain ⟨hx, hb, hml, hown, hts, hr, hlocks⟩ := hC
  have hC : pz_C p s m args meth c cX3_check wsX3_check RX3 4 (some .int) := ⟨hx, hb, hml, hown, hts, hr, hlocks⟩
  have hK := hKX.1
  intro n
  induction n with
  | zero =>
    intro cnt kinds firsts seconds heights tables frules heads ends inforce usable summ x1 x2 x3 h0 h1 hn hc H locs ls hF hP hS hl
    exact absurd hn (by omega)
  | succ n ih =>
    intro cnt kinds firsts seconds heights tables frules heads ends inforce usable summ x1 x2 x3 h0 h1 hn hc H locs ls hF hP hS hl
    unfold F_X3_check_19 at hF
    refine lv_iload_n hx hb dX3_check_19 rfl (lv_at hl 3 rfl) ?_
    refine lv_bipush (v := 60) hx hb dX3_check_20 (by decide) ?_
    refine lv_icmp_ge (tgt := 55) hx hb dX3_check_22 (by decide) (fun c_3 => ?_) (fun c_3 => ?_)
    · have hF := hF.trans (if_pos c_3)
      exact k_X3_check_55 hC hKX replaced laid rules ps qs rs fs cnt kinds firsts seconds heights tables frules heads ends inforce usable summ x1 x2 x3 hc _ _ _ hF hP hS (lv_sub hl [0, 1, 2, 3] rfl)
    · have hF := hF.trans (if_neg c_3)
      refine lv_aload_n hx hb dX3_check_25 rfl (lv_at hl 0 rfl) ?_
      refine va_get (D := D) (ci := 3) (v := .ref (q 2)) (C := RX3) (T := TX3) (N := 3) hx hb hts in_X3_check_X3 hown hK hP 0 rfl rfl 1 (by decide) (hts _ fl_X3_check_19) (fun _ h9 => h9) rfl dX3_check_26 ?_
      refine lv_iload_n hx hb dX3_check_29 rfl (lv_at hl 3 rfl) ?_
      refine pz_Vi (As := [.int (x3)]) (rest := []) ⟨hx, hb, hml, hown, hts⟩ (c_X2_isLaid l D q k t cnt kinds firsts seconds heights tables replaced laid rules ps qs rs fs frules heads ends inforce usable summ x3) (cwV 1 hts gX3_check_X2_isLaid rfl rfl rfl hdV_X2_isLaid ⟨Nat.le_of_ble_eq_true rfl, Nat.le_of_ble_eq_true rfl⟩) pz_KX.call (hKX.go hS) (va_recv hK hP (ci := 2) (q0 := 2) rfl rfl) hP hS rfl hl.1 rfl (Nat.le_of_ble_eq_true rfl) dX3_check_30 ⟨Nat.zero_le _, Nat.zero_le _⟩ (fun r_4 u_4 H locs hF_4 hP hS => ?_)
      have hF := hF.trans (pz_be hF_4)
      refine lv_if_eq (tgt := 55) hx hb dX3_check_33 (by decide) (fun c_5 => ?_) (fun c_5 => ?_)
      · have hF := hF.trans (if_pos c_5)
        exact k_X3_check_55 hC hKX replaced laid rules ps qs rs fs cnt kinds firsts seconds heights tables frules heads ends inforce usable summ x1 x2 x3 hc _ _ _ hF hP hS (lv_sub hl [0, 1, 2, 3] rfl)
      · have hF := hF.trans (if_neg c_5)
        refine lv_aload_n hx hb dX3_check_36 rfl (lv_at hl 0 rfl) ?_
        refine lv_iload_n hx hb dX3_check_37 rfl (lv_at hl 3 rfl) ?_
        refine pz_Vi (As := [.int (x3)]) (rest := []) ⟨hx, hb, hml, hown, hts⟩ (c_X3_lookAt l D q k t cnt kinds firsts seconds heights tables replaced laid rules ps qs rs fs frules heads ends inforce usable summ x3 hc) (cwV 1 hts gX3_check_X3_lookAt rfl rfl rfl hdV_X3_lookAt ⟨Nat.le_of_ble_eq_true rfl, Nat.le_of_ble_eq_true rfl⟩) pz_KX.call (hKX.go hS) (va_recv hK hP (ci := 3) (q0 := 0) rfl rfl) hP hS rfl hl.1 rfl (Nat.le_of_ble_eq_true rfl) dX3_check_38 ⟨Nat.zero_le _, Nat.zero_le _⟩ (fun r_6 u_6 H locs hF_6 hP hS => ?_)
        obtain ⟨w_6_cnt, w_6_kinds, w_6_firsts, w_6_seconds, w_6_heights, w_6_tables, w_6_frules, w_6_heads, w_6_ends, w_6_inforce, w_6_usable⟩ := u_6
        have hP : va_P D vwCl (pz_X q k w_6_cnt w_6_kinds w_6_firsts w_6_seconds w_6_heights w_6_tables replaced laid rules ps qs rs fs w_6_frules w_6_heads w_6_ends w_6_inforce w_6_usable summ) H := hP
        have hF := hF.trans (pz_be hF_6)
        try dsimp only at hF
        have hc : pz_c w_6_cnt := by
          have hz : w_6_cnt = _ := congrArg (fun z => z.2.1) hF_6
          rw [hz]
          exact pz_X3_lookAt_c hc
        refine lv_istore_n (lv' := [(2, .int (r_6)), (0, .ref (q 0)), (1, .int (x1)), (3, .int (x3))]) hx hb dX3_check_41 rfl hl (by decide) rfl (fun ls hl => ?_)
        refine lv_iload_n hx hb dX3_check_42 rfl (lv_at hl 0 rfl) ?_
        refine lv_if_eq (tgt := 49) hx hb dX3_check_43 (by decide) (fun c_7 => ?_) (fun c_7 => ?_)
        · have hF := hF.trans (if_pos c_7)
          refine lv_iinc (v := (x3 + 1)) (lv' := [(3, .int ((x3 + 1))), (2, .int (r_6)), (0, .ref (q 0)), (1, .int (x1))]) hx hb dX3_check_49 hl (k := 3) rfl rfl (by decide) rfl (fun ls hl => ?_)
          refine lv_goto (tgt := 19) hx hb dX3_check_52 (by decide) ?_
          exact ih w_6_cnt w_6_kinds w_6_firsts w_6_seconds w_6_heights w_6_tables w_6_frules w_6_heads w_6_ends w_6_inforce w_6_usable summ x1 r_6 (x3 + 1) (by have e := pz_up60 ‹¬ (60 : Int32) ≤ x3›; omega) (by have e := pz_up60 ‹¬ (60 : Int32) ≤ x3›; omega) (by have e := pz_up60 ‹¬ (60 : Int32) ≤ x3›; omega) hc _ _ _ hF hP hS (lv_sub hl [2, 3, 1, 0] rfl)
        · have hF := hF.trans (if_neg c_7)
          refine lv_goto (tgt := 55) hx hb dX3_check_46 (by decide) ?_
          exact k_X3_check_55 hC hKX replaced laid rules ps qs rs fs w_6_cnt w_6_kinds w_6_firsts w_6_seconds w_6_heights w_6_tables w_6_frules w_6_heads w_6_ends w_6_inforce w_6_usable summ x1 r_6 x3 hc _ _ _ hF hP hS (lv_sub hl [1, 2, 0, 3] rfl)
set_option maxHeartbeats 4000000 in
set_option maxRecDepth 100000 in
theorem c_X3_check (l : Launch) (D : va_G) (q : Nat → Nat) (k : Nat → ClassId) (t : Nat → Nat) (cnt : Int32) (kinds : Nat → Int32) (firsts : Nat → Int32) (seconds : Nat → Int32) (heights : Nat → Int32) (tables : Nat → Int64) (replaced : Nat → Int32) (laid : Nat → Int32) (rules : Nat → Int32) (ps : Nat → Int32) (qs : Nat → Int32) (rs : Nat → Int32) (fs : Nat → Int32) (frules : Nat → Int32) (heads : Nat → Int32) (ends : Nat → Int32) (inforce : Nat → Int32) (usable : Nat → Int32) (summ : Nat → Int32)  (hc : pz_c cnt) : Met l yX3_check wsX3_check ({ frames := 6, cells := 0, slots := 0, locals := 137 }) (va_Pc [.ref (q 0)] (fun U => va_P D vwCl (pz_X q k cnt kinds firsts seconds heights tables replaced laid rules ps qs rs fs frules heads ends inforce usable summ) U.heap ∧ pz_KX D q k t U)) (va_Qi (fun r (u : (Int32) × (Nat → Int32) × (Nat → Int32) × (Nat → Int32) × (Nat → Int32) × (Nat → Int64) × (Nat → Int32) × (Nat → Int32) × (Nat → Int32) × (Nat → Int32) × (Nat → Int32) × (Nat → Int32)) => (r, u) = (f_X3_check cnt kinds firsts seconds heights tables laid rules ps qs rs fs frules heads ends inforce usable summ)) (fun u t => va_P D vwCl (pz_X q k u.1 u.2.1 u.2.2.1 u.2.2.2.1 u.2.2.2.2.1 u.2.2.2.2.2.1 replaced laid rules ps qs rs fs u.2.2.2.2.2.2.1 u.2.2.2.2.2.2.2.1 u.2.2.2.2.2.2.2.2.1 u.2.2.2.2.2.2.2.2.2.1 u.2.2.2.2.2.2.2.2.2.2.1 u.2.2.2.2.2.2.2.2.2.2.2) t.heap) (pz_A 22 q)) 0 0 (pz_A 22 q) := by
  refine Met.ofW (cc := cX3_check) (maxL := 4) (ret := (some .int)) (by decide) rfl ?_
  intro p e s m args below meth c s₁ B hml hv
  obtain ⟨rfl, hP, hKX⟩ := hv
  have hx := B.exec
  have hb := B.bytes
  have hr := B.returns
  have hts := atoms_spec (ws := wsX3_check) B.pre
  have hown : s.vm.findClass RX3 = some m.cls := findClass_of_methodNamed B.named
  have hlocks := B.notSynchronized
  have hC : pz_C p s m ([.ref (q 0)] : List Value).toArray meth c cX3_check wsX3_check RX3 4 (some .int) := ⟨hx, hb, hml, hown, hts, hr, hlocks⟩
  have hK := hKX.1
  have hS : va_S (pz_A 22 q) s.heap s.heap [] := va_S.rf
  have hl := lv_entry [.ref (q 0)] (n := 4) (Nat.le_of_ble_eq_true rfl)
  rw [lg_entry_eq]
  generalize (lg_sl [.ref (q 0)] ++ List.replicate (4 - (lg_sl [.ref (q 0)]).length) Slot.unset).toArray = ls at hl ⊢
  have hl : lv_has ls 4 [(0, .ref (q 0))] := hl
  generalize hF : f_X3_check cnt kinds firsts seconds heights tables laid rules ps qs rs fs frules heads ends inforce usable summ = G
  replace hF := hF.symm
  unfold f_X3_check at hF
  refine lv_aload_n hx hb dX3_check_0 rfl (lv_at hl 0 rfl) ?_
  refine va_get (D := D) (ci := 3) (v := .ref (q 1)) (C := RX3) (T := TX3) (N := 3) hx hb hts in_X3_check_X3 hown hK hP 0 rfl rfl 0 (by decide) (hts _ fl_X3_check_10) (fun _ h9 => h9) rfl dX3_check_1 ?_
  refine pz_Vi (As := []) (rest := []) ⟨hx, hb, hml, hown, hts⟩ (c_X1_count l D q k t cnt kinds firsts seconds heights tables replaced laid rules ps qs rs fs frules heads ends inforce usable summ) (cwV 0 hts gX3_check_X1_count rfl rfl rfl hdV_X1_count ⟨Nat.le_of_ble_eq_true rfl, Nat.le_of_ble_eq_true rfl⟩) pz_KX.call (hKX.go hS) (va_recv hK hP (ci := 1) (q0 := 1) rfl rfl) hP hS rfl hl.1 rfl (Nat.le_of_ble_eq_true rfl) dX3_check_4 ⟨Nat.zero_le _, Nat.zero_le _⟩ (fun r_8 u_8 H locs hF_8 hP hS => ?_)
  have hF := hF.trans (pz_be hF_8)
  refine lv_istore_n (lv' := [(1, .int (r_8)), (0, .ref (q 0))]) hx hb dX3_check_7 rfl hl (by decide) rfl (fun ls hl => ?_)
  refine lv_iconst (v := 0) hx hb dX3_check_8 (by decide) ?_
  refine lv_istore_n (lv' := [(2, .int (0)), (1, .int (r_8)), (0, .ref (q 0))]) hx hb dX3_check_9 rfl hl (by decide) rfl (fun ls hl => ?_)
  refine lv_iconst (v := 0) hx hb dX3_check_10 (by decide) ?_
  refine lv_istore_n (lv' := [(3, .int (0)), (2, .int (0)), (1, .int (r_8)), (0, .ref (q 0))]) hx hb dX3_check_11 rfl hl (by decide) rfl (fun ls hl => ?_)
  refine lv_aload_n hx hb dX3_check_12 rfl (lv_at hl 3 rfl) ?_
  refine va_get (D := D) (ci := 3) (v := .ref (q 3)) (C := RX3) (T := TX3) (N := 3) hx hb hts in_X3_check_X3 hown hK hP 0 rfl rfl 2 (by decide) (hts _ fl_X3_check_26) (fun _ h9 => h9) rfl dX3_check_13 ?_
  refine pz_Vv (As := []) (rest := []) ⟨hx, hb, hml, hown, hts⟩ (c_X0_forget l D q k t cnt kinds firsts seconds heights tables replaced laid rules ps qs rs fs frules heads ends inforce usable summ) (cwV 0 hts gX3_check_X0_forget rfl rfl rfl hdV_X0_forget ⟨Nat.le_of_ble_eq_true rfl, Nat.le_of_ble_eq_true rfl⟩) pz_KX.call (hKX.go hS) (va_recv hK hP (ci := 0) (q0 := 3) rfl rfl) hP hS rfl hl.1 rfl (Nat.le_of_ble_eq_true rfl) dX3_check_16 ⟨Nat.zero_le _, Nat.zero_le _⟩ (fun u_9 H locs hF_9 hP hS => ?_)
  obtain ⟨w_9_frules, w_9_heads, w_9_ends, w_9_inforce, w_9_usable⟩ := u_9
  have hP : va_P D vwCl (pz_X q k cnt kinds firsts seconds heights tables replaced laid rules ps qs rs fs w_9_frules w_9_heads w_9_ends w_9_inforce w_9_usable summ) H := hP
  have hF := hF.trans (pz_be hF_9)
  try dsimp only at hF
  exact k_X3_check_19 hC hKX replaced laid rules ps qs rs fs 61 cnt kinds firsts seconds heights tables w_9_frules w_9_heads w_9_ends w_9_inforce w_9_usable summ r_8 0 0 (by decide) (by decide) (by decide) hc _ _ _ hF hP hS (lv_sub hl [3, 2, 1, 0] rfl)

