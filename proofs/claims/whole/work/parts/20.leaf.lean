theorem c_X11_isWithin {l : Launch} {E : JE} {f : Hp} {a lo hi : Int}  (ha : -2147483648 ≤ a ∧ a < 2147483648) (hlo : -2147483648 ≤ lo ∧ lo < 2147483648) (hhi : -2147483648 ≤ hi ∧ hi < 2147483648) : KX11_isWithin l E [.int (iZ (a)), .int (iZ (lo)), .int (iZ (hi))] f (fun v f' => (∃ b : Int, v = some (.int (iZ b)) ∧ ((b = 1 ∧ lo ≤ a ∧ a ≤ hi) ∨ (b = 0 ∧ (a < lo ∨ hi < a)))) ∧ f = f') := by
  refine ct_of (own := RX11) (lv := [(0, .int (iZ (a))), (1, .int (iZ (lo))), (2, .int (iZ (hi)))]) (by decide +kernel) rfl (Nat.le_of_ble_eq_true rfl) rfl ?_
  intro G hG hZ
  refine j_iload_n hG dX11_isWithin_0 rfl rfl ?_
  refine j_iload_n hG dX11_isWithin_1 rfl rfl ?_
  refine j_icmp_lt (tgt := 14) hG dX11_isWithin_2 (by decide) (by omega) (by omega) (fun c1 => ?_) (fun c1 => ?_)
  · -- taken at 2
    refine j_iconst hG dX11_isWithin_14 ?_
    exact j_zret hG hZ dX11_isWithin_15 (Nat.zero_le _) (Nat.zero_le _) (nar_zr (by omega)) (⟨⟨_, rfl, by omega⟩, rfl⟩)
  · -- on at 2
    refine j_iload_n hG dX11_isWithin_5 rfl rfl ?_
    refine j_iload_n hG dX11_isWithin_6 rfl rfl ?_
    refine j_icmp_gt (tgt := 14) hG dX11_isWithin_7 (by decide) (by omega) (by omega) (fun c2 => ?_) (fun c2 => ?_)
    · -- taken at 7
      refine j_iconst hG dX11_isWithin_14 ?_
      exact j_zret hG hZ dX11_isWithin_15 (Nat.zero_le _) (Nat.zero_le _) (nar_zr (by omega)) (⟨⟨_, rfl, by omega⟩, rfl⟩)
    · -- on at 7
      refine j_iconst hG dX11_isWithin_10 ?_
      refine j_goto (tgt := 15) hG dX11_isWithin_11 (by decide) ?_
      exact j_zret hG hZ dX11_isWithin_15 (Nat.zero_le _) (Nat.zero_le _) (nar_zr (by omega)) (⟨⟨_, rfl, by omega⟩, rfl⟩)
theorem c_X7_pack {l : Launch} {E : JE} {f : Hp} {k t u : Int}  (hk : 0 ≤ k ∧ k < 32) (ht : 0 ≤ t ∧ t < 16384) (hu : -1000000000 ≤ u ∧ u ≤ 1000000000) : KX7_pack l E [.int (iZ (k)), .int (iZ (t)), .int (iZ (u))] f (fun v f' => v = some (.long (lZ (pk k t u))) ∧ f = f') := by
  refine ct_of (own := RX7) (lv := [(0, .int (iZ (k))), (1, .int (iZ (t))), (2, .int (iZ (u)))]) (by decide +kernel) rfl (Nat.le_of_ble_eq_true rfl) rfl ?_
  intro G hG hZ
  refine j_iload_n hG dX7_pack_0 rfl rfl ?_
  refine j_i2l hG dX7_pack_1 (by omega) ?_
  refine j_bipush hG dX7_pack_2 (by decide) ?_
  refine j_lshl hG dX7_pack_4 ?_
  refine j_eql (show ((lZ (k)) <<< ((iZ (14)).toInt64 &&& 63) : Int64) = lZ (k * 16384) from (lZ_shl 14 (by omega) (by decide))) ?_
  refine j_iload_n hG dX7_pack_5 rfl rfl ?_
  refine j_i2l hG dX7_pack_6 (by omega) ?_
  refine j_lor hG dX7_pack_7 ?_
  refine j_eql (show ((lZ (k * 16384)) ||| (lZ (t)) : Int64) = lZ (k * 16384 + t) from (lZ_or 14 rfl (by omega) (by omega) (by omega))) ?_
  refine j_lstore_n (lv' := [(0, .int (iZ (k))), (1, .int (iZ (t))), (2, .int (iZ (u))), (3, .long (lZ (k * 16384 + t)))]) hG dX7_pack_8 rfl (by decide) rfl ?_
  refine j_lload_n hG dX7_pack_9 rfl rfl ?_
  refine j_bipush hG dX7_pack_10 (by decide) ?_
  refine j_lshl hG dX7_pack_12 ?_
  refine j_eql (show ((lZ (k * 16384 + t)) <<< ((iZ (31)).toInt64 &&& 63) : Int64) = lZ ((k * 16384 + t) * 2147483648) from (lZ_shl 31 (by omega) (by decide))) ?_
  refine j_iload_n hG dX7_pack_13 rfl rfl ?_
  refine j_ldc (z := 1000000000) hG dX7_pack_14 kX7_11 (by decide) ?_
  refine j_iadd hG dX7_pack_16 ?_
  refine j_i2l hG dX7_pack_17 (by omega) ?_
  refine j_lor hG dX7_pack_18 ?_
  refine j_eql (show ((lZ ((k * 16384 + t) * 2147483648)) ||| (lZ (u + 1000000000)) : Int64) = lZ (pk k t u) from (lZ_or 31 rfl (by omega) (by omega) (by omega))) ?_
  exact j_lret hG hZ dX7_pack_19 (Nat.zero_le _) (Nat.zero_le _) (⟨rfl, rfl⟩)
theorem c_X7_keyOf {l : Launch} {E : JE} {f : Hp} {x : Int}  (hx : rOk x) : KX7_keyOf l E [.long (lZ (x))] f (fun v f' => v = some (.int (iZ (rK x))) ∧ f = f') := by
  refine ct_of (own := RX7) (lv := [(0, .long (lZ (x)))]) (by decide +kernel) rfl (Nat.le_of_ble_eq_true rfl) rfl ?_
  intro G hG hZ
  unfold rOk at hx
  refine j_lload_n hG dX7_keyOf_0 rfl rfl ?_
  refine j_bipush hG dX7_keyOf_1 (by decide) ?_
  refine j_lushr hG dX7_keyOf_3 ?_
  refine j_eql (show (((lZ (x)).toUInt64 >>> ((iZ (45)).toInt64.toUInt64 &&& Int64.toUInt64 63)).toInt64 : Int64) = lZ (x / 35184372088832) from (lZ_ushr 45 (by omega) (by decide))) ?_
  refine j_l2i hG dX7_keyOf_4 ?_
  refine j_bipush hG dX7_keyOf_5 (by decide) ?_
  refine j_iand hG dX7_keyOf_7 ?_
  refine j_eqi (show ((iZ (x / 35184372088832)) &&& (iZ (31)) : Int32) = iZ (rK x) from ((iZ_mask 5 rfl (by decide) (by omega)).trans (congrArg iZ (by unfold rK; omega)))) ?_
  exact j_iret hG hZ dX7_keyOf_8 (Nat.zero_le _) (Nat.zero_le _) (⟨rfl, rfl⟩)
theorem c_X7_timeOf {l : Launch} {E : JE} {f : Hp} {x : Int}  (hx : rOk x) : KX7_timeOf l E [.long (lZ (x))] f (fun v f' => v = some (.int (iZ (rT x))) ∧ f = f') := by
  refine ct_of (own := RX7) (lv := [(0, .long (lZ (x)))]) (by decide +kernel) rfl (Nat.le_of_ble_eq_true rfl) rfl ?_
  intro G hG hZ
  unfold rOk at hx
  refine j_lload_n hG dX7_timeOf_0 rfl rfl ?_
  refine j_bipush hG dX7_timeOf_1 (by decide) ?_
  refine j_lushr hG dX7_timeOf_3 ?_
  refine j_eql (show (((lZ (x)).toUInt64 >>> ((iZ (31)).toInt64.toUInt64 &&& Int64.toUInt64 63)).toInt64 : Int64) = lZ (x / 2147483648) from (lZ_ushr 31 (by omega) (by decide))) ?_
  refine j_ldc2 (z := 16383) hG dX7_timeOf_4 kX7_12 (by decide) ?_
  refine j_land hG dX7_timeOf_7 ?_
  refine j_eql (show ((lZ (x / 2147483648)) &&& (lZ (16383)) : Int64) = lZ (rT x) from (lZ_mask 14 rfl (by decide) (by omega))) ?_
  refine j_l2i hG dX7_timeOf_8 ?_
  exact j_iret hG hZ dX7_timeOf_9 (Nat.zero_le _) (Nat.zero_le _) (⟨rfl, rfl⟩)
theorem c_X7_valueOf {l : Launch} {E : JE} {f : Hp} {x : Int}  (hx : rOk x) : KX7_valueOf l E [.long (lZ (x))] f (fun v f' => v = some (.int (iZ (rV x))) ∧ f = f') := by
  refine ct_of (own := RX7) (lv := [(0, .long (lZ (x)))]) (by decide +kernel) rfl (Nat.le_of_ble_eq_true rfl) rfl ?_
  intro G hG hZ
  unfold rOk at hx
  refine j_lload_n hG dX7_valueOf_0 rfl rfl ?_
  refine j_ldc2 (z := 2147483647) hG dX7_valueOf_1 kX7_14 (by decide) ?_
  refine j_land hG dX7_valueOf_4 ?_
  refine j_eql (show ((lZ (x)) &&& (lZ (2147483647)) : Int64) = lZ (x % 2147483648) from (lZ_mask 31 rfl (by decide) (by omega))) ?_
  refine j_l2i hG dX7_valueOf_5 ?_
  refine j_ldc (z := 1000000000) hG dX7_valueOf_6 kX7_11 (by decide) ?_
  refine j_isub hG dX7_valueOf_8 ?_
  exact j_iret hG hZ dX7_valueOf_9 (Nat.zero_le _) (Nat.zero_le _) (⟨rfl, rfl⟩)
theorem c_X7_groupOf {l : Launch} {E : JE} {f : Hp} {x : Int}  (hx : rOk x) : KX7_groupOf l E [.long (lZ (x))] f (fun v f' => v = some (.long (lZ (rG x))) ∧ f = f') := by
  refine ct_of (own := RX7) (lv := [(0, .long (lZ (x)))]) (by decide +kernel) rfl (Nat.le_of_ble_eq_true rfl) rfl ?_
  intro G hG hZ
  unfold rOk at hx
  refine j_lload_n hG dX7_groupOf_0 rfl rfl ?_
  refine j_bipush hG dX7_groupOf_1 (by decide) ?_
  refine j_lushr hG dX7_groupOf_3 ?_
  refine j_eql (show (((lZ (x)).toUInt64 >>> ((iZ (31)).toInt64.toUInt64 &&& Int64.toUInt64 63)).toInt64 : Int64) = lZ (rG x) from (lZ_ushr 31 (by omega) (by decide))) ?_
  exact j_lret hG hZ dX7_groupOf_4 (Nat.zero_le _) (Nat.zero_le _) (⟨rfl, rfl⟩)
/-- a part of a ROW -/
def rP (x w : Int) : Int := if w = 0 then rK x else if w = 1 then rV x else if w = 2 then rT x else -2000000000
theorem c_X7_partOf {l : Launch} {E : JE} {f : Hp} {x u : Int}  (hx : rOk x) (hu : -2147483648 ≤ u ∧ u < 2147483648) : KX7_partOf l E [.long (lZ (x)), .int (iZ (u))] f (fun v f' => v = some (.int (iZ (rP x u))) ∧ f = f') := by
  refine ct_of (own := RX7) (lv := [(0, .long (lZ (x))), (2, .int (iZ (u)))]) (by decide +kernel) rfl (Nat.le_of_ble_eq_true rfl) rfl ?_
  intro G hG hZ
  refine j_iload_n hG dX7_partOf_0 rfl rfl ?_
  rcases (show (u < 0 ∨ 2 < u) ∨ u = 0 ∨ u = 1 ∨ u = 2 by omega) with c1 | c1 | c1 | c1
  · -- case None at 1
    refine j_tswOut (tgt := 43) hG dX7_partOf_1 c1 (by omega) (by decide) ?_
    refine j_ldc (z := -2000000000) hG dX7_partOf_43 kX7_26 (by decide) ?_
    exact j_iret hG hZ dX7_partOf_45 (Nat.zero_le _) (Nat.zero_le _) (⟨by unfold rP; first | (subst u; rfl) | (rw [if_neg (by omega), if_neg (by omega), if_neg (by omega)]), rfl⟩)
  · -- case 0 at 1
    refine j_tswIn (tgt := 28) (off := 27) hG (0) dX7_partOf_1 c1 (by decide) (by decide) rfl (by decide) ?_
    refine j_lload_n hG dX7_partOf_28 rfl rfl ?_
    refine j_callS (rest := []) hG vX7_16 dX7_partOf_29 (c_X7_keyOf (x := x) hx) rfl rfl (by decide) (by decide) (Nat.le_of_ble_eq_true rfl) rfl rfl (Nat.zero_le _) (Nat.zero_le _) ?_
    rintro _ _ ⟨rfl, rfl⟩
    refine j_st (st' := [.int (iZ (rK x))]) rfl ?_
    exact j_iret hG hZ dX7_partOf_32 (Nat.zero_le _) (Nat.zero_le _) (⟨by unfold rP; first | (subst u; rfl) | (rw [if_neg (by omega), if_neg (by omega), if_neg (by omega)]), rfl⟩)
  · -- case 1 at 1
    refine j_tswIn (tgt := 33) (off := 32) hG (1) dX7_partOf_1 c1 (by decide) (by decide) rfl (by decide) ?_
    refine j_lload_n hG dX7_partOf_33 rfl rfl ?_
    refine j_callS (rest := []) hG vX7_20 dX7_partOf_34 (c_X7_valueOf (x := x) hx) rfl rfl (by decide) (by decide) (Nat.le_of_ble_eq_true rfl) rfl rfl (Nat.zero_le _) (Nat.zero_le _) ?_
    rintro _ _ ⟨rfl, rfl⟩
    refine j_st (st' := [.int (iZ (rV x))]) rfl ?_
    exact j_iret hG hZ dX7_partOf_37 (Nat.zero_le _) (Nat.zero_le _) (⟨by unfold rP; first | (subst u; rfl) | (rw [if_neg (by omega), if_neg (by omega), if_neg (by omega)]), rfl⟩)
  · -- case 2 at 1
    refine j_tswIn (tgt := 38) (off := 37) hG (2) dX7_partOf_1 c1 (by decide) (by decide) rfl (by decide) ?_
    refine j_lload_n hG dX7_partOf_38 rfl rfl ?_
    refine j_callS (rest := []) hG vX7_23 dX7_partOf_39 (c_X7_timeOf (x := x) hx) rfl rfl (by decide) (by decide) (Nat.le_of_ble_eq_true rfl) rfl rfl (Nat.zero_le _) (Nat.zero_le _) ?_
    rintro _ _ ⟨rfl, rfl⟩
    refine j_st (st' := [.int (iZ (rT x))]) rfl ?_
    exact j_iret hG hZ dX7_partOf_42 (Nat.zero_le _) (Nat.zero_le _) (⟨by unfold rP; first | (subst u; rfl) | (rw [if_neg (by omega), if_neg (by omega), if_neg (by omega)]), rfl⟩)
theorem c_X6_rowsRead {l : Launch} {E : JE} {f : Hp} {r : Nat} {a b c : Int} (h : f r = oB 6 [.int (iZ (a)), .int (iZ (b)), .int (iZ (c))])  : KX6_rowsRead l E [.ref r] f (fun v f' => v = some (.int (iZ (a))) ∧ f = f') := by
  refine ct_of (own := RX6) (lv := [(0, .ref r)]) (by decide +kernel) rfl (Nat.le_of_ble_eq_true rfl) rfl ?_
  intro G hG hZ
  refine j_aload_n hG dX6_rowsRead_0 rfl rfl ?_
  refine j_get hG fX6_15 dX6_rowsRead_1 h rfl ?_
  exact j_iret hG hZ dX6_rowsRead_4 (Nat.zero_le _) (Nat.zero_le _) (⟨rfl, rfl⟩)
theorem c_X6_rowsLate {l : Launch} {E : JE} {f : Hp} {r : Nat} {a b c : Int} (h : f r = oB 6 [.int (iZ (a)), .int (iZ (b)), .int (iZ (c))])  : KX6_rowsLate l E [.ref r] f (fun v f' => v = some (.int (iZ (b))) ∧ f = f') := by
  refine ct_of (own := RX6) (lv := [(0, .ref r)]) (by decide +kernel) rfl (Nat.le_of_ble_eq_true rfl) rfl ?_
  intro G hG hZ
  refine j_aload_n hG dX6_rowsLate_0 rfl rfl ?_
  refine j_get hG fX6_18 dX6_rowsLate_1 h rfl ?_
  exact j_iret hG hZ dX6_rowsLate_4 (Nat.zero_le _) (Nat.zero_le _) (⟨rfl, rfl⟩)
theorem c_X6_greatestTime {l : Launch} {E : JE} {f : Hp} {r : Nat} {a b c : Int} (h : f r = oB 6 [.int (iZ (a)), .int (iZ (b)), .int (iZ (c))])  : KX6_greatestTime l E [.ref r] f (fun v f' => v = some (.int (iZ (c))) ∧ f = f') := by
  refine ct_of (own := RX6) (lv := [(0, .ref r)]) (by decide +kernel) rfl (Nat.le_of_ble_eq_true rfl) rfl ?_
  intro G hG hZ
  refine j_aload_n hG dX6_greatestTime_0 rfl rfl ?_
  refine j_get hG fX6_9 dX6_greatestTime_1 h rfl ?_
  exact j_iret hG hZ dX6_greatestTime_4 (Nat.zero_le _) (Nat.zero_le _) (⟨rfl, rfl⟩)
theorem c_X2_size {l : Launch} {E : JE} {f : Hp} {r p q : Nat} {a : Int} (h : f r = oB 2 [.ref p, .ref q, .int (iZ (a))])  : KX2_size l E [.ref r] f (fun v f' => v = some (.int (iZ (a))) ∧ f = f') := by
  refine ct_of (own := RX2) (lv := [(0, .ref r)]) (by decide +kernel) rfl (Nat.le_of_ble_eq_true rfl) rfl ?_
  intro G hG hZ
  refine j_aload_n hG dX2_size_0 rfl rfl ?_
  refine j_get hG fX2_19 dX2_size_1 h rfl ?_
  exact j_iret hG hZ dX2_size_4 (Nat.zero_le _) (Nat.zero_le _) (⟨rfl, rfl⟩)
theorem c_X1_size {l : Launch} {E : JE} {f : Hp} {r p q : Nat} {a : Int} (h : f r = oB 1 [.ref p, .ref q, .int (iZ (a))])  : KX1_size l E [.ref r] f (fun v f' => v = some (.int (iZ (a))) ∧ f = f') := by
  refine ct_of (own := RX1) (lv := [(0, .ref r)]) (by decide +kernel) rfl (Nat.le_of_ble_eq_true rfl) rfl ?_
  intro G hG hZ
  refine j_aload_n hG dX1_size_0 rfl rfl ?_
  refine j_get hG fX1_15 dX1_size_1 h rfl ?_
  exact j_iret hG hZ dX1_size_4 (Nat.zero_le _) (Nat.zero_le _) (⟨rfl, rfl⟩)
theorem c_X0_size {l : Launch} {E : JE} {f : Hp} {r p : Nat} {a : Int} (h : f r = oB 0 [.ref p, .int (iZ (a))])  : KX0_size l E [.ref r] f (fun v f' => v = some (.int (iZ (a))) ∧ f = f') := by
  refine ct_of (own := RX0) (lv := [(0, .ref r)]) (by decide +kernel) rfl (Nat.le_of_ble_eq_true rfl) rfl ?_
  intro G hG hZ
  refine j_aload_n hG dX0_size_0 rfl rfl ?_
  refine j_get hG fX0_15 dX0_size_1 h rfl ?_
  exact j_iret hG hZ dX0_size_4 (Nat.zero_le _) (Nat.zero_le _) (⟨rfl, rfl⟩)
theorem c_X8_size {l : Launch} {E : JE} {f : Hp} {r p : Nat} {a b : Int} (h : f r = oB 7 [.ref p, .int (iZ (a)), .int (iZ (b))])  : KX8_size l E [.ref r] f (fun v f' => v = some (.int (iZ (a))) ∧ f = f') := by
  refine ct_of (own := RX8) (lv := [(0, .ref r)]) (by decide +kernel) rfl (Nat.le_of_ble_eq_true rfl) rfl ?_
  intro G hG hZ
  refine j_aload_n hG dX8_size_0 rfl rfl ?_
  refine j_get hG fX8_15 dX8_size_1 h rfl ?_
  exact j_iret hG hZ dX8_size_4 (Nat.zero_le _) (Nat.zero_le _) (⟨rfl, rfl⟩)
theorem c_X5_size {l : Launch} {E : JE} {f : Hp} {r p : Nat} {a : Int} (h : f r = oB 5 [.ref p, .int (iZ (a))])  : KX5_size l E [.ref r] f (fun v f' => v = some (.int (iZ (a))) ∧ f = f') := by
  refine ct_of (own := RX5) (lv := [(0, .ref r)]) (by decide +kernel) rfl (Nat.le_of_ble_eq_true rfl) rfl ?_
  intro G hG hZ
  refine j_aload_n hG dX5_size_0 rfl rfl ?_
  refine j_get hG fX5_18 dX5_size_1 h rfl ?_
  exact j_iret hG hZ dX5_size_4 (Nat.zero_le _) (Nat.zero_le _) (⟨rfl, rfl⟩)
theorem c_X10_length {l : Launch} {E : JE} {f : Hp} {r p : Nat} {a b c : Int} (h : f r = oB 9 [.ref p, .int (iZ (a)), .int (iZ (b)), .int (iZ (c))])  : KX10_length l E [.ref r] f (fun v f' => v = some (.int (iZ (a))) ∧ f = f') := by
  refine ct_of (own := RX10) (lv := [(0, .ref r)]) (by decide +kernel) rfl (Nat.le_of_ble_eq_true rfl) rfl ?_
  intro G hG hZ
  refine j_aload_n hG dX10_length_0 rfl rfl ?_
  refine j_get hG fX10_15 dX10_length_1 h rfl ?_
  exact j_iret hG hZ dX10_length_4 (Nat.zero_le _) (Nat.zero_le _) (⟨rfl, rfl⟩)
theorem c_X10_place {l : Launch} {E : JE} {f : Hp} {r p : Nat} {a b c : Int} (h : f r = oB 9 [.ref p, .int (iZ (a)), .int (iZ (b)), .int (iZ (c))])  : KX10_place l E [.ref r] f (fun v f' => v = some (.int (iZ (b))) ∧ f = f') := by
  refine ct_of (own := RX10) (lv := [(0, .ref r)]) (by decide +kernel) rfl (Nat.le_of_ble_eq_true rfl) rfl ?_
  intro G hG hZ
  refine j_aload_n hG dX10_place_0 rfl rfl ?_
  refine j_get hG fX10_34 dX10_place_1 h rfl ?_
  exact j_iret hG hZ dX10_place_4 (Nat.zero_le _) (Nat.zero_le _) (⟨rfl, rfl⟩)
theorem c_X8_isFull {l : Launch} {E : JE} {f : Hp} {r p : Nat} {a b : Int} (h : f r = oB 7 [.ref p, .int (iZ (a)), .int (iZ (b))]) (hb : b = 0 ∨ b = 1) : KX8_isFull l E [.ref r] f (fun v f' => v = some (.int (iZ b)) ∧ f = f') := by
  refine ct_of (own := RX8) (lv := [(0, .ref r)]) (by decide +kernel) rfl (Nat.le_of_ble_eq_true rfl) rfl ?_
  intro G hG hZ
  refine j_aload_n hG dX8_isFull_0 rfl rfl ?_
  refine j_get hG fX8_19 dX8_isFull_1 h rfl ?_
  exact j_zret hG hZ dX8_isFull_4 (Nat.zero_le _) (Nat.zero_le _) (nar_zr (by omega)) (⟨rfl, rfl⟩)
theorem c_X6_clear {l : Launch} {E : JE} {f : Hp} {r : Nat} {a b c : Int} (h : f r = oB 6 [.int (iZ (a)), .int (iZ (b)), .int (iZ (c))])  : KX6_clear l E [.ref r] f (fun v f' => v = none ∧ f' r = oB 6 [.int (iZ (0)), .int (iZ (0)), .int (iZ (-1))] ∧ (∀ q, q ≠ r → f' q = f q)) := by
  refine ct_of (own := RX6) (lv := [(0, .ref r)]) (by decide +kernel) rfl (Nat.le_of_ble_eq_true rfl) rfl ?_
  intro G hG hZ
  refine j_aload_n hG dX6_clear_0 rfl rfl ?_
  refine j_iconst hG dX6_clear_1 ?_
  refine j_put hG pX6_15 dX6_clear_2 h rfl rfl (Nat.le_of_ble_eq_true rfl) (fun f1 h2 fr3 => ?_)
  have h2 : f1 r = oB 6 [.int (iZ (0)), .int (iZ (b)), .int (iZ (c))] := h2
  refine j_aload_n hG dX6_clear_5 rfl rfl ?_
  refine j_iconst hG dX6_clear_6 ?_
  refine j_put hG pX6_18 dX6_clear_7 h2 rfl rfl (Nat.le_of_ble_eq_true rfl) (fun f4 h5 fr6 => ?_)
  have h5 : f4 r = oB 6 [.int (iZ (0)), .int (iZ (0)), .int (iZ (c))] := h5
  refine j_aload_n hG dX6_clear_10 rfl rfl ?_
  refine j_iconst hG dX6_clear_11 ?_
  refine j_put hG pX6_9 dX6_clear_12 h5 rfl rfl (Nat.le_of_ble_eq_true rfl) (fun f7 h8 fr9 => ?_)
  have h8 : f7 r = oB 6 [.int (iZ (0)), .int (iZ (0)), .int (iZ (-1))] := h8
  exact j_vret hG hZ dX6_clear_15 (Nat.zero_le _) (Nat.zero_le _) (⟨rfl, h8, fun q hq => (Eq.trans (fr9 q hq) (Eq.trans (fr6 q hq) (fr3 q hq)))⟩)
theorem c_X6_copy {l : Launch} {E : JE} {f : Hp} {r o : Nat} {a b c a2 b2 c2 : Int} (h : f r = oB 6 [.int (iZ (a)), .int (iZ (b)), .int (iZ (c))]) (ho : f o = oB 6 [.int (iZ (a2)), .int (iZ (b2)), .int (iZ (c2))]) (hne : o ≠ r) : KX6_copy l E [.ref r, .ref o] f (fun v f' => v = none ∧ f' r = oB 6 [.int (iZ (a2)), .int (iZ (b2)), .int (iZ (c2))] ∧ (∀ q, q ≠ r → f' q = f q)) := by
  refine ct_of (own := RX6) (lv := [(0, .ref r), (1, .ref o)]) (by decide +kernel) rfl (Nat.le_of_ble_eq_true rfl) rfl ?_
  intro G hG hZ
  refine j_aload_n hG dX6_copy_0 rfl rfl ?_
  refine j_aload_n hG dX6_copy_1 rfl rfl ?_
  refine j_get hG fX6_15 dX6_copy_2 ho rfl ?_
  refine j_put hG pX6_15 dX6_copy_5 h rfl rfl (Nat.le_of_ble_eq_true rfl) (fun f1 h2 fr3 => ?_)
  have h2 : f1 r = oB 6 [.int (iZ (a2)), .int (iZ (b)), .int (iZ (c))] := h2
  have h4 := (fr3 o hne).trans ho
  refine j_aload_n hG dX6_copy_8 rfl rfl ?_
  refine j_aload_n hG dX6_copy_9 rfl rfl ?_
  refine j_get hG fX6_18 dX6_copy_10 h4 rfl ?_
  refine j_put hG pX6_18 dX6_copy_13 h2 rfl rfl (Nat.le_of_ble_eq_true rfl) (fun f5 h6 fr7 => ?_)
  have h6 : f5 r = oB 6 [.int (iZ (a2)), .int (iZ (b2)), .int (iZ (c))] := h6
  have h8 := (fr7 o hne).trans h4
  refine j_aload_n hG dX6_copy_16 rfl rfl ?_
  refine j_aload_n hG dX6_copy_17 rfl rfl ?_
  refine j_get hG fX6_9 dX6_copy_18 h8 rfl ?_
  refine j_put hG pX6_9 dX6_copy_21 h6 rfl rfl (Nat.le_of_ble_eq_true rfl) (fun f9 h10 fr11 => ?_)
  have h10 : f9 r = oB 6 [.int (iZ (a2)), .int (iZ (b2)), .int (iZ (c2))] := h10
  have h12 := (fr11 o hne).trans h8
  exact j_vret hG hZ dX6_copy_24 (Nat.zero_le _) (Nat.zero_le _) (⟨rfl, h10, fun q hq => (Eq.trans (fr11 q hq) (Eq.trans (fr7 q hq) (fr3 q hq)))⟩)
theorem c_X6_step {l : Launch} {E : JE} {f : Hp} {r : Nat} {a b c t z : Int} (h : f r = oB 6 [.int (iZ (a)), .int (iZ (b)), .int (iZ (c))]) (hz : z = 0 ∨ z = 1) (hc : -2147483648 ≤ c ∧ c < 2147483648) (ht : -2147483648 ≤ t ∧ t < 2147483648) : KX6_step l E [.ref r, .int (iZ (t)), .int (iZ (z))] f (fun v f' => v = none ∧ f' r = oB 6 [.int (iZ (a + 1)), .int (iZ (b + z)), .int (iZ (max c t))] ∧ (∀ q, q ≠ r → f' q = f q)) := by
  refine ct_of (own := RX6) (lv := [(0, .ref r), (1, .int (iZ (t))), (2, .int (iZ (z)))]) (by decide +kernel) rfl (Nat.le_of_ble_eq_true rfl) rfl ?_
  intro G hG hZ
  refine j_aload_n hG dX6_step_0 rfl rfl ?_
  refine j_dup hG dX6_step_1 rfl ?_
  refine j_get hG fX6_15 dX6_step_2 h rfl ?_
  refine j_iconst hG dX6_step_5 ?_
  refine j_iadd hG dX6_step_6 ?_
  refine j_put hG pX6_15 dX6_step_7 h rfl rfl (Nat.le_of_ble_eq_true rfl) (fun f1 h2 fr3 => ?_)
  have h2 : f1 r = oB 6 [.int (iZ (a + 1)), .int (iZ (b)), .int (iZ (c))] := h2
  refine j_aload_n hG dX6_step_10 rfl rfl ?_
  refine j_dup hG dX6_step_11 rfl ?_
  refine j_get hG fX6_18 dX6_step_12 h2 rfl ?_
  refine j_iload_n hG dX6_step_15 rfl rfl ?_
  refine j_if_eq (tgt := 23) hG dX6_step_16 (by decide) (by omega) (fun c4 => ?_) (fun c4 => ?_)
  · -- taken at 16
    refine j_iconst hG dX6_step_23 ?_
    refine j_iadd hG dX6_step_24 ?_
    refine j_put hG pX6_18 dX6_step_25 h2 rfl rfl (Nat.le_of_ble_eq_true rfl) (fun f5 h6 fr7 => ?_)
    have h6 : f5 r = oB 6 [.int (iZ (a + 1)), .int (iZ (b + 0)), .int (iZ (c))] := h6
    refine j_aload_n hG dX6_step_28 rfl rfl ?_
    refine j_aload_n hG dX6_step_29 rfl rfl ?_
    refine j_get hG fX6_9 dX6_step_30 h6 rfl ?_
    refine j_iload_n hG dX6_step_33 rfl rfl ?_
    refine j_max hG vX6_21 dX6_step_34 (by omega) (by omega) (by decide) (by decide) (Nat.le_of_ble_eq_true rfl) (Nat.zero_le _) (Nat.zero_le _) ?_
    refine j_put hG pX6_9 dX6_step_37 h6 rfl rfl (Nat.le_of_ble_eq_true rfl) (fun f8 h9 fr10 => ?_)
    have h9 : f8 r = oB 6 [.int (iZ (a + 1)), .int (iZ (b + 0)), .int (iZ (max c t))] := h9
    have e9 : b + 0 = b + z := by omega
    have h9 := h9
    rw [e9] at h9
    exact j_vret hG hZ dX6_step_40 (Nat.zero_le _) (Nat.zero_le _) (⟨rfl, h9, fun q hq => (Eq.trans (fr10 q hq) (Eq.trans (fr7 q hq) (fr3 q hq)))⟩)
  · -- on at 16
    refine j_iconst hG dX6_step_19 ?_
    refine j_goto (tgt := 24) hG dX6_step_20 (by decide) ?_
    refine j_iadd hG dX6_step_24 ?_
    refine j_put hG pX6_18 dX6_step_25 h2 rfl rfl (Nat.le_of_ble_eq_true rfl) (fun f11 h12 fr13 => ?_)
    have h12 : f11 r = oB 6 [.int (iZ (a + 1)), .int (iZ (b + 1)), .int (iZ (c))] := h12
    refine j_aload_n hG dX6_step_28 rfl rfl ?_
    refine j_aload_n hG dX6_step_29 rfl rfl ?_
    refine j_get hG fX6_9 dX6_step_30 h12 rfl ?_
    refine j_iload_n hG dX6_step_33 rfl rfl ?_
    refine j_max hG vX6_21 dX6_step_34 (by omega) (by omega) (by decide) (by decide) (Nat.le_of_ble_eq_true rfl) (Nat.zero_le _) (Nat.zero_le _) ?_
    refine j_put hG pX6_9 dX6_step_37 h12 rfl rfl (Nat.le_of_ble_eq_true rfl) (fun f14 h15 fr16 => ?_)
    have h15 : f14 r = oB 6 [.int (iZ (a + 1)), .int (iZ (b + 1)), .int (iZ (max c t))] := h15
    have e9 : b + 1 = b + z := by omega
    have h9 := h15
    rw [e9] at h9
    exact j_vret hG hZ dX6_step_40 (Nat.zero_le _) (Nat.zero_le _) (⟨rfl, h9, fun q hq => (Eq.trans (fr16 q hq) (Eq.trans (fr13 q hq) (fr3 q hq)))⟩)
theorem c_X0_clear {l : Launch} {E : JE} {f : Hp} {r p : Nat} {a : Int} (h : f r = oB 0 [.ref p, .int (iZ (a))])  : KX0_clear l E [.ref r] f (fun v f' => v = none ∧ f' r = oB 0 [.ref p, .int (iZ (0))] ∧ (∀ q, q ≠ r → f' q = f q)) := by
  refine ct_of (own := RX0) (lv := [(0, .ref r)]) (by decide +kernel) rfl (Nat.le_of_ble_eq_true rfl) rfl ?_
  intro G hG hZ
  refine j_aload_n hG dX0_clear_0 rfl rfl ?_
  refine j_iconst hG dX0_clear_1 ?_
  refine j_put hG pX0_15 dX0_clear_2 h rfl rfl (Nat.le_of_ble_eq_true rfl) (fun f1 h2 fr3 => ?_)
  have h2 : f1 r = oB 0 [.ref p, .int (iZ (0))] := h2
  exact j_vret hG hZ dX0_clear_5 (Nat.zero_le _) (Nat.zero_le _) (⟨rfl, h2, fun q hq => (fr3 q hq)⟩)
theorem c_X5_clear {l : Launch} {E : JE} {f : Hp} {r p : Nat} {a : Int} (h : f r = oB 5 [.ref p, .int (iZ (a))])  : KX5_clear l E [.ref r] f (fun v f' => v = none ∧ f' r = oB 5 [.ref p, .int (iZ (0))] ∧ (∀ q, q ≠ r → f' q = f q)) := by
  refine ct_of (own := RX5) (lv := [(0, .ref r)]) (by decide +kernel) rfl (Nat.le_of_ble_eq_true rfl) rfl ?_
  intro G hG hZ
  refine j_aload_n hG dX5_clear_0 rfl rfl ?_
  refine j_iconst hG dX5_clear_1 ?_
  refine j_put hG pX5_18 dX5_clear_2 h rfl rfl (Nat.le_of_ble_eq_true rfl) (fun f1 h2 fr3 => ?_)
  have h2 : f1 r = oB 5 [.ref p, .int (iZ (0))] := h2
  exact j_vret hG hZ dX5_clear_5 (Nat.zero_le _) (Nat.zero_le _) (⟨rfl, h2, fun q hq => (fr3 q hq)⟩)
theorem c_X8_clear {l : Launch} {E : JE} {f : Hp} {r p : Nat} {a b : Int} (h : f r = oB 7 [.ref p, .int (iZ (a)), .int (iZ (b))])  : KX8_clear l E [.ref r] f (fun v f' => v = none ∧ f' r = oB 7 [.ref p, .int (iZ (0)), .int (iZ (0))] ∧ (∀ q, q ≠ r → f' q = f q)) := by
  refine ct_of (own := RX8) (lv := [(0, .ref r)]) (by decide +kernel) rfl (Nat.le_of_ble_eq_true rfl) rfl ?_
  intro G hG hZ
  refine j_aload_n hG dX8_clear_0 rfl rfl ?_
  refine j_iconst hG dX8_clear_1 ?_
  refine j_put hG pX8_15 dX8_clear_2 h rfl rfl (Nat.le_of_ble_eq_true rfl) (fun f1 h2 fr3 => ?_)
  have h2 : f1 r = oB 7 [.ref p, .int (iZ (0)), .int (iZ (b))] := h2
  refine j_aload_n hG dX8_clear_5 rfl rfl ?_
  refine j_iconst hG dX8_clear_6 ?_
  refine j_put hG pX8_19 dX8_clear_7 h2 (nar_zr (by omega)) (fit_z (by omega)) (Nat.le_of_ble_eq_true rfl) (fun f4 h5 fr6 => ?_)
  have h5 : f4 r = oB 7 [.ref p, .int (iZ (0)), .int (iZ (0))] := h5
  exact j_vret hG hZ dX8_clear_10 (Nat.zero_le _) (Nat.zero_le _) (⟨rfl, h5, fun q hq => (Eq.trans (fr6 q hq) (fr3 q hq))⟩)
theorem c_X3_clear {l : Launch} {E : JE} {f : Hp} {r : Nat} {a b c e g m : Int} (h : f r = oB 3 [.int (iZ (a)), .int (iZ (b)), .int (iZ (c)), .int (iZ (e)), .int (iZ (g)), .int (iZ (m))])  : KX3_clear l E [.ref r] f (fun v f' => v = none ∧ f' r = oB 3 [.int (iZ (0)), .int (iZ (-1)), .int (iZ (-1)), .int (iZ (0)), .int (iZ (61)), .int (iZ (0))] ∧ (∀ q, q ≠ r → f' q = f q)) := by
  refine ct_of (own := RX3) (lv := [(0, .ref r)]) (by decide +kernel) rfl (Nat.le_of_ble_eq_true rfl) rfl ?_
  intro G hG hZ
  refine j_aload_n hG dX3_clear_0 rfl rfl ?_
  refine j_iconst hG dX3_clear_1 ?_
  refine j_put hG pX3_9 dX3_clear_2 h rfl rfl (Nat.le_of_ble_eq_true rfl) (fun f1 h2 fr3 => ?_)
  have h2 : f1 r = oB 3 [.int (iZ (0)), .int (iZ (b)), .int (iZ (c)), .int (iZ (e)), .int (iZ (g)), .int (iZ (m))] := h2
  refine j_aload_n hG dX3_clear_5 rfl rfl ?_
  refine j_iconst hG dX3_clear_6 ?_
  refine j_put hG pX3_15 dX3_clear_7 h2 rfl rfl (Nat.le_of_ble_eq_true rfl) (fun f4 h5 fr6 => ?_)
  have h5 : f4 r = oB 3 [.int (iZ (0)), .int (iZ (-1)), .int (iZ (c)), .int (iZ (e)), .int (iZ (g)), .int (iZ (m))] := h5
  refine j_aload_n hG dX3_clear_10 rfl rfl ?_
  refine j_iconst hG dX3_clear_11 ?_
  refine j_put hG pX3_18 dX3_clear_12 h5 rfl rfl (Nat.le_of_ble_eq_true rfl) (fun f7 h8 fr9 => ?_)
  have h8 : f7 r = oB 3 [.int (iZ (0)), .int (iZ (-1)), .int (iZ (-1)), .int (iZ (e)), .int (iZ (g)), .int (iZ (m))] := h8
  refine j_aload_n hG dX3_clear_15 rfl rfl ?_
  refine j_iconst hG dX3_clear_16 ?_
  refine j_put hG pX3_21 dX3_clear_17 h8 rfl rfl (Nat.le_of_ble_eq_true rfl) (fun f10 h11 fr12 => ?_)
  have h11 : f10 r = oB 3 [.int (iZ (0)), .int (iZ (-1)), .int (iZ (-1)), .int (iZ (0)), .int (iZ (g)), .int (iZ (m))] := h11
  refine j_aload_n hG dX3_clear_20 rfl rfl ?_
  refine j_bipush hG dX3_clear_21 (by decide) ?_
  refine j_put hG pX3_24 dX3_clear_23 h11 (nar_cr (by omega)) (fit_c (by omega)) (Nat.le_of_ble_eq_true rfl) (fun f13 h14 fr15 => ?_)
  have h14 : f13 r = oB 3 [.int (iZ (0)), .int (iZ (-1)), .int (iZ (-1)), .int (iZ (0)), .int (iZ (61)), .int (iZ (m))] := h14
  refine j_aload_n hG dX3_clear_26 rfl rfl ?_
  refine j_iconst hG dX3_clear_27 ?_
  refine j_put hG pX3_28 dX3_clear_28 h14 rfl rfl (Nat.le_of_ble_eq_true rfl) (fun f16 h17 fr18 => ?_)
  have h17 : f16 r = oB 3 [.int (iZ (0)), .int (iZ (-1)), .int (iZ (-1)), .int (iZ (0)), .int (iZ (61)), .int (iZ (0))] := h17
  exact j_vret hG hZ dX3_clear_31 (Nat.zero_le _) (Nat.zero_le _) (⟨rfl, h17, fun q hq => (Eq.trans (fr18 q hq) (Eq.trans (fr15 q hq) (Eq.trans (fr12 q hq) (Eq.trans (fr9 q hq) (Eq.trans (fr6 q hq) (fr3 q hq))))))⟩)
theorem c_X5_add {l : Launch} {E : JE} {f : Hp} {r p : Nat} {a : Int} (h : f r = oB 5 [.ref p, .int (iZ (a))]) (ha : 0 ≤ a ∧ a < 12) : KX5_add l E [.ref r] f (fun v f' => v = none ∧ f' r = oB 5 [.ref p, .int (iZ (a + 1))] ∧ (∀ q, q ≠ r → f' q = f q)) := by
  refine ct_of (own := RX5) (lv := [(0, .ref r)]) (by decide +kernel) rfl (Nat.le_of_ble_eq_true rfl) rfl ?_
  intro G hG hZ
  refine j_aload_n hG dX5_add_0 rfl rfl ?_
  refine j_get hG fX5_18 dX5_add_1 h rfl ?_
  refine j_bipush hG dX5_add_4 (by decide) ?_
  refine j_icmp_ge (tgt := 19) hG dX5_add_6 (by decide) (by omega) (by omega) (fun c1 => ?_) (fun c1 => ?_)
  · -- taken at 6
    exfalso; omega
  · -- on at 6
    refine j_aload_n hG dX5_add_9 rfl rfl ?_
    refine j_dup hG dX5_add_10 rfl ?_
    refine j_get hG fX5_18 dX5_add_11 h rfl ?_
    refine j_iconst hG dX5_add_14 ?_
    refine j_iadd hG dX5_add_15 ?_
    refine j_put hG pX5_18 dX5_add_16 h rfl rfl (Nat.le_of_ble_eq_true rfl) (fun f2 h3 fr4 => ?_)
    have h3 : f2 r = oB 5 [.ref p, .int (iZ (a + 1))] := h3
    exact j_vret hG hZ dX5_add_19 (Nat.zero_le _) (Nat.zero_le _) (⟨rfl, h3, fun q hq => (fr4 q hq)⟩)
theorem c_X10_cut {l : Launch} {E : JE} {f : Hp} {r p : Nat} {a b c n : Int} (h : f r = oB 9 [.ref p, .int (iZ (a)), .int (iZ (b)), .int (iZ (c))]) (ha : -2147483648 ≤ a ∧ a < 2147483648) (hn : -2147483648 ≤ n ∧ n < 2147483648) : KX10_cut l E [.ref r, .int (iZ (n))] f (fun v f' => v = none ∧ f' r = oB 9 [.ref p, .int (iZ (max 0 (min n a))), .int (iZ (b)), .int (iZ (c))] ∧ (∀ q, q ≠ r → f' q = f q)) := by
  refine ct_of (own := RX10) (lv := [(0, .ref r), (1, .int (iZ (n)))]) (by decide +kernel) rfl (Nat.le_of_ble_eq_true rfl) rfl ?_
  intro G hG hZ
  refine j_aload_n hG dX10_cut_0 rfl rfl ?_
  refine j_iconst hG dX10_cut_1 ?_
  refine j_iload_n hG dX10_cut_2 rfl rfl ?_
  refine j_aload_n hG dX10_cut_3 rfl rfl ?_
  refine j_get hG fX10_15 dX10_cut_4 h rfl ?_
  refine j_min hG vX10_19 dX10_cut_7 (by omega) (by omega) (by decide) (by decide) (Nat.le_of_ble_eq_true rfl) (Nat.zero_le _) (Nat.zero_le _) ?_
  refine j_max hG vX10_25 dX10_cut_10 (by omega) (by omega) (by decide) (by decide) (Nat.le_of_ble_eq_true rfl) (Nat.zero_le _) (Nat.zero_le _) ?_
  refine j_put hG pX10_15 dX10_cut_13 h rfl rfl (Nat.le_of_ble_eq_true rfl) (fun f1 h2 fr3 => ?_)
  have h2 : f1 r = oB 9 [.ref p, .int (iZ (max 0 (min n a))), .int (iZ (b)), .int (iZ (c))] := h2
  exact j_vret hG hZ dX10_cut_16 (Nat.zero_le _) (Nat.zero_le _) (⟨rfl, h2, fun q hq => (fr3 q hq)⟩)
theorem c_X10_isAtEnd {l : Launch} {E : JE} {f : Hp} {r p : Nat} {a b c : Int} (h : f r = oB 9 [.ref p, .int (iZ (a)), .int (iZ (b)), .int (iZ (c))]) (ha : -2147483648 ≤ a ∧ a < 2147483648) (hb : -2147483648 ≤ b ∧ b < 2147483648) : KX10_isAtEnd l E [.ref r] f (fun v f' => (∃ z : Int, v = some (.int (iZ z)) ∧ ((z = 1 ∧ a ≤ b) ∨ (z = 0 ∧ b < a))) ∧ f = f') := by
  refine ct_of (own := RX10) (lv := [(0, .ref r)]) (by decide +kernel) rfl (Nat.le_of_ble_eq_true rfl) rfl ?_
  intro G hG hZ
  refine j_aload_n hG dX10_isAtEnd_0 rfl rfl ?_
  refine j_get hG fX10_34 dX10_isAtEnd_1 h rfl ?_
  refine j_aload_n hG dX10_isAtEnd_4 rfl rfl ?_
  refine j_get hG fX10_15 dX10_isAtEnd_5 h rfl ?_
  refine j_icmp_lt (tgt := 15) hG dX10_isAtEnd_8 (by decide) (by omega) (by omega) (fun c1 => ?_) (fun c1 => ?_)
  · -- taken at 8
    refine j_iconst hG dX10_isAtEnd_15 ?_
    exact j_zret hG hZ dX10_isAtEnd_16 (Nat.zero_le _) (Nat.zero_le _) (nar_zr (by omega)) (⟨⟨_, rfl, by omega⟩, rfl⟩)
  · -- on at 8
    refine j_iconst hG dX10_isAtEnd_11 ?_
    refine j_goto (tgt := 16) hG dX10_isAtEnd_12 (by decide) ?_
    exact j_zret hG hZ dX10_isAtEnd_16 (Nat.zero_le _) (Nat.zero_le _) (nar_zr (by omega)) (⟨⟨_, rfl, by omega⟩, rfl⟩)
theorem c_X10_hasRoomFor {l : Launch} {E : JE} {f : Hp} {r p : Nat} {a b c n : Int} (h : f r = oB 9 [.ref p, .int (iZ (a)), .int (iZ (b)), .int (iZ (c))]) (ha : 0 ≤ a ∧ a ≤ 300) (hn : 0 ≤ n ∧ n ≤ 1000) : KX10_hasRoomFor l E [.ref r, .int (iZ (n))] f (fun v f' => (∃ z : Int, v = some (.int (iZ z)) ∧ ((z = 1 ∧ a + n ≤ 300) ∨ (z = 0 ∧ 300 < a + n))) ∧ f = f') := by
  refine ct_of (own := RX10) (lv := [(0, .ref r), (1, .int (iZ (n)))]) (by decide +kernel) rfl (Nat.le_of_ble_eq_true rfl) rfl ?_
  intro G hG hZ
  refine j_aload_n hG dX10_hasRoomFor_0 rfl rfl ?_
  refine j_get hG fX10_15 dX10_hasRoomFor_1 h rfl ?_
  refine j_iload_n hG dX10_hasRoomFor_4 rfl rfl ?_
  refine j_iadd hG dX10_hasRoomFor_5 ?_
  refine j_sipush hG dX10_hasRoomFor_6 (by decide) ?_
  refine j_icmp_gt (tgt := 16) hG dX10_hasRoomFor_9 (by decide) (by omega) (by omega) (fun c1 => ?_) (fun c1 => ?_)
  · -- taken at 9
    refine j_iconst hG dX10_hasRoomFor_16 ?_
    exact j_zret hG hZ dX10_hasRoomFor_17 (Nat.zero_le _) (Nat.zero_le _) (nar_zr (by omega)) (⟨⟨_, rfl, by omega⟩, rfl⟩)
  · -- on at 9
    refine j_iconst hG dX10_hasRoomFor_12 ?_
    refine j_goto (tgt := 17) hG dX10_hasRoomFor_13 (by decide) ?_
    exact j_zret hG hZ dX10_hasRoomFor_17 (Nat.zero_le _) (Nat.zero_le _) (nar_zr (by omega)) (⟨⟨_, rfl, by omega⟩, rfl⟩)
theorem c_X5_at {l : Launch} {E : JE} {f : Hp} {r p b : Nat} {a t : Int} {g : Int → Option Nat} (h : f r = oB 5 [.ref p, .int (iZ (a))]) (hp : f p = aQ (E.2.1 5) 12 (g)) (ht : 0 ≤ t ∧ t < 12) (hg : g t = some b) : KX5_at l E [.ref r, .int (iZ (t))] f (fun v f' => v = some (.ref b) ∧ f = f') := by
  refine ct_of (own := RX5) (lv := [(0, .ref r), (1, .int (iZ (t)))]) (by decide +kernel) rfl (Nat.le_of_ble_eq_true rfl) rfl ?_
  intro G hG hZ
  refine j_aload_n hG dX5_at_0 rfl rfl ?_
  refine j_get hG fX5_11 dX5_at_1 h rfl ?_
  refine j_iload_n hG dX5_at_4 rfl rfl ?_
  refine j_iconst hG dX5_at_5 ?_
  refine j_bipush hG dX5_at_6 (by decide) ?_
  refine j_callSN (rest := [.ref p]) hG vX5_22 dX5_at_8 (c_X11_isWithin (a := t) (lo := 0) (hi := 11) (by omega) (by omega) (by omega)) rfl rfl (by decide) (by decide) (Nat.le_of_ble_eq_true rfl) rfl rfl (Nat.zero_le _) (Nat.zero_le _) ?_
  rintro _ _ ⟨⟨b1, rfl, hb2⟩, rfl⟩
  refine j_st (st' := [.int (iZ (b1)), .ref p]) rfl ?_
  refine j_if_eq (tgt := 18) hG dX5_at_11 (by decide) (by omega) (fun c3 => ?_) (fun c3 => ?_)
  · -- taken at 11
    exfalso; omega
  · -- on at 11
    refine j_iload_n hG dX5_at_14 rfl rfl ?_
    refine j_goto (tgt := 19) hG dX5_at_15 (by decide) ?_
    refine j_ald5 hG dX5_at_19 hp (by omega) (by decide) hg ?_
    exact j_aret hG hZ dX5_at_20 (Nat.zero_le _) (Nat.zero_le _) (⟨rfl, rfl⟩)
theorem c_X11_refuse {l : Launch} {E : JE} {f : Hp} {r x0 x1 x2 x3 x4 x5 x6 x7 x8 : Nat} {la fp rf : Int} {c : Int} (h : f r = oB 10 [.ref x0, .ref x1, .ref x2, .ref x3, .ref x4, .ref x5, .ref x6, .ref x7, .ref x8, .int (iZ (la)), .int (iZ (fp)), .int (iZ (rf))])  : KX11_refuse l E [.ref r, .int (iZ (c))] f (fun v f' => v = some (.int (iZ (c))) ∧ f' r = oB 10 [.ref x0, .ref x1, .ref x2, .ref x3, .ref x4, .ref x5, .ref x6, .ref x7, .ref x8, .int (iZ (la)), .int (iZ (fp)), .int (iZ (c))] ∧ (∀ q, q ≠ r → f' q = f q)) := by
  refine ct_of (own := RX11) (lv := [(0, .ref r), (1, .int (iZ (c)))]) (by decide +kernel) rfl (Nat.le_of_ble_eq_true rfl) rfl ?_
  intro G hG hZ
  refine j_aload_n hG dX11_refuse_0 rfl rfl ?_
  refine j_iload_n hG dX11_refuse_1 rfl rfl ?_
  refine j_put hG pX11_71 dX11_refuse_2 h rfl rfl (Nat.le_of_ble_eq_true rfl) (fun f1 h2 fr3 => ?_)
  have h2 : f1 r = oB 10 [.ref x0, .ref x1, .ref x2, .ref x3, .ref x4, .ref x5, .ref x6, .ref x7, .ref x8, .int (iZ (la)), .int (iZ (fp)), .int (iZ (c))] := h2
  refine j_iload_n hG dX11_refuse_5 rfl rfl ?_
  exact j_iret hG hZ dX11_refuse_6 (Nat.zero_le _) (Nat.zero_le _) (⟨rfl, h2, fun q hq => (fr3 q hq)⟩)
theorem c_X11_grant {l : Launch} {E : JE} {f : Hp} {r x0 x1 x2 x3 x4 x5 x6 x7 x8 : Nat} {la fp rf : Int} {c : Int} (h : f r = oB 10 [.ref x0, .ref x1, .ref x2, .ref x3, .ref x4, .ref x5, .ref x6, .ref x7, .ref x8, .int (iZ (la)), .int (iZ (fp)), .int (iZ (rf))])  : KX11_grant l E [.ref r, .int (iZ (c))] f (fun v f' => v = some (.int (iZ (c))) ∧ f' r = oB 10 [.ref x0, .ref x1, .ref x2, .ref x3, .ref x4, .ref x5, .ref x6, .ref x7, .ref x8, .int (iZ (la)), .int (iZ (fp)), .int (iZ (0))] ∧ (∀ q, q ≠ r → f' q = f q)) := by
  refine ct_of (own := RX11) (lv := [(0, .ref r), (1, .int (iZ (c)))]) (by decide +kernel) rfl (Nat.le_of_ble_eq_true rfl) rfl ?_
  intro G hG hZ
  refine j_aload_n hG dX11_grant_0 rfl rfl ?_
  refine j_iconst hG dX11_grant_1 ?_
  refine j_put hG pX11_71 dX11_grant_2 h rfl rfl (Nat.le_of_ble_eq_true rfl) (fun f1 h2 fr3 => ?_)
  have h2 : f1 r = oB 10 [.ref x0, .ref x1, .ref x2, .ref x3, .ref x4, .ref x5, .ref x6, .ref x7, .ref x8, .int (iZ (la)), .int (iZ (fp)), .int (iZ (0))] := h2
  refine j_iload_n hG dX11_grant_5 rfl rfl ?_
  exact j_iret hG hZ dX11_grant_6 (Nat.zero_le _) (Nat.zero_le _) (⟨rfl, h2, fun q hq => (fr3 q hq)⟩)
theorem c_X2_add {l : Launch} {E : JE} {f : Hp} {r p u : Nat} {n s0 x : Int} {gs gt : Int → Int} (h : f r = oB 2 [.ref p, .ref u, .int (iZ (n))]) (hp : f p = aI (E.2.1 0) 150 (gs)) (hu : f u = aJ (E.2.1 1) 150 (gt)) (hn : 0 ≤ n ∧ n ≤ 150) : KX2_add l E [.ref r, .int (iZ (s0)), .long (lZ (x))] f (fun v f' => (n = 150 ∧ v = some (.int (iZ 0)) ∧ f = f') ∨ (n < 150 ∧ v = some (.int (iZ 1)) ∧ f' r = oB 2 [.ref p, .ref u, .int (iZ (n + 1))] ∧ f' p = aI (E.2.1 0) 150 (fup gs n s0) ∧ f' u = aJ (E.2.1 1) 150 (fup gt n x) ∧ ∀ q, q ≠ r → q ≠ p → q ≠ u → f' q = f q)) := by
  refine ct_of (own := RX2) (lv := [(0, .ref r), (1, .int (iZ (s0))), (2, .long (lZ (x)))]) (by decide +kernel) rfl (Nat.le_of_ble_eq_true rfl) rfl ?_
  intro G hG hZ
  refine j_aload_n hG dX2_add_0 rfl rfl ?_
  refine j_get hG fX2_19 dX2_add_1 h rfl ?_
  refine j_sipush hG dX2_add_4 (by decide) ?_
  refine j_icmp_lt (tgt := 12) hG dX2_add_7 (by decide) (by omega) (by omega) (fun c1 => ?_) (fun c1 => ?_)
  · -- taken at 7
    refine j_aload_n hG dX2_add_12 rfl rfl ?_
    refine j_get hG fX2_9 dX2_add_13 h rfl ?_
    refine j_aload_n hG dX2_add_16 rfl rfl ?_
    refine j_get hG fX2_19 dX2_add_17 h rfl ?_
    refine j_iload_n hG dX2_add_20 rfl rfl ?_
    refine j_iast hG dX2_add_21 hp (by omega) (by decide) (fun f2 h3 fr4 => ?_)
    have h5 := (fr4 r (h_ne h hp oa_I)).trans h
    have h6 := (fr4 u (h_ne hu hp (Ne.symm aIJ))).trans hu
    refine j_aload_n hG dX2_add_22 rfl rfl ?_
    refine j_get hG fX2_15 dX2_add_23 h5 rfl ?_
    refine j_aload_n hG dX2_add_26 rfl rfl ?_
    refine j_get hG fX2_19 dX2_add_27 h5 rfl ?_
    refine j_lload_n hG dX2_add_30 rfl rfl ?_
    refine j_last hG dX2_add_31 h6 (by omega) (by decide) (fun f7 h8 fr9 => ?_)
    have h10 := (fr9 r (h_ne h5 h6 oa_J)).trans h5
    have h11 := (fr9 p (h_ne h3 h6 aIJ)).trans h3
    refine j_aload_n hG dX2_add_32 rfl rfl ?_
    refine j_dup hG dX2_add_33 rfl ?_
    refine j_get hG fX2_19 dX2_add_34 h10 rfl ?_
    refine j_iconst hG dX2_add_37 ?_
    refine j_iadd hG dX2_add_38 ?_
    refine j_put hG pX2_19 dX2_add_39 h10 rfl rfl (Nat.le_of_ble_eq_true rfl) (fun f12 h13 fr14 => ?_)
    have h13 : f12 r = oB 2 [.ref p, .ref u, .int (iZ (n + 1))] := h13
    have h15 := (fr14 p (h_ne h11 h10 (Ne.symm oa_I))).trans h11
    have h16 := (fr14 u (h_ne h8 h10 (Ne.symm oa_J))).trans h8
    refine j_iconst hG dX2_add_42 ?_
    exact j_zret hG hZ dX2_add_43 (Nat.zero_le _) (Nat.zero_le _) (nar_zr (by omega)) (Or.inr ⟨by omega, rfl, h13, h15, h16, fun q h1 h2 h3 => (Eq.trans (fr14 q h1) (Eq.trans (fr9 q h3) (fr4 q h2)))⟩)
  · -- on at 7
    refine j_iconst hG dX2_add_10 ?_
    exact j_zret hG hZ dX2_add_11 (Nat.zero_le _) (Nat.zero_le _) (nar_zr (by omega)) (Or.inl ⟨by omega, rfl, rfl⟩)
theorem c_X2_sourceAt {l : Launch} {E : JE} {f : Hp} {r p u : Nat} {n i : Int} {gs : Int → Int} (h : f r = oB 2 [.ref p, .ref u, .int (iZ (n))]) (hp : f p = aI (E.2.1 0) 150 (gs)) (hn : 0 ≤ n ∧ n ≤ 150) (hi : 0 ≤ i ∧ i < n) : KX2_sourceAt l E [.ref r, .int (iZ (i))] f (fun v f' => v = some (.int (iZ (gs i))) ∧ f = f') := by
  refine ct_of (own := RX2) (lv := [(0, .ref r), (1, .int (iZ (i)))]) (by decide +kernel) rfl (Nat.le_of_ble_eq_true rfl) rfl ?_
  intro G hG hZ
  refine j_iload_n hG dX2_sourceAt_0 rfl rfl ?_
  refine j_iconst hG dX2_sourceAt_1 ?_
  refine j_aload_n hG dX2_sourceAt_2 rfl rfl ?_
  refine j_get hG fX2_19 dX2_sourceAt_3 h rfl ?_
  refine j_iconst hG dX2_sourceAt_6 ?_
  refine j_isub hG dX2_sourceAt_7 ?_
  refine j_callSN (rest := []) hG vX2_23 dX2_sourceAt_8 (c_X11_isWithin (a := i) (lo := 0) (hi := n - 1) (by omega) (by omega) (by omega)) rfl rfl (by decide) (by decide) (Nat.le_of_ble_eq_true rfl) rfl rfl (Nat.zero_le _) (Nat.zero_le _) ?_
  rintro _ _ ⟨⟨b1, rfl, hb2⟩, rfl⟩
  refine j_st (st' := [.int (iZ (b1))]) rfl ?_
  refine j_if_eq (tgt := 23) hG dX2_sourceAt_11 (by decide) (by omega) (fun c3 => ?_) (fun c3 => ?_)
  · -- taken at 11
    exfalso; omega
  · -- on at 11
    refine j_aload_n hG dX2_sourceAt_14 rfl rfl ?_
    refine j_get hG fX2_9 dX2_sourceAt_15 h rfl ?_
    refine j_iload_n hG dX2_sourceAt_18 rfl rfl ?_
    refine j_iald hG dX2_sourceAt_19 hp (by omega) (by decide) ?_
    refine j_goto (tgt := 24) hG dX2_sourceAt_20 (by decide) ?_
    exact j_iret hG hZ dX2_sourceAt_24 (Nat.zero_le _) (Nat.zero_le _) (⟨rfl, rfl⟩)
theorem c_X2_rowAt {l : Launch} {E : JE} {f : Hp} {r p u : Nat} {n i : Int} {gt : Int → Int} (h : f r = oB 2 [.ref p, .ref u, .int (iZ (n))]) (hu : f u = aJ (E.2.1 1) 150 (gt)) (hn : 0 ≤ n ∧ n ≤ 150) (hi : 0 ≤ i ∧ i < n) : KX2_rowAt l E [.ref r, .int (iZ (i))] f (fun v f' => v = some (.long (lZ (gt i))) ∧ f = f') := by
  refine ct_of (own := RX2) (lv := [(0, .ref r), (1, .int (iZ (i)))]) (by decide +kernel) rfl (Nat.le_of_ble_eq_true rfl) rfl ?_
  intro G hG hZ
  refine j_iload_n hG dX2_rowAt_0 rfl rfl ?_
  refine j_iconst hG dX2_rowAt_1 ?_
  refine j_aload_n hG dX2_rowAt_2 rfl rfl ?_
  refine j_get hG fX2_19 dX2_rowAt_3 h rfl ?_
  refine j_iconst hG dX2_rowAt_6 ?_
  refine j_isub hG dX2_rowAt_7 ?_
  refine j_callSN (rest := []) hG vX2_23 dX2_rowAt_8 (c_X11_isWithin (a := i) (lo := 0) (hi := n - 1) (by omega) (by omega) (by omega)) rfl rfl (by decide) (by decide) (Nat.le_of_ble_eq_true rfl) rfl rfl (Nat.zero_le _) (Nat.zero_le _) ?_
  rintro _ _ ⟨⟨b1, rfl, hb2⟩, rfl⟩
  refine j_st (st' := [.int (iZ (b1))]) rfl ?_
  refine j_if_eq (tgt := 23) hG dX2_rowAt_11 (by decide) (by omega) (fun c3 => ?_) (fun c3 => ?_)
  · -- taken at 11
    exfalso; omega
  · -- on at 11
    refine j_aload_n hG dX2_rowAt_14 rfl rfl ?_
    refine j_get hG fX2_15 dX2_rowAt_15 h rfl ?_
    refine j_iload_n hG dX2_rowAt_18 rfl rfl ?_
    refine j_lald hG dX2_rowAt_19 hu (by omega) (by decide) ?_
    refine j_goto (tgt := 24) hG dX2_rowAt_20 (by decide) ?_
    exact j_lret hG hZ dX2_rowAt_24 (Nat.zero_le _) (Nat.zero_le _) (⟨rfl, rfl⟩)
theorem c_X1_has {l : Launch} {E : JE} {f : Hp} {r p u : Nat} {n h0 : Int} {gt : Int → Int} (h : f r = oB 1 [.ref p, .ref u, .int (iZ (n))]) (hp : f p = aI (E.2.1 2) 8 (gt)) (hh : -2147483648 ≤ h0 ∧ h0 < 2147483648) (hg : ∀ j, 0 ≤ j → j < 8 → gt j = 0 ∨ gt j = 1) : KX1_has l E [.ref r, .int (iZ (h0))] f (fun v f' => (∃ z : Int, v = some (.int (iZ z)) ∧ (z = 0 ∨ z = 1) ∧ (z = 1 ↔ 0 ≤ h0 ∧ h0 < 8 ∧ gt h0 = 1)) ∧ f = f') := by
  refine ct_of (own := RX1) (lv := [(0, .ref r), (1, .int (iZ (h0)))]) (by decide +kernel) rfl (Nat.le_of_ble_eq_true rfl) rfl ?_
  intro G hG hZ
  refine j_iload_n hG dX1_has_0 rfl rfl ?_
  refine j_iconst hG dX1_has_1 ?_
  refine j_bipush hG dX1_has_2 (by decide) ?_
  refine j_callSN (rest := []) hG vX1_23 dX1_has_4 (c_X11_isWithin (a := h0) (lo := 0) (hi := 7) (by omega) (by omega) (by omega)) rfl rfl (by decide) (by decide) (Nat.le_of_ble_eq_true rfl) rfl rfl (Nat.zero_le _) (Nat.zero_le _) ?_
  rintro _ _ ⟨⟨b1, rfl, hb2⟩, rfl⟩
  refine j_st (st' := [.int (iZ (b1))]) rfl ?_
  refine j_if_eq (tgt := 23) hG dX1_has_7 (by decide) (by omega) (fun c3 => ?_) (fun c3 => ?_)
  · -- taken at 7
    refine j_iconst hG dX1_has_23 ?_
    exact j_zret hG hZ dX1_has_24 (Nat.zero_le _) (Nat.zero_le _) (nar_zr (by omega)) (⟨⟨_, rfl, by omega, by omega⟩, rfl⟩)
  · -- on at 7
    refine j_aload_n hG dX1_has_10 rfl rfl ?_
    refine j_get hG fX1_9 dX1_has_11 h rfl ?_
    refine j_iload_n hG dX1_has_14 rfl rfl ?_
    refine j_zald hG dX1_has_15 hp (by omega) (by decide) ?_
    have hgh := hg h0 (by omega) (by omega)
    refine j_if_eq (tgt := 23) hG dX1_has_16 (by decide) (by omega) (fun c4 => ?_) (fun c4 => ?_)
    · -- taken at 16
      refine j_iconst hG dX1_has_23 ?_
      exact j_zret hG hZ dX1_has_24 (Nat.zero_le _) (Nat.zero_le _) (nar_zr (by omega)) (⟨⟨_, rfl, by omega, by omega⟩, rfl⟩)
    · -- on at 16
      refine j_iconst hG dX1_has_19 ?_
      refine j_goto (tgt := 24) hG dX1_has_20 (by decide) ?_
      exact j_zret hG hZ dX1_has_24 (Nat.zero_le _) (Nat.zero_le _) (nar_zr (by omega)) (⟨⟨_, rfl, by omega, by omega⟩, rfl⟩)
theorem c_X1_ownerOf {l : Launch} {E : JE} {f : Hp} {r p u : Nat} {n k0 : Int} {go : Int → Int} (h : f r = oB 1 [.ref p, .ref u, .int (iZ (n))]) (hu : f u = aI (E.2.1 0) 32 (go)) (hh : -2147483648 ≤ k0 ∧ k0 < 2147483648) : KX1_ownerOf l E [.ref r, .int (iZ (k0))] f (fun v f' => v = some (.int (iZ (if 0 ≤ k0 ∧ k0 < 32 then go k0 else -1))) ∧ f = f') := by
  refine ct_of (own := RX1) (lv := [(0, .ref r), (1, .int (iZ (k0)))]) (by decide +kernel) rfl (Nat.le_of_ble_eq_true rfl) rfl ?_
  intro G hG hZ
  refine j_iload_n hG dX1_ownerOf_0 rfl rfl ?_
  refine j_iconst hG dX1_ownerOf_1 ?_
  refine j_bipush hG dX1_ownerOf_2 (by decide) ?_
  refine j_callSN (rest := []) hG vX1_23 dX1_ownerOf_4 (c_X11_isWithin (a := k0) (lo := 0) (hi := 31) (by omega) (by omega) (by omega)) rfl rfl (by decide) (by decide) (Nat.le_of_ble_eq_true rfl) rfl rfl (Nat.zero_le _) (Nat.zero_le _) ?_
  rintro _ _ ⟨⟨b1, rfl, hb2⟩, rfl⟩
  refine j_st (st' := [.int (iZ (b1))]) rfl ?_
  refine j_if_eq (tgt := 19) hG dX1_ownerOf_7 (by decide) (by omega) (fun c3 => ?_) (fun c3 => ?_)
  · -- taken at 7
    refine j_iconst hG dX1_ownerOf_19 ?_
    exact j_iret hG hZ dX1_ownerOf_20 (Nat.zero_le _) (Nat.zero_le _) (⟨by first | rw [if_pos (by omega)] | rw [if_neg (by omega)], rfl⟩)
  · -- on at 7
    refine j_aload_n hG dX1_ownerOf_10 rfl rfl ?_
    refine j_get hG fX1_19 dX1_ownerOf_11 h rfl ?_
    refine j_iload_n hG dX1_ownerOf_14 rfl rfl ?_
    refine j_iald hG dX1_ownerOf_15 hu (by omega) (by decide) ?_
    refine j_goto (tgt := 20) hG dX1_ownerOf_16 (by decide) ?_
    exact j_iret hG hZ dX1_ownerOf_20 (Nat.zero_le _) (Nat.zero_le _) (⟨by first | rw [if_pos (by omega)] | rw [if_neg (by omega)], rfl⟩)
