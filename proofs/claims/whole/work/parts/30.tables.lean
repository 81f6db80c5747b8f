theorem c_X9_draft {l : Launch} {E : JE} {f : Hp} {T cu ofr mk it no sc pl dr : Nat} (hT : f T = oB 8 [.ref cu, .ref ofr, .ref mk, .ref it, .ref no, .ref sc, .ref pl, .ref dr])  : KX9_draft l E [.ref T] f (fun v f' => v = some (.ref dr) ∧ f = f') := by
  refine ct_of (own := RX9) (lv := [(0, .ref T)]) (by decide +kernel) rfl (Nat.le_of_ble_eq_true rfl) rfl ?_
  intro G hG hZ
  refine j_aload_n hG dX9_draft_0 rfl rfl ?_
  refine j_get hG fX9_43 dX9_draft_1 hT rfl ?_
  exact j_aret hG hZ dX9_draft_4 (Nat.zero_le _) (Nat.zero_le _) (⟨rfl, rfl⟩)
theorem c_X9_takeDraft {l : Launch} {E : JE} {f : Hp} {T cu ofr mk it no sc pl dr : Nat} (hT : f T = oB 8 [.ref cu, .ref ofr, .ref mk, .ref it, .ref no, .ref sc, .ref pl, .ref dr])  : KX9_takeDraft l E [.ref T] f (fun v f' => v = none ∧ f' T = oB 8 [.ref cu, .ref ofr, .ref mk, .ref it, .ref no, .ref sc, .ref dr, .ref pl] ∧ ∀ q, q ≠ T → f' q = f q) := by
  refine ct_of (own := RX9) (lv := [(0, .ref T)]) (by decide +kernel) rfl (Nat.le_of_ble_eq_true rfl) rfl ?_
  intro G hG hZ
  refine j_aload_n hG dX9_takeDraft_0 rfl rfl ?_
  refine j_get hG fX9_39 dX9_takeDraft_1 hT rfl ?_
  refine j_astore_n (lv' := [(0, .ref T), (1, .ref pl)]) hG dX9_takeDraft_4 rfl (by decide) rfl ?_
  refine j_aload_n hG dX9_takeDraft_5 rfl rfl ?_
  refine j_aload_n hG dX9_takeDraft_6 rfl rfl ?_
  refine j_get hG fX9_43 dX9_takeDraft_7 hT rfl ?_
  refine j_put hG pX9_39 dX9_takeDraft_10 hT rfl rfl (Nat.le_of_ble_eq_true rfl) (fun f1 h2 fr3 => ?_)
  have h2 : f1 T = oB 8 [.ref cu, .ref ofr, .ref mk, .ref it, .ref no, .ref sc, .ref dr, .ref dr] := h2
  refine j_aload_n hG dX9_takeDraft_13 rfl rfl ?_
  refine j_aload_n hG dX9_takeDraft_14 rfl rfl ?_
  refine j_put hG pX9_43 dX9_takeDraft_15 h2 rfl rfl (Nat.le_of_ble_eq_true rfl) (fun f4 h5 fr6 => ?_)
  have h5 : f4 T = oB 8 [.ref cu, .ref ofr, .ref mk, .ref it, .ref no, .ref sc, .ref dr, .ref pl] := h5
  exact j_vret hG hZ dX9_takeDraft_18 (Nat.zero_le _) (Nat.zero_le _) (⟨rfl, h5, fun q q1 => (Eq.trans (fr6 q q1) (fr3 q q1))⟩)
theorem c_X9_size {l : Launch} {E : JE} {f : Hp} {T cu ofr mk it no sc pl dr : Nat} {pm : Nat} {sz : Int} (hT : f T = oB 8 [.ref cu, .ref ofr, .ref mk, .ref it, .ref no, .ref sc, .ref pl, .ref dr]) (hpl : f pl = oB 5 [.ref pm, .int (iZ (sz))])  : KX9_size l E [.ref T] f (fun v f' => v = some (.int (iZ sz)) ∧ f = f') := by
  refine ct_of (own := RX9) (lv := [(0, .ref T)]) (by decide +kernel) rfl (Nat.le_of_ble_eq_true rfl) rfl ?_
  intro G hG hZ
  refine j_aload_n hG dX9_size_0 rfl rfl ?_
  refine j_get hG fX9_39 dX9_size_1 hT rfl ?_
  refine j_callV (rest := []) hG vX9_46 dX9_size_4 (c_X5_size hpl) hpl rfl rfl (by decide) (by decide) (Nat.le_of_ble_eq_true rfl) rfl rfl (Nat.zero_le _) (Nat.zero_le _) ?_
  rintro _ _ ⟨rfl, rfl⟩
  refine j_st (st' := [.int (iZ (sz))]) rfl ?_
  exact j_iret hG hZ dX9_size_7 (Nat.zero_le _) (Nat.zero_le _) (⟨rfl, rfl⟩)
theorem c_X9_has {l : Launch} {E : JE} {f : Hp} {T cu ofr mk it no sc pl dr : Nat} {pm : Nat} {sz i : Int} (hT : f T = oB 8 [.ref cu, .ref ofr, .ref mk, .ref it, .ref no, .ref sc, .ref pl, .ref dr]) (hpl : f pl = oB 5 [.ref pm, .int (iZ (sz))]) (hsz : 0 ≤ sz ∧ sz ≤ 12) (hi : -2147483648 ≤ i ∧ i < 2147483648) : KX9_has l E [.ref T, .int (iZ (i))] f (fun v f' => (∃ z : Int, v = some (.int (iZ z)) ∧ ((z = 1 ∧ 0 ≤ i ∧ i < sz) ∨ (z = 0 ∧ (i < 0 ∨ sz ≤ i)))) ∧ f = f') := by
  refine ct_of (own := RX9) (lv := [(0, .ref T), (1, .int (iZ (i)))]) (by decide +kernel) rfl (Nat.le_of_ble_eq_true rfl) rfl ?_
  intro G hG hZ
  refine j_iload_n hG dX9_has_0 rfl rfl ?_
  refine j_iconst hG dX9_has_1 ?_
  refine j_aload_n hG dX9_has_2 rfl rfl ?_
  refine j_get hG fX9_39 dX9_has_3 hT rfl ?_
  refine j_callV (rest := [.int (iZ (0)), .int (iZ (i))]) hG vX9_46 dX9_has_6 (c_X5_size hpl) hpl rfl rfl (by decide) (by decide) (Nat.le_of_ble_eq_true rfl) rfl rfl (Nat.zero_le _) (Nat.zero_le _) ?_
  rintro _ _ ⟨rfl, rfl⟩
  refine j_st (st' := [.int (iZ (sz)), .int (iZ (0)), .int (iZ (i))]) rfl ?_
  refine j_iconst hG dX9_has_9 ?_
  refine j_isub hG dX9_has_10 ?_
  refine j_callSN (rest := []) hG vX9_50 dX9_has_11 (c_X11_isWithin (a := i) (lo := 0) (hi := sz - 1) (by omega) (by omega) (by omega)) rfl rfl (by decide) (by decide) (Nat.le_of_ble_eq_true rfl) rfl rfl (Nat.zero_le _) (Nat.zero_le _) ?_
  rintro _ _ ⟨⟨b1, rfl, hb2⟩, rfl⟩
  refine j_st (st' := [.int (iZ (b1))]) rfl ?_
  exact j_zret hG hZ dX9_has_14 (Nat.zero_le _) (Nat.zero_le _) (nar_zr (by omega)) (⟨⟨_, rfl, by omega⟩, rfl⟩)
theorem c_X9_rowsOf {l : Launch} {E : JE} {f : Hp} {T cu ofr mk it no sc pl dr : Nat} {pm : Nat} {sz i : Int} {gcu : Int → Option Nat} {ra : Int → Nat} (hT : f T = oB 8 [.ref cu, .ref ofr, .ref mk, .ref it, .ref no, .ref sc, .ref pl, .ref dr]) (hpl : f pl = oB 5 [.ref pm, .int (iZ (sz))]) (hcu : f cu = aQ (E.2.1 4) 12 (gcu)) (hsz : 0 ≤ sz ∧ sz ≤ 12) (hi : -2147483648 ≤ i ∧ i < 2147483648) (gcu_ : ∀ i, 0 ≤ i → i < 12 → gcu i = some (ra i)) : KX9_rowsOf l E [.ref T, .int (iZ (i))] f (fun v f' => v = some (.ref (if 0 ≤ i ∧ i < sz then ra i else no)) ∧ f = f') := by
  refine ct_of (own := RX9) (lv := [(0, .ref T), (1, .int (iZ (i)))]) (by decide +kernel) rfl (Nat.le_of_ble_eq_true rfl) rfl ?_
  intro G hG hZ
  refine j_aload_n hG dX9_rowsOf_0 rfl rfl ?_
  refine j_iload_n hG dX9_rowsOf_1 rfl rfl ?_
  refine j_callV (rest := []) hG vX9_54 dX9_rowsOf_2 (c_X9_has (i := i) hT hpl (by omega) (by omega)) hT rfl rfl (by decide) (by decide) (Nat.le_of_ble_eq_true rfl) rfl rfl (Nat.zero_le _) (Nat.zero_le _) ?_
  rintro _ _ ⟨⟨z1, rfl, hz2⟩, rfl⟩
  refine j_st (st' := [.int (iZ (z1))]) rfl ?_
  refine j_if_eq (tgt := 17) hG dX9_rowsOf_5 (by decide) (by omega) (fun c3 => ?_) (fun c3 => ?_)
  · -- taken at 5
    refine j_aload_n hG dX9_rowsOf_17 rfl rfl ?_
    refine j_get hG fX9_28 dX9_rowsOf_18 hT rfl ?_
    exact j_aret hG hZ dX9_rowsOf_21 (Nat.zero_le _) (Nat.zero_le _) (⟨by first | rw [if_pos (by omega)] | rw [if_neg (by omega)], rfl⟩)
  · -- on at 5
    refine j_aload_n hG dX9_rowsOf_8 rfl rfl ?_
    refine j_get hG fX9_11 dX9_rowsOf_9 hT rfl ?_
    refine j_iload_n hG dX9_rowsOf_12 rfl rfl ?_
    refine j_ald4 hG dX9_rowsOf_13 hcu (by omega) (by decide) (gcu_ i (by omega) (by omega)) ?_
    refine j_goto (tgt := 21) hG dX9_rowsOf_14 (by decide) ?_
    exact j_aret hG hZ dX9_rowsOf_21 (Nat.zero_le _) (Nat.zero_le _) (⟨by first | rw [if_pos (by omega)] | rw [if_neg (by omega)], rfl⟩)
theorem c_X9_touches {l : Launch} {E : JE} {f : Hp} {T cu ofr mk it no sc pl dr : Nat} {pm : Nat} {sz i : Int} {gi : Int → Int} (hT : f T = oB 8 [.ref cu, .ref ofr, .ref mk, .ref it, .ref no, .ref sc, .ref pl, .ref dr]) (hpl : f pl = oB 5 [.ref pm, .int (iZ (sz))]) (hit : f it = aI (E.2.1 2) 12 (gi)) (hsz : 0 ≤ sz ∧ sz ≤ 12) (hi : -2147483648 ≤ i ∧ i < 2147483648) (hgi : ∀ i, 0 ≤ i → i < 12 → gi i = 0 ∨ gi i = 1) : KX9_touches l E [.ref T, .int (iZ (i))] f (fun v f' => (∃ z : Int, v = some (.int (iZ z)) ∧ ((z = 1 ∧ 0 ≤ i ∧ i < sz ∧ gi i = 1) ∨ (z = 0 ∧ (i < 0 ∨ sz ≤ i ∨ gi i = 0)))) ∧ f = f') := by
  refine ct_of (own := RX9) (lv := [(0, .ref T), (1, .int (iZ (i)))]) (by decide +kernel) rfl (Nat.le_of_ble_eq_true rfl) rfl ?_
  intro G hG hZ
  refine j_aload_n hG dX9_touches_0 rfl rfl ?_
  refine j_iload_n hG dX9_touches_1 rfl rfl ?_
  refine j_callV (rest := []) hG vX9_54 dX9_touches_2 (c_X9_has (i := i) hT hpl (by omega) (by omega)) hT rfl rfl (by decide) (by decide) (Nat.le_of_ble_eq_true rfl) rfl rfl (Nat.zero_le _) (Nat.zero_le _) ?_
  rintro _ _ ⟨⟨z1, rfl, hz2⟩, rfl⟩
  refine j_st (st' := [.int (iZ (z1))]) rfl ?_
  refine j_if_eq (tgt := 21) hG dX9_touches_5 (by decide) (by omega) (fun c3 => ?_) (fun c3 => ?_)
  · -- taken at 5
    refine j_iconst hG dX9_touches_21 ?_
    exact j_zret hG hZ dX9_touches_22 (Nat.zero_le _) (Nat.zero_le _) (nar_zr (by omega)) (⟨⟨_, rfl, by omega⟩, rfl⟩)
  · -- on at 5
    refine j_aload_n hG dX9_touches_8 rfl rfl ?_
    refine j_get hG fX9_24 dX9_touches_9 hT rfl ?_
    refine j_iload_n hG dX9_touches_12 rfl rfl ?_
    refine j_zald hG dX9_touches_13 hit (by omega) (by decide) ?_
    have hg9 := hgi i (by omega) (by omega)
    refine j_if_eq (tgt := 21) hG dX9_touches_14 (by decide) (by omega) (fun c4 => ?_) (fun c4 => ?_)
    · -- taken at 14
      refine j_iconst hG dX9_touches_21 ?_
      exact j_zret hG hZ dX9_touches_22 (Nat.zero_le _) (Nat.zero_le _) (nar_zr (by omega)) (⟨⟨_, rfl, by omega⟩, rfl⟩)
    · -- on at 14
      refine j_iconst hG dX9_touches_17 ?_
      refine j_goto (tgt := 22) hG dX9_touches_18 (by decide) ?_
      exact j_zret hG hZ dX9_touches_22 (Nat.zero_le _) (Nat.zero_le _) (nar_zr (by omega)) (⟨⟨_, rfl, by omega⟩, rfl⟩)
theorem c_X9_offeredOf {l : Launch} {E : JE} {f : Hp} {T cu ofr mk it no sc pl dr : Nat} {pm : Nat} {sz i : Int} {gcu gof : Int → Option Nat} {ra : Int → Nat} {gi : Int → Int} (hT : f T = oB 8 [.ref cu, .ref ofr, .ref mk, .ref it, .ref no, .ref sc, .ref pl, .ref dr]) (hpl : f pl = oB 5 [.ref pm, .int (iZ (sz))]) (hcu : f cu = aQ (E.2.1 4) 12 (gcu)) (hof : f ofr = aQ (E.2.1 4) 12 (gof)) (hit : f it = aI (E.2.1 2) 12 (gi)) (hsz : 0 ≤ sz ∧ sz ≤ 12) (hi : -2147483648 ≤ i ∧ i < 2147483648) (gcu_ : ∀ i, 0 ≤ i → i < 12 → gcu i = some (ra i)) (gof_ : ∀ i, 0 ≤ i → i < 12 → gof i = some (ra (i + 12))) (hgi : ∀ i, 0 ≤ i → i < 12 → gi i = 0 ∨ gi i = 1) : KX9_offeredOf l E [.ref T, .int (iZ (i))] f (fun v f' => v = some (.ref (if 0 ≤ i ∧ i < sz then (if gi i = 1 then ra (i + 12) else ra i) else no)) ∧ f = f') := by
  refine ct_of (own := RX9) (lv := [(0, .ref T), (1, .int (iZ (i)))]) (by decide +kernel) rfl (Nat.le_of_ble_eq_true rfl) rfl ?_
  intro G hG hZ
  refine j_aload_n hG dX9_offeredOf_0 rfl rfl ?_
  refine j_iload_n hG dX9_offeredOf_1 rfl rfl ?_
  refine j_callV (rest := []) hG vX9_65 dX9_offeredOf_2 (c_X9_touches (i := i) hT hpl hit (by omega) (by omega) hgi) hT rfl rfl (by decide) (by decide) (Nat.le_of_ble_eq_true rfl) rfl rfl (Nat.zero_le _) (Nat.zero_le _) ?_
  rintro _ _ ⟨⟨z1, rfl, hz2⟩, rfl⟩
  refine j_st (st' := [.int (iZ (z1))]) rfl ?_
  refine j_if_eq (tgt := 17) hG dX9_offeredOf_5 (by decide) (by omega) (fun c3 => ?_) (fun c3 => ?_)
  · -- taken at 5
    refine j_aload_n hG dX9_offeredOf_17 rfl rfl ?_
    refine j_iload_n hG dX9_offeredOf_18 rfl rfl ?_
    refine j_callV (rest := []) hG vX9_58 dX9_offeredOf_19 (c_X9_rowsOf (i := i) hT hpl hcu (by omega) (by omega) gcu_) hT rfl rfl (by decide) (by decide) (Nat.le_of_ble_eq_true rfl) rfl rfl (Nat.zero_le _) (Nat.zero_le _) ?_
    rintro _ _ ⟨rfl, rfl⟩
    refine j_st (st' := [.ref (if 0 ≤ i ∧ i < sz then ra i else no)]) rfl ?_
    exact j_aret hG hZ dX9_offeredOf_22 (Nat.zero_le _) (Nat.zero_le _) (⟨by first | (rw [if_pos (by omega), if_pos (by omega)]) | (by_cases e : 0 ≤ i ∧ i < sz; (rw [if_pos e, if_pos e, if_neg (by omega)]); (rw [if_neg e, if_neg e])), rfl⟩)
  · -- on at 5
    refine j_aload_n hG dX9_offeredOf_8 rfl rfl ?_
    refine j_get hG fX9_17 dX9_offeredOf_9 hT rfl ?_
    refine j_iload_n hG dX9_offeredOf_12 rfl rfl ?_
    refine j_ald4 hG dX9_offeredOf_13 hof (by omega) (by decide) (gof_ i (by omega) (by omega)) ?_
    refine j_goto (tgt := 22) hG dX9_offeredOf_14 (by decide) ?_
    exact j_aret hG hZ dX9_offeredOf_22 (Nat.zero_le _) (Nat.zero_le _) (⟨by first | (rw [if_pos (by omega), if_pos (by omega)]) | (by_cases e : 0 ≤ i ∧ i < sz; (rw [if_pos e, if_pos e, if_neg (by omega)]); (rw [if_neg e, if_neg e])), rfl⟩)
theorem c_X9_answer {l : Launch} {E : JE} {f : Hp} {T cu ofr mk it no sc pl dr : Nat} {pm : Nat} {sz : Int} {gcu : Int → Option Nat} {ra : Int → Nat} (hT : f T = oB 8 [.ref cu, .ref ofr, .ref mk, .ref it, .ref no, .ref sc, .ref pl, .ref dr]) (hpl : f pl = oB 5 [.ref pm, .int (iZ (sz))]) (hcu : f cu = aQ (E.2.1 4) 12 (gcu)) (hsz : 1 ≤ sz ∧ sz ≤ 12) (gcu_ : ∀ i, 0 ≤ i → i < 12 → gcu i = some (ra i)) : KX9_answer l E [.ref T] f (fun v f' => v = some (.ref (ra (sz - 1))) ∧ f = f') := by
  refine ct_of (own := RX9) (lv := [(0, .ref T)]) (by decide +kernel) rfl (Nat.le_of_ble_eq_true rfl) rfl ?_
  intro G hG hZ
  refine j_aload_n hG dX9_answer_0 rfl rfl ?_
  refine j_aload_n hG dX9_answer_1 rfl rfl ?_
  refine j_get hG fX9_39 dX9_answer_2 hT rfl ?_
  refine j_callV (rest := [.ref T]) hG vX9_46 dX9_answer_5 (c_X5_size hpl) hpl rfl rfl (by decide) (by decide) (Nat.le_of_ble_eq_true rfl) rfl rfl (Nat.zero_le _) (Nat.zero_le _) ?_
  rintro _ _ ⟨rfl, rfl⟩
  refine j_st (st' := [.int (iZ (sz)), .ref T]) rfl ?_
  refine j_iconst hG dX9_answer_8 ?_
  refine j_isub hG dX9_answer_9 ?_
  refine j_callV (rest := []) hG vX9_58 dX9_answer_10 (c_X9_rowsOf (i := sz - 1) hT hpl hcu (by omega) (by omega) gcu_) hT rfl rfl (by decide) (by decide) (Nat.le_of_ble_eq_true rfl) rfl rfl (Nat.zero_le _) (Nat.zero_le _) ?_
  rintro _ _ ⟨rfl, rfl⟩
  refine j_st (st' := [.ref (if 0 ≤ (sz - 1) ∧ (sz - 1) < sz then ra (sz - 1) else no)]) rfl ?_
  exact j_aret hG hZ dX9_answer_13 (Nat.zero_le _) (Nat.zero_le _) (⟨by rw [if_pos (by omega)], rfl⟩)
theorem c_X9_answerOffered {l : Launch} {E : JE} {f : Hp} {T cu ofr mk it no sc pl dr : Nat} {pm : Nat} {sz : Int} {gcu gof : Int → Option Nat} {ra : Int → Nat} {gi : Int → Int} (hT : f T = oB 8 [.ref cu, .ref ofr, .ref mk, .ref it, .ref no, .ref sc, .ref pl, .ref dr]) (hpl : f pl = oB 5 [.ref pm, .int (iZ (sz))]) (hcu : f cu = aQ (E.2.1 4) 12 (gcu)) (hof : f ofr = aQ (E.2.1 4) 12 (gof)) (hit : f it = aI (E.2.1 2) 12 (gi)) (hsz : 1 ≤ sz ∧ sz ≤ 12) (gcu_ : ∀ i, 0 ≤ i → i < 12 → gcu i = some (ra i)) (gof_ : ∀ i, 0 ≤ i → i < 12 → gof i = some (ra (i + 12))) (hgi : ∀ i, 0 ≤ i → i < 12 → gi i = 0 ∨ gi i = 1) : KX9_answerOffered l E [.ref T] f (fun v f' => v = some (.ref (if gi (sz - 1) = 1 then ra (sz - 1 + 12) else ra (sz - 1))) ∧ f = f') := by
  refine ct_of (own := RX9) (lv := [(0, .ref T)]) (by decide +kernel) rfl (Nat.le_of_ble_eq_true rfl) rfl ?_
  intro G hG hZ
  refine j_aload_n hG dX9_answerOffered_0 rfl rfl ?_
  refine j_aload_n hG dX9_answerOffered_1 rfl rfl ?_
  refine j_get hG fX9_39 dX9_answerOffered_2 hT rfl ?_
  refine j_callV (rest := [.ref T]) hG vX9_46 dX9_answerOffered_5 (c_X5_size hpl) hpl rfl rfl (by decide) (by decide) (Nat.le_of_ble_eq_true rfl) rfl rfl (Nat.zero_le _) (Nat.zero_le _) ?_
  rintro _ _ ⟨rfl, rfl⟩
  refine j_st (st' := [.int (iZ (sz)), .ref T]) rfl ?_
  refine j_iconst hG dX9_answerOffered_8 ?_
  refine j_isub hG dX9_answerOffered_9 ?_
  refine j_callV (rest := []) hG vX9_62 dX9_answerOffered_10 (c_X9_offeredOf (i := sz - 1) hT hpl hcu hof hit (by omega) (by omega) gcu_ gof_ hgi) hT rfl rfl (by decide) (by decide) (Nat.le_of_ble_eq_true rfl) rfl rfl (Nat.zero_le _) (Nat.zero_le _) ?_
  rintro _ _ ⟨rfl, rfl⟩
  refine j_st (st' := [.ref (if 0 ≤ (sz - 1) ∧ (sz - 1) < sz then (if gi (sz - 1) = 1 then ra (sz - 1 + 12) else ra (sz - 1)) else no)]) rfl ?_
  exact j_aret hG hZ dX9_answerOffered_13 (Nat.zero_le _) (Nat.zero_le _) (⟨by rw [if_pos (show 0 ≤ sz - 1 ∧ sz - 1 < sz by omega)], rfl⟩)
/-! ===== the Rows that there are: current 0 .. 11, offered 12 .. 23, marked 24 .. 35, nothing 36; scratch is the cells of 37 ===== -/
def rwAt (E : JE) (f : Hp) (a c : Nat) (l : List Int × Int) : Prop := ∃ (n b : Int) (g : Int → Int), f a = oB 7 [.ref c, .int (iZ n), .int (iZ b)] ∧ f c = aJ (E.2.1 1) 400 g ∧ gOk g ∧ (b = 0 ∨ b = 1) ∧ (0 ≤ n ∧ n ≤ 400) ∧ seg g 0 n = l.1 ∧ b = l.2
def rwD (ra ca : Int → Nat) : Prop := (∀ i j, 0 ≤ i → i < 37 → 0 ≤ j → j < 37 → ra i = ra j → i = j) ∧ (∀ i j, 0 ≤ i → i < 38 → 0 ≤ j → j < 38 → ca i = ca j → i = j)
def RWs (E : JE) (f : Hp) (ra ca : Int → Nat) (X : Int → List Int × Int) : Prop := (∀ i, 0 ≤ i → i < 37 → rwAt E f (ra i) (ca i) (X i)) ∧ ∃ g, f (ca 37) = aJ (E.2.1 1) 400 g ∧ gOk g
theorem rwAt_kept {E : JE} {f f' : Hp} {a c : Nat} {l : List Int × Int} (h : rwAt E f a c l) (h1 : f' a = f a) (h2 : f' c = f c) : rwAt E f' a c l := by
  obtain ⟨n, b, g, e1, e2, e3⟩ := h
  exact ⟨n, b, g, h1.trans e1, h2.trans e2, e3⟩
/-- one of the Rows is another, the others are as they were -/
theorem RWs_upd {E : JE} {f f' : Hp} {ra ca : Int → Nat} {X : Int → List Int × Int} {i : Int} {l : List Int × Int} (hd : rwD ra ca) (h : RWs E f ra ca X) (hi : 0 ≤ i ∧ i < 37) (hn : rwAt E f' (ra i) (ca i) l) (hs : ∃ g, f' (ca 37) = aJ (E.2.1 1) 400 g ∧ gOk g) (hf : ∀ q, q ≠ ra i → q ≠ ca i → q ≠ ca 37 → f' q = f q) : RWs E f' ra ca (fup X i l) := by
  refine ⟨fun j j1 j2 => ?_, hs⟩
  by_cases e : j = i
  · subst e; rw [fup_s]; exact hn
  · rw [fup_n _ _ e]
    obtain ⟨n, b, g, e1, e2, e3⟩ := h.1 j j1 j2
    obtain ⟨n0, b0, g0, c1, c2, -⟩ := h.1 i hi.1 hi.2
    obtain ⟨gs, s1, -⟩ := h.2
    refine ⟨n, b, g, (hf _ (fun q => e (hd.1 j i j1 j2 hi.1 hi.2 q)) (h_ne e1 c2 oa_J) (h_ne e1 s1 oa_J)).trans e1, (hf _ (h_ne e2 c1 (Ne.symm oa_J)) (fun q => e (hd.2 j i j1 (by omega) hi.1 (by omega) q)) (fun q => ?_)).trans e2, e3⟩
    have := hd.2 j 37 j1 (by omega) (by omega) (by omega) q
    omega
theorem RWs_kept {E : JE} {f f' : Hp} {ra ca : Int → Nat} {X : Int → List Int × Int} (h : RWs E f ra ca X) (hf : ∀ i, 0 ≤ i → i < 38 → (i < 37 → f' (ra i) = f (ra i)) ∧ f' (ca i) = f (ca i)) : RWs E f' ra ca X := by
  refine ⟨fun i i1 i2 => rwAt_kept (h.1 i i1 i2) ((hf i i1 (by omega)).1 i2) (hf i i1 (by omega)).2, ?_⟩
  obtain ⟨g, g1, g2⟩ := h.2
  exact ⟨g, ((hf 37 (by omega) (by omega)).2).trans g1, g2⟩
