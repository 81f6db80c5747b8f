theorem c_X4_takeColumn {l : Launch} {E : JE} {f : Hp} {pa tp by0 : Nat} {len st : Int} {g : Int → Int} {mg : Nat} {a0 a1 a2 a3 a4 a5 : Int} (h : f tp = oB 9 [.ref by0, .int (iZ (len)), .int (iZ (st)), .int (iZ (tE g len st))]) (hb : f by0 = aI (E.2.1 3) 300 (g)) (hmg : f mg = oB 3 [.int (iZ (a0)), .int (iZ (a1)), .int (iZ (a2)), .int (iZ (a3)), .int (iZ (a4)), .int (iZ (a5))]) (hl : 0 ≤ len ∧ len ≤ 300) (hg : bOk g) (hs : 0 ≤ st ∧ st ≤ len) : KX4_takeColumn l E [.ref pa, .ref tp, .ref mg] f (fun v f' => ∃ z p u : Int, v = some (.int (iZ z)) ∧ ((z = 1 ∧ colF g len st ≠ -1 ∧ p = nx g len st ∧ u = colF g len st) ∨ (z = 0 ∧ colF g len st = -1 ∧ st = p ∧ a3 = u)) ∧ f' tp = oB 9 [.ref by0, .int (iZ len), .int (iZ p), .int (iZ (tE g len p))] ∧ f' mg = oB 3 [.int (iZ a0), .int (iZ a1), .int (iZ a2), .int (iZ u), .int (iZ a4), .int (iZ a5)] ∧ ∀ q, q ≠ tp → q ≠ mg → f' q = f q) := by
  refine ct_of (own := RX4) (lv := [(0, .ref pa), (1, .ref tp), (2, .ref mg)]) (by decide +kernel) rfl (Nat.le_of_ble_eq_true rfl) rfl ?_
  intro G hG hZ
  have q0 := nx_rng (g := g) hs
  have q1 := tE_rng (g := g) hs
  refine j_aload_n hG dX4_takeColumn_0 rfl rfl ?_
  refine j_ldcS (i := 13) hG dX4_takeColumn_1 rfl ?_
  refine j_callV (rest := []) hG vX4_74 dX4_takeColumn_3 (c_X10_isToken_ (i0 := 13) h hb (by omega) hl hg (by omega)) h rfl rfl (by decide) (by decide) (Nat.le_of_ble_eq_true rfl) rfl rfl (Nat.zero_le _) (Nat.zero_le _) ?_
  rintro _ _ ⟨⟨z1, rfl, hz2⟩, rfl⟩
  refine j_st (st' := [.int (iZ (z1))]) rfl ?_
  refine j_if_eq (tgt := 17) hG dX4_takeColumn_6 (by decide) (by omega) (fun c5 => ?_) (fun c5 => ?_)
  · -- taken at 6
    obtain ⟨-, e4⟩ := hz2.resolve_left (fun h => absurd h.1 (by omega))
    have e4 := wrdB_f e4
    refine j_aload_n hG dX4_takeColumn_17 rfl rfl ?_
    refine j_ldcS (i := 14) hG dX4_takeColumn_18 rfl ?_
    refine j_callV (rest := []) hG vX4_74 dX4_takeColumn_20 (c_X10_isToken_ (i0 := 14) h hb (by omega) hl hg (by omega)) h rfl rfl (by decide) (by decide) (Nat.le_of_ble_eq_true rfl) rfl rfl (Nat.zero_le _) (Nat.zero_le _) ?_
    rintro _ _ ⟨⟨z6, rfl, hz7⟩, rfl⟩
    refine j_st (st' := [.int (iZ (z6))]) rfl ?_
    refine j_if_eq (tgt := 34) hG dX4_takeColumn_23 (by decide) (by omega) (fun c10 => ?_) (fun c10 => ?_)
    · -- taken at 23
      obtain ⟨-, e9⟩ := hz7.resolve_left (fun h => absurd h.1 (by omega))
      have e9 := wrdB_f e9
      refine j_aload_n hG dX4_takeColumn_34 rfl rfl ?_
      refine j_ldcS (i := 15) hG dX4_takeColumn_35 rfl ?_
      refine j_callV (rest := []) hG vX4_74 dX4_takeColumn_37 (c_X10_isToken_ (i0 := 15) h hb (by omega) hl hg (by omega)) h rfl rfl (by decide) (by decide) (Nat.le_of_ble_eq_true rfl) rfl rfl (Nat.zero_le _) (Nat.zero_le _) ?_
      rintro _ _ ⟨⟨z11, rfl, hz12⟩, rfl⟩
      refine j_st (st' := [.int (iZ (z11))]) rfl ?_
      refine j_if_eq (tgt := 51) hG dX4_takeColumn_40 (by decide) (by omega) (fun c15 => ?_) (fun c15 => ?_)
      · -- taken at 40
        obtain ⟨-, e14⟩ := hz12.resolve_left (fun h => absurd h.1 (by omega))
        have e14 := wrdB_f e14
        refine j_iconst hG dX4_takeColumn_51 ?_
        have e9 : colF g len st = -1 := by unfold colF; rw [if_neg (by rw [e4]; decide), if_neg (by rw [e9]; decide), if_neg (by rw [e14]; decide)]
        exact j_zret hG hZ dX4_takeColumn_52 (Nat.zero_le _) (Nat.zero_le _) (nar_zr (by omega)) (⟨0, st, a3, rfl, Or.inr ⟨rfl, e9, rfl, rfl⟩, h, hmg, fun q q1 q2 => rfl⟩)
      · -- on at 40
        obtain ⟨-, e13⟩ := hz12.resolve_right (fun h => absurd h.1 (by omega))
        have e13 := wrdB_iff.mpr e13
        refine j_aload_n hG dX4_takeColumn_43 rfl rfl ?_
        refine j_iconst hG dX4_takeColumn_44 ?_
        refine j_put hG pX4_138 dX4_takeColumn_45 hmg rfl rfl (Nat.le_of_ble_eq_true rfl) (fun f16 h17 fr18 => ?_)
        have h17 : f16 mg = oB 3 [.int (iZ (a0)), .int (iZ (a1)), .int (iZ (a2)), .int (iZ (2)), .int (iZ (a4)), .int (iZ (a5))] := h17
        have h19 := (fr18 tp (h_ne h hmg (oo_n (by decide)))).trans h
        have h20 := (fr18 by0 (h_ne hb hmg (Ne.symm oa_I))).trans hb
        refine j_goto (tgt := 53) hG dX4_takeColumn_48 (by decide) ?_
        refine j_aload_n hG dX4_takeColumn_53 rfl rfl ?_
        refine j_callV (rest := []) hG vX4_67 dX4_takeColumn_54 (c_X10_toNextToken h19 h20 hl hg (by omega)) h19 rfl rfl (by decide) (by decide) (Nat.le_of_ble_eq_true rfl) rfl rfl (Nat.zero_le _) (Nat.zero_le _) ?_
        rintro _ f23 ⟨rfl, h21, fr22⟩
        refine j_st (st' := []) rfl ?_
        have h21 : f23 tp = oB 9 [.ref by0, .int (iZ (len)), .int (iZ (nx g len st)), .int (iZ (tE g len (nx g len st)))] := h21
        have h24 := (fr22 by0 (h_ne h20 h19 (Ne.symm oa_I))).trans h20
        have h25 := (fr22 mg (h_ne h17 h19 (oo_n (by decide)))).trans h17
        refine j_iconst hG dX4_takeColumn_57 ?_
        have e9 : colF g len st = 2 := by unfold colF; rw [if_neg (by rw [e4]; decide), if_neg (by rw [e9]; decide), if_pos e13]
        exact j_zret hG hZ dX4_takeColumn_58 (Nat.zero_le _) (Nat.zero_le _) (nar_zr (by omega)) (⟨1, _, 2, rfl, Or.inl ⟨rfl, by omega, rfl, e9.symm⟩, h21, h25, fun q q1 q2 => (Eq.trans (fr22 q q1) (fr18 q q2))⟩)
    · -- on at 23
      obtain ⟨-, e8⟩ := hz7.resolve_right (fun h => absurd h.1 (by omega))
      have e8 := wrdB_iff.mpr e8
      refine j_aload_n hG dX4_takeColumn_26 rfl rfl ?_
      refine j_iconst hG dX4_takeColumn_27 ?_
      refine j_put hG pX4_138 dX4_takeColumn_28 hmg rfl rfl (Nat.le_of_ble_eq_true rfl) (fun f26 h27 fr28 => ?_)
      have h27 : f26 mg = oB 3 [.int (iZ (a0)), .int (iZ (a1)), .int (iZ (a2)), .int (iZ (1)), .int (iZ (a4)), .int (iZ (a5))] := h27
      have h29 := (fr28 tp (h_ne h hmg (oo_n (by decide)))).trans h
      have h30 := (fr28 by0 (h_ne hb hmg (Ne.symm oa_I))).trans hb
      refine j_goto (tgt := 53) hG dX4_takeColumn_31 (by decide) ?_
      refine j_aload_n hG dX4_takeColumn_53 rfl rfl ?_
      refine j_callV (rest := []) hG vX4_67 dX4_takeColumn_54 (c_X10_toNextToken h29 h30 hl hg (by omega)) h29 rfl rfl (by decide) (by decide) (Nat.le_of_ble_eq_true rfl) rfl rfl (Nat.zero_le _) (Nat.zero_le _) ?_
      rintro _ f33 ⟨rfl, h31, fr32⟩
      refine j_st (st' := []) rfl ?_
      have h31 : f33 tp = oB 9 [.ref by0, .int (iZ (len)), .int (iZ (nx g len st)), .int (iZ (tE g len (nx g len st)))] := h31
      have h34 := (fr32 by0 (h_ne h30 h29 (Ne.symm oa_I))).trans h30
      have h35 := (fr32 mg (h_ne h27 h29 (oo_n (by decide)))).trans h27
      refine j_iconst hG dX4_takeColumn_57 ?_
      have e9 : colF g len st = 1 := by unfold colF; rw [if_neg (by rw [e4]; decide), if_pos e8]
      exact j_zret hG hZ dX4_takeColumn_58 (Nat.zero_le _) (Nat.zero_le _) (nar_zr (by omega)) (⟨1, _, 1, rfl, Or.inl ⟨rfl, by omega, rfl, e9.symm⟩, h31, h35, fun q q1 q2 => (Eq.trans (fr32 q q1) (fr28 q q2))⟩)
  · -- on at 6
    obtain ⟨-, e3⟩ := hz2.resolve_right (fun h => absurd h.1 (by omega))
    have e3 := wrdB_iff.mpr e3
    refine j_aload_n hG dX4_takeColumn_9 rfl rfl ?_
    refine j_iconst hG dX4_takeColumn_10 ?_
    refine j_put hG pX4_138 dX4_takeColumn_11 hmg rfl rfl (Nat.le_of_ble_eq_true rfl) (fun f36 h37 fr38 => ?_)
    have h37 : f36 mg = oB 3 [.int (iZ (a0)), .int (iZ (a1)), .int (iZ (a2)), .int (iZ (0)), .int (iZ (a4)), .int (iZ (a5))] := h37
    have h39 := (fr38 tp (h_ne h hmg (oo_n (by decide)))).trans h
    have h40 := (fr38 by0 (h_ne hb hmg (Ne.symm oa_I))).trans hb
    refine j_goto (tgt := 53) hG dX4_takeColumn_14 (by decide) ?_
    refine j_aload_n hG dX4_takeColumn_53 rfl rfl ?_
    refine j_callV (rest := []) hG vX4_67 dX4_takeColumn_54 (c_X10_toNextToken h39 h40 hl hg (by omega)) h39 rfl rfl (by decide) (by decide) (Nat.le_of_ble_eq_true rfl) rfl rfl (Nat.zero_le _) (Nat.zero_le _) ?_
    rintro _ f43 ⟨rfl, h41, fr42⟩
    refine j_st (st' := []) rfl ?_
    have h41 : f43 tp = oB 9 [.ref by0, .int (iZ (len)), .int (iZ (nx g len st)), .int (iZ (tE g len (nx g len st)))] := h41
    have h44 := (fr42 by0 (h_ne h40 h39 (Ne.symm oa_I))).trans h40
    have h45 := (fr42 mg (h_ne h37 h39 (oo_n (by decide)))).trans h37
    refine j_iconst hG dX4_takeColumn_57 ?_
    have e9 : colF g len st = 0 := by unfold colF; rw [if_pos e3]
    exact j_zret hG hZ dX4_takeColumn_58 (Nat.zero_le _) (Nat.zero_le _) (nar_zr (by omega)) (⟨1, _, 0, rfl, Or.inl ⟨rfl, by omega, rfl, e9.symm⟩, h41, h45, fun q q1 q2 => (Eq.trans (fr42 q q1) (fr38 q q2))⟩)
theorem c_X4_takeRelation {l : Launch} {E : JE} {f : Hp} {pa tl0 tp by0 : Nat} {len st : Int} {g : Int → Int} {mg : Nat} {a0 a1 a2 a3 a4 a5 : Int} (hpa : f pa = oB 4 [.ref tl0]) (h : f tp = oB 9 [.ref by0, .int (iZ (len)), .int (iZ (st)), .int (iZ (tE g len st))]) (hb : f by0 = aI (E.2.1 3) 300 (g)) (hmg : f mg = oB 3 [.int (iZ (a0)), .int (iZ (a1)), .int (iZ (a2)), .int (iZ (a3)), .int (iZ (a4)), .int (iZ (a5))]) (hl : 0 ≤ len ∧ len ≤ 300) (hg : bOk g) (hs : 0 ≤ st ∧ st ≤ len) : KX4_takeRelation l E [.ref pa, .ref tp, .ref mg] f (fun v f' => ∃ z p u : Int, v = some (.int (iZ z)) ∧ ((z = 1 ∧ relF g len st ≠ -1 ∧ p = nx g len st ∧ u = relF g len st) ∨ (z = 0 ∧ relF g len st = -1 ∧ st = p)) ∧ f' tp = oB 9 [.ref by0, .int (iZ len), .int (iZ p), .int (iZ (tE g len p))] ∧ f' mg = oB 3 [.int (iZ a0), .int (iZ a1), .int (iZ a2), .int (iZ a3), .int (iZ u), .int (iZ a5)] ∧ ∀ q, q ≠ tp → q ≠ mg → f' q = f q) := by
  refine ct_of (own := RX4) (lv := [(0, .ref pa), (1, .ref tp), (2, .ref mg)]) (by decide +kernel) rfl (Nat.le_of_ble_eq_true rfl) rfl ?_
  intro G hG hZ
  have q0 := nx_rng (g := g) hs
  have q1 := tE_rng (g := g) hs
  refine j_aload_n hG dX4_takeRelation_0 rfl rfl ?_
  refine j_aload_n hG dX4_takeRelation_1 rfl rfl ?_
  refine j_bipush hG dX4_takeRelation_2 (by decide) ?_
  refine j_callV (rest := []) hG vX4_42 dX4_takeRelation_4 (c_X4_takeSign (c := 60) h hb hl hg (by omega) (by omega)) hpa rfl rfl (by decide) (by decide) (Nat.le_of_ble_eq_true rfl) rfl rfl (Nat.zero_le _) (Nat.zero_le _) ?_
  rintro _ f8 ⟨z1, p2, rfl, hq3, ht4, fr5⟩
  refine j_st (st' := [.int (iZ (z1))]) rfl ?_
  have h9 := (fr5 pa (h_ne hpa h (oo_n (by decide)))).trans hpa
  have h10 := (fr5 by0 (h_ne hb h (Ne.symm oa_I))).trans hb
  have h11 := (fr5 mg (h_ne hmg h (oo_n (by decide)))).trans hmg
  refine j_if_eq (tgt := 19) hG dX4_takeRelation_7 (by decide) (by omega) (fun c12 => ?_) (fun c12 => ?_)
  · -- taken at 7
    obtain ⟨-, e7, rfl⟩ := hq3.resolve_left (fun h => absurd h.1 (by omega))
    refine j_aload_n hG dX4_takeRelation_19 rfl rfl ?_
    refine j_aload_n hG dX4_takeRelation_20 rfl rfl ?_
    refine j_bipush hG dX4_takeRelation_21 (by decide) ?_
    refine j_callV (rest := []) hG vX4_42 dX4_takeRelation_23 (c_X4_takeSign (c := 62) ht4 h10 hl hg (by omega) (by omega)) h9 rfl rfl (by decide) (by decide) (Nat.le_of_ble_eq_true rfl) rfl rfl (Nat.zero_le _) (Nat.zero_le _) ?_
    rintro _ f20 ⟨z13, p14, rfl, hq15, ht16, fr17⟩
    refine j_st (st' := [.int (iZ (z13))]) rfl ?_
    have h21 := (fr17 pa (h_ne h9 ht4 (oo_n (by decide)))).trans h9
    have h22 := (fr17 by0 (h_ne h10 ht4 (Ne.symm oa_I))).trans h10
    have h23 := (fr17 mg (h_ne h11 ht4 (oo_n (by decide)))).trans h11
    refine j_if_eq (tgt := 38) hG dX4_takeRelation_26 (by decide) (by omega) (fun c24 => ?_) (fun c24 => ?_)
    · -- taken at 26
      obtain ⟨-, e19, rfl⟩ := hq15.resolve_left (fun h => absurd h.1 (by omega))
      refine j_aload_n hG dX4_takeRelation_38 rfl rfl ?_
      refine j_bipush hG dX4_takeRelation_39 (by decide) ?_
      refine j_put hG pX4_145 dX4_takeRelation_41 h23 (nar_cr (by omega)) (fit_c (by omega)) (Nat.le_of_ble_eq_true rfl) (fun f25 h26 fr27 => ?_)
      have h26 : f25 mg = oB 3 [.int (iZ (a0)), .int (iZ (a1)), .int (iZ (a2)), .int (iZ (a3)), .int (iZ (61)), .int (iZ (a5))] := h26
      have h28 := (fr27 pa (h_ne h21 h23 (oo_n (by decide)))).trans h21
      have h29 := (fr27 by0 (h_ne h22 h23 (Ne.symm oa_I))).trans h22
      have h30 := (fr27 tp (h_ne ht16 h23 (oo_n (by decide)))).trans ht16
      refine j_aload_n hG dX4_takeRelation_44 rfl rfl ?_
      refine j_aload_n hG dX4_takeRelation_45 rfl rfl ?_
      refine j_bipush hG dX4_takeRelation_46 (by decide) ?_
      refine j_callV (rest := []) hG vX4_42 dX4_takeRelation_48 (c_X4_takeSign (c := 61) h30 h29 hl hg (by omega) (by omega)) h28 rfl rfl (by decide) (by decide) (Nat.le_of_ble_eq_true rfl) rfl rfl (Nat.zero_le _) (Nat.zero_le _) ?_
      rintro _ f38 ⟨z31, p32, rfl, hq33, ht34, fr35⟩
      refine j_st (st' := [.int (iZ (z31))]) rfl ?_
      have h39 := (fr35 pa (h_ne h28 h30 (oo_n (by decide)))).trans h28
      have h40 := (fr35 by0 (h_ne h29 h30 (Ne.symm oa_I))).trans h29
      have h41 := (fr35 mg (h_ne h26 h30 (oo_n (by decide)))).trans h26
      have e8 : relF g len st = if sgn g len st 61 = true then 61 else -1 := by unfold relF; rw [if_neg (by rw [e7]; decide), if_neg (by rw [e19]; decide)]
      exact j_zret hG hZ dX4_takeRelation_51 (Nat.zero_le _) (Nat.zero_le _) (nar_zr (by rcases hq33 with q | q <;> (have := q.1; omega))) (⟨z31, p32, 61, rfl, by rcases hq33 with q | q; (exact Or.inl ⟨q.1, by rw [e8, if_pos q.2.1]; decide, q.2.2, by rw [e8, if_pos q.2.1]⟩); (exact Or.inr ⟨q.1, by rw [e8, if_neg (by rw [q.2.1]; decide)], q.2.2⟩), ht34, h41, fun q q1 q2 => (Eq.trans (fr35 q q1) (Eq.trans (fr27 q q2) (Eq.trans (fr17 q q1) (fr5 q q1))))⟩)
    · -- on at 26
      obtain ⟨-, e18, rfl⟩ := hq15.resolve_right (fun h => absurd h.1 (by omega))
      refine j_aload_n hG dX4_takeRelation_29 rfl rfl ?_
      refine j_bipush hG dX4_takeRelation_30 (by decide) ?_
      refine j_put hG pX4_145 dX4_takeRelation_32 h23 (nar_cr (by omega)) (fit_c (by omega)) (Nat.le_of_ble_eq_true rfl) (fun f42 h43 fr44 => ?_)
      have h43 : f42 mg = oB 3 [.int (iZ (a0)), .int (iZ (a1)), .int (iZ (a2)), .int (iZ (a3)), .int (iZ (62)), .int (iZ (a5))] := h43
      have h45 := (fr44 pa (h_ne h21 h23 (oo_n (by decide)))).trans h21
      have h46 := (fr44 by0 (h_ne h22 h23 (Ne.symm oa_I))).trans h22
      have h47 := (fr44 tp (h_ne ht16 h23 (oo_n (by decide)))).trans ht16
      refine j_goto (tgt := 52) hG dX4_takeRelation_35 (by decide) ?_
      refine j_iconst hG dX4_takeRelation_52 ?_
      have e9 : relF g len st = 62 := by unfold relF; rw [if_neg (by rw [e7]; decide), if_pos e18]
      exact j_zret hG hZ dX4_takeRelation_53 (Nat.zero_le _) (Nat.zero_le _) (nar_zr (by omega)) (⟨1, _, 62, rfl, Or.inl ⟨rfl, by omega, rfl, e9.symm⟩, h47, h43, fun q q1 q2 => (Eq.trans (fr44 q q2) (Eq.trans (fr17 q q1) (fr5 q q1)))⟩)
  · -- on at 7
    obtain ⟨-, e6, rfl⟩ := hq3.resolve_right (fun h => absurd h.1 (by omega))
    refine j_aload_n hG dX4_takeRelation_10 rfl rfl ?_
    refine j_bipush hG dX4_takeRelation_11 (by decide) ?_
    refine j_put hG pX4_145 dX4_takeRelation_13 h11 (nar_cr (by omega)) (fit_c (by omega)) (Nat.le_of_ble_eq_true rfl) (fun f48 h49 fr50 => ?_)
    have h49 : f48 mg = oB 3 [.int (iZ (a0)), .int (iZ (a1)), .int (iZ (a2)), .int (iZ (a3)), .int (iZ (60)), .int (iZ (a5))] := h49
    have h51 := (fr50 pa (h_ne h9 h11 (oo_n (by decide)))).trans h9
    have h52 := (fr50 by0 (h_ne h10 h11 (Ne.symm oa_I))).trans h10
    have h53 := (fr50 tp (h_ne ht4 h11 (oo_n (by decide)))).trans ht4
    refine j_goto (tgt := 52) hG dX4_takeRelation_16 (by decide) ?_
    refine j_iconst hG dX4_takeRelation_52 ?_
    have e9 : relF g len st = 60 := by unfold relF; rw [if_pos e6]
    exact j_zret hG hZ dX4_takeRelation_53 (Nat.zero_le _) (Nat.zero_le _) (nar_zr (by omega)) (⟨1, _, 60, rfl, Or.inl ⟨rfl, by omega, rfl, e9.symm⟩, h53, h49, fun q q1 q2 => (Eq.trans (fr50 q q2) (fr5 q q1))⟩)
theorem c_X4_wordOf {l : Launch} {E : JE} {f : Hp} {i : Nat}  (hi : i < 13) : KX4_wordOf l E [.int (iZ ((i : Int)))] f (fun v f' => v = some (.ref (E.2.2.1 i)) ∧ f = f') := by
  refine ct_of (own := RX4) (lv := [(0, .int (iZ ((i : Int))))]) (by decide +kernel) rfl (Nat.le_of_ble_eq_true rfl) rfl ?_
  intro G hG hZ
  refine j_iload_n hG dX4_wordOf_0 rfl rfl ?_
  rcases (show ((i : Int) < 0 ∨ 11 < (i : Int)) ∨ (i : Int) = 0 ∨ (i : Int) = 1 ∨ (i : Int) = 2 ∨ (i : Int) = 3 ∨ (i : Int) = 4 ∨ (i : Int) = 5 ∨ (i : Int) = 6 ∨ (i : Int) = 7 ∨ (i : Int) = 8 ∨ (i : Int) = 9 ∨ (i : Int) = 10 ∨ (i : Int) = 11 by omega) with c1 | c1 | c1 | c1 | c1 | c1 | c1 | c1 | c1 | c1 | c1 | c1 | c1
  · -- case None at 1
    refine j_tswOut (tgt := 100) hG dX4_wordOf_1 c1 (by omega) (by decide) ?_
    refine j_ldcS (i := 12) hG dX4_wordOf_100 rfl ?_
    have e9 : i = 12 := by omega
    subst e9
    exact j_aret hG hZ dX4_wordOf_102 (Nat.zero_le _) (Nat.zero_le _) (⟨rfl, rfl⟩)
  · -- case 0 at 1
    refine j_tswIn (tgt := 64) (off := 63) hG (0) dX4_wordOf_1 c1 (by decide) (by decide) rfl (by decide) ?_
    refine j_ldcS (i := 0) hG dX4_wordOf_64 rfl ?_
    have e9 : i = 0 := by omega
    subst e9
    exact j_aret hG hZ dX4_wordOf_66 (Nat.zero_le _) (Nat.zero_le _) (⟨rfl, rfl⟩)
  · -- case 1 at 1
    refine j_tswIn (tgt := 67) (off := 66) hG (1) dX4_wordOf_1 c1 (by decide) (by decide) rfl (by decide) ?_
    refine j_ldcS (i := 1) hG dX4_wordOf_67 rfl ?_
    have e9 : i = 1 := by omega
    subst e9
    exact j_aret hG hZ dX4_wordOf_69 (Nat.zero_le _) (Nat.zero_le _) (⟨rfl, rfl⟩)
  · -- case 2 at 1
    refine j_tswIn (tgt := 70) (off := 69) hG (2) dX4_wordOf_1 c1 (by decide) (by decide) rfl (by decide) ?_
    refine j_ldcS (i := 2) hG dX4_wordOf_70 rfl ?_
    have e9 : i = 2 := by omega
    subst e9
    exact j_aret hG hZ dX4_wordOf_72 (Nat.zero_le _) (Nat.zero_le _) (⟨rfl, rfl⟩)
  · -- case 3 at 1
    refine j_tswIn (tgt := 73) (off := 72) hG (3) dX4_wordOf_1 c1 (by decide) (by decide) rfl (by decide) ?_
    refine j_ldcS (i := 3) hG dX4_wordOf_73 rfl ?_
    have e9 : i = 3 := by omega
    subst e9
    exact j_aret hG hZ dX4_wordOf_75 (Nat.zero_le _) (Nat.zero_le _) (⟨rfl, rfl⟩)
  · -- case 4 at 1
    refine j_tswIn (tgt := 76) (off := 75) hG (4) dX4_wordOf_1 c1 (by decide) (by decide) rfl (by decide) ?_
    refine j_ldcS (i := 4) hG dX4_wordOf_76 rfl ?_
    have e9 : i = 4 := by omega
    subst e9
    exact j_aret hG hZ dX4_wordOf_78 (Nat.zero_le _) (Nat.zero_le _) (⟨rfl, rfl⟩)
  · -- case 5 at 1
    refine j_tswIn (tgt := 79) (off := 78) hG (5) dX4_wordOf_1 c1 (by decide) (by decide) rfl (by decide) ?_
    refine j_ldcS (i := 5) hG dX4_wordOf_79 rfl ?_
    have e9 : i = 5 := by omega
    subst e9
    exact j_aret hG hZ dX4_wordOf_81 (Nat.zero_le _) (Nat.zero_le _) (⟨rfl, rfl⟩)
  · -- case 6 at 1
    refine j_tswIn (tgt := 82) (off := 81) hG (6) dX4_wordOf_1 c1 (by decide) (by decide) rfl (by decide) ?_
    refine j_ldcS (i := 6) hG dX4_wordOf_82 rfl ?_
    have e9 : i = 6 := by omega
    subst e9
    exact j_aret hG hZ dX4_wordOf_84 (Nat.zero_le _) (Nat.zero_le _) (⟨rfl, rfl⟩)
  · -- case 7 at 1
    refine j_tswIn (tgt := 85) (off := 84) hG (7) dX4_wordOf_1 c1 (by decide) (by decide) rfl (by decide) ?_
    refine j_ldcS (i := 7) hG dX4_wordOf_85 rfl ?_
    have e9 : i = 7 := by omega
    subst e9
    exact j_aret hG hZ dX4_wordOf_87 (Nat.zero_le _) (Nat.zero_le _) (⟨rfl, rfl⟩)
  · -- case 8 at 1
    refine j_tswIn (tgt := 88) (off := 87) hG (8) dX4_wordOf_1 c1 (by decide) (by decide) rfl (by decide) ?_
    refine j_ldcS (i := 8) hG dX4_wordOf_88 rfl ?_
    have e9 : i = 8 := by omega
    subst e9
    exact j_aret hG hZ dX4_wordOf_90 (Nat.zero_le _) (Nat.zero_le _) (⟨rfl, rfl⟩)
  · -- case 9 at 1
    refine j_tswIn (tgt := 91) (off := 90) hG (9) dX4_wordOf_1 c1 (by decide) (by decide) rfl (by decide) ?_
    refine j_ldcS (i := 9) hG dX4_wordOf_91 rfl ?_
    have e9 : i = 9 := by omega
    subst e9
    exact j_aret hG hZ dX4_wordOf_93 (Nat.zero_le _) (Nat.zero_le _) (⟨rfl, rfl⟩)
  · -- case 10 at 1
    refine j_tswIn (tgt := 94) (off := 93) hG (10) dX4_wordOf_1 c1 (by decide) (by decide) rfl (by decide) ?_
    refine j_ldcS (i := 10) hG dX4_wordOf_94 rfl ?_
    have e9 : i = 10 := by omega
    subst e9
    exact j_aret hG hZ dX4_wordOf_96 (Nat.zero_le _) (Nat.zero_le _) (⟨rfl, rfl⟩)
  · -- case 11 at 1
    refine j_tswIn (tgt := 97) (off := 96) hG (11) dX4_wordOf_1 c1 (by decide) (by decide) rfl (by decide) ?_
    refine j_ldcS (i := 11) hG dX4_wordOf_97 rfl ?_
    have e9 : i = 11 := by omega
    subst e9
    exact j_aret hG hZ dX4_wordOf_99 (Nat.zero_le _) (Nat.zero_le _) (⟨rfl, rfl⟩)
theorem l_X4_takeKind {G : JG} {l : Launch} {E : JE} {P : Option Value → Hp → Prop} (hG : jX G l E cX4_takeKind RX4 4 rmX4_takeKind) (hZ : jZ G (some .boolean) P) {pa tp by0 : Nat} {len st : Int} {g : Int → Int} {mg : Nat} {a0 a1 a2 a3 a4 a5 : Int} {f0 : Hp} (hl : 0 ≤ len ∧ len ≤ 300) (hg : bOk g) (hs : 0 ≤ st ∧ st ≤ len) (hP : ∀ (z p u : Int) (f' : Hp), ((z = 1 ∧ kdF g len st ≠ -1 ∧ p = nx g len st ∧ u = kdF g len st) ∨ (z = 0 ∧ kdF g len st = -1 ∧ st = p ∧ a0 = u)) → f' tp = oB 9 [.ref by0, .int (iZ len), .int (iZ p), .int (iZ (tE g len p))] → f' mg = oB 3 [.int (iZ u), .int (iZ a1), .int (iZ a2), .int (iZ a3), .int (iZ a4), .int (iZ a5)] → (∀ q, q ≠ tp → q ≠ mg → f' q = f0 q) → P (some (.int (iZ z))) f') :
    ∀ (d : Nat) (i : Nat) (f : Hp), (h : f tp = oB 9 [.ref by0, .int (iZ (len)), .int (iZ (st)), .int (iZ (tE g len st))]) → (hb : f by0 = aI (E.2.1 3) 300 (g)) → (hmg : f mg = oB 3 [.int (iZ (a0)), .int (iZ (a1)), .int (iZ (a2)), .int (iZ (a3)), .int (iZ (a4)), .int (iZ (a5))]) → (hi : i ≤ 13) → (hk : kdF g len st = kdFrom g len st (13 - i) i) → (hf : f = f0) → (13 - i) < d → J G 0 0 f 2 [(0, .ref pa), (1, .ref tp), (2, .ref mg), (3, .int (iZ ((i : Int))))] [] := by
  intro d
  induction d with
  | zero => intro i f h hb hmg hi hk hf hd9; exfalso; omega
  | succ d ih =>
    intro i f h hb hmg hi hk hf hd9
    refine j_iload_n hG dX4_takeKind_2 rfl rfl ?_
    refine j_bipush hG dX4_takeKind_3 (by decide) ?_
    refine j_icmp_ge (tgt := 36) hG dX4_takeKind_5 (by decide) (by omega) (by omega) (fun c1 => ?_) (fun c1 => ?_)
    · -- taken at 5
      refine j_iconst hG dX4_takeKind_36 ?_
      have e9 : kdF g len st = -1 := by rw [hk, show 13 - i = 0 by omega]; rfl
      exact j_zret hG hZ dX4_takeKind_37 (Nat.zero_le _) (Nat.zero_le _) (nar_zr (by omega)) (hP 0 st a0 f (Or.inr ⟨rfl, e9, rfl, rfl⟩) h hmg (fun q _ _ => by rw [hf]))
    · -- on at 5
      refine j_aload_n hG dX4_takeKind_8 rfl rfl ?_
      refine j_iload_n hG dX4_takeKind_9 rfl rfl ?_
      refine j_callS (rest := [.ref tp]) hG vX4_70 dX4_takeKind_10 (c_X4_wordOf (i := i) (by omega)) rfl rfl (by decide) (by decide) (Nat.le_of_ble_eq_true rfl) rfl rfl (Nat.zero_le _) (Nat.zero_le _) ?_
      rintro _ _ ⟨rfl, rfl⟩
      refine j_st (st' := [.ref (E.2.2.1 i), .ref tp]) rfl ?_
      refine j_callV (rest := []) hG vX4_74 dX4_takeKind_13 (c_X10_isToken_ (i0 := i) h hb (by omega) hl hg (by omega)) h rfl rfl (by decide) (by decide) (Nat.le_of_ble_eq_true rfl) rfl rfl (Nat.zero_le _) (Nat.zero_le _) ?_
      rintro _ _ ⟨⟨z2, rfl, hz3⟩, rfl⟩
      refine j_st (st' := [.int (iZ (z2))]) rfl ?_
      have q1 := tE_rng (g := g) hs
      refine j_if_eq (tgt := 30) hG dX4_takeKind_16 (by decide) (by omega) (fun c6 => ?_) (fun c6 => ?_)
      · -- taken at 16
        obtain ⟨-, e5⟩ := hz3.resolve_left (fun h => absurd h.1 (by omega))
        have e5 := wrdB_f e5
        refine j_iinc (a := (i : Int)) (lv' := [(0, .ref pa), (1, .ref tp), (2, .ref mg), (3, .int (iZ ((i : Int) + 1)))]) hG dX4_takeKind_30 rfl (by decide) rfl ?_
        refine j_goto (tgt := 2) hG dX4_takeKind_33 (by decide) ?_
        refine j_lv (lv' := [(0, .ref pa), (1, .ref tp), (2, .ref mg), (3, .int (iZ (((i + 1 : Nat) : Int))))]) (by simp) ?_
        refine ih (i + 1) f h hb hmg (by omega) ?_ hf (by omega)
        rw [hk, show 13 - i = (13 - (i + 1)) + 1 by omega]
        exact if_neg (by rw [e5]; decide)
      · -- on at 16
        obtain ⟨-, e4⟩ := hz3.resolve_right (fun h => absurd h.1 (by omega))
        have e4 := wrdB_iff.mpr e4
        refine j_aload_n hG dX4_takeKind_19 rfl rfl ?_
        refine j_iload_n hG dX4_takeKind_20 rfl rfl ?_
        refine j_put hG pX4_78 dX4_takeKind_21 hmg rfl rfl (Nat.le_of_ble_eq_true rfl) (fun f7 h8 fr9 => ?_)
        have h8 : f7 mg = oB 3 [.int (iZ ((i : Int))), .int (iZ (a1)), .int (iZ (a2)), .int (iZ (a3)), .int (iZ (a4)), .int (iZ (a5))] := h8
        have h10 := (fr9 tp (h_ne h hmg (oo_n (by decide)))).trans h
        have h11 := (fr9 by0 (h_ne hb hmg (Ne.symm oa_I))).trans hb
        refine j_aload_n hG dX4_takeKind_24 rfl rfl ?_
        refine j_callV (rest := []) hG vX4_67 dX4_takeKind_25 (c_X10_toNextToken h10 h11 hl hg (by omega)) h10 rfl rfl (by decide) (by decide) (Nat.le_of_ble_eq_true rfl) rfl rfl (Nat.zero_le _) (Nat.zero_le _) ?_
        rintro _ f14 ⟨rfl, h12, fr13⟩
        refine j_st (st' := []) rfl ?_
        have h12 : f14 tp = oB 9 [.ref by0, .int (iZ (len)), .int (iZ (nx g len st)), .int (iZ (tE g len (nx g len st)))] := h12
        have h15 := (fr13 by0 (h_ne h11 h10 (Ne.symm oa_I))).trans h11
        have h16 := (fr13 mg (h_ne h8 h10 (oo_n (by decide)))).trans h8
        refine j_iconst hG dX4_takeKind_28 ?_
        have e9 : kdF g len st = (i : Int) := by
          rw [hk, show 13 - i = (12 - i) + 1 by omega]
          exact if_pos e4
        exact j_zret hG hZ dX4_takeKind_29 (Nat.zero_le _) (Nat.zero_le _) (nar_zr (by omega)) (hP 1 _ _ f14 (Or.inl ⟨rfl, by omega, rfl, e9.symm⟩) h12 h16 (fun q q1 q2 => (Eq.trans (fr13 q q1) (fr9 q q2)).trans (by rw [hf])))
theorem c_X4_takeKind {l : Launch} {E : JE} {f : Hp} {pa tp by0 : Nat} {len st : Int} {g : Int → Int} {mg : Nat} {a0 a1 a2 a3 a4 a5 : Int} (h : f tp = oB 9 [.ref by0, .int (iZ (len)), .int (iZ (st)), .int (iZ (tE g len st))]) (hb : f by0 = aI (E.2.1 3) 300 (g)) (hmg : f mg = oB 3 [.int (iZ (a0)), .int (iZ (a1)), .int (iZ (a2)), .int (iZ (a3)), .int (iZ (a4)), .int (iZ (a5))]) (hl : 0 ≤ len ∧ len ≤ 300) (hg : bOk g) (hs : 0 ≤ st ∧ st ≤ len) : KX4_takeKind l E [.ref pa, .ref tp, .ref mg] f (fun v f' => ∃ z p u : Int, v = some (.int (iZ z)) ∧ ((z = 1 ∧ kdF g len st ≠ -1 ∧ p = nx g len st ∧ u = kdF g len st) ∨ (z = 0 ∧ kdF g len st = -1 ∧ st = p ∧ a0 = u)) ∧ f' tp = oB 9 [.ref by0, .int (iZ len), .int (iZ p), .int (iZ (tE g len p))] ∧ f' mg = oB 3 [.int (iZ u), .int (iZ a1), .int (iZ a2), .int (iZ a3), .int (iZ a4), .int (iZ a5)] ∧ ∀ q, q ≠ tp → q ≠ mg → f' q = f q) := by
  refine ct_of (own := RX4) (lv := [(0, .ref pa), (1, .ref tp), (2, .ref mg)]) (by decide +kernel) rfl (Nat.le_of_ble_eq_true rfl) rfl ?_
  intro G hG hZ
  refine j_iconst hG dX4_takeKind_0 ?_
  refine j_istore_n (lv' := [(0, .ref pa), (1, .ref tp), (2, .ref mg), (3, .int (iZ (0)))]) hG dX4_takeKind_1 rfl (by decide) rfl ?_
  exact l_X4_takeKind (f0 := f) hG hZ hl hg hs (fun z p u f' a1 a2 a3 a4 => ⟨z, p, u, rfl, a1, a2, a3, a4⟩) 14 0 f h hb hmg (by omega) rfl rfl (by omega)
/-- a MAKING's six numbers -/
def mk6 (a b c d e m : Int) : Int → Int := fun j => if j = 0 then a else if j = 1 then b else if j = 2 then c else if j = 3 then d else if j = 4 then e else m
theorem kdFrom_rng {g : Int → Int} {len s : Int} : ∀ (n i : Nat), -1 ≤ kdFrom g len s n i ∧ kdFrom g len s n i < n + i
  | 0, i => by unfold kdFrom; omega
  | n + 1, i => by
    have ih := kdFrom_rng (g := g) (len := len) (s := s) n (i + 1)
    unfold kdFrom
    split <;> omega
theorem kdF_rng {g : Int → Int} {len s : Int} : -1 ≤ kdF g len s ∧ kdF g len s ≤ 12 := by have := kdFrom_rng (g := g) (len := len) (s := s) 13 0; unfold kdF; omega
/-- what stands behind the kind: where it ends or can't go on, and the MAKING -/
def parts (g tl : Int → Int) (len kd s : Int) : Int × Option (Int → Int) :=
  if kd = 0 then (if 0 ≤ dgt g len s ∧ dgt g len s ≤ 2 then (nx g len s, some (mk6 kd (-1) (-1) 0 61 (dgt g len s))) else (s, none))
  else if nameT g tl len s = -1 then (s, none)
  else if kd = 1 then
    (if colF g len (nx g len s) = -1 then (nx g len s, none)
     else if relF g len (nx g len (nx g len s)) = -1 then (nx g len (nx g len s), none)
     else if 0 ≤ dgt g len (nmS g len (nx g len (nx g len (nx g len s)))) ∧ dgt g len (nmS g len (nx g len (nx g len (nx g len s)))) ≤ 1000 then
       (nx g len (nmS g len (nx g len (nx g len (nx g len s)))), some (mk6 kd (nameT g tl len s) (-1) (colF g len (nx g len s)) (relF g len (nx g len (nx g len s))) (nmV g len (nx g len (nx g len (nx g len s))))))
     else (nmS g len (nx g len (nx g len (nx g len s))), none))
  else if kd = 2 ∨ kd = 3 then
    (if 0 ≤ dgt g len (nmS g len (nx g len s)) ∧ dgt g len (nmS g len (nx g len s)) ≤ 1000 then (nx g len (nmS g len (nx g len s)), some (mk6 kd (nameT g tl len s) (-1) 0 61 (nmV g len (nx g len s)))) else (nmS g len (nx g len s), none))
  else if kd = 4 then (if 0 ≤ dgt g len (nx g len s) ∧ dgt g len (nx g len s) ≤ 31 then (nx g len (nx g len s), some (mk6 kd (nameT g tl len s) (-1) 0 61 (dgt g len (nx g len s)))) else (nx g len s, none))
  else if kd = 5 then (if 1 ≤ dgt g len (nx g len s) ∧ dgt g len (nx g len s) ≤ 1000 then (nx g len (nx g len s), some (mk6 kd (nameT g tl len s) (-1) 0 61 (dgt g len (nx g len s)))) else (nx g len s, none))
  else if kd = 11 ∨ kd = 12 then (if nameT g tl len (nx g len s) = -1 then (nx g len s, none) else (nx g len (nx g len s), some (mk6 kd (nameT g tl len s) (nameT g tl len (nx g len s)) 0 61 0)))
  else (nx g len s, some (mk6 kd (nameT g tl len s) (-1) 0 61 0))
