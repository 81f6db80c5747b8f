def gOk (g : Int → Int) : Prop := ∀ j, rOk (g j)
theorem gOk_0 : gOk (fun _ => 0) := fun _ => by show (0:Int) ≤ 0 ∧ (0:Int) < _; omega
theorem gOk_fup {g : Int → Int} {i v : Int} (h : gOk g) (hv : rOk v) : gOk (fup g i v) := fun j => by
  unfold fup; split
  · exact hv
  · exact h j
theorem gOk_fcp {g h : Int → Int} {a b m : Int} (h1 : gOk g) (h2 : gOk h) : gOk (fcp g h a b m) := fun j => by
  unfold fcp; split
  · exact h1 _
  · exact h2 j
theorem rOk_l {x : Int} (h : rOk x) : -9223372036854775808 ≤ x ∧ x < 9223372036854775808 := by unfold rOk at h; omega
theorem c_X8_at {l : Launch} {E : JE} {f : Hp} {r c : Nat} {n b i : Int} {g : Int → Int} (h : f r = oB 7 [.ref c, .int (iZ (n)), .int (iZ (b))]) (hc : f c = aJ (E.2.1 1) 400 (g)) (hn : 0 ≤ n ∧ n ≤ 400) (hi : 0 ≤ i ∧ i < n) : KX8_at l E [.ref r, .int (iZ (i))] f (fun v f' => v = some (.long (lZ (g i))) ∧ f = f') := by
  refine ct_of (own := RX8) (lv := [(0, .ref r), (1, .int (iZ (i)))]) (by decide +kernel) rfl (Nat.le_of_ble_eq_true rfl) rfl ?_
  intro G hG hZ
  refine j_iload_n hG dX8_at_0 rfl rfl ?_
  refine j_iconst hG dX8_at_1 ?_
  refine j_aload_n hG dX8_at_2 rfl rfl ?_
  refine j_get hG fX8_15 dX8_at_3 h rfl ?_
  refine j_iconst hG dX8_at_6 ?_
  refine j_isub hG dX8_at_7 ?_
  refine j_callSN (rest := []) hG vX8_23 dX8_at_8 (c_X11_isWithin (a := i) (lo := 0) (hi := n - 1) (by omega) (by omega) (by omega)) rfl rfl (by decide) (by decide) (Nat.le_of_ble_eq_true rfl) rfl rfl (Nat.zero_le _) (Nat.zero_le _) ?_
  rintro _ _ ⟨⟨b1, rfl, hb2⟩, rfl⟩
  refine j_st (st' := [.int (iZ (b1))]) rfl ?_
  refine j_if_eq (tgt := 23) hG dX8_at_11 (by decide) (by omega) (fun c3 => ?_) (fun c3 => ?_)
  · -- taken at 11
    exfalso; omega
  · -- on at 11
    refine j_aload_n hG dX8_at_14 rfl rfl ?_
    refine j_get hG fX8_9 dX8_at_15 h rfl ?_
    refine j_iload_n hG dX8_at_18 rfl rfl ?_
    refine j_lald hG dX8_at_19 hc (by omega) (by decide) ?_
    refine j_goto (tgt := 24) hG dX8_at_20 (by decide) ?_
    exact j_lret hG hZ dX8_at_24 (Nat.zero_le _) (Nat.zero_le _) (⟨rfl, rfl⟩)
theorem c_X8_add {l : Launch} {E : JE} {f : Hp} {r c : Nat} {n b x : Int} {g : Int → Int} (h : f r = oB 7 [.ref c, .int (iZ (n)), .int (iZ (b))]) (hc : f c = aJ (E.2.1 1) 400 (g)) (hn : 0 ≤ n ∧ n ≤ 400) : KX8_add l E [.ref r, .long (lZ (x))] f (fun v f' => v = none ∧ ((n = 400 ∧ f' r = oB 7 [.ref c, .int (iZ n), .int (iZ 1)] ∧ f' c = aJ (E.2.1 1) 400 g) ∨ (n < 400 ∧ f' r = oB 7 [.ref c, .int (iZ (n + 1)), .int (iZ b)] ∧ f' c = aJ (E.2.1 1) 400 (fup g n x))) ∧ ∀ q, q ≠ r → q ≠ c → f' q = f q) := by
  refine ct_of (own := RX8) (lv := [(0, .ref r), (1, .long (lZ (x)))]) (by decide +kernel) rfl (Nat.le_of_ble_eq_true rfl) rfl ?_
  intro G hG hZ
  refine j_aload_n hG dX8_add_0 rfl rfl ?_
  refine j_get hG fX8_15 dX8_add_1 h rfl ?_
  refine j_aload_n hG dX8_add_4 rfl rfl ?_
  refine j_get hG fX8_9 dX8_add_5 h rfl ?_
  refine j_alenJ hG dX8_add_8 hc ?_
  refine j_icmp_lt (tgt := 18) hG dX8_add_9 (by decide) (by omega) (by omega) (fun c1 => ?_) (fun c1 => ?_)
  · -- taken at 9
    refine j_aload_n hG dX8_add_18 rfl rfl ?_
    refine j_get hG fX8_9 dX8_add_19 h rfl ?_
    refine j_aload_n hG dX8_add_22 rfl rfl ?_
    refine j_get hG fX8_15 dX8_add_23 h rfl ?_
    refine j_lload_n hG dX8_add_26 rfl rfl ?_
    refine j_last hG dX8_add_27 hc (by omega) (by decide) (fun f2 h3 fr4 => ?_)
    have h5 := (fr4 r (h_ne h hc oa_J)).trans h
    refine j_aload_n hG dX8_add_28 rfl rfl ?_
    refine j_dup hG dX8_add_29 rfl ?_
    refine j_get hG fX8_15 dX8_add_30 h5 rfl ?_
    refine j_iconst hG dX8_add_33 ?_
    refine j_iadd hG dX8_add_34 ?_
    refine j_put hG pX8_15 dX8_add_35 h5 rfl rfl (Nat.le_of_ble_eq_true rfl) (fun f6 h7 fr8 => ?_)
    have h7 : f6 r = oB 7 [.ref c, .int (iZ (n + 1)), .int (iZ (b))] := h7
    have h9 := (fr8 c (h_ne h3 h5 (Ne.symm oa_J))).trans h3
    exact j_vret hG hZ dX8_add_38 (Nat.zero_le _) (Nat.zero_le _) (⟨rfl, Or.inr ⟨by omega, h7, h9⟩, fun q h1 h2 => (Eq.trans (fr8 q h1) (fr4 q h2))⟩)
  · -- on at 9
    refine j_aload_n hG dX8_add_12 rfl rfl ?_
    refine j_iconst hG dX8_add_13 ?_
    refine j_put hG pX8_19 dX8_add_14 h (nar_zr (by omega)) (fit_z (by omega)) (Nat.le_of_ble_eq_true rfl) (fun f10 h11 fr12 => ?_)
    have h11 : f10 r = oB 7 [.ref c, .int (iZ (n)), .int (iZ (1))] := h11
    have h13 := (fr12 c (h_ne hc h (Ne.symm oa_J))).trans hc
    exact j_vret hG hZ dX8_add_17 (Nat.zero_le _) (Nat.zero_le _) (⟨rfl, Or.inl ⟨by omega, h11, h13⟩, fun q h1 h2 => (fr12 q h1)⟩)
/-- what add(key, time, value) does to n, b, g -/
def addR (n b k t u : Int) (g : Int → Int) (n' b' : Int) (g' : Int → Int) : Prop :=
  (((u < -1000000000 ∨ 1000000000 < u) ∨ n = 400) ∧ n' = n ∧ b' = 1 ∧ g' = g) ∨ ((-1000000000 ≤ u ∧ u ≤ 1000000000 ∧ n < 400) ∧ n' = n + 1 ∧ b' = b ∧ g' = fup g n (pk k t u))
/-- what add(row) does -/
def adL (n b x : Int) (g : Int → Int) (n' b' : Int) (g' : Int → Int) : Prop :=
  (n = 400 ∧ n' = n ∧ b' = 1 ∧ g' = g) ∨ (n < 400 ∧ n' = n + 1 ∧ b' = b ∧ g' = fup g n x)
theorem c_X8_addL {l : Launch} {E : JE} {f : Hp} {r c : Nat} {n b x : Int} {g : Int → Int} (h : f r = oB 7 [.ref c, .int (iZ n), .int (iZ b)]) (hc : f c = aJ (E.2.1 1) 400 g) (hn : 0 ≤ n ∧ n ≤ 400) : KX8_add l E [.ref r, .long (lZ x)] f (fun v f' => v = none ∧ ∃ (n' b' : Int) (g' : Int → Int), adL n b x g n' b' g' ∧ f' r = oB 7 [.ref c, .int (iZ n'), .int (iZ b')] ∧ f' c = aJ (E.2.1 1) 400 g' ∧ ∀ q, q ≠ r → q ≠ c → f' q = f q) := by
  refine ct_mono (c_X8_add h hc hn) ?_
  rintro v f' ⟨h1, h2 | h2, h3⟩
  · exact ⟨h1, n, 1, g, Or.inl ⟨h2.1, rfl, rfl, rfl⟩, h2.2.1, h2.2.2, h3⟩
  · exact ⟨h1, n + 1, b, _, Or.inr ⟨h2.1, rfl, rfl, rfl⟩, h2.2.1, h2.2.2, h3⟩
theorem c_X8_add_ {l : Launch} {E : JE} {f : Hp} {r c : Nat} {n b k t u : Int} {g : Int → Int} (h : f r = oB 7 [.ref c, .int (iZ (n)), .int (iZ (b))]) (hc : f c = aJ (E.2.1 1) 400 (g)) (hn : 0 ≤ n ∧ n ≤ 400) (hk : 0 ≤ k ∧ k < 32) (ht : 0 ≤ t ∧ t < 16384) (hu : -4611686018427387904 ≤ u ∧ u ≤ 4611686018427387904) : KX8_add_ l E [.ref r, .int (iZ (k)), .int (iZ (t)), .long (lZ (u))] f (fun v f' => v = none ∧ ∃ (n' b' : Int) (g' : Int → Int), addR n b k t u g n' b' g' ∧ f' r = oB 7 [.ref c, .int (iZ n'), .int (iZ b')] ∧ f' c = aJ (E.2.1 1) 400 g' ∧ ∀ q, q ≠ r → q ≠ c → f' q = f q) := by
  refine ct_of (own := RX8) (lv := [(0, .ref r), (1, .int (iZ (k))), (2, .int (iZ (t))), (3, .long (lZ (u)))]) (by decide +kernel) rfl (Nat.le_of_ble_eq_true rfl) rfl ?_
  intro G hG hZ
  refine j_lload_n hG dX8_add__0 rfl rfl ?_
  refine j_ldc2 (z := -1000000000) hG dX8_add__1 kX8_27 (by decide) ?_
  refine j_lcmp hG dX8_add__4 (by omega) (by omega) ?_
  refine j_if_lt (tgt := 16) hG dX8_add__5 (by decide) (by have h9 := cI_rng u (-1000000000); omega) (fun c1 => ?_) (fun c1 => ?_)
  · -- taken at 5
    have c1 := cI_lt.mp c1
    refine j_aload_n hG dX8_add__16 rfl rfl ?_
    refine j_iconst hG dX8_add__17 ?_
    refine j_put hG pX8_19 dX8_add__18 h (nar_zr (by omega)) (fit_z (by omega)) (Nat.le_of_ble_eq_true rfl) (fun f2 h3 fr4 => ?_)
    have h3 : f2 r = oB 7 [.ref c, .int (iZ (n)), .int (iZ (1))] := h3
    have h5 := (fr4 c (h_ne hc h (Ne.symm oa_J))).trans hc
    exact j_vret hG hZ dX8_add__21 (Nat.zero_le _) (Nat.zero_le _) (⟨rfl, n, 1, g, Or.inl ⟨Or.inl (by omega), rfl, rfl, rfl⟩, h3, h5, fun q h1 h2 => (fr4 q h1)⟩)
  · -- on at 5
    have c1 := cge c1
    refine j_lload_n hG dX8_add__8 rfl rfl ?_
    refine j_ldc2 (z := 1000000000) hG dX8_add__9 kX8_29 (by decide) ?_
    refine j_lcmp hG dX8_add__12 (by omega) (by omega) ?_
    refine j_if_le (tgt := 22) hG dX8_add__13 (by decide) (by have h9 := cI_rng u 1000000000; omega) (fun c6 => ?_) (fun c6 => ?_)
    · -- taken at 13
      have c6 := cI_le.mp c6
      refine j_aload_n hG dX8_add__22 rfl rfl ?_
      refine j_iload_n hG dX8_add__23 rfl rfl ?_
      refine j_iload_n hG dX8_add__24 rfl rfl ?_
      refine j_lload_n hG dX8_add__25 rfl rfl ?_
      refine j_l2i hG dX8_add__26 ?_
      refine j_callS (rest := [.ref r]) hG vX8_31 dX8_add__27 (c_X7_pack (k := k) (t := t) (u := u) (by omega) (by omega) (by omega)) rfl rfl (by decide) (by decide) (Nat.le_of_ble_eq_true rfl) rfl rfl (Nat.zero_le _) (Nat.zero_le _) ?_
      rintro _ _ ⟨rfl, rfl⟩
      refine j_st (st' := [.long (lZ (pk k t u)), .ref r]) rfl ?_
      refine j_callV (rest := []) hG vX8_37 dX8_add__30 (c_X8_addL (x := pk k t u) h hc (by omega)) h rfl rfl (by decide) (by decide) (Nat.le_of_ble_eq_true rfl) rfl rfl (Nat.zero_le _) (Nat.zero_le _) ?_
      rintro _ f14 ⟨rfl, n7, b8, g9, ha10, h11, h12, fr13⟩
      refine j_st (st' := []) rfl ?_
      have e9 : addR n b k t u g n7 b8 g9 := by
        rcases ha10 with h9 | h9
        · exact Or.inl ⟨Or.inr h9.1, h9.2⟩
        · exact Or.inr ⟨⟨by omega, by omega, h9.1⟩, h9.2⟩
      exact j_vret hG hZ dX8_add__33 (Nat.zero_le _) (Nat.zero_le _) (⟨rfl, _, _, _, e9, h11, h12, fun q h1 h2 => (fr13 q h1 h2)⟩)
    · -- on at 13
      have c6 := cgt c6
      refine j_aload_n hG dX8_add__16 rfl rfl ?_
      refine j_iconst hG dX8_add__17 ?_
      refine j_put hG pX8_19 dX8_add__18 h (nar_zr (by omega)) (fit_z (by omega)) (Nat.le_of_ble_eq_true rfl) (fun f15 h16 fr17 => ?_)
      have h16 : f15 r = oB 7 [.ref c, .int (iZ (n)), .int (iZ (1))] := h16
      have h18 := (fr17 c (h_ne hc h (Ne.symm oa_J))).trans hc
      exact j_vret hG hZ dX8_add__21 (Nat.zero_le _) (Nat.zero_le _) (⟨rfl, n, 1, g, Or.inl ⟨Or.inl (by omega), rfl, rfl, rfl⟩, h16, h18, fun q h1 h2 => (fr17 q h1)⟩)
