theorem l_X1_change {G : JG} {l : Launch} {E : JE} {P : Option Value → Hp → Prop} (hG : jX G l E cX1_change RX1 6 rmX1_change) (hZ : jZ G (some .int) P) {r p u : Nat} {n h0 z : Int} {gt go : Int → Int} {f0 : Hp} (hgo : ∀ j, 0 ≤ j → j < 32 → -1 ≤ go j ∧ go j < 8) (hg : ∀ j, 0 ≤ j → j < 8 → gt j = 0 ∨ gt j = 1) (hP : ∀ (f' : Hp) (x : Int32) (g' : Int → Int), f' r = oB 1 [.ref p, .ref u, .int (iZ n)] → f' p = aI (E.2.1 2) 8 gt → f' u = aI (E.2.1 0) 32 g' → (∀ q, q ≠ u → f' q = f0 q) → (∀ k, 0 ≤ k → k < 32 → g' k = ownr gt k) → (∀ k, 0 ≤ k → k < 32 → bt x k.toNat = decide (ownr gt k ≠ go k)) → P (some (.int x)) f') :
    ∀ (d : Nat) (i : Int) (x : Int32) (g1 : Int → Int) (f1 : Hp), (h : f1 r = oB 1 [.ref p, .ref u, .int (iZ (n))]) → (hp : f1 p = aI (E.2.1 2) 8 (gt)) → (hu : f1 u = aI (E.2.1 0) 32 (g1)) → (hi : 0 ≤ i ∧ i ≤ 32) → (hx : ∀ k, 0 ≤ k → k < 32 → bt x k.toNat = (decide (k < i) && decide (ownr gt k ≠ go k))) → (h1 : ∀ k, 0 ≤ k → k < i → g1 k = ownr gt k) → (h2 : ∀ k, i ≤ k → g1 k = go k) → (hf : ∀ q, q ≠ u → f1 q = f0 q) → ((32 - i).toNat) < d → J G 0 0 f1 52 [(0, .ref r), (1, .int (iZ (h0))), (2, .int (iZ (z))), (3, .int (x)), (4, .int (iZ (i)))] [] := by
  intro d
  induction d with
  | zero => intro i x g1 f1 h hp hu hi hx h1 h2 hf hd9; exfalso; omega
  | succ d ih =>
    intro i x g1 f1 h hp hu hi hx h1 h2 hf hd9
    refine j_iload hG dX1_change_52 rfl ?_
    refine j_bipush hG dX1_change_54 (by decide) ?_
    refine j_icmp_ge (tgt := 101) hG dX1_change_56 (by decide) (by omega) (by omega) (fun c1 => ?_) (fun c1 => ?_)
    · -- taken at 56
      refine j_iload_n hG dX1_change_101 rfl rfl ?_
      have e9 : i = 32 := by omega
      subst e9
      exact j_iret hG hZ dX1_change_102 (Nat.zero_le _) (Nat.zero_le _) (hP _ _ g1 h hp hu hf h1 (fun k k1 k2 => by rw [hx k k1 k2, decide_eq_true k2, Bool.true_and]))
    · -- on at 56
      refine j_aload_n hG dX1_change_59 rfl rfl ?_
      refine j_iload hG dX1_change_60 rfl ?_
      refine j_callV (rest := []) hG vX1_27 dX1_change_62 (c_X1_choose (k := i) h hp (by omega) hg) h rfl rfl (by decide) (by decide) (Nat.le_of_ble_eq_true rfl) rfl rfl (Nat.zero_le _) (Nat.zero_le _) ?_
      rintro _ _ ⟨rfl, rfl⟩
      refine j_st (st' := [.int (iZ (ownr gt i))]) rfl ?_
      refine j_istore (lv' := [(0, .ref r), (1, .int (iZ (h0))), (2, .int (iZ (z))), (3, .int (x)), (4, .int (iZ (i))), (5, .int (iZ (ownr gt i)))]) hG dX1_change_65 (by decide) rfl ?_
      refine j_iload hG dX1_change_67 rfl ?_
      refine j_aload_n hG dX1_change_69 rfl rfl ?_
      refine j_get hG fX1_19 dX1_change_70 h rfl ?_
      refine j_iload hG dX1_change_73 rfl ?_
      refine j_iald hG dX1_change_75 hu (by omega) (by decide) ?_
      have w1 := bst_rng gt i 8
      have w2 : ownr gt i = (bst gt i 8).1 := rfl
      have w3 := h2 i (Int.le_refl _)
      have w4 := hgo i (by omega) (by omega)
      refine j_icmp_eq (tgt := 95) hG dX1_change_76 (by decide) (by omega) (by omega) (fun c2 => ?_) (fun c2 => ?_)
      · -- taken at 76
        refine j_iinc (a := i) (lv' := [(0, .ref r), (1, .int (iZ (h0))), (2, .int (iZ (z))), (3, .int (x)), (4, .int (iZ (i + 1))), (5, .int (iZ (ownr gt i)))]) hG dX1_change_95 rfl (by decide) rfl ?_
        refine j_goto (tgt := 52) hG dX1_change_98 (by decide) ?_
        refine j_lv (lv' := [(0, .ref r), (1, .int (iZ (h0))), (2, .int (iZ (z))), (3, .int (x)), (4, .int (iZ (i + 1)))]) (by simp) ?_
        refine ih (i + 1) x g1 f1 h hp hu (by omega) (fun k k1 k2 => ?_) (fun k k1 k2 => ?_) (fun k k1 => h2 k (by omega)) hf (by omega)
        · rw [hx k k1 k2]
          by_cases e1 : k = i
          · subst e1
            have e3 : ¬ ownr gt k ≠ go k := by omega
            simp [e3]; try omega
          · have e2 : decide (k < i + 1) = decide (k < i) := decide_eq_decide.mpr (by omega)
            rw [e2]
        · by_cases e1 : k = i
          · subst e1; omega
          · exact h1 k k1 (by omega)
      · -- on at 76
        refine j_aload_n hG dX1_change_79 rfl rfl ?_
        refine j_get hG fX1_19 dX1_change_80 h rfl ?_
        refine j_iload hG dX1_change_83 rfl ?_
        refine j_iload hG dX1_change_85 rfl ?_
        refine j_iast hG dX1_change_87 hu (by omega) (by decide) (fun f3 h4 fr5 => ?_)
        have h6 := (fr5 r (h_ne h hu oa_I)).trans h
        have h7 := (fr5 p (h_ne hp hu (aI_n (by decide)))).trans hp
        refine j_iload_n hG dX1_change_88 rfl rfl ?_
        refine j_iconst hG dX1_change_89 ?_
        refine j_iload hG dX1_change_90 rfl ?_
        refine j_ishl hG dX1_change_92 ?_
        refine j_ior hG dX1_change_93 ?_
        refine j_istore_n (lv' := [(0, .ref r), (1, .int (iZ (h0))), (2, .int (iZ (z))), (3, .int ((x) ||| ((iZ (1)) <<< ((iZ (i)) &&& 31)))), (4, .int (iZ (i))), (5, .int (iZ (ownr gt i)))]) hG dX1_change_94 rfl (by decide) rfl ?_
        refine j_iinc (a := i) (lv' := [(0, .ref r), (1, .int (iZ (h0))), (2, .int (iZ (z))), (3, .int ((x) ||| ((iZ (1)) <<< ((iZ (i)) &&& 31)))), (4, .int (iZ (i + 1))), (5, .int (iZ (ownr gt i)))]) hG dX1_change_95 rfl (by decide) rfl ?_
        refine j_goto (tgt := 52) hG dX1_change_98 (by decide) ?_
        refine j_lv (lv' := [(0, .ref r), (1, .int (iZ (h0))), (2, .int (iZ (z))), (3, .int ((x) ||| ((iZ (1)) <<< ((iZ (i)) &&& 31)))), (4, .int (iZ (i + 1)))]) (by simp) ?_
        refine ih (i + 1) _ _ f3 h6 h7 h4 (by omega) (fun k k1 k2 => ?_) (fun k k1 k2 => ?_) (fun k k1 => ?_) (fun q hq => (fr5 q hq).trans (hf q hq)) (by omega)
        · rw [bt_set x ⟨by omega, by omega⟩ ⟨k1, k2⟩, hx k k1 k2]
          by_cases e1 : k = i
          · subst e1
            have e3 : ownr gt k ≠ go k := by omega
            simp [e3]; try omega
          · have e2 : decide (k < i + 1) = decide (k < i) := decide_eq_decide.mpr (by omega)
            rw [e2]; simp [e1]
        · by_cases e1 : k = i
          · subst e1; exact fup_s _ _ _
          · rw [fup_n _ _ e1]; exact h1 k k1 (by omega)
        · rw [fup_n _ _ (by omega)]; exact h2 k (by omega)
theorem c_X1_change {l : Launch} {E : JE} {f : Hp} {r p u : Nat} {n h0 z : Int} {gt go : Int → Int} (h : f r = oB 1 [.ref p, .ref u, .int (iZ (n))]) (hp : f p = aI (E.2.1 2) 8 (gt)) (hu : f u = aI (E.2.1 0) 32 (go)) (hh : 0 ≤ h0 ∧ h0 < 8) (hz : z = 0 ∨ z = 1) (hne : gt h0 ≠ z) (hg : ∀ j, 0 ≤ j → j < 8 → gt j = 0 ∨ gt j = 1) (hgo : ∀ j, 0 ≤ j → j < 32 → -1 ≤ go j ∧ go j < 8) : KX1_change l E [.ref r, .int (iZ (h0)), .int (iZ (z))] f (fun v f' => ∃ (x : Int32) (n' : Int) (g' : Int → Int), v = some (.int x) ∧ n' = n + 2 * z - 1 ∧ f' r = oB 1 [.ref p, .ref u, .int (iZ n')] ∧ f' p = aI (E.2.1 2) 8 (fup gt h0 z) ∧ f' u = aI (E.2.1 0) 32 g' ∧ (∀ k, 0 ≤ k → k < 32 → g' k = ownr (fup gt h0 z) k) ∧ (∀ k, 0 ≤ k → k < 32 → bt x k.toNat = decide (ownr (fup gt h0 z) k ≠ go k)) ∧ ∀ q, q ≠ r → q ≠ p → q ≠ u → f' q = f q) := by
  refine ct_of (own := RX1) (lv := [(0, .ref r), (1, .int (iZ (h0))), (2, .int (iZ (z)))]) (by decide +kernel) rfl (Nat.le_of_ble_eq_true rfl) rfl ?_
  intro G hG hZ
  refine j_iload_n hG dX1_change_0 rfl rfl ?_
  refine j_iconst hG dX1_change_1 ?_
  refine j_bipush hG dX1_change_2 (by decide) ?_
  refine j_callSN (rest := []) hG vX1_23 dX1_change_4 (c_X11_isWithin (a := h0) (lo := 0) (hi := 7) (by omega) (by omega) (by omega)) rfl rfl (by decide) (by decide) (Nat.le_of_ble_eq_true rfl) rfl rfl (Nat.zero_le _) (Nat.zero_le _) ?_
  rintro _ _ ⟨⟨b1, rfl, hb2⟩, rfl⟩
  refine j_st (st' := [.int (iZ (b1))]) rfl ?_
  refine j_if_eq (tgt := 20) hG dX1_change_7 (by decide) (by omega) (fun c3 => ?_) (fun c3 => ?_)
  · -- taken at 7
    exfalso; omega
  · -- on at 7
    refine j_aload_n hG dX1_change_10 rfl rfl ?_
    refine j_get hG fX1_9 dX1_change_11 h rfl ?_
    refine j_iload_n hG dX1_change_14 rfl rfl ?_
    refine j_zald hG dX1_change_15 hp (by omega) (by decide) ?_
    refine j_iload_n hG dX1_change_16 rfl rfl ?_
    have hg0 := hg h0 (by omega) (by omega)
    refine j_icmp_ne (tgt := 22) hG dX1_change_17 (by decide) (by omega) (by omega) (fun c4 => ?_) (fun c4 => ?_)
    · -- taken at 17
      refine j_aload_n hG dX1_change_22 rfl rfl ?_
      refine j_get hG fX1_9 dX1_change_23 h rfl ?_
      refine j_iload_n hG dX1_change_26 rfl rfl ?_
      refine j_iload_n hG dX1_change_27 rfl rfl ?_
      refine j_zast hG dX1_change_28 hp (by omega) (by decide) hz (fun f5 h6 fr7 => ?_)
      have h8 := (fr7 r (h_ne h hp oa_I)).trans h
      have h9 := (fr7 u (h_ne hu hp (aI_n (by decide)))).trans hu
      refine j_aload_n hG dX1_change_29 rfl rfl ?_
      refine j_dup hG dX1_change_30 rfl ?_
      refine j_get hG fX1_15 dX1_change_31 h8 rfl ?_
      refine j_iload_n hG dX1_change_34 rfl rfl ?_
      refine j_if_eq (tgt := 42) hG dX1_change_35 (by decide) (by omega) (fun c10 => ?_) (fun c10 => ?_)
      · -- taken at 35
        refine j_iconst hG dX1_change_42 ?_
        refine j_iadd hG dX1_change_43 ?_
        refine j_put hG pX1_15 dX1_change_44 h8 rfl rfl (Nat.le_of_ble_eq_true rfl) (fun f11 h12 fr13 => ?_)
        have h12 : f11 r = oB 1 [.ref p, .ref u, .int (iZ (n + (-1)))] := h12
        have h14 := (fr13 u (h_ne h9 h8 (Ne.symm oa_I))).trans h9
        have h15 := (fr13 p (h_ne h6 h8 (Ne.symm oa_I))).trans h6
        refine j_iconst hG dX1_change_47 ?_
        refine j_istore_n (lv' := [(0, .ref r), (1, .int (iZ (h0))), (2, .int (iZ (z))), (3, .int (iZ (0)))]) hG dX1_change_48 rfl (by decide) rfl ?_
        refine j_iconst hG dX1_change_49 ?_
        refine j_istore (lv' := [(0, .ref r), (1, .int (iZ (h0))), (2, .int (iZ (z))), (3, .int (iZ (0))), (4, .int (iZ (0)))]) hG dX1_change_50 (by decide) rfl ?_
        have hg2 : ∀ j, 0 ≤ j → j < 8 → fup gt h0 z j = 0 ∨ fup gt h0 z j = 1 := fun j j1 j2 => by
          unfold fup; split
          · exact hz
          · exact hg j j1 j2
        exact l_X1_change (go := go) (f0 := f11) hG hZ hgo hg2 (fun f' x g' a1 a2 a3 a4 a5 a6 => ⟨x, _, g', rfl, by omega, a1, a2, a3, a5, a6, fun q q1 q2 q3 => (a4 q q3).trans (Eq.trans (fr13 q q1) (fr7 q q2))⟩) 33 0 (iZ 0) go f11 h12 h15 h14 (by omega) (fun k k1 _ => by rw [show (iZ 0 : Int32) = 0 by decide, b_0, decide_eq_false (by omega), Bool.false_and]) (fun k k1 k2 => absurd k2 (by omega)) (fun _ _ => rfl) (fun _ _ => rfl) (by omega)
      · -- on at 35
        refine j_iconst hG dX1_change_38 ?_
        refine j_goto (tgt := 43) hG dX1_change_39 (by decide) ?_
        refine j_iadd hG dX1_change_43 ?_
        refine j_put hG pX1_15 dX1_change_44 h8 rfl rfl (Nat.le_of_ble_eq_true rfl) (fun f16 h17 fr18 => ?_)
        have h17 : f16 r = oB 1 [.ref p, .ref u, .int (iZ (n + 1))] := h17
        have h19 := (fr18 u (h_ne h9 h8 (Ne.symm oa_I))).trans h9
        have h20 := (fr18 p (h_ne h6 h8 (Ne.symm oa_I))).trans h6
        refine j_iconst hG dX1_change_47 ?_
        refine j_istore_n (lv' := [(0, .ref r), (1, .int (iZ (h0))), (2, .int (iZ (z))), (3, .int (iZ (0)))]) hG dX1_change_48 rfl (by decide) rfl ?_
        refine j_iconst hG dX1_change_49 ?_
        refine j_istore (lv' := [(0, .ref r), (1, .int (iZ (h0))), (2, .int (iZ (z))), (3, .int (iZ (0))), (4, .int (iZ (0)))]) hG dX1_change_50 (by decide) rfl ?_
        have hg2 : ∀ j, 0 ≤ j → j < 8 → fup gt h0 z j = 0 ∨ fup gt h0 z j = 1 := fun j j1 j2 => by
          unfold fup; split
          · exact hz
          · exact hg j j1 j2
        exact l_X1_change (go := go) (f0 := f16) hG hZ hgo hg2 (fun f' x g' a1 a2 a3 a4 a5 a6 => ⟨x, _, g', rfl, by omega, a1, a2, a3, a5, a6, fun q q1 q2 q3 => (a4 q q3).trans (Eq.trans (fr18 q q1) (fr7 q q2))⟩) 33 0 (iZ 0) go f16 h17 h20 h19 (by omega) (fun k k1 _ => by rw [show (iZ 0 : Int32) = 0 by decide, b_0, decide_eq_false (by omega), Bool.false_and]) (fun k k1 k2 => absurd k2 (by omega)) (fun _ _ => rfl) (fun _ _ => rfl) (by omega)
    · -- on at 17
      exfalso; omega
/-! ===== CHANGES ===== -/
def cOk (g : Int → Int) : Prop := ∀ j, 0 ≤ g j ∧ g j < 2251799813685248
theorem cOk_fup {g : Int → Int} {i v : Int} (h : cOk g) (hv : 0 ≤ v ∧ v < 2251799813685248) : cOk (fup g i v) := fun j => by
  unfold fup; split
  · exact hv
  · exact h j
theorem cOk_fcp {g h : Int → Int} {a b m : Int} (h1 : cOk g) (h2 : cOk h) : cOk (fcp g h a b m) := fun j => by
  unfold fcp; split
  · exact h1 _
  · exact h2 j
/-- a part of a CHANGE -/
def cP (y w : Int) : Int := if w = 3 then (if y % 2 = 1 then 1 else -1) else rP (y / 2) w
/-- ROWS of one list that another has not, or less often -/
def dif : List Int → List Int → List Int
  | [], _ => []
  | x :: xs, [] => x :: xs
  | x :: xs, y :: ys => if y < x then dif (x :: xs) ys else if y = x then dif xs ys else x :: dif xs (y :: ys)
termination_by xs ys => xs.length + ys.length
theorem dif_nil_l (ys : List Int) : dif [] ys = [] := by rw [dif]
theorem dif_nil_r (xs : List Int) : dif xs [] = xs := by cases xs <;> rw [dif]
theorem dif_cons (x y : Int) (xs ys : List Int) : dif (x :: xs) (y :: ys) = if y < x then dif (x :: xs) ys else if y = x then dif xs ys else x :: dif xs (y :: ys) := by rw [dif]
theorem dif_emit {x : Int} {xs ys : List Int} (h : ∀ y, ys.head? = some y → x < y) : dif (x :: xs) ys = x :: dif xs ys := by
  cases ys with
  | nil => rw [dif_nil_r, dif_nil_r]
  | cons y ys =>
    have := h y rfl
    rw [dif_cons, if_neg (by omega), if_neg (by omega)]
theorem c_X0_partOf {l : Launch} {E : JE} {f : Hp} {r c : Nat} {n i u : Int} {g : Int → Int} (h : f r = oB 0 [.ref c, .int (iZ (n))]) (hc : f c = aJ (E.2.1 1) 4000 (g)) (hn : 0 ≤ n ∧ n ≤ 4000) (hi : -2147483648 ≤ i ∧ i < 2147483648) (hu : -2147483648 ≤ u ∧ u < 2147483648) (hok : cOk g) : KX0_partOf l E [.ref r, .int (iZ (i)), .int (iZ (u))] f (fun v f' => v = some (.int (iZ (if 0 ≤ i ∧ i < n then cP (g i) u else -2000000000))) ∧ f = f') := by
  refine ct_of (own := RX0) (lv := [(0, .ref r), (1, .int (iZ (i))), (2, .int (iZ (u)))]) (by decide +kernel) rfl (Nat.le_of_ble_eq_true rfl) rfl ?_
  intro G hG hZ
  refine j_iload_n hG dX0_partOf_0 rfl rfl ?_
  refine j_iconst hG dX0_partOf_1 ?_
  refine j_aload_n hG dX0_partOf_2 rfl rfl ?_
  refine j_get hG fX0_15 dX0_partOf_3 h rfl ?_
  refine j_iconst hG dX0_partOf_6 ?_
  refine j_isub hG dX0_partOf_7 ?_
  refine j_callSN (rest := []) hG vX0_19 dX0_partOf_8 (c_X11_isWithin (a := i) (lo := 0) (hi := n - 1) (by omega) (by omega) (by omega)) rfl rfl (by decide) (by decide) (Nat.le_of_ble_eq_true rfl) rfl rfl (Nat.zero_le _) (Nat.zero_le _) ?_
  rintro _ _ ⟨⟨b1, rfl, hb2⟩, rfl⟩
  refine j_st (st' := [.int (iZ (b1))]) rfl ?_
  refine j_if_ne (tgt := 17) hG dX0_partOf_11 (by decide) (by omega) (fun c3 => ?_) (fun c3 => ?_)
  · -- taken at 11
    refine j_iload_n hG dX0_partOf_17 rfl rfl ?_
    refine j_iconst hG dX0_partOf_18 ?_
    refine j_icmp_ne (tgt := 41) hG dX0_partOf_19 (by decide) (by omega) (by omega) (fun c4 => ?_) (fun c4 => ?_)
    · -- taken at 19
      refine j_aload_n hG dX0_partOf_41 rfl rfl ?_
      refine j_get hG fX0_9 dX0_partOf_42 h rfl ?_
      refine j_iload_n hG dX0_partOf_45 rfl rfl ?_
      refine j_lald hG dX0_partOf_46 hc (by omega) (by decide) ?_
      have hg9 := hok i
      refine j_iconst hG dX0_partOf_47 ?_
      refine j_lushr hG dX0_partOf_48 ?_
      refine j_eql (show (((lZ (g i)).toUInt64 >>> ((iZ (1)).toInt64.toUInt64 &&& Int64.toUInt64 63)).toInt64 : Int64) = lZ ((g i) / 2) from (lZ_ushr 1 (by omega) (by decide))) ?_
      refine j_iload_n hG dX0_partOf_49 rfl rfl ?_
      refine j_callS (rest := []) hG vX0_24 dX0_partOf_50 (c_X7_partOf (x := (g i) / 2) (u := u) (by unfold rOk; omega) (by omega)) rfl rfl (by decide) (by decide) (Nat.le_of_ble_eq_true rfl) rfl rfl (Nat.zero_le _) (Nat.zero_le _) ?_
      rintro _ _ ⟨rfl, rfl⟩
      refine j_st (st' := [.int (iZ (rP ((g i) / 2) u))]) rfl ?_
      have e8 : (if 0 ≤ i ∧ i < n then cP (g i) u else -2000000000) = rP ((g i) / 2) u := by
        first | (rw [if_neg (by omega)]) | (rw [if_pos (by omega)]; unfold cP; first | (rw [if_pos (by omega), if_pos (by omega)]) | (rw [if_pos (by omega), if_neg (by omega)]) | (rw [if_neg (by omega)]))
      exact j_iret hG hZ dX0_partOf_53 (Nat.zero_le _) (Nat.zero_le _) (⟨by rw [e8], rfl⟩)
    · -- on at 19
      refine j_aload_n hG dX0_partOf_22 rfl rfl ?_
      refine j_get hG fX0_9 dX0_partOf_23 h rfl ?_
      refine j_iload_n hG dX0_partOf_26 rfl rfl ?_
      refine j_lald hG dX0_partOf_27 hc (by omega) (by decide) ?_
      have hg9 := hok i
      refine j_lconst (y := 1) hG dX0_partOf_28 (by decide) ?_
      refine j_land hG dX0_partOf_29 ?_
      refine j_eql (show ((lZ (g i)) &&& (lZ (1)) : Int64) = lZ (g i % 2) from (lZ_mask 1 rfl (by decide) (by omega))) ?_
      refine j_lconst (y := 1) hG dX0_partOf_30 (by decide) ?_
      refine j_lcmp hG dX0_partOf_31 (by omega) (by omega) ?_
      refine j_if_ne (tgt := 39) hG dX0_partOf_32 (by decide) (by have h9 := cI_rng (g i % 2) 1; omega) (fun c5 => ?_) (fun c5 => ?_)
      · -- taken at 32
        have c5 : ¬ _ := fun h9 => c5 (cI_eq.mpr h9)
        refine j_iconst hG dX0_partOf_39 ?_
        have e8 : (if 0 ≤ i ∧ i < n then cP (g i) u else -2000000000) = -1 := by
          first | (rw [if_neg (by omega)]) | (rw [if_pos (by omega)]; unfold cP; first | (rw [if_pos (by omega), if_pos (by omega)]) | (rw [if_pos (by omega), if_neg (by omega)]) | (rw [if_neg (by omega)]))
        exact j_iret hG hZ dX0_partOf_40 (Nat.zero_le _) (Nat.zero_le _) (⟨by rw [e8], rfl⟩)
      · -- on at 32
        have c5 := cI_eq.mp c5
        refine j_iconst hG dX0_partOf_35 ?_
        refine j_goto (tgt := 40) hG dX0_partOf_36 (by decide) ?_
        have e8 : (if 0 ≤ i ∧ i < n then cP (g i) u else -2000000000) = 1 := by
          first | (rw [if_neg (by omega)]) | (rw [if_pos (by omega)]; unfold cP; first | (rw [if_pos (by omega), if_pos (by omega)]) | (rw [if_pos (by omega), if_neg (by omega)]) | (rw [if_neg (by omega)]))
        exact j_iret hG hZ dX0_partOf_40 (Nat.zero_le _) (Nat.zero_le _) (⟨by rw [e8], rfl⟩)
  · -- on at 11
    refine j_ldc (z := -2000000000) hG dX0_partOf_14 kX0_23 (by decide) ?_
    have e8 : (if 0 ≤ i ∧ i < n then cP (g i) u else -2000000000) = -2000000000 := by
      first | (rw [if_neg (by omega)]) | (rw [if_pos (by omega)]; unfold cP; first | (rw [if_pos (by omega), if_pos (by omega)]) | (rw [if_pos (by omega), if_neg (by omega)]) | (rw [if_neg (by omega)]))
    exact j_iret hG hZ dX0_partOf_16 (Nat.zero_le _) (Nat.zero_le _) (⟨by rw [e8], rfl⟩)
theorem c_X0_addAll {l : Launch} {E : JE} {f : Hp} {r c o e : Nat} {n m : Int} {g g2 : Int → Int} (h : f r = oB 0 [.ref c, .int (iZ (n))]) (hc : f c = aJ (E.2.1 1) 4000 (g)) (ho : f o = oB 0 [.ref e, .int (iZ (m))]) (he : f e = aJ (E.2.1 1) 4000 (g2)) (hn : 0 ≤ n ∧ n ≤ 4000) (hm : 0 ≤ m ∧ m ≤ 4000) (hne : o ≠ r) (hne2 : e ≠ c) : KX0_addAll l E [.ref r, .ref o] f (fun v f' => (4000 < n + m ∧ v = some (.int (iZ 0)) ∧ f = f') ∨ (n + m ≤ 4000 ∧ v = some (.int (iZ 1)) ∧ f' r = oB 0 [.ref c, .int (iZ (n + m))] ∧ f' c = aJ (E.2.1 1) 4000 (fcp g2 g 0 n m) ∧ ∀ q, q ≠ r → q ≠ c → f' q = f q)) := by
  refine ct_of (own := RX0) (lv := [(0, .ref r), (1, .ref o)]) (by decide +kernel) rfl (Nat.le_of_ble_eq_true rfl) rfl ?_
  intro G hG hZ
  refine j_aload_n hG dX0_addAll_0 rfl rfl ?_
  refine j_get hG fX0_15 dX0_addAll_1 h rfl ?_
  refine j_aload_n hG dX0_addAll_4 rfl rfl ?_
  refine j_get hG fX0_15 dX0_addAll_5 ho rfl ?_
  refine j_iadd hG dX0_addAll_8 ?_
  refine j_sipush hG dX0_addAll_9 (by decide) ?_
  refine j_icmp_le (tgt := 17) hG dX0_addAll_12 (by decide) (by omega) (by omega) (fun c1 => ?_) (fun c1 => ?_)
  · -- taken at 12
    refine j_aload_n hG dX0_addAll_17 rfl rfl ?_
    refine j_get hG fX0_9 dX0_addAll_18 ho rfl ?_
    refine j_iconst hG dX0_addAll_21 ?_
    refine j_aload_n hG dX0_addAll_22 rfl rfl ?_
    refine j_get hG fX0_9 dX0_addAll_23 h rfl ?_
    refine j_aload_n hG dX0_addAll_26 rfl rfl ?_
    refine j_get hG fX0_15 dX0_addAll_27 h rfl ?_
    refine j_aload_n hG dX0_addAll_30 rfl rfl ?_
    refine j_get hG fX0_15 dX0_addAll_31 ho rfl ?_
    refine j_copyl hG vX0_30 dX0_addAll_34 he hc (by omega) (by omega) (by omega) (by decide) (by decide) (by decide) (by decide) (fun f2 h3 fr4 => ?_)
    have h5 := (fr4 r (h_ne h hc oa_J)).trans h
    have h6 := (fr4 o (h_ne ho hc oa_J)).trans ho
    have h7 := (fr4 e hne2).trans he
    refine j_aload_n hG dX0_addAll_37 rfl rfl ?_
    refine j_dup hG dX0_addAll_38 rfl ?_
    refine j_get hG fX0_15 dX0_addAll_39 h5 rfl ?_
    refine j_aload_n hG dX0_addAll_42 rfl rfl ?_
    refine j_get hG fX0_15 dX0_addAll_43 h6 rfl ?_
    refine j_iadd hG dX0_addAll_46 ?_
    refine j_put hG pX0_15 dX0_addAll_47 h5 rfl rfl (Nat.le_of_ble_eq_true rfl) (fun f8 h9 fr10 => ?_)
    have h9 : f8 r = oB 0 [.ref c, .int (iZ (n + m))] := h9
    have h11 := (fr10 o hne).trans h6
    have h12 := (fr10 e (h_ne h7 h5 (Ne.symm oa_J))).trans h7
    have h13 := (fr10 c (h_ne h3 h5 (Ne.symm oa_J))).trans h3
    refine j_iconst hG dX0_addAll_50 ?_
    exact j_zret hG hZ dX0_addAll_51 (Nat.zero_le _) (Nat.zero_le _) (nar_zr (by omega)) (Or.inr ⟨by omega, rfl, h9, h13, fun q h1 h2 => (Eq.trans (fr10 q h1) (fr4 q h2))⟩)
  · -- on at 12
    refine j_iconst hG dX0_addAll_15 ?_
    exact j_zret hG hZ dX0_addAll_16 (Nat.zero_le _) (Nat.zero_le _) (nar_zr (by omega)) (Or.inl ⟨by omega, rfl, rfl⟩)
theorem l_X0_addMissing_23 {G : JG} {l : Launch} {E : JE} {P : Option Value → Hp → Prop} (hG : jX G l E cX0_addMissing RX0 8 rmX0_addMissing) (hZ : jZ G (some .boolean) P) {r c a ca b cb : Nat} {na ba nb bb nw : Int} {ga gb : Int → Int} (hna : 0 ≤ na ∧ na ≤ 400) (hnb : 0 ≤ nb ∧ nb ≤ 400) (hoa : gOk ga) (hob : gOk gb) (hnw : nw = 0 ∨ nw = 1) {n i : Int} {g : Int → Int} {D : List Int} {f0 : Hp} (hi : 0 ≤ i ∧ i < na) (kk : ∀ (mt : Int) (f1 : Hp), f1 r = oB 0 [.ref c, .int (iZ (n))] → f1 c = aJ (E.2.1 1) 4000 (g) → f1 a = oB 7 [.ref ca, .int (iZ (na)), .int (iZ (ba))] → f1 ca = aJ (E.2.1 1) 400 (ga) → f1 b = oB 7 [.ref cb, .int (iZ (nb)), .int (iZ (bb))] → f1 cb = aJ (E.2.1 1) 400 (gb) → f1 = f0 → 0 ≤ mt ∧ mt ≤ nb → dif (seg ga i na) (seg gb mt nb) = D → (mt < nb → ga i ≤ gb mt) → J G 0 0 f1 50 [(0, .ref r), (1, .ref a), (2, .ref b), (3, .int (iZ (nw))), (4, .int (iZ (mt))), (5, .int (iZ (i))), (6, .long (lZ (ga i)))] []) :
    ∀ (d : Nat) (mt : Int) (f1 : Hp), (h : f1 r = oB 0 [.ref c, .int (iZ (n))]) → (hc : f1 c = aJ (E.2.1 1) 4000 (g)) → (ha : f1 a = oB 7 [.ref ca, .int (iZ (na)), .int (iZ (ba))]) → (hca : f1 ca = aJ (E.2.1 1) 400 (ga)) → (hb : f1 b = oB 7 [.ref cb, .int (iZ (nb)), .int (iZ (bb))]) → (hcb : f1 cb = aJ (E.2.1 1) 400 (gb)) → (hf : f1 = f0) → (hmt : 0 ≤ mt ∧ mt ≤ nb) → (hD : dif (seg ga i na) (seg gb mt nb) = D) → ((nb - mt).toNat) < d → J G 0 0 f1 23 [(0, .ref r), (1, .ref a), (2, .ref b), (3, .int (iZ (nw))), (4, .int (iZ (mt))), (5, .int (iZ (i))), (6, .long (lZ (ga i)))] [] := by
  intro d
  induction d with
  | zero => intro mt f1 h hc ha hca hb hcb hf hmt hD hd9; exfalso; omega
  | succ d ih =>
    intro mt f1 h hc ha hca hb hcb hf hmt hD hd9
    refine j_iload hG dX0_addMissing_23 rfl ?_
    refine j_aload_n hG dX0_addMissing_25 rfl rfl ?_
    refine j_callV (rest := [.int (iZ (mt))]) hG vX0_40 dX0_addMissing_26 (c_X8_size hb) hb rfl rfl (by decide) (by decide) (Nat.le_of_ble_eq_true rfl) rfl rfl (Nat.zero_le _) (Nat.zero_le _) ?_
    rintro _ _ ⟨rfl, rfl⟩
    refine j_st (st' := [.int (iZ (nb)), .int (iZ (mt))]) rfl ?_
    refine j_icmp_ge (tgt := 50) hG dX0_addMissing_29 (by decide) (by omega) (by omega) (fun c1 => ?_) (fun c1 => ?_)
    · -- taken at 29
      exact kk mt f1 h hc ha hca hb hcb hf hmt hD (by omega)
    · -- on at 29
      refine j_aload_n hG dX0_addMissing_32 rfl rfl ?_
      refine j_iload hG dX0_addMissing_33 rfl ?_
      refine j_callV (rest := []) hG vX0_45 dX0_addMissing_35 (c_X8_at (i := mt) hb hcb (by omega) (by omega)) hb rfl rfl (by decide) (by decide) (Nat.le_of_ble_eq_true rfl) rfl rfl (Nat.zero_le _) (Nat.zero_le _) ?_
      rintro _ _ ⟨rfl, rfl⟩
      refine j_st (st' := [.long (lZ (gb mt))]) rfl ?_
      refine j_lload hG dX0_addMissing_38 rfl ?_
      refine j_lcmp hG dX0_addMissing_40 (rOk_l (hob _)) (rOk_l (hoa _)) ?_
      refine j_if_ge (tgt := 50) hG dX0_addMissing_41 (by decide) (by have h9 := cI_rng (gb mt) (ga i); omega) (fun c2 => ?_) (fun c2 => ?_)
      · -- taken at 41
        have c2 := cge c2
        exact kk mt f1 h hc ha hca hb hcb hf hmt hD (by omega)
      · -- on at 41
        have c2 := cI_lt.mp c2
        refine j_iinc (a := mt) (lv' := [(0, .ref r), (1, .ref a), (2, .ref b), (3, .int (iZ (nw))), (4, .int (iZ (mt + 1))), (5, .int (iZ (i))), (6, .long (lZ (ga i)))]) hG dX0_addMissing_44 rfl (by decide) rfl ?_
        refine j_goto (tgt := 23) hG dX0_addMissing_47 (by decide) ?_
        refine ih (mt + 1) f1 h hc ha hca hb hcb hf (by omega) ?_ (by omega)
        rw [seg_cons (g := gb) (show mt < nb by omega), seg_cons (g := ga) (show i < na by omega), dif_cons, if_pos (by omega), ← seg_cons (by omega)] at hD
        exact hD
theorem l_X0_addMissing_6 {G : JG} {l : Launch} {E : JE} {P : Option Value → Hp → Prop} (hG : jX G l E cX0_addMissing RX0 8 rmX0_addMissing) (hZ : jZ G (some .boolean) P) {r c a ca b cb : Nat} {na ba nb bb nw : Int} {ga gb : Int → Int} (hna : 0 ≤ na ∧ na ≤ 400) (hnb : 0 ≤ nb ∧ nb ≤ 400) (hoa : gOk ga) (hob : gOk gb) (hnw : nw = 0 ∨ nw = 1) {n0 : Int} {g0 : Int → Int} {D : List Int} {f0 : Hp} (hP : ∀ (z n' : Int) (g' : Int → Int) (f' : Hp), f' r = oB 0 [.ref c, .int (iZ n')] → f' c = aJ (E.2.1 1) 4000 g' → cOk g' → (∀ j, j < n0 → g' j = g0 j) → (∀ q, q ≠ r → q ≠ c → f' q = f0 q) → n0 ≤ n' ∧ n' ≤ 4000 → ((z = 1 ∧ n' = n0 + D.length ∧ seg g' n0 n' = D.map (fun x => 2 * x + nw)) ∨ (z = 0 ∧ 4000 < n0 + D.length)) → P (some (.int (iZ z))) f') :
    ∀ (d : Nat) (i mt n : Int) (g : Int → Int) (done : List Int) (f1 : Hp), (h : f1 r = oB 0 [.ref c, .int (iZ (n))]) → (hc : f1 c = aJ (E.2.1 1) 4000 (g)) → (ha : f1 a = oB 7 [.ref ca, .int (iZ (na)), .int (iZ (ba))]) → (hca : f1 ca = aJ (E.2.1 1) 400 (ga)) → (hb : f1 b = oB 7 [.ref cb, .int (iZ (nb)), .int (iZ (bb))]) → (hcb : f1 cb = aJ (E.2.1 1) 400 (gb)) → (hi : 0 ≤ i ∧ i ≤ na) → (hmt : 0 ≤ mt ∧ mt ≤ nb) → (hok : cOk g) → (hD : done ++ dif (seg ga i na) (seg gb mt nb) = D) → (hn : n = n0 + done.length ∧ 0 ≤ n0 ∧ n ≤ 4000) → (hsg : seg g n0 n = done.map (fun x => 2 * x + nw)) → (hlo : ∀ j, j < n0 → g j = g0 j) → (hfr : ∀ q, q ≠ r → q ≠ c → f1 q = f0 q) → ((na - i).toNat) < d → J G 0 0 f1 6 [(0, .ref r), (1, .ref a), (2, .ref b), (3, .int (iZ (nw))), (4, .int (iZ (mt))), (5, .int (iZ (i)))] [] := by
  intro d
  induction d with
  | zero => intro i mt n g done f1 h hc ha hca hb hcb hi hmt hok hD hn hsg hlo hfr hd9; exfalso; omega
  | succ d ih =>
    intro i mt n g done f1 h hc ha hca hb hcb hi hmt hok hD hn hsg hlo hfr hd9
    refine j_iload hG dX0_addMissing_6 rfl ?_
    refine j_aload_n hG dX0_addMissing_8 rfl rfl ?_
    refine j_callV (rest := [.int (iZ (i))]) hG vX0_40 dX0_addMissing_9 (c_X8_size ha) ha rfl rfl (by decide) (by decide) (Nat.le_of_ble_eq_true rfl) rfl rfl (Nat.zero_le _) (Nat.zero_le _) ?_
    rintro _ _ ⟨rfl, rfl⟩
    refine j_st (st' := [.int (iZ (na)), .int (iZ (i))]) rfl ?_
    refine j_icmp_ge (tgt := 121) hG dX0_addMissing_12 (by decide) (by omega) (by omega) (fun c1 => ?_) (fun c1 => ?_)
    · -- taken at 12
      refine j_iconst hG dX0_addMissing_121 ?_
      have e9 : i = na := by omega
      subst e9
      rw [seg_nil (g := ga) (Int.le_refl _), dif_nil_l, List.append_nil] at hD
      subst hD
      exact j_zret hG hZ dX0_addMissing_122 (Nat.zero_le _) (Nat.zero_le _) (nar_zr (by omega)) (hP 1 n g f1 h hc hok hlo hfr (by omega) (Or.inl ⟨rfl, hn.1, hsg⟩))
    · -- on at 12
      refine j_aload_n hG dX0_addMissing_15 rfl rfl ?_
      refine j_iload hG dX0_addMissing_16 rfl ?_
      refine j_callV (rest := []) hG vX0_45 dX0_addMissing_18 (c_X8_at (i := i) ha hca (by omega) (by omega)) ha rfl rfl (by decide) (by decide) (Nat.le_of_ble_eq_true rfl) rfl rfl (Nat.zero_le _) (Nat.zero_le _) ?_
      rintro _ _ ⟨rfl, rfl⟩
      refine j_st (st' := [.long (lZ (ga i))]) rfl ?_
      refine j_lstore (lv' := [(0, .ref r), (1, .ref a), (2, .ref b), (3, .int (iZ (nw))), (4, .int (iZ (mt))), (5, .int (iZ (i))), (6, .long (lZ (ga i)))]) hG dX0_addMissing_21 (by decide) rfl ?_
      refine l_X0_addMissing_23 (f0 := f1) (D := dif (seg ga i na) (seg gb mt nb)) hG hZ hna hnb hoa hob hnw (by omega) ?_ ((nb - mt).toNat + 1) mt f1 h hc ha hca hb hcb rfl hmt rfl (by omega)
      intro m1 f2 k1 k2 k3 k4 k5 k6 b1 b2 b3 b4
      refine j_iload hG dX0_addMissing_50 rfl ?_
      refine j_aload_n hG dX0_addMissing_52 rfl rfl ?_
      refine j_callV (rest := [.int (iZ (m1))]) hG vX0_40 dX0_addMissing_53 (c_X8_size k5) k5 rfl rfl (by decide) (by decide) (Nat.le_of_ble_eq_true rfl) rfl rfl (Nat.zero_le _) (Nat.zero_le _) ?_
      rintro _ _ ⟨rfl, rfl⟩
      refine j_st (st' := [.int (iZ (nb)), .int (iZ (m1))]) rfl ?_
      refine j_icmp_ge (tgt := 77) hG dX0_addMissing_56 (by decide) (by omega) (by omega) (fun c1 => ?_) (fun c1 => ?_)
      · -- taken at 56
        refine j_aload_n hG dX0_addMissing_77 rfl rfl ?_
        refine j_get hG fX0_15 dX0_addMissing_78 k1 rfl ?_
        refine j_sipush hG dX0_addMissing_81 (by decide) ?_
        refine j_icmp_lt (tgt := 89) hG dX0_addMissing_84 (by decide) (by omega) (by omega) (fun c2 => ?_) (fun c2 => ?_)
        · -- taken at 84
          refine j_aload_n hG dX0_addMissing_89 rfl rfl ?_
          refine j_get hG fX0_9 dX0_addMissing_90 k1 rfl ?_
          refine j_aload_n hG dX0_addMissing_93 rfl rfl ?_
          refine j_get hG fX0_15 dX0_addMissing_94 k1 rfl ?_
          refine j_lload hG dX0_addMissing_97 rfl ?_
          refine j_iconst hG dX0_addMissing_99 ?_
          refine j_lshl hG dX0_addMissing_100 ?_
          refine j_eql (show ((lZ (ga i)) <<< ((iZ (1)).toInt64 &&& 63) : Int64) = lZ ((ga i) * 2) from (lZ_shl 1 (by have := hoa i; unfold rOk at this; omega) (by decide))) ?_
          refine j_iload_n hG dX0_addMissing_101 rfl rfl ?_
          refine j_i2l hG dX0_addMissing_102 (by omega) ?_
          refine j_lor hG dX0_addMissing_103 ?_
          refine j_eql (show ((lZ ((ga i) * 2)) ||| (lZ (nw)) : Int64) = lZ ((ga i) * 2 + nw) from (lZ_or 1 rfl (by omega) (by have := hoa i; unfold rOk at this; omega) (by have := hoa i; unfold rOk at this; omega))) ?_
          refine j_last hG dX0_addMissing_104 k2 (by omega) (by decide) (fun f3 h4 fr5 => ?_)
          have h6 := (fr5 r (h_ne k1 k2 oa_J)).trans k1
          have h7 := (fr5 a (h_ne k3 k2 oa_J)).trans k3
          have h8 := (fr5 ca (h_ne k4 k2 (aJ_n (by decide)))).trans k4
          have h9 := (fr5 b (h_ne k5 k2 oa_J)).trans k5
          have h10 := (fr5 cb (h_ne k6 k2 (aJ_n (by decide)))).trans k6
          refine j_aload_n hG dX0_addMissing_105 rfl rfl ?_
          refine j_dup hG dX0_addMissing_106 rfl ?_
          refine j_get hG fX0_15 dX0_addMissing_107 h6 rfl ?_
          refine j_iconst hG dX0_addMissing_110 ?_
          refine j_iadd hG dX0_addMissing_111 ?_
          refine j_put hG pX0_15 dX0_addMissing_112 h6 rfl rfl (Nat.le_of_ble_eq_true rfl) (fun f11 h12 fr13 => ?_)
          have h12 : f11 r = oB 0 [.ref c, .int (iZ (n + 1))] := h12
          have h14 := (fr13 a (h_ne h7 h6 (oo_n (by decide)))).trans h7
          have h15 := (fr13 ca (h_ne h8 h6 (Ne.symm oa_J))).trans h8
          have h16 := (fr13 b (h_ne h9 h6 (oo_n (by decide)))).trans h9
          have h17 := (fr13 cb (h_ne h10 h6 (Ne.symm oa_J))).trans h10
          have h18 := (fr13 c (h_ne h4 h6 (Ne.symm oa_J))).trans h4
          refine j_iinc (a := i) (lv' := [(0, .ref r), (1, .ref a), (2, .ref b), (3, .int (iZ (nw))), (4, .int (iZ (m1))), (5, .int (iZ (i + 1))), (6, .long (lZ (ga i)))]) hG dX0_addMissing_115 rfl (by decide) rfl ?_
          refine j_goto (tgt := 6) hG dX0_addMissing_118 (by decide) ?_
          refine j_lv (lv' := [(0, .ref r), (1, .ref a), (2, .ref b), (3, .int (iZ (nw))), (4, .int (iZ (m1))), (5, .int (iZ (i + 1)))]) (by simp) ?_
          have e2 : i < na := by omega
          have e4 : dif (seg ga i na) (seg gb m1 nb) = ga i :: dif (seg ga (i + 1) na) (seg gb m1 nb) := by
            rw [seg_cons (g := ga) e2]
            refine dif_emit (fun y hy => ?_)
            by_cases e3 : m1 < nb
            · rw [seg_cons e3] at hy
              have := Option.some.inj hy
              have := b4 e3
              omega
            · rw [seg_nil (by omega)] at hy; cases hy
          refine ih (i + 1) m1 (n + 1) _ (done ++ [ga i]) f11 h12 h18 h14 h15 h16 h17 (by omega) (by omega) (cOk_fup hok (by have := hoa i; unfold rOk at this; omega)) ?_ (by rw [List.length_append]; simp only [List.length_cons, List.length_nil]; omega) ?_ (fun j hj => by rw [fup_n _ _ (by omega)]; exact hlo j hj) (fun q q1 q2 => (Eq.trans (fr13 q q1) (fr5 q q2)).trans (by rw [b1]; exact hfr q q1 q2)) (by omega)
          · rw [List.append_assoc, List.singleton_append, ← e4, b3]; exact hD
          · rw [seg_snoc (by omega), seg_fup_out (Or.inr (Int.le_refl _)), fup_s, hsg, List.map_append]
            congr 2
            simp only [List.map_cons, List.map_nil]
            congr 1; omega
        · -- on at 84
          refine j_iconst hG dX0_addMissing_87 ?_
          have e1 := congrArg List.length b3
          have e2 : i < na := by omega
          have e4 : dif (seg ga i na) (seg gb m1 nb) = ga i :: dif (seg ga (i + 1) na) (seg gb m1 nb) := by
            rw [seg_cons (g := ga) e2]
            refine dif_emit (fun y hy => ?_)
            by_cases e3 : m1 < nb
            · rw [seg_cons e3] at hy
              have := Option.some.inj hy
              have := b4 e3
              omega
            · rw [seg_nil (by omega)] at hy; cases hy
          rw [e4] at b3
          have e5 : D.length = done.length + (1 + (dif (seg ga (i + 1) na) (seg gb m1 nb)).length) := by
            rw [← hD, ← b3, List.length_append, List.length_cons]; omega
          exact j_zret hG hZ dX0_addMissing_88 (Nat.zero_le _) (Nat.zero_le _) (nar_zr (by omega)) (hP 0 n g f2 k1 k2 hok hlo (fun q q1 q2 => by rw [b1]; exact hfr q q1 q2) (by omega) (Or.inr ⟨rfl, by omega⟩))
      · -- on at 56
        refine j_aload_n hG dX0_addMissing_59 rfl rfl ?_
        refine j_iload hG dX0_addMissing_60 rfl ?_
        refine j_callV (rest := []) hG vX0_45 dX0_addMissing_62 (c_X8_at (i := m1) k5 k6 (by omega) (by omega)) k5 rfl rfl (by decide) (by decide) (Nat.le_of_ble_eq_true rfl) rfl rfl (Nat.zero_le _) (Nat.zero_le _) ?_
        rintro _ _ ⟨rfl, rfl⟩
        refine j_st (st' := [.long (lZ (gb m1))]) rfl ?_
        refine j_lload hG dX0_addMissing_65 rfl ?_
        refine j_lcmp hG dX0_addMissing_67 (rOk_l (hob _)) (rOk_l (hoa _)) ?_
        refine j_if_ne (tgt := 77) hG dX0_addMissing_68 (by decide) (by have h9 := cI_rng (gb m1) (ga i); omega) (fun c19 => ?_) (fun c19 => ?_)
        · -- taken at 68
          have c19 : ¬ _ := fun h9 => c19 (cI_eq.mpr h9)
          refine j_aload_n hG dX0_addMissing_77 rfl rfl ?_
          refine j_get hG fX0_15 dX0_addMissing_78 k1 rfl ?_
          refine j_sipush hG dX0_addMissing_81 (by decide) ?_
          refine j_icmp_lt (tgt := 89) hG dX0_addMissing_84 (by decide) (by omega) (by omega) (fun c20 => ?_) (fun c20 => ?_)
          · -- taken at 84
            refine j_aload_n hG dX0_addMissing_89 rfl rfl ?_
            refine j_get hG fX0_9 dX0_addMissing_90 k1 rfl ?_
            refine j_aload_n hG dX0_addMissing_93 rfl rfl ?_
            refine j_get hG fX0_15 dX0_addMissing_94 k1 rfl ?_
            refine j_lload hG dX0_addMissing_97 rfl ?_
            refine j_iconst hG dX0_addMissing_99 ?_
            refine j_lshl hG dX0_addMissing_100 ?_
            refine j_eql (show ((lZ (ga i)) <<< ((iZ (1)).toInt64 &&& 63) : Int64) = lZ ((ga i) * 2) from (lZ_shl 1 (by have := hoa i; unfold rOk at this; omega) (by decide))) ?_
            refine j_iload_n hG dX0_addMissing_101 rfl rfl ?_
            refine j_i2l hG dX0_addMissing_102 (by omega) ?_
            refine j_lor hG dX0_addMissing_103 ?_
            refine j_eql (show ((lZ ((ga i) * 2)) ||| (lZ (nw)) : Int64) = lZ ((ga i) * 2 + nw) from (lZ_or 1 rfl (by omega) (by have := hoa i; unfold rOk at this; omega) (by have := hoa i; unfold rOk at this; omega))) ?_
            refine j_last hG dX0_addMissing_104 k2 (by omega) (by decide) (fun f21 h22 fr23 => ?_)
            have h24 := (fr23 r (h_ne k1 k2 oa_J)).trans k1
            have h25 := (fr23 a (h_ne k3 k2 oa_J)).trans k3
            have h26 := (fr23 ca (h_ne k4 k2 (aJ_n (by decide)))).trans k4
            have h27 := (fr23 b (h_ne k5 k2 oa_J)).trans k5
            have h28 := (fr23 cb (h_ne k6 k2 (aJ_n (by decide)))).trans k6
            refine j_aload_n hG dX0_addMissing_105 rfl rfl ?_
            refine j_dup hG dX0_addMissing_106 rfl ?_
            refine j_get hG fX0_15 dX0_addMissing_107 h24 rfl ?_
            refine j_iconst hG dX0_addMissing_110 ?_
            refine j_iadd hG dX0_addMissing_111 ?_
            refine j_put hG pX0_15 dX0_addMissing_112 h24 rfl rfl (Nat.le_of_ble_eq_true rfl) (fun f29 h30 fr31 => ?_)
            have h30 : f29 r = oB 0 [.ref c, .int (iZ (n + 1))] := h30
            have h32 := (fr31 a (h_ne h25 h24 (oo_n (by decide)))).trans h25
            have h33 := (fr31 ca (h_ne h26 h24 (Ne.symm oa_J))).trans h26
            have h34 := (fr31 b (h_ne h27 h24 (oo_n (by decide)))).trans h27
            have h35 := (fr31 cb (h_ne h28 h24 (Ne.symm oa_J))).trans h28
            have h36 := (fr31 c (h_ne h22 h24 (Ne.symm oa_J))).trans h22
            refine j_iinc (a := i) (lv' := [(0, .ref r), (1, .ref a), (2, .ref b), (3, .int (iZ (nw))), (4, .int (iZ (m1))), (5, .int (iZ (i + 1))), (6, .long (lZ (ga i)))]) hG dX0_addMissing_115 rfl (by decide) rfl ?_
            refine j_goto (tgt := 6) hG dX0_addMissing_118 (by decide) ?_
            refine j_lv (lv' := [(0, .ref r), (1, .ref a), (2, .ref b), (3, .int (iZ (nw))), (4, .int (iZ (m1))), (5, .int (iZ (i + 1)))]) (by simp) ?_
            have e2 : i < na := by omega
            have e4 : dif (seg ga i na) (seg gb m1 nb) = ga i :: dif (seg ga (i + 1) na) (seg gb m1 nb) := by
              rw [seg_cons (g := ga) e2]
              refine dif_emit (fun y hy => ?_)
              by_cases e3 : m1 < nb
              · rw [seg_cons e3] at hy
                have := Option.some.inj hy
                have := b4 e3
                omega
              · rw [seg_nil (by omega)] at hy; cases hy
            refine ih (i + 1) m1 (n + 1) _ (done ++ [ga i]) f29 h30 h36 h32 h33 h34 h35 (by omega) (by omega) (cOk_fup hok (by have := hoa i; unfold rOk at this; omega)) ?_ (by rw [List.length_append]; simp only [List.length_cons, List.length_nil]; omega) ?_ (fun j hj => by rw [fup_n _ _ (by omega)]; exact hlo j hj) (fun q q1 q2 => (Eq.trans (fr31 q q1) (fr23 q q2)).trans (by rw [b1]; exact hfr q q1 q2)) (by omega)
            · rw [List.append_assoc, List.singleton_append, ← e4, b3]; exact hD
            · rw [seg_snoc (by omega), seg_fup_out (Or.inr (Int.le_refl _)), fup_s, hsg, List.map_append]
              congr 2
              simp only [List.map_cons, List.map_nil]
              congr 1; omega
          · -- on at 84
            refine j_iconst hG dX0_addMissing_87 ?_
            have e1 := congrArg List.length b3
            have e2 : i < na := by omega
            have e4 : dif (seg ga i na) (seg gb m1 nb) = ga i :: dif (seg ga (i + 1) na) (seg gb m1 nb) := by
              rw [seg_cons (g := ga) e2]
              refine dif_emit (fun y hy => ?_)
              by_cases e3 : m1 < nb
              · rw [seg_cons e3] at hy
                have := Option.some.inj hy
                have := b4 e3
                omega
              · rw [seg_nil (by omega)] at hy; cases hy
            rw [e4] at b3
            have e5 : D.length = done.length + (1 + (dif (seg ga (i + 1) na) (seg gb m1 nb)).length) := by
              rw [← hD, ← b3, List.length_append, List.length_cons]; omega
            exact j_zret hG hZ dX0_addMissing_88 (Nat.zero_le _) (Nat.zero_le _) (nar_zr (by omega)) (hP 0 n g f2 k1 k2 hok hlo (fun q q1 q2 => by rw [b1]; exact hfr q q1 q2) (by omega) (Or.inr ⟨rfl, by omega⟩))
        · -- on at 68
          have c19 := cI_eq.mp c19
          refine j_iinc (a := m1) (lv' := [(0, .ref r), (1, .ref a), (2, .ref b), (3, .int (iZ (nw))), (4, .int (iZ (m1 + 1))), (5, .int (iZ (i))), (6, .long (lZ (ga i)))]) hG dX0_addMissing_71 rfl (by decide) rfl ?_
          refine j_goto (tgt := 115) hG dX0_addMissing_74 (by decide) ?_
          refine j_iinc (a := i) (lv' := [(0, .ref r), (1, .ref a), (2, .ref b), (3, .int (iZ (nw))), (4, .int (iZ (m1 + 1))), (5, .int (iZ (i + 1))), (6, .long (lZ (ga i)))]) hG dX0_addMissing_115 rfl (by decide) rfl ?_
          refine j_goto (tgt := 6) hG dX0_addMissing_118 (by decide) ?_
          refine j_lv (lv' := [(0, .ref r), (1, .ref a), (2, .ref b), (3, .int (iZ (nw))), (4, .int (iZ (m1 + 1))), (5, .int (iZ (i + 1)))]) (by simp) ?_
          refine ih (i + 1) (m1 + 1) n g done f2 k1 k2 k3 k4 k5 k6 (by omega) (by omega) hok ?_ hn hsg hlo (fun q q1 q2 => by rw [b1]; exact hfr q q1 q2) (by omega)
          have e3 := b4 (by omega)
          rw [seg_cons (g := gb) (show m1 < nb by omega), seg_cons (g := ga) (show i < na by omega), dif_cons, if_neg (by omega), if_pos (by omega)] at b3
          rw [b3, ← seg_cons (by omega)]; exact hD
theorem c_X0_addMissing {l : Launch} {E : JE} {f : Hp} {r c a ca b cb : Nat} {n na ba nb bb nw : Int} {g ga gb : Int → Int} (h : f r = oB 0 [.ref c, .int (iZ (n))]) (hc : f c = aJ (E.2.1 1) 4000 (g)) (ha : f a = oB 7 [.ref ca, .int (iZ (na)), .int (iZ (ba))]) (hca : f ca = aJ (E.2.1 1) 400 (ga)) (hb : f b = oB 7 [.ref cb, .int (iZ (nb)), .int (iZ (bb))]) (hcb : f cb = aJ (E.2.1 1) 400 (gb)) (hna : 0 ≤ na ∧ na ≤ 400) (hnb : 0 ≤ nb ∧ nb ≤ 400) (hn : 0 ≤ n ∧ n ≤ 4000) (hok : cOk g) (hoa : gOk ga) (hob : gOk gb) (hnw : nw = 0 ∨ nw = 1) : KX0_addMissing l E [.ref r, .ref a, .ref b, .int (iZ (nw))] f (fun v f' => ∃ (z n' : Int) (g' : Int → Int), v = some (.int (iZ z)) ∧ f' r = oB 0 [.ref c, .int (iZ n')] ∧ f' c = aJ (E.2.1 1) 4000 g' ∧ cOk g' ∧ (∀ j, j < n → g' j = g j) ∧ (∀ q, q ≠ r → q ≠ c → f' q = f q) ∧ (n ≤ n' ∧ n' ≤ 4000) ∧ ((z = 1 ∧ n' = n + (dif (seg ga 0 na) (seg gb 0 nb)).length ∧ seg g' n n' = (dif (seg ga 0 na) (seg gb 0 nb)).map (fun x => 2 * x + nw)) ∨ (z = 0 ∧ 4000 < n + (dif (seg ga 0 na) (seg gb 0 nb)).length))) := by
  refine ct_of (own := RX0) (lv := [(0, .ref r), (1, .ref a), (2, .ref b), (3, .int (iZ (nw)))]) (by decide +kernel) rfl (Nat.le_of_ble_eq_true rfl) rfl ?_
  intro G hG hZ
  refine j_iconst hG dX0_addMissing_0 ?_
  refine j_istore (lv' := [(0, .ref r), (1, .ref a), (2, .ref b), (3, .int (iZ (nw))), (4, .int (iZ (0)))]) hG dX0_addMissing_1 (by decide) rfl ?_
  refine j_iconst hG dX0_addMissing_3 ?_
  refine j_istore (lv' := [(0, .ref r), (1, .ref a), (2, .ref b), (3, .int (iZ (nw))), (4, .int (iZ (0))), (5, .int (iZ (0)))]) hG dX0_addMissing_4 (by decide) rfl ?_
  exact l_X0_addMissing_6 (n0 := n) (g0 := g) (f0 := f) (D := dif (seg ga 0 na) (seg gb 0 nb)) hG hZ hna hnb hoa hob hnw (fun z n' g' f' a1 a2 a3 a4 a5 a6 a7 => ⟨z, n', g', rfl, a1, a2, a3, a4, a5, a6, a7⟩) ((na - 0).toNat + 1) 0 0 n g [] f h hc ha hca hb hcb (by omega) (by omega) hok (by rw [List.nil_append]) (by simp only [List.length_nil]; omega) (by rw [seg_nil (Int.le_refl _)]; rfl) (fun _ _ => rfl) (fun _ _ _ => rfl) (by omega)
theorem c_X0_addDifference {l : Launch} {E : JE} {f : Hp} {r c a ca b cb : Nat} {n na ba nb bb : Int} {g ga gb : Int → Int} (h : f r = oB 0 [.ref c, .int (iZ (n))]) (hc : f c = aJ (E.2.1 1) 4000 (g)) (ha : f a = oB 7 [.ref ca, .int (iZ (na)), .int (iZ (ba))]) (hca : f ca = aJ (E.2.1 1) 400 (ga)) (hb : f b = oB 7 [.ref cb, .int (iZ (nb)), .int (iZ (bb))]) (hcb : f cb = aJ (E.2.1 1) 400 (gb)) (hna : 0 ≤ na ∧ na ≤ 400) (hnb : 0 ≤ nb ∧ nb ≤ 400) (hn : 0 ≤ n ∧ n ≤ 4000) (hok : cOk g) (hoa : gOk ga) (hob : gOk gb) : KX0_addDifference l E [.ref r, .ref a, .ref b] f (fun v f' => (v = some (.int (iZ 1)) ∧ ∃ g' : Int → Int, f' r = oB 0 [.ref c, .int (iZ (n + (dif (seg ga 0 na) (seg gb 0 nb)).length + (dif (seg gb 0 nb) (seg ga 0 na)).length))] ∧ f' c = aJ (E.2.1 1) 4000 g' ∧ cOk g' ∧ seg g' n (n + (dif (seg ga 0 na) (seg gb 0 nb)).length + (dif (seg gb 0 nb) (seg ga 0 na)).length) = (dif (seg ga 0 na) (seg gb 0 nb)).map (fun x => 2 * x + 0) ++ (dif (seg gb 0 nb) (seg ga 0 na)).map (fun x => 2 * x + 1) ∧ (∀ j, j < n → g' j = g j) ∧ n + (dif (seg ga 0 na) (seg gb 0 nb)).length + (dif (seg gb 0 nb) (seg ga 0 na)).length ≤ 4000 ∧ ∀ q, q ≠ r → q ≠ c → f' q = f q) ∨ (v = some (.int (iZ 0)) ∧ ∃ g' : Int → Int, f' r = oB 0 [.ref c, .int (iZ n)] ∧ f' c = aJ (E.2.1 1) 4000 g' ∧ cOk g' ∧ (∀ j, j < n → g' j = g j) ∧ 4000 < n + (dif (seg ga 0 na) (seg gb 0 nb)).length + (dif (seg gb 0 nb) (seg ga 0 na)).length ∧ ∀ q, q ≠ r → q ≠ c → f' q = f q)) := by
  refine ct_of (own := RX0) (lv := [(0, .ref r), (1, .ref a), (2, .ref b)]) (by decide +kernel) rfl (Nat.le_of_ble_eq_true rfl) rfl ?_
  intro G hG hZ
  refine j_aload_n hG dX0_addDifference_0 rfl rfl ?_
  refine j_get hG fX0_15 dX0_addDifference_1 h rfl ?_
  refine j_istore_n (lv' := [(0, .ref r), (1, .ref a), (2, .ref b), (3, .int (iZ (n)))]) hG dX0_addDifference_4 rfl (by decide) rfl ?_
  refine j_aload_n hG dX0_addDifference_5 rfl rfl ?_
  refine j_aload_n hG dX0_addDifference_6 rfl rfl ?_
  refine j_aload_n hG dX0_addDifference_7 rfl rfl ?_
  refine j_iconst hG dX0_addDifference_8 ?_
  refine j_callV (rest := []) hG vX0_36 dX0_addDifference_9 (c_X0_addMissing (nw := 0) h hc ha hca hb hcb hna hnb hn hok hoa hob (Or.inl rfl)) h rfl rfl (by decide) (by decide) (Nat.le_of_ble_eq_true rfl) rfl rfl (Nat.zero_le _) (Nat.zero_le _) ?_
  rintro _ f11 ⟨z1, n2, g3, rfl, k4, k5, k6, k7, fr8, k9, k10⟩
  refine j_st (st' := [.int (iZ (z1))]) rfl ?_
  have h12 := (fr8 a (h_ne ha h (oo_n (by decide))) (h_ne ha hc oa_J)).trans ha
  have h13 := (fr8 ca (h_ne hca h (Ne.symm oa_J)) (h_ne hca hc (aJ_n (by decide)))).trans hca
  have h14 := (fr8 b (h_ne hb h (oo_n (by decide))) (h_ne hb hc oa_J)).trans hb
  have h15 := (fr8 cb (h_ne hcb h (Ne.symm oa_J)) (h_ne hcb hc (aJ_n (by decide)))).trans hcb
  refine j_if_eq (tgt := 27) hG dX0_addDifference_12 (by decide) (by omega) (fun c16 => ?_) (fun c16 => ?_)
  · -- taken at 12
    refine j_aload_n hG dX0_addDifference_27 rfl rfl ?_
    refine j_iload_n hG dX0_addDifference_28 rfl rfl ?_
    refine j_put hG pX0_15 dX0_addDifference_29 k4 rfl rfl (Nat.le_of_ble_eq_true rfl) (fun f17 h18 fr19 => ?_)
    have h18 : f17 r = oB 0 [.ref c, .int (iZ (n))] := h18
    have h20 := (fr19 a (h_ne h12 k4 (oo_n (by decide)))).trans h12
    have h21 := (fr19 ca (h_ne h13 k4 (Ne.symm oa_J))).trans h13
    have h22 := (fr19 b (h_ne h14 k4 (oo_n (by decide)))).trans h14
    have h23 := (fr19 cb (h_ne h15 k4 (Ne.symm oa_J))).trans h15
    have h24 := (fr19 c (h_ne k5 k4 (Ne.symm oa_J))).trans k5
    refine j_iconst hG dX0_addDifference_32 ?_
    exact j_zret hG hZ dX0_addDifference_33 (Nat.zero_le _) (Nat.zero_le _) (nar_zr (by omega)) (Or.inr ⟨rfl, g3, h18, h24, k6, k7, by omega, fun q h1 h2 => (Eq.trans (fr19 q h1) (fr8 q h1 h2))⟩)
  · -- on at 12
    refine j_aload_n hG dX0_addDifference_15 rfl rfl ?_
    refine j_aload_n hG dX0_addDifference_16 rfl rfl ?_
    refine j_aload_n hG dX0_addDifference_17 rfl rfl ?_
    refine j_iconst hG dX0_addDifference_18 ?_
    refine j_callV (rest := []) hG vX0_36 dX0_addDifference_19 (c_X0_addMissing (nw := 1) k4 k5 h14 h15 h12 h13 hnb hna (by omega) k6 hob hoa (Or.inr rfl)) k4 rfl rfl (by decide) (by decide) (Nat.le_of_ble_eq_true rfl) rfl rfl (Nat.zero_le _) (Nat.zero_le _) ?_
    rintro _ f35 ⟨z25, n26, g27, rfl, k28, k29, k30, k31, fr32, k33, k34⟩
    refine j_st (st' := [.int (iZ (z25))]) rfl ?_
    have h36 := (fr32 a (h_ne h12 k4 (oo_n (by decide))) (h_ne h12 k5 oa_J)).trans h12
    have h37 := (fr32 ca (h_ne h13 k4 (Ne.symm oa_J)) (h_ne hca hc (aJ_n (by decide)))).trans h13
    have h38 := (fr32 b (h_ne h14 k4 (oo_n (by decide))) (h_ne h14 k5 oa_J)).trans h14
    have h39 := (fr32 cb (h_ne h15 k4 (Ne.symm oa_J)) (h_ne hcb hc (aJ_n (by decide)))).trans h15
    refine j_if_eq (tgt := 27) hG dX0_addDifference_22 (by decide) (by omega) (fun c40 => ?_) (fun c40 => ?_)
    · -- taken at 22
      refine j_aload_n hG dX0_addDifference_27 rfl rfl ?_
      refine j_iload_n hG dX0_addDifference_28 rfl rfl ?_
      refine j_put hG pX0_15 dX0_addDifference_29 k28 rfl rfl (Nat.le_of_ble_eq_true rfl) (fun f41 h42 fr43 => ?_)
      have h42 : f41 r = oB 0 [.ref c, .int (iZ (n))] := h42
      have h44 := (fr43 a (h_ne h36 k28 (oo_n (by decide)))).trans h36
      have h45 := (fr43 ca (h_ne h37 k28 (Ne.symm oa_J))).trans h37
      have h46 := (fr43 b (h_ne h38 k28 (oo_n (by decide)))).trans h38
      have h47 := (fr43 cb (h_ne h39 k28 (Ne.symm oa_J))).trans h39
      have h48 := (fr43 c (h_ne k29 k28 (Ne.symm oa_J))).trans k29
      refine j_iconst hG dX0_addDifference_32 ?_
      exact j_zret hG hZ dX0_addDifference_33 (Nat.zero_le _) (Nat.zero_le _) (nar_zr (by omega)) (Or.inr ⟨rfl, g27, h42, h48, k30, fun j hj => (k31 j (by omega)).trans (k7 j hj), by omega, fun q h1 h2 => (Eq.trans (fr43 q h1) (Eq.trans (fr32 q h1 h2) (fr8 q h1 h2)))⟩)
    · -- on at 22
      refine j_iconst hG dX0_addDifference_25 ?_
      rcases k10 with k10 | k10
      rotate_left
      · exfalso; omega
      rcases k34 with k34 | k34
      rotate_left
      · exfalso; omega
      exact j_zret hG hZ dX0_addDifference_26 (Nat.zero_le _) (Nat.zero_le _) (nar_zr (by omega)) (Or.inl ⟨rfl, g27, by have := k28; rw [show n26 = n + (dif (seg ga 0 na) (seg gb 0 nb)).length + (dif (seg gb 0 nb) (seg ga 0 na)).length by omega] at this; exact this, k29, k30, by rw [seg_app n2 (by omega) (by omega), seg_congr (fun j _ j2 => k31 j j2), k10.2.2, show n + (dif (seg ga 0 na) (seg gb 0 nb)).length + (dif (seg gb 0 nb) (seg ga 0 na)).length = n26 by omega, k34.2.2], fun j hj => (k31 j (by omega)).trans (k7 j hj), by omega, fun q h1 h2 => (Eq.trans (fr32 q h1 h2) (fr8 q h1 h2))⟩)
