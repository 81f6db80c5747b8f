/-! ===== Int32 by its bits: bt x i ===== -/
def bt (x : Int32) (i : Nat) : Bool := x.toBitVec.getLsbD i
theorem b_ext {x y : Int32} (h : ∀ i, i < 32 → bt x i = bt y i) : x = y := Int32.toBitVec_inj.mp (BitVec.eq_of_getLsbD_eq (fun i hi => h i hi))
theorem b_or (x y : Int32) (i : Nat) : bt (x ||| y) i = (bt x i || bt y i) := by unfold bt; rw [Int32.toBitVec_or, BitVec.getLsbD_or]
theorem b_and (x y : Int32) (i : Nat) : bt (x &&& y) i = (bt x i && bt y i) := by unfold bt; rw [Int32.toBitVec_and, BitVec.getLsbD_and]
theorem b_xor (x y : Int32) (i : Nat) : bt (x ^^^ y) i = (bt x i ^^ bt y i) := by unfold bt; rw [Int32.toBitVec_xor, BitVec.getLsbD_xor]
theorem b_big {x : Int32} {i : Nat} (h : 32 ≤ i) : bt x i = false := BitVec.getLsbD_of_ge _ _ h
theorem b_255 (i : Nat) : bt 255 i = decide (i < 8) := by
  rcases Nat.lt_or_ge i 32 with h | h
  · exact (by decide +kernel : ∀ i, i < 32 → bt 255 i = decide (i < 8)) i h
  · rw [b_big h, decide_eq_false (by omega)]
theorem b_65535 (i : Nat) : bt 65535 i = decide (i < 16) := by
  rcases Nat.lt_or_ge i 32 with h | h
  · exact (by decide +kernel : ∀ i, i < 32 → bt 65535 i = decide (i < 16)) i h
  · rw [b_big h, decide_eq_false (by omega)]
theorem b_m1 : ∀ i, i < 32 → bt (-1) i = true := by decide +kernel
theorem b_0 (i : Nat) : bt 0 i = false := BitVec.getLsbD_zero
theorem s_l : ∀ n, n < 32 → ((nI n &&& 31).toBitVec.smod 32).toNat = n := by decide +kernel
theorem s_u : ∀ n, n < 32 → (((nI n).toUInt32 &&& Int32.toUInt32 31).toBitVec % 32).toNat = n := by decide +kernel
theorem b_shl (n : Nat) (hn : n < 32) (x : Int32) {i : Nat} (hi : i < 32) : bt (x <<< (nI n &&& 31)) i = (decide (n ≤ i) && bt x (i - n)) := by
  unfold bt
  rw [Int32.toBitVec_shiftLeft]
  show (x.toBitVec <<< ((nI n &&& 31).toBitVec.smod 32).toNat).getLsbD i = _
  rw [s_l n hn, BitVec.getLsbD_shiftLeft]
  rcases Nat.lt_or_ge i n with h | h
  · simp [h, Nat.not_le.mpr h]
  · simp [hi, h, Nat.not_lt.mpr h]
theorem b_ushr (n : Nat) (hn : n < 32) (x : Int32) (i : Nat) : bt ((x.toUInt32 >>> ((nI n).toUInt32 &&& Int32.toUInt32 31)).toInt32) i = bt x (n + i) := by
  show (x.toUInt32 >>> ((nI n).toUInt32 &&& Int32.toUInt32 31)).toBitVec.getLsbD i = x.toUInt32.toBitVec.getLsbD (n + i)
  rw [UInt32.toBitVec_shiftRight]
  show (x.toUInt32.toBitVec >>> (((nI n).toUInt32 &&& Int32.toUInt32 31).toBitVec % 32).toNat).getLsbD i = _
  rw [s_u n hn, BitVec.getLsbD_ushiftRight]
theorem b_sshr (n : Nat) (hn : n < 32) (x : Int32) {i : Nat} (hi : i < 32) : bt (x >>> (nI n &&& 31)) i = if n + i < 32 then bt x (n + i) else bt x 31 := by
  unfold bt
  rw [Int32.toBitVec_shiftRight]
  show (x.toBitVec.sshiftRight ((nI n &&& 31).toBitVec.smod 32).toNat).getLsbD i = _
  rw [s_l n hn, BitVec.getLsbD_sshiftRight, BitVec.msb_eq_getLsbD_last]
  simp [hi]
theorem b_shl8 (x : Int32) {i : Nat} (hi : i < 32) : bt (x <<< ((8 : Int32) &&& 31)) i = (decide (8 ≤ i) && bt x (i - 8)) := b_shl 8 (by omega) x hi
theorem b_shl16 (x : Int32) {i : Nat} (hi : i < 32) : bt (x <<< ((16 : Int32) &&& 31)) i = (decide (16 ≤ i) && bt x (i - 16)) := b_shl 16 (by omega) x hi
theorem b_shl24 (x : Int32) {i : Nat} (hi : i < 32) : bt (x <<< ((24 : Int32) &&& 31)) i = (decide (24 ≤ i) && bt x (i - 24)) := b_shl 24 (by omega) x hi
theorem b_sshr8 (x : Int32) {i : Nat} (hi : i < 32) : bt (x >>> ((8 : Int32) &&& 31)) i = if 8 + i < 32 then bt x (8 + i) else bt x 31 := b_sshr 8 (by omega) x hi
theorem b_1 : ∀ i, i < 32 → bt 1 i = decide (i = 0) := by decide +kernel
theorem bt_set (x : Int32) {k j : Int} (hk : 0 ≤ k ∧ k < 32) (hj : 0 ≤ j ∧ j < 32) : bt (x ||| (iZ 1 <<< (iZ k &&& 31))) j.toNat = (decide (j = k) || bt x j.toNat) := by
  have e : iZ k = nI k.toNat := by rw [iZ_nI]; congr 1; omega
  rw [e, b_or, b_shl k.toNat (by omega) _ (by omega), show (iZ 1 : Int32) = 1 by decide, b_1 _ (by omega), Bool.or_comm]
  congr 1
  rw [← Bool.decide_and]
  apply decide_eq_decide.mpr
  omega
theorem bt_get (x : Int32) {k : Int} (hk : 0 ≤ k ∧ k < 32) : ((x.toUInt32 >>> ((iZ k).toUInt32 &&& Int32.toUInt32 31)).toInt32 &&& iZ 1) = iZ (if bt x k.toNat then 1 else 0) := by
  have e : iZ k = nI k.toNat := by rw [iZ_nI]; congr 1; omega
  rw [e]
  have h1 : ∀ i, i < 32 → bt ((x.toUInt32 >>> ((nI k.toNat).toUInt32 &&& Int32.toUInt32 31)).toInt32 &&& iZ 1) i = (decide (i = 0) && bt x k.toNat) := by
    intro i hi
    rw [b_and, b_ushr k.toNat (by omega), show (iZ 1 : Int32) = 1 by decide, b_1 i hi]
    by_cases h0 : i = 0
    · subst h0; simp
    · simp [h0]
  apply b_ext
  intro i hi
  rw [h1 i hi]
  split
  · rename_i hb
    rw [hb, show (iZ 1 : Int32) = 1 by decide, b_1 i hi]; simp
  · rename_i hb
    rw [show bt x k.toNat = false by simpa using hb, show (iZ 0 : Int32) = 0 by decide, b_0]; simp
/-- how many of these ROWS have a KEY of that kind -/
def cntK (p : Int → Bool) (l : List Int) : Int := ((l.filter (fun x => p (rK x))).length : Int)
theorem cntK_snoc (p : Int → Bool) (l : List Int) (x : Int) : cntK p (l ++ [x]) = cntK p l + (if p (rK x) then 1 else 0) := by
  unfold cntK
  rw [List.filter_append, List.length_append]
  by_cases h : p (rK x) = true
  · rw [if_pos h]; simp [List.filter_cons, h]
  · rw [if_neg h]; simp [List.filter_cons, h]
theorem cntK_rng (p : Int → Bool) {g : Int → Int} {n : Int} (hn : 0 ≤ n) : 0 ≤ cntK p (seg g 0 n) ∧ cntK p (seg g 0 n) ≤ n := by
  unfold cntK
  have h1 := List.length_filter_le (fun x => p (rK x)) (seg g 0 n)
  rw [seg_len] at h1
  omega
def hasK (l : List Int) (k : Int) : Bool := l.any (fun y => decide (rK y = k))
theorem hasK_snoc (l : List Int) (x k : Int) : hasK (l ++ [x]) k = (decide (k = rK x) || hasK l k) := by
  unfold hasK
  rw [List.any_append]
  simp only [List.any_cons, List.any_nil, Bool.or_false]
  rw [Bool.or_comm]
  congr 1
  apply decide_eq_decide.mpr
  omega
theorem l_X8_keys {G : JG} {l : Launch} {E : JE} {P : Option Value → Hp → Prop} (hG : jX G l E cX8_keys RX8 3 rmX8_keys) (hZ : jZ G (some .int) P) {r c : Nat} {n b : Int} {g : Int → Int} (hn : 0 ≤ n ∧ n ≤ 400) (hok : gOk g) {f0 : Hp} (hP : ∀ (f : Hp) (x : Int32), f r = oB 7 [.ref c, .int (iZ n), .int (iZ b)] → f = f0 → (∀ k, 0 ≤ k → k < 32 → bt x k.toNat = hasK (seg g 0 n) k) → P (some (.int x)) f) :
    ∀ (d : Nat) (i : Int) (x : Int32) (f : Hp), (h : f r = oB 7 [.ref c, .int (iZ (n)), .int (iZ (b))]) → (hc : f c = aJ (E.2.1 1) 400 (g)) → (hi : 0 ≤ i ∧ i ≤ n) → (hx : ∀ k, 0 ≤ k → k < 32 → bt x k.toNat = hasK (seg g 0 i) k) → (hf : f = f0) → ((n - i).toNat) < d → J G 0 0 f 4 [(0, .ref r), (1, .int (x)), (2, .int (iZ (i)))] [] := by
  intro d
  induction d with
  | zero => intro i x f h hc hi hx hf hd9; exfalso; omega
  | succ d ih =>
    intro i x f h hc hi hx hf hd9
    refine j_iload_n hG dX8_keys_4 rfl rfl ?_
    refine j_aload_n hG dX8_keys_5 rfl rfl ?_
    refine j_get hG fX8_15 dX8_keys_6 h rfl ?_
    refine j_icmp_ge (tgt := 32) hG dX8_keys_9 (by decide) (by omega) (by omega) (fun c1 => ?_) (fun c1 => ?_)
    · -- taken at 9
      refine j_iload_n hG dX8_keys_32 rfl rfl ?_
      have e9 : i = n := by omega
      subst e9
      exact j_iret hG hZ dX8_keys_33 (Nat.zero_le _) (Nat.zero_le _) (hP _ _ h hf hx)
    · -- on at 9
      refine j_iload_n hG dX8_keys_12 rfl rfl ?_
      refine j_iconst hG dX8_keys_13 ?_
      refine j_aload_n hG dX8_keys_14 rfl rfl ?_
      refine j_get hG fX8_9 dX8_keys_15 h rfl ?_
      refine j_iload_n hG dX8_keys_18 rfl rfl ?_
      refine j_lald hG dX8_keys_19 hc (by omega) (by decide) ?_
      have hk9 := rK_rng (hok i)
      refine j_callS (rest := [.int (iZ (1)), .int (x)]) hG vX8_57 dX8_keys_20 (c_X7_keyOf (x := g i) (hok _)) rfl rfl (by decide) (by decide) (Nat.le_of_ble_eq_true rfl) rfl rfl (Nat.zero_le _) (Nat.zero_le _) ?_
      rintro _ _ ⟨rfl, rfl⟩
      refine j_st (st' := [.int (iZ (rK (g i))), .int (iZ (1)), .int (x)]) rfl ?_
      refine j_ishl hG dX8_keys_23 ?_
      refine j_ior hG dX8_keys_24 ?_
      refine j_istore_n (lv' := [(0, .ref r), (1, .int ((x) ||| ((iZ (1)) <<< ((iZ (rK (g i))) &&& 31)))), (2, .int (iZ (i)))]) hG dX8_keys_25 rfl (by decide) rfl ?_
      refine j_iinc (a := i) (lv' := [(0, .ref r), (1, .int ((x) ||| ((iZ (1)) <<< ((iZ (rK (g i))) &&& 31)))), (2, .int (iZ (i + 1)))]) hG dX8_keys_26 rfl (by decide) rfl ?_
      refine j_goto (tgt := 4) hG dX8_keys_29 (by decide) ?_
      exact ih (i + 1) _ f h hc (by omega) (fun k k1 k2 => by rw [bt_set x hk9 ⟨k1, k2⟩, seg_snoc (by omega), hasK_snoc, hx k k1 k2]) hf (by omega)
theorem c_X8_keys {l : Launch} {E : JE} {f : Hp} {r c : Nat} {n b : Int} {g : Int → Int} (h : f r = oB 7 [.ref c, .int (iZ (n)), .int (iZ (b))]) (hc : f c = aJ (E.2.1 1) 400 (g)) (hn : 0 ≤ n ∧ n ≤ 400) (hok : gOk g) : KX8_keys l E [.ref r] f (fun v f' => (∃ x : Int32, v = some (.int x) ∧ ∀ k, 0 ≤ k → k < 32 → bt x k.toNat = hasK (seg g 0 n) k) ∧ f = f') := by
  refine ct_of (own := RX8) (lv := [(0, .ref r)]) (by decide +kernel) rfl (Nat.le_of_ble_eq_true rfl) rfl ?_
  intro G hG hZ
  refine j_iconst hG dX8_keys_0 ?_
  refine j_istore_n (lv' := [(0, .ref r), (1, .int (iZ (0)))]) hG dX8_keys_1 rfl (by decide) rfl ?_
  refine j_iconst hG dX8_keys_2 ?_
  refine j_istore_n (lv' := [(0, .ref r), (1, .int (iZ (0))), (2, .int (iZ (0)))]) hG dX8_keys_3 rfl (by decide) rfl ?_
  exact l_X8_keys (f0 := f) hG hZ hn hok (fun f' x _ e a => ⟨⟨x, rfl, a⟩, e.symm⟩) ((n - 0).toNat + 1) 0 (iZ 0) f h hc (by omega) (fun k _ _ => by rw [show (iZ 0 : Int32) = 0 by decide, b_0, seg_nil (Int.le_refl _)]; rfl) rfl (by omega)
theorem l_X8_countOfKeys {G : JG} {l : Launch} {E : JE} {P : Option Value → Hp → Prop} (hG : jX G l E cX8_countOfKeys RX8 4 rmX8_countOfKeys) (hZ : jZ G (some .int) P) {r c : Nat} {n b : Int} {g : Int → Int} {x : Int32} {f0 : Hp} (hn : 0 ≤ n ∧ n ≤ 400) (hok : gOk g) (hP : ∀ (f : Hp), f = f0 → P (some (.int (iZ (cntK (fun k => bt x k.toNat) (seg g 0 n))))) f) :
    ∀ (d : Nat) (i m : Int) (f : Hp), (h : f r = oB 7 [.ref c, .int (iZ (n)), .int (iZ (b))]) → (hc : f c = aJ (E.2.1 1) 400 (g)) → (hi : 0 ≤ i ∧ i ≤ n) → (hm : m = cntK (fun k => bt x k.toNat) (seg g 0 i)) → (hf : f = f0) → ((n - i).toNat) < d → J G 0 0 f 4 [(0, .ref r), (1, .int (x)), (2, .int (iZ (m))), (3, .int (iZ (i)))] [] := by
  intro d
  induction d with
  | zero => intro i m f h hc hi hm hf hd9; exfalso; omega
  | succ d ih =>
    intro i m f h hc hi hm hf hd9
    refine j_iload_n hG dX8_countOfKeys_4 rfl rfl ?_
    refine j_aload_n hG dX8_countOfKeys_5 rfl rfl ?_
    refine j_get hG fX8_15 dX8_countOfKeys_6 h rfl ?_
    refine j_icmp_ge (tgt := 34) hG dX8_countOfKeys_9 (by decide) (by omega) (by omega) (fun c1 => ?_) (fun c1 => ?_)
    · -- taken at 9
      refine j_iload_n hG dX8_countOfKeys_34 rfl rfl ?_
      have e9 : i = n := by omega
      subst e9
      subst hm
      exact j_iret hG hZ dX8_countOfKeys_35 (Nat.zero_le _) (Nat.zero_le _) (hP _ hf)
    · -- on at 9
      refine j_iload_n hG dX8_countOfKeys_12 rfl rfl ?_
      refine j_iload_n hG dX8_countOfKeys_13 rfl rfl ?_
      refine j_aload_n hG dX8_countOfKeys_14 rfl rfl ?_
      refine j_get hG fX8_9 dX8_countOfKeys_15 h rfl ?_
      refine j_iload_n hG dX8_countOfKeys_18 rfl rfl ?_
      refine j_lald hG dX8_countOfKeys_19 hc (by omega) (by decide) ?_
      refine j_callS (rest := [.int (x), .int (iZ (m))]) hG vX8_57 dX8_countOfKeys_20 (c_X7_keyOf (x := g i) (hok _)) rfl rfl (by decide) (by decide) (Nat.le_of_ble_eq_true rfl) rfl rfl (Nat.zero_le _) (Nat.zero_le _) ?_
      rintro _ _ ⟨rfl, rfl⟩
      refine j_st (st' := [.int (iZ (rK (g i))), .int (x), .int (iZ (m))]) rfl ?_
      refine j_iushr hG dX8_countOfKeys_23 ?_
      refine j_iconst hG dX8_countOfKeys_24 ?_
      refine j_iand hG dX8_countOfKeys_25 ?_
      refine j_eqi (show ((((x).toUInt32 >>> ((iZ (rK (g i))).toUInt32 &&& Int32.toUInt32 31)).toInt32) &&& (iZ (1)) : Int32) = iZ (if bt x (rK (g i)).toNat then 1 else 0) from (bt_get x (rK_rng (hok i)))) ?_
      refine j_iadd hG dX8_countOfKeys_26 ?_
      refine j_istore_n (lv' := [(0, .ref r), (1, .int (x)), (2, .int (iZ (m + (if bt x (rK (g i)).toNat then 1 else 0)))), (3, .int (iZ (i)))]) hG dX8_countOfKeys_27 rfl (by decide) rfl ?_
      refine j_iinc (a := i) (lv' := [(0, .ref r), (1, .int (x)), (2, .int (iZ (m + (if bt x (rK (g i)).toNat then 1 else 0)))), (3, .int (iZ (i + 1)))]) hG dX8_countOfKeys_28 rfl (by decide) rfl ?_
      refine j_goto (tgt := 4) hG dX8_countOfKeys_31 (by decide) ?_
      exact ih (i + 1) _ f h hc (by omega) (by rw [hm, seg_snoc (by omega), cntK_snoc]) hf (by omega)
theorem c_X8_countOfKeys {l : Launch} {E : JE} {f : Hp} {r c : Nat} {n b : Int} {g : Int → Int} {x : Int32} (h : f r = oB 7 [.ref c, .int (iZ (n)), .int (iZ (b))]) (hc : f c = aJ (E.2.1 1) 400 (g)) (hn : 0 ≤ n ∧ n ≤ 400) (hok : gOk g) : KX8_countOfKeys l E [.ref r, .int (x)] f (fun v f' => v = some (.int (iZ (cntK (fun k => bt x k.toNat) (seg g 0 n)))) ∧ f = f') := by
  refine ct_of (own := RX8) (lv := [(0, .ref r), (1, .int (x))]) (by decide +kernel) rfl (Nat.le_of_ble_eq_true rfl) rfl ?_
  intro G hG hZ
  refine j_iconst hG dX8_countOfKeys_0 ?_
  refine j_istore_n (lv' := [(0, .ref r), (1, .int (x)), (2, .int (iZ (0)))]) hG dX8_countOfKeys_1 rfl (by decide) rfl ?_
  refine j_iconst hG dX8_countOfKeys_2 ?_
  refine j_istore_n (lv' := [(0, .ref r), (1, .int (x)), (2, .int (iZ (0))), (3, .int (iZ (0)))]) hG dX8_countOfKeys_3 rfl (by decide) rfl ?_
  exact l_X8_countOfKeys (f0 := f) hG hZ hn hok (fun f' e => ⟨rfl, e.symm⟩) ((n - 0).toNat + 1) 0 0 f h hc (by omega) (by rw [seg_nil (Int.le_refl _)]; rfl) rfl (by omega)
/-! ===== HOSTS ===== -/
/-- the best HOST below h for a KEY, and its weight -/
def bst (th : Int → Int) (k : Int) : Nat → Int × Int
  | 0 => (-1, -1)
  | h + 1 => if th h ≠ 0 ∧ (bst th k h).2 < (k + 1) * (2 * (h : Int) + 3) % 97 then ((h : Int), (k + 1) * (2 * (h : Int) + 3) % 97) else bst th k h
def ownr (th : Int → Int) (k : Int) : Int := (bst th k 8).1
theorem bst_rng (th : Int → Int) (k : Int) : ∀ h : Nat, -1 ≤ (bst th k h).1 ∧ (bst th k h).1 < h ∧ -1 ≤ (bst th k h).2 ∧ (bst th k h).2 < 97
  | 0 => by unfold bst; simp
  | h + 1 => by
    have ih := bst_rng th k h
    unfold bst
    split
    · simp only []; omega
    · omega
theorem bst_congr {th th' : Int → Int} (h : ∀ j, 0 ≤ j → j < 8 → (th j ≠ 0 ↔ th' j ≠ 0)) (k : Int) : ∀ n : Nat, n ≤ 8 → bst th k n = bst th' k n
  | 0, _ => rfl
  | n + 1, hn => by
    have ih := bst_congr h k n (by omega)
    have h1 := h n (by omega) (by omega)
    unfold bst
    rw [ih]
    by_cases h2 : th n ≠ 0
    · simp only [h2, h1.mp h2, ne_eq, not_false_eq_true, true_and]
    · have h3 : ¬ th' n ≠ 0 := fun q => h2 (h1.mpr q)
      simp only [h2, h3, false_and, if_false]
theorem ownr_congr {th th' : Int → Int} (h : ∀ j, 0 ≤ j → j < 8 → (th j ≠ 0 ↔ th' j ≠ 0)) (k : Int) : ownr th k = ownr th' k := by
  unfold ownr; rw [bst_congr h k 8 (by omega)]
theorem l_X1_choose {G : JG} {l : Launch} {E : JE} {P : Option Value → Hp → Prop} (hG : jX G l E cX1_choose RX1 6 rmX1_choose) (hZ : jZ G (some .int) P) {r p u : Nat} {n k : Int} {gt : Int → Int} {f0 : Hp} (hk : 0 ≤ k ∧ k < 32) (hg : ∀ j, 0 ≤ j → j < 8 → gt j = 0 ∨ gt j = 1) (hP : ∀ f : Hp, f = f0 → P (some (.int (iZ (ownr gt k)))) f) :
    ∀ (d : Nat) (h0 : Nat) (a w : Int) (f : Hp), (h : f r = oB 1 [.ref p, .ref u, .int (iZ (n))]) → (hp : f p = aI (E.2.1 2) 8 (gt)) → (hi : h0 ≤ 8) → (hb : bst gt k h0 = (a, w)) → (hf : f = f0) → (8 - h0) < d → J G 0 0 f 7 [(0, .ref r), (1, .int (iZ (k))), (2, .int (iZ (a))), (3, .int (iZ (w))), (4, .int (iZ ((h0 : Int))))] [] := by
  intro d
  induction d with
  | zero => intro h0 a w f h hp hi hb hf hd9; exfalso; omega
  | succ d ih =>
    intro h0 a w f h hp hi hb hf hd9
    refine j_iload hG dX1_choose_7 rfl ?_
    refine j_bipush hG dX1_choose_9 (by decide) ?_
    have hr1 := bst_rng gt k h0
    rw [hb] at hr1
    simp only [] at hr1
    refine j_icmp_ge (tgt := 57) hG dX1_choose_11 (by decide) (by omega) (by omega) (fun c1 => ?_) (fun c1 => ?_)
    · -- taken at 11
      refine j_iload_n hG dX1_choose_57 rfl rfl ?_
      have e9 : h0 = 8 := by omega
      subst e9
      have e8 : ownr gt k = a := by unfold ownr; rw [hb]
      rw [← e8]
      exact j_iret hG hZ dX1_choose_58 (Nat.zero_le _) (Nat.zero_le _) (hP _ hf)
    · -- on at 11
      refine j_iload_n hG dX1_choose_14 rfl rfl ?_
      refine j_iconst hG dX1_choose_15 ?_
      refine j_iadd hG dX1_choose_16 ?_
      refine j_iconst hG dX1_choose_17 ?_
      refine j_iload hG dX1_choose_18 rfl ?_
      refine j_imul hG dX1_choose_20 ?_
      refine j_iconst hG dX1_choose_21 ?_
      refine j_iadd hG dX1_choose_22 ?_
      have hz1 : 0 ≤ (k + 1) * (2 * (h0 : Int) + 3) := Int.mul_nonneg (by omega) (by omega)
      have hz2 : (k + 1) * (2 * (h0 : Int) + 3) ≤ 32 * 20 := Int.mul_le_mul (by omega) (by omega) (by omega) (by omega)
      refine j_imul hG dX1_choose_23 ?_
      refine j_bipush hG dX1_choose_24 (by decide) ?_
      refine j_irem hG dX1_choose_26 (by omega) (by omega) ?_
      refine j_istore (lv' := [(0, .ref r), (1, .int (iZ (k))), (2, .int (iZ (a))), (3, .int (iZ (w))), (4, .int (iZ ((h0 : Int)))), (5, .int (iZ (((k + 1) * ((2 * (h0 : Int)) + 3)) % 97)))]) hG dX1_choose_27 (by decide) rfl ?_
      refine j_aload_n hG dX1_choose_29 rfl rfl ?_
      refine j_get hG fX1_9 dX1_choose_30 h rfl ?_
      refine j_iload hG dX1_choose_33 rfl ?_
      refine j_zald hG dX1_choose_35 hp (by omega) (by decide) ?_
      have hg0 := hg h0 (by omega) (by omega)
      have hr0 := bst_rng gt k h0
      rw [hb] at hr0
      simp only [] at hr0
      refine j_if_eq (tgt := 51) hG dX1_choose_36 (by decide) (by omega) (fun c2 => ?_) (fun c2 => ?_)
      · -- taken at 36
        refine j_iinc (a := (h0 : Int)) (lv' := [(0, .ref r), (1, .int (iZ (k))), (2, .int (iZ (a))), (3, .int (iZ (w))), (4, .int (iZ ((h0 : Int) + 1))), (5, .int (iZ (((k + 1) * ((2 * (h0 : Int)) + 3)) % 97)))]) hG dX1_choose_51 rfl (by decide) rfl ?_
        refine j_goto (tgt := 7) hG dX1_choose_54 (by decide) ?_
        have e7 : bst gt k (h0 + 1) = (a, w) := by
          unfold bst
          rw [hb]
          first | (rw [if_pos ⟨by omega, by omega⟩]) | (rw [if_neg (by simp only []; omega)])
        refine j_lv (lv' := [(0, .ref r), (1, .int (iZ (k))), (2, .int (iZ (a))), (3, .int (iZ (w))), (4, .int (iZ (((h0 + 1 : Nat) : Int))))]) (by simp) ?_
        exact ih (h0 + 1) _ _ f h hp (by omega) e7 hf (by omega)
      · -- on at 36
        refine j_iload hG dX1_choose_39 rfl ?_
        refine j_iload_n hG dX1_choose_41 rfl rfl ?_
        refine j_icmp_le (tgt := 51) hG dX1_choose_42 (by decide) (by omega) (by omega) (fun c3 => ?_) (fun c3 => ?_)
        · -- taken at 42
          refine j_iinc (a := (h0 : Int)) (lv' := [(0, .ref r), (1, .int (iZ (k))), (2, .int (iZ (a))), (3, .int (iZ (w))), (4, .int (iZ ((h0 : Int) + 1))), (5, .int (iZ (((k + 1) * ((2 * (h0 : Int)) + 3)) % 97)))]) hG dX1_choose_51 rfl (by decide) rfl ?_
          refine j_goto (tgt := 7) hG dX1_choose_54 (by decide) ?_
          have e7 : bst gt k (h0 + 1) = (a, w) := by
            unfold bst
            rw [hb]
            first | (rw [if_pos ⟨by omega, by omega⟩]) | (rw [if_neg (by simp only []; omega)])
          refine j_lv (lv' := [(0, .ref r), (1, .int (iZ (k))), (2, .int (iZ (a))), (3, .int (iZ (w))), (4, .int (iZ (((h0 + 1 : Nat) : Int))))]) (by simp) ?_
          exact ih (h0 + 1) _ _ f h hp (by omega) e7 hf (by omega)
        · -- on at 42
          refine j_iload hG dX1_choose_45 rfl ?_
          refine j_istore_n (lv' := [(0, .ref r), (1, .int (iZ (k))), (2, .int (iZ ((h0 : Int)))), (3, .int (iZ (w))), (4, .int (iZ ((h0 : Int)))), (5, .int (iZ (((k + 1) * ((2 * (h0 : Int)) + 3)) % 97)))]) hG dX1_choose_47 rfl (by decide) rfl ?_
          refine j_iload hG dX1_choose_48 rfl ?_
          refine j_istore_n (lv' := [(0, .ref r), (1, .int (iZ (k))), (2, .int (iZ ((h0 : Int)))), (3, .int (iZ (((k + 1) * ((2 * (h0 : Int)) + 3)) % 97))), (4, .int (iZ ((h0 : Int)))), (5, .int (iZ (((k + 1) * ((2 * (h0 : Int)) + 3)) % 97)))]) hG dX1_choose_50 rfl (by decide) rfl ?_
          refine j_iinc (a := (h0 : Int)) (lv' := [(0, .ref r), (1, .int (iZ (k))), (2, .int (iZ ((h0 : Int)))), (3, .int (iZ (((k + 1) * ((2 * (h0 : Int)) + 3)) % 97))), (4, .int (iZ ((h0 : Int) + 1))), (5, .int (iZ (((k + 1) * ((2 * (h0 : Int)) + 3)) % 97)))]) hG dX1_choose_51 rfl (by decide) rfl ?_
          refine j_goto (tgt := 7) hG dX1_choose_54 (by decide) ?_
          have e7 : bst gt k (h0 + 1) = ((h0 : Int), ((k + 1) * ((2 * (h0 : Int)) + 3)) % 97) := by
            unfold bst
            rw [hb]
            first | (rw [if_pos ⟨by omega, by omega⟩]) | (rw [if_neg (by simp only []; omega)])
          refine j_lv (lv' := [(0, .ref r), (1, .int (iZ (k))), (2, .int (iZ ((h0 : Int)))), (3, .int (iZ (((k + 1) * ((2 * (h0 : Int)) + 3)) % 97))), (4, .int (iZ (((h0 + 1 : Nat) : Int))))]) (by simp) ?_
          exact ih (h0 + 1) _ _ f h hp (by omega) e7 hf (by omega)
theorem c_X1_choose {l : Launch} {E : JE} {f : Hp} {r p u : Nat} {n k : Int} {gt : Int → Int} (h : f r = oB 1 [.ref p, .ref u, .int (iZ (n))]) (hp : f p = aI (E.2.1 2) 8 (gt)) (hk : 0 ≤ k ∧ k < 32) (hg : ∀ j, 0 ≤ j → j < 8 → gt j = 0 ∨ gt j = 1) : KX1_choose l E [.ref r, .int (iZ (k))] f (fun v f' => v = some (.int (iZ (ownr gt k))) ∧ f = f') := by
  refine ct_of (own := RX1) (lv := [(0, .ref r), (1, .int (iZ (k)))]) (by decide +kernel) rfl (Nat.le_of_ble_eq_true rfl) rfl ?_
  intro G hG hZ
  refine j_iconst hG dX1_choose_0 ?_
  refine j_istore_n (lv' := [(0, .ref r), (1, .int (iZ (k))), (2, .int (iZ (-1)))]) hG dX1_choose_1 rfl (by decide) rfl ?_
  refine j_iconst hG dX1_choose_2 ?_
  refine j_istore_n (lv' := [(0, .ref r), (1, .int (iZ (k))), (2, .int (iZ (-1))), (3, .int (iZ (-1)))]) hG dX1_choose_3 rfl (by decide) rfl ?_
  refine j_iconst hG dX1_choose_4 ?_
  refine j_istore (lv' := [(0, .ref r), (1, .int (iZ (k))), (2, .int (iZ (-1))), (3, .int (iZ (-1))), (4, .int (iZ (0)))]) hG dX1_choose_5 (by decide) rfl ?_
  exact l_X1_choose (f0 := f) hG hZ hk hg (fun f' e => ⟨rfl, e.symm⟩) 9 0 (-1) (-1) f h hp (by omega) rfl rfl (by omega)
theorem l_X1_keysOf {G : JG} {l : Launch} {E : JE} {P : Option Value → Hp → Prop} (hG : jX G l E cX1_keysOf RX1 4 rmX1_keysOf) (hZ : jZ G (some .int) P) {r p u : Nat} {n h0 : Int} {go : Int → Int} {f0 : Hp} (hh : -2147483648 ≤ h0 ∧ h0 < 2147483648) (hg : ∀ j, 0 ≤ j → j < 32 → 0 ≤ go j ∧ go j < 8) (hP : ∀ (f : Hp) (x : Int32), f = f0 → (∀ k, 0 ≤ k → k < 32 → bt x k.toNat = decide (go k = h0)) → P (some (.int x)) f) :
    ∀ (d : Nat) (i : Int) (x : Int32) (f : Hp), (h : f r = oB 1 [.ref p, .ref u, .int (iZ (n))]) → (hu : f u = aI (E.2.1 0) 32 (go)) → (hi : 0 ≤ i ∧ i ≤ 32) → (hx : ∀ k, 0 ≤ k → k < 32 → bt x k.toNat = (decide (k < i) && decide (go k = h0))) → (hf : f = f0) → ((32 - i).toNat) < d → J G 0 0 f 4 [(0, .ref r), (1, .int (iZ (h0))), (2, .int (x)), (3, .int (iZ (i)))] [] := by
  intro d
  induction d with
  | zero => intro i x f h hu hi hx hf hd9; exfalso; omega
  | succ d ih =>
    intro i x f h hu hi hx hf hd9
    refine j_iload_n hG dX1_keysOf_4 rfl rfl ?_
    refine j_bipush hG dX1_keysOf_5 (by decide) ?_
    refine j_icmp_ge (tgt := 32) hG dX1_keysOf_7 (by decide) (by omega) (by omega) (fun c1 => ?_) (fun c1 => ?_)
    · -- taken at 7
      refine j_iload_n hG dX1_keysOf_32 rfl rfl ?_
      have e9 : i = 32 := by omega
      subst e9
      exact j_iret hG hZ dX1_keysOf_33 (Nat.zero_le _) (Nat.zero_le _) (hP _ _ hf (fun k k1 k2 => by rw [hx k k1 k2, decide_eq_true k2, Bool.true_and]))
    · -- on at 7
      refine j_aload_n hG dX1_keysOf_10 rfl rfl ?_
      refine j_get hG fX1_19 dX1_keysOf_11 h rfl ?_
      refine j_iload_n hG dX1_keysOf_14 rfl rfl ?_
      have hg9 := hg i (by omega) (by omega)
      refine j_iald hG dX1_keysOf_15 hu (by omega) (by decide) ?_
      refine j_iload_n hG dX1_keysOf_16 rfl rfl ?_
      refine j_icmp_ne (tgt := 26) hG dX1_keysOf_17 (by decide) (by omega) (by omega) (fun c2 => ?_) (fun c2 => ?_)
      · -- taken at 17
        refine j_iinc (a := i) (lv' := [(0, .ref r), (1, .int (iZ (h0))), (2, .int (x)), (3, .int (iZ (i + 1)))]) hG dX1_keysOf_26 rfl (by decide) rfl ?_
        refine j_goto (tgt := 4) hG dX1_keysOf_29 (by decide) ?_
        exact ih (i + 1) _ f h hu (by omega) (fun k k1 k2 => by
          rw [hx k k1 k2]
          by_cases e1 : k = i
          · subst e1; simp; omega
          · have e2 : decide (k < i + 1) = decide (k < i) := decide_eq_decide.mpr (by omega)
            rw [e2]; try simp [e1]) hf (by omega)
      · -- on at 17
        refine j_iload_n hG dX1_keysOf_20 rfl rfl ?_
        refine j_iconst hG dX1_keysOf_21 ?_
        refine j_iload_n hG dX1_keysOf_22 rfl rfl ?_
        refine j_ishl hG dX1_keysOf_23 ?_
        refine j_ior hG dX1_keysOf_24 ?_
        refine j_istore_n (lv' := [(0, .ref r), (1, .int (iZ (h0))), (2, .int ((x) ||| ((iZ (1)) <<< ((iZ (i)) &&& 31)))), (3, .int (iZ (i)))]) hG dX1_keysOf_25 rfl (by decide) rfl ?_
        refine j_iinc (a := i) (lv' := [(0, .ref r), (1, .int (iZ (h0))), (2, .int ((x) ||| ((iZ (1)) <<< ((iZ (i)) &&& 31)))), (3, .int (iZ (i + 1)))]) hG dX1_keysOf_26 rfl (by decide) rfl ?_
        refine j_goto (tgt := 4) hG dX1_keysOf_29 (by decide) ?_
        exact ih (i + 1) _ f h hu (by omega) (fun k k1 k2 => by
          rw [bt_set x ⟨by omega, by omega⟩ ⟨k1, k2⟩, hx k k1 k2]
          by_cases e1 : k = i
          · subst e1; simp; omega
          · have e2 : decide (k < i + 1) = decide (k < i) := decide_eq_decide.mpr (by omega)
            rw [e2]; try simp [e1]) hf (by omega)
theorem c_X1_keysOf {l : Launch} {E : JE} {f : Hp} {r p u : Nat} {n h0 : Int} {go : Int → Int} (h : f r = oB 1 [.ref p, .ref u, .int (iZ (n))]) (hu : f u = aI (E.2.1 0) 32 (go)) (hh : -2147483648 ≤ h0 ∧ h0 < 2147483648) (hg : ∀ j, 0 ≤ j → j < 32 → 0 ≤ go j ∧ go j < 8) : KX1_keysOf l E [.ref r, .int (iZ (h0))] f (fun v f' => (∃ x : Int32, v = some (.int x) ∧ ∀ k, 0 ≤ k → k < 32 → bt x k.toNat = decide (go k = h0)) ∧ f = f') := by
  refine ct_of (own := RX1) (lv := [(0, .ref r), (1, .int (iZ (h0)))]) (by decide +kernel) rfl (Nat.le_of_ble_eq_true rfl) rfl ?_
  intro G hG hZ
  refine j_iconst hG dX1_keysOf_0 ?_
  refine j_istore_n (lv' := [(0, .ref r), (1, .int (iZ (h0))), (2, .int (iZ (0)))]) hG dX1_keysOf_1 rfl (by decide) rfl ?_
  refine j_iconst hG dX1_keysOf_2 ?_
  refine j_istore_n (lv' := [(0, .ref r), (1, .int (iZ (h0))), (2, .int (iZ (0))), (3, .int (iZ (0)))]) hG dX1_keysOf_3 rfl (by decide) rfl ?_
  exact l_X1_keysOf (f0 := f) hG hZ hh hg (fun f' x e a => ⟨⟨x, rfl, a⟩, e.symm⟩) 33 0 (iZ 0) f h hu (by omega) (fun k k1 _ => by rw [show (iZ 0 : Int32) = 0 by decide, b_0, decide_eq_false (by omega), Bool.false_and]) rfl (by omega)
