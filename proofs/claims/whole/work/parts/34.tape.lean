/-! ===== the TAPE ===== -/
def byt (z : Int) (s : Nat) : Int := z / 2 ^ s % 256
theorem byt_rng (z : Int) (s : Nat) : 0 ≤ byt z s ∧ byt z s < 256 := by unfold byt; omega
theorem ubyte (z : Int) (k : Nat) (hk : k < 32) (p : Int) (hp : 2 ^ k = p) (hd : p ∣ 16777216) (hz : -2147483648 ≤ z ∧ z < 2147483648) : ((iZ z).toUInt32 >>> ((iZ k).toUInt32 &&& Int32.toUInt32 31)).toInt32 &&& iZ 255 = iZ (byt z k) := by
  have e : iZ z = nI (z % 4294967296).toNat := by
    rw [iZ_nI]
    apply Int32.toInt_inj.1
    simp only [iZ, Int32.toInt_ofInt]
    rw [Int.toNat_of_nonneg (by omega)]
    exact (Int.emod_bmod z 4294967296).symm
  have e2 := pk_ushrN (n := (z % 4294967296).toNat) (by omega) (iZ k) k (by rw [← iZ_nI]; exact s_u k hk)
  rw [e, e2, iZ_nI, iZ_mask (p := 255) 8 (by decide) (by decide) ?_]
  · congr 1
    unfold byt
    have e3 : (((z % 4294967296).toNat / 2 ^ k : Nat) : Int) = z % 4294967296 / p := by
      rw [← hp]
      push_cast
      rw [Int.toNat_of_nonneg (by omega)]
    rw [e3, hp]
    obtain ⟨c, hc⟩ := hd
    have hp0 : 0 < p := by rw [← hp]; exact Int.pow_pos (by decide)
    have e4 : z % 4294967296 = z + p * (c * 256 * -(z / 4294967296)) := by
      have := Int.emod_add_mul_ediv z 4294967296
      have h5 : p * (c * 256 * -(z / 4294967296)) = p * c * 256 * -(z / 4294967296) := by rw [← Int.mul_assoc, ← Int.mul_assoc]
      rw [h5, ← hc]
      omega
    rw [e4, Int.add_mul_ediv_left _ _ (by omega)]
    have : c * 256 * -(z / 4294967296) = 256 * (c * -(z / 4294967296)) := by rw [Int.mul_comm c 256, Int.mul_assoc]
    rw [this]
    omega
  · constructor
    · exact Int.natCast_nonneg _
    · have : (z % 4294967296).toNat / 2 ^ k ≤ (z % 4294967296).toNat := Nat.div_le_self _ _
      omega
theorem i2c_b {b : Int} (h : 0 ≤ b ∧ b < 65536) : ((iZ b).toUInt32 % 65536).toInt32 = iZ b := by
  obtain ⟨m, rfl⟩ := Int.eq_ofNat_of_zero_le h.1
  rw [← iZ_nI, pk_char, pk_tn (by omega)]
  congr 1
  omega
def bOk (g : Int → Int) : Prop := ∀ j, 0 ≤ g j ∧ g j < 256
theorem bOk_fup {g : Int → Int} {i v : Int} (h : bOk g) (hv : 0 ≤ v ∧ v < 256) : bOk (fup g i v) := fun j => by
  unfold fup; split
  · exact hv
  · exact h j
/-- four bytes of a number behind the TAPE -/
def put4 (g : Int → Int) (n z : Int) : Int → Int := fup (fup (fup (fup g n (byt z 24)) (n + 1) (byt z 16)) (n + 1 + 1) (byt z 8)) (n + 1 + 1 + 1) (byt z 0)
theorem bOk_put4 {g : Int → Int} {n z : Int} (h : bOk g) : bOk (put4 g n z) := bOk_fup (bOk_fup (bOk_fup (bOk_fup h (byt_rng _ _)) (byt_rng _ _)) (byt_rng _ _)) (byt_rng _ _)
/-- the first place from p on, below len, where P doesn't hold; len if there is none -/
def advN (P : Int → Bool) (len : Int) : Nat → Int → Int
  | 0, p => p
  | n + 1, p => if p < len ∧ P p = true then advN P len n (p + 1) else p
def adv (P : Int → Bool) (len p : Int) : Int := advN P len (len - p).toNat p
theorem adv_on {P : Int → Bool} {len p : Int} (h : p < len) (hp : P p = true) : adv P len p = adv P len (p + 1) := by
  unfold adv
  rw [show (len - p).toNat = (len - (p + 1)).toNat + 1 by omega]
  exact if_pos ⟨h, hp⟩
theorem adv_off {P : Int → Bool} {len p : Int} (h : len ≤ p ∨ P p = false) : adv P len p = p := by
  unfold adv
  cases e : (len - p).toNat with
  | zero => rfl
  | succ n => exact if_neg (fun q => by rcases h with h | h; (have := q.1; omega); (rw [h] at q; exact absurd q.2 (by decide)))
theorem advN_rng {P : Int → Bool} {len : Int} : ∀ (n : Nat) (p : Int), p ≤ advN P len n p ∧ (p ≤ len → advN P len n p ≤ len)
  | 0, p => ⟨Int.le_refl _, fun h => h⟩
  | n + 1, p => by
    have ih := advN_rng (P := P) (len := len) n (p + 1)
    unfold advN
    split
    · rename_i h; exact ⟨by omega, fun _ => ih.2 (by omega)⟩
    · exact ⟨Int.le_refl _, fun h => h⟩
theorem adv_rng {P : Int → Bool} {len p : Int} : p ≤ adv P len p ∧ (p ≤ len → adv P len p ≤ len) := advN_rng _ _
def isB (g : Int → Int) (p : Int) : Bool := decide (g p = 32)
def isL (g : Int → Int) (p : Int) : Bool := decide (97 ≤ g p ∧ g p ≤ 122)
def isD (g : Int → Int) (p : Int) : Bool := decide (48 ≤ g p ∧ g p ≤ 57)
/-- where the TOKEN at or behind p begins -/
def tS (g : Int → Int) (len p : Int) : Int := adv (isB g) len p
/-- where the TOKEN that begins at s ends -/
def tE (g : Int → Int) (len s : Int) : Int := if s < len ∧ isL g s = true then adv (isL g) len (min (s + 1) len) else if s < len ∧ isD g s = true then adv (isD g) len (min (s + 1) len) else min (s + 1) len
/-- the next TOKEN -/
def nx (g : Int → Int) (len s : Int) : Int := tS g len (tE g len s)
theorem tS_rng {g : Int → Int} {len p : Int} (h : 0 ≤ p ∧ p ≤ len) : p ≤ tS g len p ∧ tS g len p ≤ len := ⟨adv_rng.1, adv_rng.2 h.2⟩
theorem tE_rng {g : Int → Int} {len s : Int} (h : 0 ≤ s ∧ s ≤ len) : s ≤ tE g len s ∧ tE g len s ≤ len ∧ (s < len → s < tE g len s) := by
  have a1 := adv_rng (P := isL g) (len := len) (p := min (s + 1) len)
  have a2 := adv_rng (P := isD g) (len := len) (p := min (s + 1) len)
  unfold tE
  split
  · omega
  · split <;> omega
theorem c_X10_addNumber {l : Launch} {E : JE} {f : Hp} {tp by0 : Nat} {len st sp : Int} {g : Int → Int} {z : Int} (h : f tp = oB 9 [.ref by0, .int (iZ (len)), .int (iZ (st)), .int (iZ (sp))]) (hb : f by0 = aI (E.2.1 3) 300 (g)) (hl : 0 ≤ len ∧ len + 4 ≤ 300) (hz : -2147483648 ≤ z ∧ z < 2147483648) : KX10_addNumber l E [.ref tp, .int (iZ (z))] f (fun v f' => v = none ∧ f' tp = oB 9 [.ref by0, .int (iZ (len + 4)), .int (iZ st), .int (iZ sp)] ∧ f' by0 = aI (E.2.1 3) 300 (put4 g len z) ∧ ∀ q, q ≠ tp → q ≠ by0 → f' q = f q) := by
  refine ct_of (own := RX10) (lv := [(0, .ref tp), (1, .int (iZ (z)))]) (by decide +kernel) rfl (Nat.le_of_ble_eq_true rfl) rfl ?_
  intro G hG hZ
  refine j_bipush hG dX10_addNumber_0 (by decide) ?_
  refine j_istore_n (lv' := [(0, .ref tp), (1, .int (iZ (z))), (2, .int (iZ (24)))]) hG dX10_addNumber_2 rfl (by decide) rfl ?_
  refine j_iload_n hG dX10_addNumber_3 rfl rfl ?_
  refine j_if_lt (tgt := 50) hG dX10_addNumber_4 (by decide) (by omega) (fun c1 => ?_) (fun c1 => ?_)
  · -- taken at 4
    exfalso; omega
  · -- on at 4
    refine j_aload_n hG dX10_addNumber_7 rfl rfl ?_
    refine j_get hG fX10_15 dX10_addNumber_8 h rfl ?_
    refine j_sipush hG dX10_addNumber_11 (by decide) ?_
    refine j_icmp_ge (tgt := 50) hG dX10_addNumber_14 (by decide) (by omega) (by omega) (fun c2 => ?_) (fun c2 => ?_)
    · -- taken at 14
      exfalso; omega
    · -- on at 14
      refine j_aload_n hG dX10_addNumber_17 rfl rfl ?_
      refine j_get hG fX10_9 dX10_addNumber_18 h rfl ?_
      refine j_aload_n hG dX10_addNumber_21 rfl rfl ?_
      refine j_get hG fX10_15 dX10_addNumber_22 h rfl ?_
      refine j_iload_n hG dX10_addNumber_25 rfl rfl ?_
      refine j_iload_n hG dX10_addNumber_26 rfl rfl ?_
      refine j_iushr hG dX10_addNumber_27 ?_
      refine j_sipush hG dX10_addNumber_28 (by decide) ?_
      refine j_iand hG dX10_addNumber_31 ?_
      refine j_eqi (show ((((iZ (z)).toUInt32 >>> ((iZ (24)).toUInt32 &&& Int32.toUInt32 31)).toInt32) &&& (iZ (255)) : Int32) = iZ (byt z 24) from (ubyte z 24 (by decide) 16777216 (by decide) (by decide) hz)) ?_
      refine j_i2c (y := iZ (byt z 24)) hG dX10_addNumber_32 (i2c_b (by have := byt_rng z 24; have := byt_rng z 16; have := byt_rng z 8; have := byt_rng z 0; omega)) ?_
      refine j_cast hG dX10_addNumber_33 hb (by omega) (by decide) (by have := byt_rng z 24; have := byt_rng z 16; have := byt_rng z 8; have := byt_rng z 0; omega) (fun f3 h4 fr5 => ?_)
      have h6 := (fr5 tp (h_ne h hb oa_I)).trans h
      refine j_aload_n hG dX10_addNumber_34 rfl rfl ?_
      refine j_dup hG dX10_addNumber_35 rfl ?_
      refine j_get hG fX10_15 dX10_addNumber_36 h6 rfl ?_
      refine j_iconst hG dX10_addNumber_39 ?_
      refine j_iadd hG dX10_addNumber_40 ?_
      refine j_put hG pX10_15 dX10_addNumber_41 h6 rfl rfl (Nat.le_of_ble_eq_true rfl) (fun f7 h8 fr9 => ?_)
      have h8 : f7 tp = oB 9 [.ref by0, .int (iZ (len + 1)), .int (iZ (st)), .int (iZ (sp))] := h8
      have h10 := (fr9 by0 (h_ne h4 h6 (Ne.symm oa_I))).trans h4
      refine j_iinc (a := 24) (lv' := [(0, .ref tp), (1, .int (iZ (z))), (2, .int (iZ (16)))]) hG dX10_addNumber_44 rfl (by decide) rfl ?_
      refine j_goto (tgt := 3) hG dX10_addNumber_47 (by decide) ?_
      refine j_iload_n hG dX10_addNumber_3 rfl rfl ?_
      refine j_if_lt (tgt := 50) hG dX10_addNumber_4 (by decide) (by omega) (fun c11 => ?_) (fun c11 => ?_)
      · -- taken at 4
        exfalso; omega
      · -- on at 4
        refine j_aload_n hG dX10_addNumber_7 rfl rfl ?_
        refine j_get hG fX10_15 dX10_addNumber_8 h8 rfl ?_
        refine j_sipush hG dX10_addNumber_11 (by decide) ?_
        refine j_icmp_ge (tgt := 50) hG dX10_addNumber_14 (by decide) (by omega) (by omega) (fun c12 => ?_) (fun c12 => ?_)
        · -- taken at 14
          exfalso; omega
        · -- on at 14
          refine j_aload_n hG dX10_addNumber_17 rfl rfl ?_
          refine j_get hG fX10_9 dX10_addNumber_18 h8 rfl ?_
          refine j_aload_n hG dX10_addNumber_21 rfl rfl ?_
          refine j_get hG fX10_15 dX10_addNumber_22 h8 rfl ?_
          refine j_iload_n hG dX10_addNumber_25 rfl rfl ?_
          refine j_iload_n hG dX10_addNumber_26 rfl rfl ?_
          refine j_iushr hG dX10_addNumber_27 ?_
          refine j_sipush hG dX10_addNumber_28 (by decide) ?_
          refine j_iand hG dX10_addNumber_31 ?_
          refine j_eqi (show ((((iZ (z)).toUInt32 >>> ((iZ (16)).toUInt32 &&& Int32.toUInt32 31)).toInt32) &&& (iZ (255)) : Int32) = iZ (byt z 16) from (ubyte z 16 (by decide) 65536 (by decide) (by decide) hz)) ?_
          refine j_i2c (y := iZ (byt z 16)) hG dX10_addNumber_32 (i2c_b (by have := byt_rng z 24; have := byt_rng z 16; have := byt_rng z 8; have := byt_rng z 0; omega)) ?_
          refine j_cast hG dX10_addNumber_33 h10 (by omega) (by decide) (by have := byt_rng z 24; have := byt_rng z 16; have := byt_rng z 8; have := byt_rng z 0; omega) (fun f13 h14 fr15 => ?_)
          have h16 := (fr15 tp (h_ne h8 h10 oa_I)).trans h8
          refine j_aload_n hG dX10_addNumber_34 rfl rfl ?_
          refine j_dup hG dX10_addNumber_35 rfl ?_
          refine j_get hG fX10_15 dX10_addNumber_36 h16 rfl ?_
          refine j_iconst hG dX10_addNumber_39 ?_
          refine j_iadd hG dX10_addNumber_40 ?_
          refine j_put hG pX10_15 dX10_addNumber_41 h16 rfl rfl (Nat.le_of_ble_eq_true rfl) (fun f17 h18 fr19 => ?_)
          have h18 : f17 tp = oB 9 [.ref by0, .int (iZ ((len + 1) + 1)), .int (iZ (st)), .int (iZ (sp))] := h18
          have h20 := (fr19 by0 (h_ne h14 h16 (Ne.symm oa_I))).trans h14
          refine j_iinc (a := 16) (lv' := [(0, .ref tp), (1, .int (iZ (z))), (2, .int (iZ (8)))]) hG dX10_addNumber_44 rfl (by decide) rfl ?_
          refine j_goto (tgt := 3) hG dX10_addNumber_47 (by decide) ?_
          refine j_iload_n hG dX10_addNumber_3 rfl rfl ?_
          refine j_if_lt (tgt := 50) hG dX10_addNumber_4 (by decide) (by omega) (fun c21 => ?_) (fun c21 => ?_)
          · -- taken at 4
            exfalso; omega
          · -- on at 4
            refine j_aload_n hG dX10_addNumber_7 rfl rfl ?_
            refine j_get hG fX10_15 dX10_addNumber_8 h18 rfl ?_
            refine j_sipush hG dX10_addNumber_11 (by decide) ?_
            refine j_icmp_ge (tgt := 50) hG dX10_addNumber_14 (by decide) (by omega) (by omega) (fun c22 => ?_) (fun c22 => ?_)
            · -- taken at 14
              exfalso; omega
            · -- on at 14
              refine j_aload_n hG dX10_addNumber_17 rfl rfl ?_
              refine j_get hG fX10_9 dX10_addNumber_18 h18 rfl ?_
              refine j_aload_n hG dX10_addNumber_21 rfl rfl ?_
              refine j_get hG fX10_15 dX10_addNumber_22 h18 rfl ?_
              refine j_iload_n hG dX10_addNumber_25 rfl rfl ?_
              refine j_iload_n hG dX10_addNumber_26 rfl rfl ?_
              refine j_iushr hG dX10_addNumber_27 ?_
              refine j_sipush hG dX10_addNumber_28 (by decide) ?_
              refine j_iand hG dX10_addNumber_31 ?_
              refine j_eqi (show ((((iZ (z)).toUInt32 >>> ((iZ (8)).toUInt32 &&& Int32.toUInt32 31)).toInt32) &&& (iZ (255)) : Int32) = iZ (byt z 8) from (ubyte z 8 (by decide) 256 (by decide) (by decide) hz)) ?_
              refine j_i2c (y := iZ (byt z 8)) hG dX10_addNumber_32 (i2c_b (by have := byt_rng z 24; have := byt_rng z 16; have := byt_rng z 8; have := byt_rng z 0; omega)) ?_
              refine j_cast hG dX10_addNumber_33 h20 (by omega) (by decide) (by have := byt_rng z 24; have := byt_rng z 16; have := byt_rng z 8; have := byt_rng z 0; omega) (fun f23 h24 fr25 => ?_)
              have h26 := (fr25 tp (h_ne h18 h20 oa_I)).trans h18
              refine j_aload_n hG dX10_addNumber_34 rfl rfl ?_
              refine j_dup hG dX10_addNumber_35 rfl ?_
              refine j_get hG fX10_15 dX10_addNumber_36 h26 rfl ?_
              refine j_iconst hG dX10_addNumber_39 ?_
              refine j_iadd hG dX10_addNumber_40 ?_
              refine j_put hG pX10_15 dX10_addNumber_41 h26 rfl rfl (Nat.le_of_ble_eq_true rfl) (fun f27 h28 fr29 => ?_)
              have h28 : f27 tp = oB 9 [.ref by0, .int (iZ (((len + 1) + 1) + 1)), .int (iZ (st)), .int (iZ (sp))] := h28
              have h30 := (fr29 by0 (h_ne h24 h26 (Ne.symm oa_I))).trans h24
              refine j_iinc (a := 8) (lv' := [(0, .ref tp), (1, .int (iZ (z))), (2, .int (iZ (0)))]) hG dX10_addNumber_44 rfl (by decide) rfl ?_
              refine j_goto (tgt := 3) hG dX10_addNumber_47 (by decide) ?_
              refine j_iload_n hG dX10_addNumber_3 rfl rfl ?_
              refine j_if_lt (tgt := 50) hG dX10_addNumber_4 (by decide) (by omega) (fun c31 => ?_) (fun c31 => ?_)
              · -- taken at 4
                exfalso; omega
              · -- on at 4
                refine j_aload_n hG dX10_addNumber_7 rfl rfl ?_
                refine j_get hG fX10_15 dX10_addNumber_8 h28 rfl ?_
                refine j_sipush hG dX10_addNumber_11 (by decide) ?_
                refine j_icmp_ge (tgt := 50) hG dX10_addNumber_14 (by decide) (by omega) (by omega) (fun c32 => ?_) (fun c32 => ?_)
                · -- taken at 14
                  exfalso; omega
                · -- on at 14
                  refine j_aload_n hG dX10_addNumber_17 rfl rfl ?_
                  refine j_get hG fX10_9 dX10_addNumber_18 h28 rfl ?_
                  refine j_aload_n hG dX10_addNumber_21 rfl rfl ?_
                  refine j_get hG fX10_15 dX10_addNumber_22 h28 rfl ?_
                  refine j_iload_n hG dX10_addNumber_25 rfl rfl ?_
                  refine j_iload_n hG dX10_addNumber_26 rfl rfl ?_
                  refine j_iushr hG dX10_addNumber_27 ?_
                  refine j_sipush hG dX10_addNumber_28 (by decide) ?_
                  refine j_iand hG dX10_addNumber_31 ?_
                  refine j_eqi (show ((((iZ (z)).toUInt32 >>> ((iZ (0)).toUInt32 &&& Int32.toUInt32 31)).toInt32) &&& (iZ (255)) : Int32) = iZ (byt z 0) from (ubyte z 0 (by decide) 1 (by decide) (by decide) hz)) ?_
                  refine j_i2c (y := iZ (byt z 0)) hG dX10_addNumber_32 (i2c_b (by have := byt_rng z 24; have := byt_rng z 16; have := byt_rng z 8; have := byt_rng z 0; omega)) ?_
                  refine j_cast hG dX10_addNumber_33 h30 (by omega) (by decide) (by have := byt_rng z 24; have := byt_rng z 16; have := byt_rng z 8; have := byt_rng z 0; omega) (fun f33 h34 fr35 => ?_)
                  have h36 := (fr35 tp (h_ne h28 h30 oa_I)).trans h28
                  refine j_aload_n hG dX10_addNumber_34 rfl rfl ?_
                  refine j_dup hG dX10_addNumber_35 rfl ?_
                  refine j_get hG fX10_15 dX10_addNumber_36 h36 rfl ?_
                  refine j_iconst hG dX10_addNumber_39 ?_
                  refine j_iadd hG dX10_addNumber_40 ?_
                  refine j_put hG pX10_15 dX10_addNumber_41 h36 rfl rfl (Nat.le_of_ble_eq_true rfl) (fun f37 h38 fr39 => ?_)
                  have h38 : f37 tp = oB 9 [.ref by0, .int (iZ ((((len + 1) + 1) + 1) + 1)), .int (iZ (st)), .int (iZ (sp))] := h38
                  have h40 := (fr39 by0 (h_ne h34 h36 (Ne.symm oa_I))).trans h34
                  refine j_iinc (a := 0) (lv' := [(0, .ref tp), (1, .int (iZ (z))), (2, .int (iZ (-8)))]) hG dX10_addNumber_44 rfl (by decide) rfl ?_
                  refine j_goto (tgt := 3) hG dX10_addNumber_47 (by decide) ?_
                  refine j_iload_n hG dX10_addNumber_3 rfl rfl ?_
                  refine j_if_lt (tgt := 50) hG dX10_addNumber_4 (by decide) (by omega) (fun c41 => ?_) (fun c41 => ?_)
                  · -- taken at 4
                    have e9 := h38
                    rw [show len + 1 + 1 + 1 + 1 = len + 4 by omega] at e9
                    exact j_vret hG hZ dX10_addNumber_50 (Nat.zero_le _) (Nat.zero_le _) (⟨rfl, e9, h40, fun q q1 q2 => (Eq.trans (fr39 q q1) (Eq.trans (fr35 q q2) (Eq.trans (fr29 q q1) (Eq.trans (fr25 q q2) (Eq.trans (fr19 q q1) (Eq.trans (fr15 q q2) (Eq.trans (fr9 q q1) (fr5 q q2))))))))⟩)
                  · -- on at 4
                    exfalso; omega
theorem c_X10_isLetter {l : Launch} {E : JE} {f : Hp} {tp by0 : Nat} {len st sp : Int} {g : Int → Int} {i : Int} (h : f tp = oB 9 [.ref by0, .int (iZ (len)), .int (iZ (st)), .int (iZ (sp))]) (hb : f by0 = aI (E.2.1 3) 300 (g)) (hl : 0 ≤ len ∧ len ≤ 300) (hg : bOk g) (hi : 0 ≤ i ∧ i ≤ 300) : KX10_isLetter l E [.ref tp, .int (iZ (i))] f (fun v f' => (∃ z : Int, v = some (.int (iZ z)) ∧ ((z = 1 ∧ i < len ∧ isL g i = true) ∨ (z = 0 ∧ (len ≤ i ∨ isL g i = false)))) ∧ f = f') := by
  refine ct_of (own := RX10) (lv := [(0, .ref tp), (1, .int (iZ (i)))]) (by decide +kernel) rfl (Nat.le_of_ble_eq_true rfl) rfl ?_
  intro G hG hZ
  refine j_iload_n hG dX10_isLetter_0 rfl rfl ?_
  refine j_aload_n hG dX10_isLetter_1 rfl rfl ?_
  refine j_get hG fX10_15 dX10_isLetter_2 h rfl ?_
  refine j_icmp_ge (tgt := 34) hG dX10_isLetter_5 (by decide) (by omega) (by omega) (fun c1 => ?_) (fun c1 => ?_)
  · -- taken at 5
    refine j_iconst hG dX10_isLetter_34 ?_
    exact j_zret hG hZ dX10_isLetter_35 (Nat.zero_le _) (Nat.zero_le _) (nar_zr (by omega)) (⟨⟨_, rfl, by unfold isL; first | exact Or.inl ⟨rfl, by omega, decide_eq_true (by omega)⟩ | exact Or.inr ⟨rfl, Or.inl (by omega)⟩ | exact Or.inr ⟨rfl, Or.inr (decide_eq_false (by omega))⟩⟩, rfl⟩)
  · -- on at 5
    refine j_aload_n hG dX10_isLetter_8 rfl rfl ?_
    refine j_get hG fX10_9 dX10_isLetter_9 h rfl ?_
    refine j_iload_n hG dX10_isLetter_12 rfl rfl ?_
    refine j_cald hG dX10_isLetter_13 hb (by omega) (by decide) ?_
    have hg9 := hg i
    refine j_bipush hG dX10_isLetter_14 (by decide) ?_
    refine j_icmp_lt (tgt := 34) hG dX10_isLetter_16 (by decide) (by omega) (by omega) (fun c2 => ?_) (fun c2 => ?_)
    · -- taken at 16
      refine j_iconst hG dX10_isLetter_34 ?_
      exact j_zret hG hZ dX10_isLetter_35 (Nat.zero_le _) (Nat.zero_le _) (nar_zr (by omega)) (⟨⟨_, rfl, by unfold isL; first | exact Or.inl ⟨rfl, by omega, decide_eq_true (by omega)⟩ | exact Or.inr ⟨rfl, Or.inl (by omega)⟩ | exact Or.inr ⟨rfl, Or.inr (decide_eq_false (by omega))⟩⟩, rfl⟩)
    · -- on at 16
      refine j_aload_n hG dX10_isLetter_19 rfl rfl ?_
      refine j_get hG fX10_9 dX10_isLetter_20 h rfl ?_
      refine j_iload_n hG dX10_isLetter_23 rfl rfl ?_
      refine j_cald hG dX10_isLetter_24 hb (by omega) (by decide) ?_
      have hg9 := hg i
      refine j_bipush hG dX10_isLetter_25 (by decide) ?_
      refine j_icmp_gt (tgt := 34) hG dX10_isLetter_27 (by decide) (by omega) (by omega) (fun c3 => ?_) (fun c3 => ?_)
      · -- taken at 27
        refine j_iconst hG dX10_isLetter_34 ?_
        exact j_zret hG hZ dX10_isLetter_35 (Nat.zero_le _) (Nat.zero_le _) (nar_zr (by omega)) (⟨⟨_, rfl, by unfold isL; first | exact Or.inl ⟨rfl, by omega, decide_eq_true (by omega)⟩ | exact Or.inr ⟨rfl, Or.inl (by omega)⟩ | exact Or.inr ⟨rfl, Or.inr (decide_eq_false (by omega))⟩⟩, rfl⟩)
      · -- on at 27
        refine j_iconst hG dX10_isLetter_30 ?_
        refine j_goto (tgt := 35) hG dX10_isLetter_31 (by decide) ?_
        exact j_zret hG hZ dX10_isLetter_35 (Nat.zero_le _) (Nat.zero_le _) (nar_zr (by omega)) (⟨⟨_, rfl, by unfold isL; first | exact Or.inl ⟨rfl, by omega, decide_eq_true (by omega)⟩ | exact Or.inr ⟨rfl, Or.inl (by omega)⟩ | exact Or.inr ⟨rfl, Or.inr (decide_eq_false (by omega))⟩⟩, rfl⟩)
theorem c_X10_isDigit {l : Launch} {E : JE} {f : Hp} {tp by0 : Nat} {len st sp : Int} {g : Int → Int} {i : Int} (h : f tp = oB 9 [.ref by0, .int (iZ (len)), .int (iZ (st)), .int (iZ (sp))]) (hb : f by0 = aI (E.2.1 3) 300 (g)) (hl : 0 ≤ len ∧ len ≤ 300) (hg : bOk g) (hi : 0 ≤ i ∧ i ≤ 300) : KX10_isDigit l E [.ref tp, .int (iZ (i))] f (fun v f' => (∃ z : Int, v = some (.int (iZ z)) ∧ ((z = 1 ∧ i < len ∧ isD g i = true) ∨ (z = 0 ∧ (len ≤ i ∨ isD g i = false)))) ∧ f = f') := by
  refine ct_of (own := RX10) (lv := [(0, .ref tp), (1, .int (iZ (i)))]) (by decide +kernel) rfl (Nat.le_of_ble_eq_true rfl) rfl ?_
  intro G hG hZ
  refine j_iload_n hG dX10_isDigit_0 rfl rfl ?_
  refine j_aload_n hG dX10_isDigit_1 rfl rfl ?_
  refine j_get hG fX10_15 dX10_isDigit_2 h rfl ?_
  refine j_icmp_ge (tgt := 34) hG dX10_isDigit_5 (by decide) (by omega) (by omega) (fun c1 => ?_) (fun c1 => ?_)
  · -- taken at 5
    refine j_iconst hG dX10_isDigit_34 ?_
    exact j_zret hG hZ dX10_isDigit_35 (Nat.zero_le _) (Nat.zero_le _) (nar_zr (by omega)) (⟨⟨_, rfl, by unfold isD; first | exact Or.inl ⟨rfl, by omega, decide_eq_true (by omega)⟩ | exact Or.inr ⟨rfl, Or.inl (by omega)⟩ | exact Or.inr ⟨rfl, Or.inr (decide_eq_false (by omega))⟩⟩, rfl⟩)
  · -- on at 5
    refine j_aload_n hG dX10_isDigit_8 rfl rfl ?_
    refine j_get hG fX10_9 dX10_isDigit_9 h rfl ?_
    refine j_iload_n hG dX10_isDigit_12 rfl rfl ?_
    refine j_cald hG dX10_isDigit_13 hb (by omega) (by decide) ?_
    have hg9 := hg i
    refine j_bipush hG dX10_isDigit_14 (by decide) ?_
    refine j_icmp_lt (tgt := 34) hG dX10_isDigit_16 (by decide) (by omega) (by omega) (fun c2 => ?_) (fun c2 => ?_)
    · -- taken at 16
      refine j_iconst hG dX10_isDigit_34 ?_
      exact j_zret hG hZ dX10_isDigit_35 (Nat.zero_le _) (Nat.zero_le _) (nar_zr (by omega)) (⟨⟨_, rfl, by unfold isD; first | exact Or.inl ⟨rfl, by omega, decide_eq_true (by omega)⟩ | exact Or.inr ⟨rfl, Or.inl (by omega)⟩ | exact Or.inr ⟨rfl, Or.inr (decide_eq_false (by omega))⟩⟩, rfl⟩)
    · -- on at 16
      refine j_aload_n hG dX10_isDigit_19 rfl rfl ?_
      refine j_get hG fX10_9 dX10_isDigit_20 h rfl ?_
      refine j_iload_n hG dX10_isDigit_23 rfl rfl ?_
      refine j_cald hG dX10_isDigit_24 hb (by omega) (by decide) ?_
      have hg9 := hg i
      refine j_bipush hG dX10_isDigit_25 (by decide) ?_
      refine j_icmp_gt (tgt := 34) hG dX10_isDigit_27 (by decide) (by omega) (by omega) (fun c3 => ?_) (fun c3 => ?_)
      · -- taken at 27
        refine j_iconst hG dX10_isDigit_34 ?_
        exact j_zret hG hZ dX10_isDigit_35 (Nat.zero_le _) (Nat.zero_le _) (nar_zr (by omega)) (⟨⟨_, rfl, by unfold isD; first | exact Or.inl ⟨rfl, by omega, decide_eq_true (by omega)⟩ | exact Or.inr ⟨rfl, Or.inl (by omega)⟩ | exact Or.inr ⟨rfl, Or.inr (decide_eq_false (by omega))⟩⟩, rfl⟩)
      · -- on at 27
        refine j_iconst hG dX10_isDigit_30 ?_
        refine j_goto (tgt := 35) hG dX10_isDigit_31 (by decide) ?_
        exact j_zret hG hZ dX10_isDigit_35 (Nat.zero_le _) (Nat.zero_le _) (nar_zr (by omega)) (⟨⟨_, rfl, by unfold isD; first | exact Or.inl ⟨rfl, by omega, decide_eq_true (by omega)⟩ | exact Or.inr ⟨rfl, Or.inl (by omega)⟩ | exact Or.inr ⟨rfl, Or.inr (decide_eq_false (by omega))⟩⟩, rfl⟩)
theorem l_X10_tok_74 {G : JG} {l : Launch} {E : JE} {P : Option Value → Hp → Prop} (hG : jX G l E cX10_toNextToken RX10 1 rmX10_toNextToken) (hZ : jZ G none P) {tp by0 : Nat} {len st : Int} {g : Int → Int} {f0 : Hp} (hl : 0 ≤ len ∧ len ≤ 300) (hg : bOk g) (hP : ∀ f' : Hp, f' tp = oB 9 [.ref by0, .int (iZ len), .int (iZ st), .int (iZ (tE g len st))] → (∀ q, q ≠ tp → f' q = f0 q) → P none f') :
    ∀ (d : Nat) (e : Int) (f1 : Hp), (h : f1 tp = oB 9 [.ref by0, .int (iZ (len)), .int (iZ (st)), .int (iZ (e))]) → (hb : f1 by0 = aI (E.2.1 3) 300 (g)) → (he : 0 ≤ e ∧ e ≤ len) → (hE : tE g len st = adv (isL g) len e) → (hfr : ∀ q, q ≠ tp → f1 q = f0 q) → ((len - e).toNat) < d → J G 0 0 f1 74 [(0, .ref tp)] [] := by
  intro d
  induction d with
  | zero => intro e f1 h hb he hE hfr hd9; exfalso; omega
  | succ d ih =>
    intro e f1 h hb he hE hfr hd9
    refine j_aload_n hG dX10_toNextToken_74 rfl rfl ?_
    refine j_get hG fX10_28 dX10_toNextToken_75 h rfl ?_
    refine j_aload_n hG dX10_toNextToken_78 rfl rfl ?_
    refine j_get hG fX10_15 dX10_toNextToken_79 h rfl ?_
    refine j_icmp_ge (tgt := 155) hG dX10_toNextToken_82 (by decide) (by omega) (by omega) (fun c1 => ?_) (fun c1 => ?_)
    · -- taken at 82
      have e9 : tE g len st = e := hE.trans (adv_off (by first | exact Or.inl (by omega) | (rcases hX with q | q; (exfalso; omega); exact q.2)))
      rw [← e9] at h
      exact j_vret hG hZ dX10_toNextToken_155 (Nat.zero_le _) (Nat.zero_le _) (hP f1 h hfr)
    · -- on at 82
      refine j_aload_n hG dX10_toNextToken_85 rfl rfl ?_
      refine j_aload_n hG dX10_toNextToken_86 rfl rfl ?_
      refine j_get hG fX10_28 dX10_toNextToken_87 h rfl ?_
      refine j_callV (rest := []) hG vX10_37 dX10_toNextToken_90 (c_X10_isLetter (i := e) h hb hl hg (by omega)) h rfl rfl (by decide) (by decide) (Nat.le_of_ble_eq_true rfl) rfl rfl (Nat.zero_le _) (Nat.zero_le _) ?_
      rintro _ _ ⟨⟨z2, rfl, hz3⟩, rfl⟩
      refine j_st (st' := [.int (iZ (z2))]) rfl ?_
      refine j_if_eq (tgt := 155) hG dX10_toNextToken_93 (by decide) (by omega) (fun c4 => ?_) (fun c4 => ?_)
      · -- taken at 93
        have e9 : tE g len st = e := hE.trans (adv_off (by first | exact Or.inl (by omega) | (rcases hz3 with q | q; (exfalso; omega); exact q.2)))
        rw [← e9] at h
        exact j_vret hG hZ dX10_toNextToken_155 (Nat.zero_le _) (Nat.zero_le _) (hP f1 h hfr)
      · -- on at 93
        refine j_aload_n hG dX10_toNextToken_96 rfl rfl ?_
        refine j_dup hG dX10_toNextToken_97 rfl ?_
        refine j_get hG fX10_28 dX10_toNextToken_98 h rfl ?_
        refine j_iconst hG dX10_toNextToken_101 ?_
        refine j_iadd hG dX10_toNextToken_102 ?_
        refine j_put hG pX10_28 dX10_toNextToken_103 h rfl rfl (Nat.le_of_ble_eq_true rfl) (fun f5 h6 fr7 => ?_)
        have h6 : f5 tp = oB 9 [.ref by0, .int (iZ (len)), .int (iZ (st)), .int (iZ (e + 1))] := h6
        have h8 := (fr7 by0 (h_ne hb h (Ne.symm oa_I))).trans hb
        refine j_goto (tgt := 74) hG dX10_toNextToken_106 (by decide) ?_
        exact ih (e + 1) f5 h6 h8 (by omega) (hE.trans (adv_on (by omega) (by rcases hz3 with q | q; exact q.2.2; exfalso; omega))) (fun q q1 => (fr7 q q1).trans (hfr q q1)) (by omega)
theorem l_X10_tok_120 {G : JG} {l : Launch} {E : JE} {P : Option Value → Hp → Prop} (hG : jX G l E cX10_toNextToken RX10 1 rmX10_toNextToken) (hZ : jZ G none P) {tp by0 : Nat} {len st : Int} {g : Int → Int} {f0 : Hp} (hl : 0 ≤ len ∧ len ≤ 300) (hg : bOk g) (hP : ∀ f' : Hp, f' tp = oB 9 [.ref by0, .int (iZ len), .int (iZ st), .int (iZ (tE g len st))] → (∀ q, q ≠ tp → f' q = f0 q) → P none f') :
    ∀ (d : Nat) (e : Int) (f1 : Hp), (h : f1 tp = oB 9 [.ref by0, .int (iZ (len)), .int (iZ (st)), .int (iZ (e))]) → (hb : f1 by0 = aI (E.2.1 3) 300 (g)) → (he : 0 ≤ e ∧ e ≤ len) → (hE : tE g len st = adv (isD g) len e) → (hfr : ∀ q, q ≠ tp → f1 q = f0 q) → ((len - e).toNat) < d → J G 0 0 f1 120 [(0, .ref tp)] [] := by
  intro d
  induction d with
  | zero => intro e f1 h hb he hE hfr hd9; exfalso; omega
  | succ d ih =>
    intro e f1 h hb he hE hfr hd9
    refine j_aload_n hG dX10_toNextToken_120 rfl rfl ?_
    refine j_get hG fX10_28 dX10_toNextToken_121 h rfl ?_
    refine j_aload_n hG dX10_toNextToken_124 rfl rfl ?_
    refine j_get hG fX10_15 dX10_toNextToken_125 h rfl ?_
    refine j_icmp_ge (tgt := 155) hG dX10_toNextToken_128 (by decide) (by omega) (by omega) (fun c1 => ?_) (fun c1 => ?_)
    · -- taken at 128
      have e9 : tE g len st = e := hE.trans (adv_off (by first | exact Or.inl (by omega) | (rcases hX with q | q; (exfalso; omega); exact q.2)))
      rw [← e9] at h
      exact j_vret hG hZ dX10_toNextToken_155 (Nat.zero_le _) (Nat.zero_le _) (hP f1 h hfr)
    · -- on at 128
      refine j_aload_n hG dX10_toNextToken_131 rfl rfl ?_
      refine j_aload_n hG dX10_toNextToken_132 rfl rfl ?_
      refine j_get hG fX10_28 dX10_toNextToken_133 h rfl ?_
      refine j_callV (rest := []) hG vX10_41 dX10_toNextToken_136 (c_X10_isDigit (i := e) h hb hl hg (by omega)) h rfl rfl (by decide) (by decide) (Nat.le_of_ble_eq_true rfl) rfl rfl (Nat.zero_le _) (Nat.zero_le _) ?_
      rintro _ _ ⟨⟨z2, rfl, hz3⟩, rfl⟩
      refine j_st (st' := [.int (iZ (z2))]) rfl ?_
      refine j_if_eq (tgt := 155) hG dX10_toNextToken_139 (by decide) (by omega) (fun c4 => ?_) (fun c4 => ?_)
      · -- taken at 139
        have e9 : tE g len st = e := hE.trans (adv_off (by first | exact Or.inl (by omega) | (rcases hz3 with q | q; (exfalso; omega); exact q.2)))
        rw [← e9] at h
        exact j_vret hG hZ dX10_toNextToken_155 (Nat.zero_le _) (Nat.zero_le _) (hP f1 h hfr)
      · -- on at 139
        refine j_aload_n hG dX10_toNextToken_142 rfl rfl ?_
        refine j_dup hG dX10_toNextToken_143 rfl ?_
        refine j_get hG fX10_28 dX10_toNextToken_144 h rfl ?_
        refine j_iconst hG dX10_toNextToken_147 ?_
        refine j_iadd hG dX10_toNextToken_148 ?_
        refine j_put hG pX10_28 dX10_toNextToken_149 h rfl rfl (Nat.le_of_ble_eq_true rfl) (fun f5 h6 fr7 => ?_)
        have h6 : f5 tp = oB 9 [.ref by0, .int (iZ (len)), .int (iZ (st)), .int (iZ (e + 1))] := h6
        have h8 := (fr7 by0 (h_ne hb h (Ne.symm oa_I))).trans hb
        refine j_goto (tgt := 120) hG dX10_toNextToken_152 (by decide) ?_
        exact ih (e + 1) f5 h6 h8 (by omega) (hE.trans (adv_on (by omega) (by rcases hz3 with q | q; exact q.2.2; exfalso; omega))) (fun q q1 => (fr7 q q1).trans (hfr q q1)) (by omega)
theorem l_X10_tok_8 {G : JG} {l : Launch} {E : JE} {P : Option Value → Hp → Prop} (hG : jX G l E cX10_toNextToken RX10 1 rmX10_toNextToken) (hZ : jZ G none P) {tp by0 : Nat} {len sp S : Int} {g : Int → Int} {f0 : Hp} (hl : 0 ≤ len ∧ len ≤ 300) (hg : bOk g) (hP : ∀ f' : Hp, f' tp = oB 9 [.ref by0, .int (iZ len), .int (iZ S), .int (iZ (tE g len S))] → (∀ q, q ≠ tp → f' q = f0 q) → P none f') :
    ∀ (d : Nat) (p : Int) (f1 : Hp), (h : f1 tp = oB 9 [.ref by0, .int (iZ (len)), .int (iZ (p)), .int (iZ (sp))]) → (hb : f1 by0 = aI (E.2.1 3) 300 (g)) → (he : 0 ≤ p ∧ p ≤ len) → (hE : tS g len p = S) → (hfr : ∀ q, q ≠ tp → f1 q = f0 q) → ((len - p).toNat) < d → J G 0 0 f1 8 [(0, .ref tp)] [] := by
  intro d
  induction d with
  | zero => intro p f1 h hb he hE hfr hd9; exfalso; omega
  | succ d ih =>
    intro p f1 h hb he hE hfr hd9
    refine j_aload_n hG dX10_toNextToken_8 rfl rfl ?_
    refine j_get hG fX10_34 dX10_toNextToken_9 h rfl ?_
    refine j_aload_n hG dX10_toNextToken_12 rfl rfl ?_
    refine j_get hG fX10_15 dX10_toNextToken_13 h rfl ?_
    refine j_icmp_ge (tgt := 46) hG dX10_toNextToken_16 (by decide) (by omega) (by omega) (fun c1 => ?_) (fun c1 => ?_)
    · -- taken at 16
      have eS : p = S := by
        rw [← hE]; unfold tS; symm; apply adv_off; unfold isB
        first | exact Or.inl (by omega) | exact Or.inr (decide_eq_false (by omega))
      subst eS
      refine j_aload_n hG dX10_toNextToken_46 rfl rfl ?_
      refine j_aload_n hG dX10_toNextToken_47 rfl rfl ?_
      refine j_get hG fX10_34 dX10_toNextToken_48 h rfl ?_
      refine j_iconst hG dX10_toNextToken_51 ?_
      refine j_iadd hG dX10_toNextToken_52 ?_
      refine j_aload_n hG dX10_toNextToken_53 rfl rfl ?_
      refine j_get hG fX10_15 dX10_toNextToken_54 h rfl ?_
      refine j_min hG vX10_19 dX10_toNextToken_57 (by omega) (by omega) (by decide) (by decide) (Nat.le_of_ble_eq_true rfl) (Nat.zero_le _) (Nat.zero_le _) ?_
      refine j_put hG pX10_28 dX10_toNextToken_60 h rfl rfl (Nat.le_of_ble_eq_true rfl) (fun f2 h3 fr4 => ?_)
      have h3 : f2 tp = oB 9 [.ref by0, .int (iZ (len)), .int (iZ (p)), .int (iZ (min (p + 1) len))] := h3
      have h5 := (fr4 by0 (h_ne hb h (Ne.symm oa_I))).trans hb
      refine j_aload_n hG dX10_toNextToken_63 rfl rfl ?_
      refine j_aload_n hG dX10_toNextToken_64 rfl rfl ?_
      refine j_get hG fX10_34 dX10_toNextToken_65 h3 rfl ?_
      refine j_callV (rest := []) hG vX10_37 dX10_toNextToken_68 (c_X10_isLetter (i := p) h3 h5 hl hg (by omega)) h3 rfl rfl (by decide) (by decide) (Nat.le_of_ble_eq_true rfl) rfl rfl (Nat.zero_le _) (Nat.zero_le _) ?_
      rintro _ _ ⟨⟨z6, rfl, hz7⟩, rfl⟩
      refine j_st (st' := [.int (iZ (z6))]) rfl ?_
      refine j_if_eq (tgt := 109) hG dX10_toNextToken_71 (by decide) (by omega) (fun c8 => ?_) (fun c8 => ?_)
      · -- taken at 71
        refine j_aload_n hG dX10_toNextToken_109 rfl rfl ?_
        refine j_aload_n hG dX10_toNextToken_110 rfl rfl ?_
        refine j_get hG fX10_34 dX10_toNextToken_111 h3 rfl ?_
        refine j_callV (rest := []) hG vX10_41 dX10_toNextToken_114 (c_X10_isDigit (i := p) h3 h5 hl hg (by omega)) h3 rfl rfl (by decide) (by decide) (Nat.le_of_ble_eq_true rfl) rfl rfl (Nat.zero_le _) (Nat.zero_le _) ?_
        rintro _ _ ⟨⟨z9, rfl, hz10⟩, rfl⟩
        refine j_st (st' := [.int (iZ (z9))]) rfl ?_
        refine j_if_eq (tgt := 155) hG dX10_toNextToken_117 (by decide) (by omega) (fun c11 => ?_) (fun c11 => ?_)
        · -- taken at 117
          have e9 : tE g len p = min (p + 1) len := by
            unfold tE
            rw [if_neg (by intro q; rcases hz7 with z | z; (exfalso; omega); (rcases z.2 with z | z; (exfalso; omega); (rw [z] at q; exact absurd q.2 (by decide)))), if_neg (by intro q; rcases hz10 with z | z; (exfalso; omega); (rcases z.2 with z | z; (exfalso; omega); (rw [z] at q; exact absurd q.2 (by decide))))]
          have h8 := h3
          rw [← e9] at h8
          exact j_vret hG hZ dX10_toNextToken_155 (Nat.zero_le _) (Nat.zero_le _) (hP f2 h8 (fun q q1 => (fr4 q q1).trans (hfr q q1)))
        · -- on at 117
          exact l_X10_tok_120 (f0 := f0) hG hZ hl hg hP ((len - min (p + 1) len).toNat + 1) _ f2 h3 h5 (by omega) (by unfold tE; rw [if_neg (by intro q; rcases hz7 with z | z; (exfalso; omega); (rcases z.2 with z | z; (exfalso; omega); (rw [z] at q; exact absurd q.2 (by decide))))]; rcases hz10 with z | z; (rw [if_pos z.2]); (exfalso; omega)) (fun q q1 => (fr4 q q1).trans (hfr q q1)) (by omega)
      · -- on at 71
        exact l_X10_tok_74 (f0 := f0) hG hZ hl hg hP ((len - min (p + 1) len).toNat + 1) _ f2 h3 h5 (by omega) (by unfold tE; rcases hz7 with z | z; (rw [if_pos z.2]); (exfalso; omega)) (fun q q1 => (fr4 q q1).trans (hfr q q1)) (by omega)
    · -- on at 16
      refine j_aload_n hG dX10_toNextToken_19 rfl rfl ?_
      refine j_get hG fX10_9 dX10_toNextToken_20 h rfl ?_
      refine j_aload_n hG dX10_toNextToken_23 rfl rfl ?_
      refine j_get hG fX10_34 dX10_toNextToken_24 h rfl ?_
      refine j_cald hG dX10_toNextToken_27 hb (by omega) (by decide) ?_
      refine j_bipush hG dX10_toNextToken_28 (by decide) ?_
      have hg9 := hg p
      refine j_icmp_ne (tgt := 46) hG dX10_toNextToken_30 (by decide) (by omega) (by omega) (fun c12 => ?_) (fun c12 => ?_)
      · -- taken at 30
        have eS : p = S := by
          rw [← hE]; unfold tS; symm; apply adv_off; unfold isB
          first | exact Or.inl (by omega) | exact Or.inr (decide_eq_false (by omega))
        subst eS
        refine j_aload_n hG dX10_toNextToken_46 rfl rfl ?_
        refine j_aload_n hG dX10_toNextToken_47 rfl rfl ?_
        refine j_get hG fX10_34 dX10_toNextToken_48 h rfl ?_
        refine j_iconst hG dX10_toNextToken_51 ?_
        refine j_iadd hG dX10_toNextToken_52 ?_
        refine j_aload_n hG dX10_toNextToken_53 rfl rfl ?_
        refine j_get hG fX10_15 dX10_toNextToken_54 h rfl ?_
        refine j_min hG vX10_19 dX10_toNextToken_57 (by omega) (by omega) (by decide) (by decide) (Nat.le_of_ble_eq_true rfl) (Nat.zero_le _) (Nat.zero_le _) ?_
        refine j_put hG pX10_28 dX10_toNextToken_60 h rfl rfl (Nat.le_of_ble_eq_true rfl) (fun f13 h14 fr15 => ?_)
        have h14 : f13 tp = oB 9 [.ref by0, .int (iZ (len)), .int (iZ (p)), .int (iZ (min (p + 1) len))] := h14
        have h16 := (fr15 by0 (h_ne hb h (Ne.symm oa_I))).trans hb
        refine j_aload_n hG dX10_toNextToken_63 rfl rfl ?_
        refine j_aload_n hG dX10_toNextToken_64 rfl rfl ?_
        refine j_get hG fX10_34 dX10_toNextToken_65 h14 rfl ?_
        refine j_callV (rest := []) hG vX10_37 dX10_toNextToken_68 (c_X10_isLetter (i := p) h14 h16 hl hg (by omega)) h14 rfl rfl (by decide) (by decide) (Nat.le_of_ble_eq_true rfl) rfl rfl (Nat.zero_le _) (Nat.zero_le _) ?_
        rintro _ _ ⟨⟨z17, rfl, hz18⟩, rfl⟩
        refine j_st (st' := [.int (iZ (z17))]) rfl ?_
        refine j_if_eq (tgt := 109) hG dX10_toNextToken_71 (by decide) (by omega) (fun c19 => ?_) (fun c19 => ?_)
        · -- taken at 71
          refine j_aload_n hG dX10_toNextToken_109 rfl rfl ?_
          refine j_aload_n hG dX10_toNextToken_110 rfl rfl ?_
          refine j_get hG fX10_34 dX10_toNextToken_111 h14 rfl ?_
          refine j_callV (rest := []) hG vX10_41 dX10_toNextToken_114 (c_X10_isDigit (i := p) h14 h16 hl hg (by omega)) h14 rfl rfl (by decide) (by decide) (Nat.le_of_ble_eq_true rfl) rfl rfl (Nat.zero_le _) (Nat.zero_le _) ?_
          rintro _ _ ⟨⟨z20, rfl, hz21⟩, rfl⟩
          refine j_st (st' := [.int (iZ (z20))]) rfl ?_
          refine j_if_eq (tgt := 155) hG dX10_toNextToken_117 (by decide) (by omega) (fun c22 => ?_) (fun c22 => ?_)
          · -- taken at 117
            have e9 : tE g len p = min (p + 1) len := by
              unfold tE
              rw [if_neg (by intro q; rcases hz18 with z | z; (exfalso; omega); (rcases z.2 with z | z; (exfalso; omega); (rw [z] at q; exact absurd q.2 (by decide)))), if_neg (by intro q; rcases hz21 with z | z; (exfalso; omega); (rcases z.2 with z | z; (exfalso; omega); (rw [z] at q; exact absurd q.2 (by decide))))]
            have h8 := h14
            rw [← e9] at h8
            exact j_vret hG hZ dX10_toNextToken_155 (Nat.zero_le _) (Nat.zero_le _) (hP f13 h8 (fun q q1 => (fr15 q q1).trans (hfr q q1)))
          · -- on at 117
            exact l_X10_tok_120 (f0 := f0) hG hZ hl hg hP ((len - min (p + 1) len).toNat + 1) _ f13 h14 h16 (by omega) (by unfold tE; rw [if_neg (by intro q; rcases hz18 with z | z; (exfalso; omega); (rcases z.2 with z | z; (exfalso; omega); (rw [z] at q; exact absurd q.2 (by decide))))]; rcases hz21 with z | z; (rw [if_pos z.2]); (exfalso; omega)) (fun q q1 => (fr15 q q1).trans (hfr q q1)) (by omega)
        · -- on at 71
          exact l_X10_tok_74 (f0 := f0) hG hZ hl hg hP ((len - min (p + 1) len).toNat + 1) _ f13 h14 h16 (by omega) (by unfold tE; rcases hz18 with z | z; (rw [if_pos z.2]); (exfalso; omega)) (fun q q1 => (fr15 q q1).trans (hfr q q1)) (by omega)
      · -- on at 30
        refine j_aload_n hG dX10_toNextToken_33 rfl rfl ?_
        refine j_dup hG dX10_toNextToken_34 rfl ?_
        refine j_get hG fX10_34 dX10_toNextToken_35 h rfl ?_
        refine j_iconst hG dX10_toNextToken_38 ?_
        refine j_iadd hG dX10_toNextToken_39 ?_
        refine j_put hG pX10_34 dX10_toNextToken_40 h rfl rfl (Nat.le_of_ble_eq_true rfl) (fun f23 h24 fr25 => ?_)
        have h24 : f23 tp = oB 9 [.ref by0, .int (iZ (len)), .int (iZ (p + 1)), .int (iZ (sp))] := h24
        have h26 := (fr25 by0 (h_ne hb h (Ne.symm oa_I))).trans hb
        refine j_goto (tgt := 8) hG dX10_toNextToken_43 (by decide) ?_
        exact ih (p + 1) f23 h24 h26 (by omega) ((adv_on (by omega) (decide_eq_true (by omega))).symm.trans hE) (fun q q1 => (fr25 q q1).trans (hfr q q1)) (by omega)
theorem c_X10_toNextToken {l : Launch} {E : JE} {f : Hp} {tp by0 : Nat} {len st sp : Int} {g : Int → Int} (h : f tp = oB 9 [.ref by0, .int (iZ (len)), .int (iZ (st)), .int (iZ (sp))]) (hb : f by0 = aI (E.2.1 3) 300 (g)) (hl : 0 ≤ len ∧ len ≤ 300) (hg : bOk g) (hs : 0 ≤ sp ∧ sp ≤ len) : KX10_toNextToken l E [.ref tp] f (fun v f' => v = none ∧ f' tp = oB 9 [.ref by0, .int (iZ len), .int (iZ (tS g len sp)), .int (iZ (tE g len (tS g len sp)))] ∧ ∀ q, q ≠ tp → f' q = f q) := by
  refine ct_of (own := RX10) (lv := [(0, .ref tp)]) (by decide +kernel) rfl (Nat.le_of_ble_eq_true rfl) rfl ?_
  intro G hG hZ
  refine j_aload_n hG dX10_toNextToken_0 rfl rfl ?_
  refine j_aload_n hG dX10_toNextToken_1 rfl rfl ?_
  refine j_get hG fX10_28 dX10_toNextToken_2 h rfl ?_
  refine j_put hG pX10_34 dX10_toNextToken_5 h rfl rfl (Nat.le_of_ble_eq_true rfl) (fun f1 h2 fr3 => ?_)
  have h2 : f1 tp = oB 9 [.ref by0, .int (iZ (len)), .int (iZ (sp)), .int (iZ (sp))] := h2
  have h4 := (fr3 by0 (h_ne hb h (Ne.symm oa_I))).trans hb
  exact l_X10_tok_8 (f0 := f1) hG hZ hl hg (fun f' a1 a2 => ⟨rfl, a1, fun q q1 => (a2 q q1).trans (fr3 q q1)⟩) ((len - sp).toNat + 1) sp f1 h2 h4 (by omega) rfl (fun _ _ => rfl) (by omega)
theorem c_X10_toFirstToken {l : Launch} {E : JE} {f : Hp} {tp by0 : Nat} {len st sp : Int} {g : Int → Int} (h : f tp = oB 9 [.ref by0, .int (iZ (len)), .int (iZ (st)), .int (iZ (sp))]) (hb : f by0 = aI (E.2.1 3) 300 (g)) (hl : 0 ≤ len ∧ len ≤ 300) (hg : bOk g) : KX10_toFirstToken l E [.ref tp] f (fun v f' => v = none ∧ f' tp = oB 9 [.ref by0, .int (iZ len), .int (iZ (tS g len 0)), .int (iZ (tE g len (tS g len 0)))] ∧ ∀ q, q ≠ tp → f' q = f q) := by
  refine ct_of (own := RX10) (lv := [(0, .ref tp)]) (by decide +kernel) rfl (Nat.le_of_ble_eq_true rfl) rfl ?_
  intro G hG hZ
  refine j_aload_n hG dX10_toFirstToken_0 rfl rfl ?_
  refine j_iconst hG dX10_toFirstToken_1 ?_
  refine j_put hG pX10_28 dX10_toFirstToken_2 h rfl rfl (Nat.le_of_ble_eq_true rfl) (fun f1 h2 fr3 => ?_)
  have h2 : f1 tp = oB 9 [.ref by0, .int (iZ (len)), .int (iZ (st)), .int (iZ (0))] := h2
  have h4 := (fr3 by0 (h_ne hb h (Ne.symm oa_I))).trans hb
  refine j_aload_n hG dX10_toFirstToken_5 rfl rfl ?_
  refine j_callV (rest := []) hG vX10_31 dX10_toFirstToken_6 (c_X10_toNextToken h2 h4 hl hg (by omega)) h2 rfl rfl (by decide) (by decide) (Nat.le_of_ble_eq_true rfl) rfl rfl (Nat.zero_le _) (Nat.zero_le _) ?_
  rintro _ f7 ⟨rfl, h5, fr6⟩
  refine j_st (st' := []) rfl ?_
  have h5 : f7 tp = oB 9 [.ref by0, .int (iZ (len)), .int (iZ (tS g len 0)), .int (iZ (tE g len (tS g len 0)))] := h5
  have h8 := (fr6 by0 (h_ne h4 h2 (Ne.symm oa_I))).trans h4
  exact j_vret hG hZ dX10_toFirstToken_9 (Nat.zero_le _) (Nat.zero_le _) (⟨rfl, h5, fun q q1 => (Eq.trans (fr6 q q1) (fr3 q q1))⟩)
/-- the TOKEN at s is the sign c -/
def sgn (g : Int → Int) (len s c : Int) : Bool := decide (tE g len s - s = 1 ∧ g s = c)
/-- the letter that the TOKEN at s is, from 0; -1 -/
def letr (g : Int → Int) (len s : Int) : Int := if tE g len s - s = 1 ∧ s < len ∧ isL g s = true then g s - 97 else -1
def dgv (l : List Int) : Int := l.foldl (fun v c => min (v * 10 + (c - 48)) 1001) 0
/-- the number that the TOKEN at s is, at most 1001; -1 -/
def dgt (g : Int → Int) (len s : Int) : Int := if s < len ∧ isD g s = true then dgv (seg g s (tE g len s)) else -1
theorem dgv_snoc (l : List Int) (c : Int) : dgv (l ++ [c]) = min (dgv l * 10 + (c - 48)) 1001 := by unfold dgv; rw [List.foldl_append]; rfl
theorem c_X10_isToken {l : Launch} {E : JE} {f : Hp} {tp by0 : Nat} {len st : Int} {g : Int → Int} {c : Int} (h : f tp = oB 9 [.ref by0, .int (iZ (len)), .int (iZ (st)), .int (iZ (tE g len st))]) (hb : f by0 = aI (E.2.1 3) 300 (g)) (hl : 0 ≤ len ∧ len ≤ 300) (hg : bOk g) (hs : 0 ≤ st ∧ st ≤ len) (hc : -2147483648 ≤ c ∧ c < 2147483648) : KX10_isToken l E [.ref tp, .int (iZ (c))] f (fun v f' => v = some (.int (iZ (if sgn g len st c = true then 1 else 0))) ∧ f = f') := by
  refine ct_of (own := RX10) (lv := [(0, .ref tp), (1, .int (iZ (c)))]) (by decide +kernel) rfl (Nat.le_of_ble_eq_true rfl) rfl ?_
  intro G hG hZ
  have q0 := tE_rng (g := g) hs
  refine j_aload_n hG dX10_isToken_0 rfl rfl ?_
  refine j_get hG fX10_28 dX10_isToken_1 h rfl ?_
  refine j_aload_n hG dX10_isToken_4 rfl rfl ?_
  refine j_get hG fX10_34 dX10_isToken_5 h rfl ?_
  refine j_isub hG dX10_isToken_8 ?_
  refine j_iconst hG dX10_isToken_9 ?_
  refine j_icmp_ne (tgt := 30) hG dX10_isToken_10 (by decide) (by omega) (by omega) (fun c1 => ?_) (fun c1 => ?_)
  · -- taken at 10
    refine j_iconst hG dX10_isToken_30 ?_
    have e9 : sgn g len st c = false := by
      unfold sgn
      exact decide_eq_false (by omega)
    exact j_zret hG hZ dX10_isToken_31 (Nat.zero_le _) (Nat.zero_le _) (nar_zr (by omega)) (⟨by rw [e9]; rfl, rfl⟩)
  · -- on at 10
    refine j_aload_n hG dX10_isToken_13 rfl rfl ?_
    refine j_get hG fX10_9 dX10_isToken_14 h rfl ?_
    refine j_aload_n hG dX10_isToken_17 rfl rfl ?_
    refine j_get hG fX10_34 dX10_isToken_18 h rfl ?_
    have hg9 := hg st
    refine j_cald hG dX10_isToken_21 hb (by omega) (by decide) ?_
    refine j_iload_n hG dX10_isToken_22 rfl rfl ?_
    refine j_icmp_ne (tgt := 30) hG dX10_isToken_23 (by decide) (by omega) (by omega) (fun c2 => ?_) (fun c2 => ?_)
    · -- taken at 23
      refine j_iconst hG dX10_isToken_30 ?_
      have e9 : sgn g len st c = false := by
        unfold sgn
        exact decide_eq_false (by omega)
      exact j_zret hG hZ dX10_isToken_31 (Nat.zero_le _) (Nat.zero_le _) (nar_zr (by omega)) (⟨by rw [e9]; rfl, rfl⟩)
    · -- on at 23
      refine j_iconst hG dX10_isToken_26 ?_
      refine j_goto (tgt := 31) hG dX10_isToken_27 (by decide) ?_
      have e9 : sgn g len st c = true := by
        unfold sgn
        exact decide_eq_true (by omega)
      exact j_zret hG hZ dX10_isToken_31 (Nat.zero_le _) (Nat.zero_le _) (nar_zr (by omega)) (⟨by rw [e9]; rfl, rfl⟩)
theorem c_X10_letter {l : Launch} {E : JE} {f : Hp} {tp by0 : Nat} {len st : Int} {g : Int → Int} (h : f tp = oB 9 [.ref by0, .int (iZ (len)), .int (iZ (st)), .int (iZ (tE g len st))]) (hb : f by0 = aI (E.2.1 3) 300 (g)) (hl : 0 ≤ len ∧ len ≤ 300) (hg : bOk g) (hs : 0 ≤ st ∧ st ≤ len) : KX10_letter l E [.ref tp] f (fun v f' => v = some (.int (iZ (letr g len st))) ∧ f = f') := by
  refine ct_of (own := RX10) (lv := [(0, .ref tp)]) (by decide +kernel) rfl (Nat.le_of_ble_eq_true rfl) rfl ?_
  intro G hG hZ
  have q0 := tE_rng (g := g) hs
  refine j_aload_n hG dX10_letter_0 rfl rfl ?_
  refine j_get hG fX10_28 dX10_letter_1 h rfl ?_
  refine j_aload_n hG dX10_letter_4 rfl rfl ?_
  refine j_get hG fX10_34 dX10_letter_5 h rfl ?_
  refine j_isub hG dX10_letter_8 ?_
  refine j_iconst hG dX10_letter_9 ?_
  refine j_icmp_ne (tgt := 39) hG dX10_letter_10 (by decide) (by omega) (by omega) (fun c1 => ?_) (fun c1 => ?_)
  · -- taken at 10
    refine j_iconst hG dX10_letter_39 ?_
    have e9 : letr g len st = -1 := by
      unfold letr
      apply if_neg
      intro q
      first | (have := q.1; omega) | (rcases hX with z | z; (exfalso; omega); (rcases z.2 with z | z; (have := q.2.1; omega); (rw [z] at q; exact absurd q.2.2 (by decide))))
    exact j_iret hG hZ dX10_letter_40 (Nat.zero_le _) (Nat.zero_le _) (⟨by rw [e9], rfl⟩)
  · -- on at 10
    refine j_aload_n hG dX10_letter_13 rfl rfl ?_
    refine j_aload_n hG dX10_letter_14 rfl rfl ?_
    refine j_get hG fX10_34 dX10_letter_15 h rfl ?_
    refine j_callV (rest := []) hG vX10_37 dX10_letter_18 (c_X10_isLetter (i := st) h hb hl hg (by omega)) h rfl rfl (by decide) (by decide) (Nat.le_of_ble_eq_true rfl) rfl rfl (Nat.zero_le _) (Nat.zero_le _) ?_
    rintro _ _ ⟨⟨z2, rfl, hz3⟩, rfl⟩
    refine j_st (st' := [.int (iZ (z2))]) rfl ?_
    refine j_if_eq (tgt := 39) hG dX10_letter_21 (by decide) (by omega) (fun c4 => ?_) (fun c4 => ?_)
    · -- taken at 21
      refine j_iconst hG dX10_letter_39 ?_
      have e9 : letr g len st = -1 := by
        unfold letr
        apply if_neg
        intro q
        first | (have := q.1; omega) | (rcases hz3 with z | z; (exfalso; omega); (rcases z.2 with z | z; (have := q.2.1; omega); (rw [z] at q; exact absurd q.2.2 (by decide))))
      exact j_iret hG hZ dX10_letter_40 (Nat.zero_le _) (Nat.zero_le _) (⟨by rw [e9], rfl⟩)
    · -- on at 21
      refine j_aload_n hG dX10_letter_24 rfl rfl ?_
      refine j_get hG fX10_9 dX10_letter_25 h rfl ?_
      refine j_aload_n hG dX10_letter_28 rfl rfl ?_
      refine j_get hG fX10_34 dX10_letter_29 h rfl ?_
      refine j_cald hG dX10_letter_32 hb (by omega) (by decide) ?_
      refine j_bipush hG dX10_letter_33 (by decide) ?_
      refine j_isub hG dX10_letter_35 ?_
      refine j_goto (tgt := 40) hG dX10_letter_36 (by decide) ?_
      have e9 : letr g len st = g st - 97 := by
        unfold letr
        rcases hz3 with z | z
        · rw [if_pos ⟨by omega, z.2⟩]
        · exfalso; omega
      exact j_iret hG hZ dX10_letter_40 (Nat.zero_le _) (Nat.zero_le _) (⟨by rw [e9], rfl⟩)
theorem advN_all {P : Int → Bool} {len : Int} : ∀ (n : Nat) (p j : Int), p ≤ j → j < advN P len n p → P j = true
  | 0, p, j, h1, h2 => by unfold advN at h2; omega
  | n + 1, p, j, h1, h2 => by
    unfold advN at h2
    split at h2
    · rename_i h
      by_cases e : j = p
      · rw [e]; exact h.2
      · exact advN_all n (p + 1) j (by omega) h2
    · omega
theorem tE_D {g : Int → Int} {len s : Int} (h : s < len) (hD : isD g s = true) : ∀ j, s ≤ j → j < tE g len s → 0 ≤ g j - 48 := by
  intro j h1 h2
  have hL : isL g s = false := by unfold isD at hD; unfold isL; have := of_decide_eq_true hD; exact decide_eq_false (by omega)
  have hj : isD g j = true := by
    by_cases e : j = s
    · rw [e]; exact hD
    · unfold tE at h2
      rw [if_neg (by intro q; rw [hL] at q; exact absurd q.2 (by decide)), if_pos ⟨h, hD⟩] at h2
      exact advN_all _ _ j (by omega) h2
  unfold isD at hj
  have := of_decide_eq_true hj
  omega
theorem dgv_rng : ∀ (l : List Int), (∀ c ∈ l, 0 ≤ c - 48) → 0 ≤ dgv l ∧ dgv l ≤ 1001 := by
  intro l
  have key : ∀ (l : List Int) (v : Int), 0 ≤ v ∧ v ≤ 1001 → (∀ c ∈ l, 0 ≤ c - 48) → 0 ≤ l.foldl (fun v c => min (v * 10 + (c - 48)) 1001) v ∧ l.foldl (fun v c => min (v * 10 + (c - 48)) 1001) v ≤ 1001 := by
    intro l
    induction l with
    | nil => intro v hv _; exact hv
    | cons c l ih =>
      intro v hv h
      have := h c List.mem_cons_self
      exact ih (min (v * 10 + (c - 48)) 1001) (by omega) (fun x hx => h x (List.mem_cons_of_mem _ hx))
  exact key l 0 (by omega)
theorem dgt_rng {g : Int → Int} {len s : Int} : -1 ≤ dgt g len s ∧ dgt g len s ≤ 1001 := by
  unfold dgt
  split
  · rename_i h
    have := dgv_rng (seg g s (tE g len s)) (fun c hc => by obtain ⟨j, j1, j2, rfl⟩ := seg_mem.mp hc; exact tE_D h.1 h.2 j j1 j2)
    omega
  · omega
theorem l_X10_digits {G : JG} {l : Launch} {E : JE} {P : Option Value → Hp → Prop} (hG : jX G l E cX10_digits RX10 3 rmX10_digits) (hZ : jZ G (some .int) P) {tp by0 : Nat} {len st : Int} {g : Int → Int} {f0 : Hp} (hl : 0 ≤ len ∧ len ≤ 300) (hg : bOk g) (hs : 0 ≤ st ∧ st ≤ len) (hP : ∀ f : Hp, f = f0 → P (some (.int (iZ (dgv (seg g st (tE g len st)))))) f) :
    ∀ (d : Nat) (n i : Int) (f : Hp), (h : f tp = oB 9 [.ref by0, .int (iZ (len)), .int (iZ (st)), .int (iZ (tE g len st))]) → (hb : f by0 = aI (E.2.1 3) 300 (g)) → (hi : st ≤ i ∧ i ≤ tE g len st) → (hn : n = dgv (seg g st i)) → (hnr : 0 ≤ n ∧ n ≤ 1001) → (hd : ∀ j, st ≤ j → j < tE g len st → 0 ≤ g j - 48) → (hf : f = f0) → ((tE g len st - i).toNat) < d → J G 0 0 f 20 [(0, .ref tp), (1, .int (iZ (n))), (2, .int (iZ (i)))] [] := by
  intro d
  induction d with
  | zero => intro n i f h hb hi hn hnr hd hf hd9; exfalso; omega
  | succ d ih =>
    intro n i f h hb hi hn hnr hd hf hd9
    refine j_iload_n hG dX10_digits_20 rfl rfl ?_
    refine j_aload_n hG dX10_digits_21 rfl rfl ?_
    refine j_get hG fX10_28 dX10_digits_22 h rfl ?_
    have q0 := tE_rng (g := g) hs
    refine j_icmp_ge (tgt := 55) hG dX10_digits_25 (by decide) (by omega) (by omega) (fun c1 => ?_) (fun c1 => ?_)
    · -- taken at 25
      refine j_iload_n hG dX10_digits_55 rfl rfl ?_
      have q1 := tE_rng (g := g) hs
      have e9 : i = tE g len st := by omega
      rw [e9] at hn
      subst hn
      exact j_iret hG hZ dX10_digits_56 (Nat.zero_le _) (Nat.zero_le _) (hP f hf)
    · -- on at 25
      refine j_iload_n hG dX10_digits_28 rfl rfl ?_
      refine j_bipush hG dX10_digits_29 (by decide) ?_
      refine j_imul hG dX10_digits_31 ?_
      refine j_aload_n hG dX10_digits_32 rfl rfl ?_
      refine j_get hG fX10_9 dX10_digits_33 h rfl ?_
      refine j_iload_n hG dX10_digits_36 rfl rfl ?_
      refine j_cald hG dX10_digits_37 hb (by omega) (by decide) ?_
      have hg9 := hg i
      have hd8 := hd i (by omega) (by omega)
      refine j_bipush hG dX10_digits_38 (by decide) ?_
      refine j_isub hG dX10_digits_40 ?_
      refine j_iadd hG dX10_digits_41 ?_
      refine j_sipush hG dX10_digits_42 (by decide) ?_
      refine j_min hG vX10_19 dX10_digits_45 (by omega) (by omega) (by decide) (by decide) (Nat.le_of_ble_eq_true rfl) (Nat.zero_le _) (Nat.zero_le _) ?_
      refine j_istore_n (lv' := [(0, .ref tp), (1, .int (iZ (min ((n * 10) + ((g i) - 48)) 1001))), (2, .int (iZ (i)))]) hG dX10_digits_48 rfl (by decide) rfl ?_
      refine j_iinc (a := i) (lv' := [(0, .ref tp), (1, .int (iZ (min ((n * 10) + ((g i) - 48)) 1001))), (2, .int (iZ (i + 1)))]) hG dX10_digits_49 rfl (by decide) rfl ?_
      refine j_goto (tgt := 20) hG dX10_digits_52 (by decide) ?_
      exact ih _ (i + 1) f h hb (by omega) (by rw [seg_snoc (by omega), dgv_snoc, hn]) (by omega) hd hf (by omega)
theorem c_X10_digits {l : Launch} {E : JE} {f : Hp} {tp by0 : Nat} {len st : Int} {g : Int → Int} (h : f tp = oB 9 [.ref by0, .int (iZ (len)), .int (iZ (st)), .int (iZ (tE g len st))]) (hb : f by0 = aI (E.2.1 3) 300 (g)) (hl : 0 ≤ len ∧ len ≤ 300) (hg : bOk g) (hs : 0 ≤ st ∧ st ≤ len) : KX10_digits l E [.ref tp] f (fun v f' => v = some (.int (iZ (dgt g len st))) ∧ f = f') := by
  refine ct_of (own := RX10) (lv := [(0, .ref tp)]) (by decide +kernel) rfl (Nat.le_of_ble_eq_true rfl) rfl ?_
  intro G hG hZ
  have q0 := tE_rng (g := g) hs
  refine j_aload_n hG dX10_digits_0 rfl rfl ?_
  refine j_aload_n hG dX10_digits_1 rfl rfl ?_
  refine j_get hG fX10_34 dX10_digits_2 h rfl ?_
  refine j_callV (rest := []) hG vX10_41 dX10_digits_5 (c_X10_isDigit (i := st) h hb hl hg (by omega)) h rfl rfl (by decide) (by decide) (Nat.le_of_ble_eq_true rfl) rfl rfl (Nat.zero_le _) (Nat.zero_le _) ?_
  rintro _ _ ⟨⟨z1, rfl, hz2⟩, rfl⟩
  refine j_st (st' := [.int (iZ (z1))]) rfl ?_
  refine j_if_ne (tgt := 13) hG dX10_digits_8 (by decide) (by omega) (fun c3 => ?_) (fun c3 => ?_)
  · -- taken at 8
    refine j_iconst hG dX10_digits_13 ?_
    refine j_istore_n (lv' := [(0, .ref tp), (1, .int (iZ (0)))]) hG dX10_digits_14 rfl (by decide) rfl ?_
    refine j_aload_n hG dX10_digits_15 rfl rfl ?_
    refine j_get hG fX10_34 dX10_digits_16 h rfl ?_
    refine j_istore_n (lv' := [(0, .ref tp), (1, .int (iZ (0))), (2, .int (iZ (st)))]) hG dX10_digits_19 rfl (by decide) rfl ?_
    have e8 : st < len ∧ isD g st = true := by
      rcases hz2 with z | z
      · exact z.2
      · exfalso; omega
    have e9 : dgt g len st = dgv (seg g st (tE g len st)) := if_pos e8
    exact l_X10_digits (f0 := f) hG hZ hl hg hs (fun f' e => ⟨by rw [e9], e.symm⟩) ((tE g len st - st).toNat + 1) 0 st f h hb (by omega) (by rw [seg_nil (Int.le_refl _)]; rfl) (by omega) (tE_D e8.1 e8.2) rfl (by omega)
  · -- on at 8
    refine j_iconst hG dX10_digits_11 ?_
    have e9 : dgt g len st = -1 := by
      unfold dgt
      apply if_neg
      intro q
      rcases hz2 with z | z
      · omega
      · rcases z.2 with z | z
        · omega
        · rw [z] at q; exact absurd q.2 (by decide)
    exact j_iret hG hZ dX10_digits_12 (Nat.zero_le _) (Nat.zero_le _) (⟨by rw [e9], rfl⟩)
