/-! ===== the grammar ===== -/
theorem nx_rng {g : Int → Int} {len s : Int} (h : 0 ≤ s ∧ s ≤ len) : 0 ≤ nx g len s ∧ nx g len s ≤ len := by
  have a := tE_rng (g := g) h
  have b := tS_rng (g := g) (len := len) (p := tE g len s) (by omega)
  unfold nx; omega
theorem letr_rng {g : Int → Int} {len s : Int} : -1 ≤ letr g len s ∧ letr g len s < 26 := by
  unfold letr
  split
  · rename_i h
    have := h.2.2
    unfold isL at this
    have := of_decide_eq_true this
    omega
  · omega
def nameT (g tl : Int → Int) (len s : Int) : Int := if letr g len s = -1 then -1 else tl (letr g len s)
def wrdB (g : Int → Int) (len s : Int) (i : Nat) : Bool := decide (tE g len s - s = sln i) && (List.range (lenJS.getD i 0)).all (fun k => decide (g (s + k) = chr i k))
theorem wrdB_iff {g : Int → Int} {len s : Int} {i : Nat} : wrdB g len s i = true ↔ wrd g len s i := by
  unfold wrdB wrd
  rw [Bool.and_eq_true, decide_eq_true_eq, List.all_eq_true]
  constructor
  · rintro ⟨h1, h2⟩
    refine ⟨h1, fun k k1 k2 => ?_⟩
    have := h2 k.toNat (List.mem_range.mpr (by unfold sln at k2; omega))
    have := of_decide_eq_true this
    rw [Int.toNat_of_nonneg k1] at this
    exact this
  · rintro ⟨h1, h2⟩
    refine ⟨h1, fun k hk => decide_eq_true (h2 k (by omega) ?_)⟩
    have := List.mem_range.mp hk
    unfold sln; omega
theorem wrdB_f {g : Int → Int} {len s : Int} {i : Nat} (h : ¬ wrd g len s i) : wrdB g len s i = false := by
  cases e : wrdB g len s i with
  | false => rfl
  | true => exact absurd (wrdB_iff.mp e) h
/-- the kind that the TOKEN at s names, of those from i on; -1 -/
def kdFrom (g : Int → Int) (len s : Int) : Nat → Nat → Int
  | 0, _ => -1
  | n + 1, i => if wrdB g len s i = true then (i : Int) else kdFrom g len s n (i + 1)
def kdF (g : Int → Int) (len s : Int) : Int := kdFrom g len s 13 0
def colF (g : Int → Int) (len s : Int) : Int := if wrdB g len s 13 = true then 0 else if wrdB g len s 14 = true then 1 else if wrdB g len s 15 = true then 2 else -1
def relF (g : Int → Int) (len s : Int) : Int := if sgn g len s 60 = true then 60 else if sgn g len s 62 = true then 62 else if sgn g len s 61 = true then 61 else -1
/-- where the digits of a NUMBER begin -/
def nmS (g : Int → Int) (len s : Int) : Int := if sgn g len s 45 = true then nx g len s else s
def nmV (g : Int → Int) (len s : Int) : Int := if sgn g len s 45 = true then -dgt g len (nmS g len s) else dgt g len (nmS g len s)
theorem nmS_rng {g : Int → Int} {len s : Int} (h : 0 ≤ s ∧ s ≤ len) : 0 ≤ nmS g len s ∧ nmS g len s ≤ len := by
  have := nx_rng (g := g) h
  unfold nmS; split <;> omega
theorem c_X4_takeSign {l : Launch} {E : JE} {f : Hp} {pa tp by0 : Nat} {len st c : Int} {g : Int → Int} (h : f tp = oB 9 [.ref by0, .int (iZ (len)), .int (iZ (st)), .int (iZ (tE g len st))]) (hb : f by0 = aI (E.2.1 3) 300 (g)) (hl : 0 ≤ len ∧ len ≤ 300) (hg : bOk g) (hs : 0 ≤ st ∧ st ≤ len) (hc : 0 ≤ c ∧ c < 128) : KX4_takeSign l E [.ref pa, .ref tp, .int (iZ (c))] f (fun v f' => ∃ z p : Int, v = some (.int (iZ z)) ∧ ((z = 1 ∧ sgn g len st c = true ∧ p = nx g len st) ∨ (z = 0 ∧ sgn g len st c = false ∧ st = p)) ∧ f' tp = oB 9 [.ref by0, .int (iZ len), .int (iZ p), .int (iZ (tE g len p))] ∧ ∀ q, q ≠ tp → f' q = f q) := by
  refine ct_of (own := RX4) (lv := [(0, .ref pa), (1, .ref tp), (2, .int (iZ (c)))]) (by decide +kernel) rfl (Nat.le_of_ble_eq_true rfl) rfl ?_
  intro G hG hZ
  have q0 := nx_rng (g := g) hs
  have q1 := tE_rng (g := g) hs
  refine j_aload_n hG dX4_takeSign_0 rfl rfl ?_
  refine j_iload_n hG dX4_takeSign_1 rfl rfl ?_
  refine j_callV (rest := []) hG vX4_159 dX4_takeSign_2 (c_X10_isToken (c := c) h hb hl hg (by omega) (by omega)) h rfl rfl (by decide) (by decide) (Nat.le_of_ble_eq_true rfl) rfl rfl (Nat.zero_le _) (Nat.zero_le _) ?_
  rintro _ _ ⟨rfl, rfl⟩
  refine j_st (st' := [.int (iZ (if sgn g len st c = true then 1 else 0))]) rfl ?_
  refine j_if_ne (tgt := 10) hG dX4_takeSign_5 (by decide) (by split <;> omega) (fun c1 => ?_) (fun c1 => ?_)
  · -- taken at 5
    refine j_aload_n hG dX4_takeSign_10 rfl rfl ?_
    refine j_callV (rest := []) hG vX4_67 dX4_takeSign_11 (c_X10_toNextToken h hb hl hg (by omega)) h rfl rfl (by decide) (by decide) (Nat.le_of_ble_eq_true rfl) rfl rfl (Nat.zero_le _) (Nat.zero_le _) ?_
    rintro _ f4 ⟨rfl, h2, fr3⟩
    refine j_st (st' := []) rfl ?_
    have h2 : f4 tp = oB 9 [.ref by0, .int (iZ (len)), .int (iZ (nx g len st)), .int (iZ (tE g len (nx g len st)))] := h2
    have h5 := (fr3 by0 (h_ne hb h (Ne.symm oa_I))).trans hb
    refine j_iconst hG dX4_takeSign_14 ?_
    have e9 : sgn g len st c = true := by apply Decidable.byContradiction; intro q; rw [if_neg q] at *; omega
    exact j_zret hG hZ dX4_takeSign_15 (Nat.zero_le _) (Nat.zero_le _) (nar_zr (by omega)) (⟨1, _, rfl, Or.inl ⟨rfl, e9, rfl⟩, h2, fun q q1 => (fr3 q q1)⟩)
  · -- on at 5
    refine j_iconst hG dX4_takeSign_8 ?_
    have e9 : sgn g len st c = false := by apply Bool.eq_false_iff.mpr; intro q; rw [if_pos q] at *; omega
    exact j_zret hG hZ dX4_takeSign_9 (Nat.zero_le _) (Nat.zero_le _) (nar_zr (by omega)) (⟨0, st, rfl, Or.inr ⟨rfl, e9, rfl⟩, h, fun _ _ => rfl⟩)
theorem c_X4_takeNewName {l : Launch} {E : JE} {f : Hp} {pa tl0 tp by0 : Nat} {len st : Int} {g tl : Int → Int} (hpa : f pa = oB 4 [.ref tl0]) (htl : f tl0 = aI (E.2.1 0) 26 (tl)) (h : f tp = oB 9 [.ref by0, .int (iZ (len)), .int (iZ (st)), .int (iZ (tE g len st))]) (hb : f by0 = aI (E.2.1 3) 300 (g)) (hl : 0 ≤ len ∧ len ≤ 300) (hg : bOk g) (hs : 0 ≤ st ∧ st ≤ len) (htr : ∀ j, 0 ≤ j → j < 26 → -1 ≤ tl j ∧ tl j < 12) : KX4_takeNewName l E [.ref pa, .ref tp] f (fun v f' => ∃ L p : Int, v = some (.int (iZ L)) ∧ ((L ≠ -1 ∧ 0 ≤ L ∧ L < 26 ∧ letr g len st = L ∧ tl L = -1 ∧ p = nx g len st) ∨ (L = -1 ∧ (letr g len st = -1 ∨ tl (letr g len st) ≠ -1) ∧ st = p)) ∧ f' tp = oB 9 [.ref by0, .int (iZ len), .int (iZ p), .int (iZ (tE g len p))] ∧ ∀ q, q ≠ tp → f' q = f q) := by
  refine ct_of (own := RX4) (lv := [(0, .ref pa), (1, .ref tp)]) (by decide +kernel) rfl (Nat.le_of_ble_eq_true rfl) rfl ?_
  intro G hG hZ
  have q0 := nx_rng (g := g) hs
  have q1 := tE_rng (g := g) hs
  have q2 := letr_rng (g := g) (len := len) (s := st)
  refine j_aload_n hG dX4_takeNewName_0 rfl rfl ?_
  refine j_callV (rest := []) hG vX4_64 dX4_takeNewName_1 (c_X10_letter h hb hl hg (by omega)) h rfl rfl (by decide) (by decide) (Nat.le_of_ble_eq_true rfl) rfl rfl (Nat.zero_le _) (Nat.zero_le _) ?_
  rintro _ _ ⟨rfl, rfl⟩
  refine j_st (st' := [.int (iZ (letr g len st))]) rfl ?_
  refine j_istore_n (lv' := [(0, .ref pa), (1, .ref tp), (2, .int (iZ (letr g len st)))]) hG dX4_takeNewName_4 rfl (by decide) rfl ?_
  refine j_iload_n hG dX4_takeNewName_5 rfl rfl ?_
  refine j_iconst hG dX4_takeNewName_6 ?_
  refine j_icmp_eq (tgt := 20) hG dX4_takeNewName_7 (by decide) (by omega) (by omega) (fun c1 => ?_) (fun c1 => ?_)
  · -- taken at 7
    refine j_iconst hG dX4_takeNewName_20 ?_
    exact j_iret hG hZ dX4_takeNewName_21 (Nat.zero_le _) (Nat.zero_le _) (⟨-1, st, rfl, Or.inr ⟨rfl, by first | exact Or.inl (by omega) | exact Or.inr (by omega), rfl⟩, h, fun _ _ => rfl⟩)
  · -- on at 7
    refine j_aload_n hG dX4_takeNewName_10 rfl rfl ?_
    refine j_get hG fX4_9 dX4_takeNewName_11 hpa rfl ?_
    refine j_iload_n hG dX4_takeNewName_14 rfl rfl ?_
    refine j_iald hG dX4_takeNewName_15 htl (by omega) (by decide) ?_
    refine j_iconst hG dX4_takeNewName_16 ?_
    have t9 := htr (letr g len st) (by omega) (by omega)
    refine j_icmp_eq (tgt := 22) hG dX4_takeNewName_17 (by decide) (by omega) (by omega) (fun c2 => ?_) (fun c2 => ?_)
    · -- taken at 17
      refine j_aload_n hG dX4_takeNewName_22 rfl rfl ?_
      refine j_callV (rest := []) hG vX4_67 dX4_takeNewName_23 (c_X10_toNextToken h hb hl hg (by omega)) h rfl rfl (by decide) (by decide) (Nat.le_of_ble_eq_true rfl) rfl rfl (Nat.zero_le _) (Nat.zero_le _) ?_
      rintro _ f5 ⟨rfl, h3, fr4⟩
      refine j_st (st' := []) rfl ?_
      have h3 : f5 tp = oB 9 [.ref by0, .int (iZ (len)), .int (iZ (nx g len st)), .int (iZ (tE g len (nx g len st)))] := h3
      have h6 := (fr4 pa (h_ne hpa h (oo_n (by decide)))).trans hpa
      have h7 := (fr4 tl0 (h_ne htl h (Ne.symm oa_I))).trans htl
      have h8 := (fr4 by0 (h_ne hb h (Ne.symm oa_I))).trans hb
      refine j_iload_n hG dX4_takeNewName_26 rfl rfl ?_
      exact j_iret hG hZ dX4_takeNewName_27 (Nat.zero_le _) (Nat.zero_le _) (⟨_, _, rfl, Or.inl ⟨by omega, by omega, by omega, rfl, by omega, rfl⟩, h3, fun q q1 => (fr4 q q1)⟩)
    · -- on at 17
      refine j_iconst hG dX4_takeNewName_20 ?_
      exact j_iret hG hZ dX4_takeNewName_21 (Nat.zero_le _) (Nat.zero_le _) (⟨-1, st, rfl, Or.inr ⟨rfl, by first | exact Or.inl (by omega) | exact Or.inr (by omega), rfl⟩, h, fun _ _ => rfl⟩)
theorem c_X4_takeName {l : Launch} {E : JE} {f : Hp} {pa tl0 tp by0 : Nat} {len st : Int} {g tl : Int → Int} (hpa : f pa = oB 4 [.ref tl0]) (htl : f tl0 = aI (E.2.1 0) 26 (tl)) (h : f tp = oB 9 [.ref by0, .int (iZ (len)), .int (iZ (st)), .int (iZ (tE g len st))]) (hb : f by0 = aI (E.2.1 3) 300 (g)) (hl : 0 ≤ len ∧ len ≤ 300) (hg : bOk g) (hs : 0 ≤ st ∧ st ≤ len) (htr : ∀ j, 0 ≤ j → j < 26 → -1 ≤ tl j ∧ tl j < 12) : KX4_takeName l E [.ref pa, .ref tp] f (fun v f' => ∃ p : Int, v = some (.int (iZ (nameT g tl len st))) ∧ ((nameT g tl len st ≠ -1 ∧ p = nx g len st) ∨ (nameT g tl len st = -1 ∧ st = p)) ∧ (-1 ≤ nameT g tl len st ∧ nameT g tl len st < 12) ∧ f' tp = oB 9 [.ref by0, .int (iZ len), .int (iZ p), .int (iZ (tE g len p))] ∧ ∀ q, q ≠ tp → f' q = f q) := by
  refine ct_of (own := RX4) (lv := [(0, .ref pa), (1, .ref tp)]) (by decide +kernel) rfl (Nat.le_of_ble_eq_true rfl) rfl ?_
  intro G hG hZ
  have q0 := nx_rng (g := g) hs
  have q1 := tE_rng (g := g) hs
  have q2 := letr_rng (g := g) (len := len) (s := st)
  refine j_aload_n hG dX4_takeName_0 rfl rfl ?_
  refine j_callV (rest := []) hG vX4_64 dX4_takeName_1 (c_X10_letter h hb hl hg (by omega)) h rfl rfl (by decide) (by decide) (Nat.le_of_ble_eq_true rfl) rfl rfl (Nat.zero_le _) (Nat.zero_le _) ?_
  rintro _ _ ⟨rfl, rfl⟩
  refine j_st (st' := [.int (iZ (letr g len st))]) rfl ?_
  refine j_istore_n (lv' := [(0, .ref pa), (1, .ref tp), (2, .int (iZ (letr g len st)))]) hG dX4_takeName_4 rfl (by decide) rfl ?_
  refine j_iload_n hG dX4_takeName_5 rfl rfl ?_
  refine j_iconst hG dX4_takeName_6 ?_
  refine j_icmp_ne (tgt := 14) hG dX4_takeName_7 (by decide) (by omega) (by omega) (fun c1 => ?_) (fun c1 => ?_)
  · -- taken at 7
    have t9 := htr (letr g len st) (by omega) (by omega)
    refine j_aload_n hG dX4_takeName_14 rfl rfl ?_
    refine j_get hG fX4_9 dX4_takeName_15 hpa rfl ?_
    refine j_iload_n hG dX4_takeName_18 rfl rfl ?_
    refine j_iald hG dX4_takeName_19 htl (by omega) (by decide) ?_
    refine j_istore_n (lv' := [(0, .ref pa), (1, .ref tp), (2, .int (iZ (letr g len st))), (3, .int (iZ (tl (letr g len st))))]) hG dX4_takeName_20 rfl (by decide) rfl ?_
    have n9 : nameT g tl len st = tl (letr g len st) := by unfold nameT; first | rw [if_pos (by omega)] | rw [if_neg (by omega)]
    refine j_iload_n hG dX4_takeName_21 rfl rfl ?_
    refine j_iconst hG dX4_takeName_22 ?_
    refine j_icmp_eq (tgt := 30) hG dX4_takeName_23 (by decide) (by omega) (by omega) (fun c2 => ?_) (fun c2 => ?_)
    · -- taken at 23
      refine j_iload_n hG dX4_takeName_30 rfl rfl ?_
      exact j_iret hG hZ dX4_takeName_31 (Nat.zero_le _) (Nat.zero_le _) (⟨st, by rw [n9], Or.inr ⟨by omega, rfl⟩, by omega, h, fun _ _ => rfl⟩)
    · -- on at 23
      refine j_aload_n hG dX4_takeName_26 rfl rfl ?_
      refine j_callV (rest := []) hG vX4_67 dX4_takeName_27 (c_X10_toNextToken h hb hl hg (by omega)) h rfl rfl (by decide) (by decide) (Nat.le_of_ble_eq_true rfl) rfl rfl (Nat.zero_le _) (Nat.zero_le _) ?_
      rintro _ f5 ⟨rfl, h3, fr4⟩
      refine j_st (st' := []) rfl ?_
      have h3 : f5 tp = oB 9 [.ref by0, .int (iZ (len)), .int (iZ (nx g len st)), .int (iZ (tE g len (nx g len st)))] := h3
      have h6 := (fr4 pa (h_ne hpa h (oo_n (by decide)))).trans hpa
      have h7 := (fr4 tl0 (h_ne htl h (Ne.symm oa_I))).trans htl
      have h8 := (fr4 by0 (h_ne hb h (Ne.symm oa_I))).trans hb
      refine j_iload_n hG dX4_takeName_30 rfl rfl ?_
      exact j_iret hG hZ dX4_takeName_31 (Nat.zero_le _) (Nat.zero_le _) (⟨_, by rw [n9], Or.inl ⟨by omega, rfl⟩, by omega, h3, fun q q1 => (fr4 q q1)⟩)
  · -- on at 7
    refine j_iconst hG dX4_takeName_10 ?_
    refine j_goto (tgt := 20) hG dX4_takeName_11 (by decide) ?_
    refine j_istore_n (lv' := [(0, .ref pa), (1, .ref tp), (2, .int (iZ (letr g len st))), (3, .int (iZ (-1)))]) hG dX4_takeName_20 rfl (by decide) rfl ?_
    have n9 : nameT g tl len st = -1 := by unfold nameT; first | rw [if_pos (by omega)] | rw [if_neg (by omega)]
    refine j_iload_n hG dX4_takeName_21 rfl rfl ?_
    refine j_iconst hG dX4_takeName_22 ?_
    refine j_icmp_eq (tgt := 30) hG dX4_takeName_23 (by decide) (by omega) (by omega) (fun c9 => ?_) (fun c9 => ?_)
    · -- taken at 23
      refine j_iload_n hG dX4_takeName_30 rfl rfl ?_
      exact j_iret hG hZ dX4_takeName_31 (Nat.zero_le _) (Nat.zero_le _) (⟨st, by rw [n9], Or.inr ⟨by omega, rfl⟩, by omega, h, fun _ _ => rfl⟩)
    · -- on at 23
      exfalso; omega
theorem c_X4_takeLeft {l : Launch} {E : JE} {f : Hp} {pa tl0 tp by0 : Nat} {len st : Int} {g tl : Int → Int} {mg : Nat} {a0 a1 a2 a3 a4 a5 : Int} (hpa : f pa = oB 4 [.ref tl0]) (htl : f tl0 = aI (E.2.1 0) 26 (tl)) (h : f tp = oB 9 [.ref by0, .int (iZ (len)), .int (iZ (st)), .int (iZ (tE g len st))]) (hb : f by0 = aI (E.2.1 3) 300 (g)) (hmg : f mg = oB 3 [.int (iZ (a0)), .int (iZ (a1)), .int (iZ (a2)), .int (iZ (a3)), .int (iZ (a4)), .int (iZ (a5))]) (hl : 0 ≤ len ∧ len ≤ 300) (hg : bOk g) (hs : 0 ≤ st ∧ st ≤ len) (htr : ∀ j, 0 ≤ j → j < 26 → -1 ≤ tl j ∧ tl j < 12) : KX4_takeLeft l E [.ref pa, .ref tp, .ref mg] f (fun v f' => ∃ z p : Int, v = some (.int (iZ z)) ∧ ((z = 1 ∧ nameT g tl len st ≠ -1 ∧ p = nx g len st) ∨ (z = 0 ∧ nameT g tl len st = -1 ∧ st = p)) ∧ f' tp = oB 9 [.ref by0, .int (iZ len), .int (iZ p), .int (iZ (tE g len p))] ∧ f' mg = oB 3 [.int (iZ a0), .int (iZ (nameT g tl len st)), .int (iZ a2), .int (iZ a3), .int (iZ a4), .int (iZ a5)] ∧ ∀ q, q ≠ tp → q ≠ mg → f' q = f q) := by
  refine ct_of (own := RX4) (lv := [(0, .ref pa), (1, .ref tp), (2, .ref mg)]) (by decide +kernel) rfl (Nat.le_of_ble_eq_true rfl) rfl ?_
  intro G hG hZ
  have q0 := nx_rng (g := g) hs
  refine j_aload_n hG dX4_takeLeft_0 rfl rfl ?_
  refine j_aload_n hG dX4_takeLeft_1 rfl rfl ?_
  refine j_aload_n hG dX4_takeLeft_2 rfl rfl ?_
  refine j_callV (rest := [.ref mg]) hG vX4_127 dX4_takeLeft_3 (c_X4_takeName hpa htl h hb hl hg (by omega) htr) hpa rfl rfl (by decide) (by decide) (Nat.le_of_ble_eq_true rfl) rfl rfl (Nat.zero_le _) (Nat.zero_le _) ?_
  rintro _ f6 ⟨p1, rfl, hq2, hr3, ht4, fr5⟩
  refine j_st (st' := [.int (iZ (nameT g tl len st)), .ref mg]) rfl ?_
  have h7 := (fr5 pa (h_ne hpa h (oo_n (by decide)))).trans hpa
  have h8 := (fr5 tl0 (h_ne htl h (Ne.symm oa_I))).trans htl
  have h9 := (fr5 by0 (h_ne hb h (Ne.symm oa_I))).trans hb
  have h10 := (fr5 mg (h_ne hmg h (oo_n (by decide)))).trans hmg
  refine j_put hG pX4_130 dX4_takeLeft_6 h10 rfl rfl (Nat.le_of_ble_eq_true rfl) (fun f11 h12 fr13 => ?_)
  have h12 : f11 mg = oB 3 [.int (iZ (a0)), .int (iZ (nameT g tl len st)), .int (iZ (a2)), .int (iZ (a3)), .int (iZ (a4)), .int (iZ (a5))] := h12
  have h14 := (fr13 pa (h_ne h7 h10 (oo_n (by decide)))).trans h7
  have h15 := (fr13 tl0 (h_ne h8 h10 (Ne.symm oa_I))).trans h8
  have h16 := (fr13 by0 (h_ne h9 h10 (Ne.symm oa_I))).trans h9
  have h17 := (fr13 tp (h_ne ht4 h10 (oo_n (by decide)))).trans ht4
  refine j_aload_n hG dX4_takeLeft_9 rfl rfl ?_
  refine j_get hG fX4_130 dX4_takeLeft_10 h12 rfl ?_
  refine j_iconst hG dX4_takeLeft_13 ?_
  refine j_icmp_eq (tgt := 21) hG dX4_takeLeft_14 (by decide) (by omega) (by omega) (fun c18 => ?_) (fun c18 => ?_)
  · -- taken at 14
    refine j_iconst hG dX4_takeLeft_21 ?_
    exact j_zret hG hZ dX4_takeLeft_22 (Nat.zero_le _) (Nat.zero_le _) (nar_zr (by omega)) (⟨_, _, rfl, by rcases hq2 with q | q; (first | exact Or.inl ⟨rfl, q⟩ | (exfalso; omega)); (first | exact Or.inr ⟨rfl, q⟩ | (exfalso; omega)), h17, h12, fun q q1 q2 => (Eq.trans (fr13 q q2) (fr5 q q1))⟩)
  · -- on at 14
    refine j_iconst hG dX4_takeLeft_17 ?_
    refine j_goto (tgt := 22) hG dX4_takeLeft_18 (by decide) ?_
    exact j_zret hG hZ dX4_takeLeft_22 (Nat.zero_le _) (Nat.zero_le _) (nar_zr (by omega)) (⟨_, _, rfl, by rcases hq2 with q | q; (first | exact Or.inl ⟨rfl, q⟩ | (exfalso; omega)); (first | exact Or.inr ⟨rfl, q⟩ | (exfalso; omega)), h17, h12, fun q q1 q2 => (Eq.trans (fr13 q q2) (fr5 q q1))⟩)
theorem c_X4_takeRight {l : Launch} {E : JE} {f : Hp} {pa tl0 tp by0 : Nat} {len st : Int} {g tl : Int → Int} {mg : Nat} {a0 a1 a2 a3 a4 a5 : Int} (hpa : f pa = oB 4 [.ref tl0]) (htl : f tl0 = aI (E.2.1 0) 26 (tl)) (h : f tp = oB 9 [.ref by0, .int (iZ (len)), .int (iZ (st)), .int (iZ (tE g len st))]) (hb : f by0 = aI (E.2.1 3) 300 (g)) (hmg : f mg = oB 3 [.int (iZ (a0)), .int (iZ (a1)), .int (iZ (a2)), .int (iZ (a3)), .int (iZ (a4)), .int (iZ (a5))]) (hl : 0 ≤ len ∧ len ≤ 300) (hg : bOk g) (hs : 0 ≤ st ∧ st ≤ len) (htr : ∀ j, 0 ≤ j → j < 26 → -1 ≤ tl j ∧ tl j < 12) : KX4_takeRight l E [.ref pa, .ref tp, .ref mg] f (fun v f' => ∃ z p : Int, v = some (.int (iZ z)) ∧ ((z = 1 ∧ nameT g tl len st ≠ -1 ∧ p = nx g len st) ∨ (z = 0 ∧ nameT g tl len st = -1 ∧ st = p)) ∧ f' tp = oB 9 [.ref by0, .int (iZ len), .int (iZ p), .int (iZ (tE g len p))] ∧ f' mg = oB 3 [.int (iZ a0), .int (iZ a1), .int (iZ (nameT g tl len st)), .int (iZ a3), .int (iZ a4), .int (iZ a5)] ∧ ∀ q, q ≠ tp → q ≠ mg → f' q = f q) := by
  refine ct_of (own := RX4) (lv := [(0, .ref pa), (1, .ref tp), (2, .ref mg)]) (by decide +kernel) rfl (Nat.le_of_ble_eq_true rfl) rfl ?_
  intro G hG hZ
  have q0 := nx_rng (g := g) hs
  refine j_aload_n hG dX4_takeRight_0 rfl rfl ?_
  refine j_aload_n hG dX4_takeRight_1 rfl rfl ?_
  refine j_aload_n hG dX4_takeRight_2 rfl rfl ?_
  refine j_callV (rest := [.ref mg]) hG vX4_127 dX4_takeRight_3 (c_X4_takeName hpa htl h hb hl hg (by omega) htr) hpa rfl rfl (by decide) (by decide) (Nat.le_of_ble_eq_true rfl) rfl rfl (Nat.zero_le _) (Nat.zero_le _) ?_
  rintro _ f6 ⟨p1, rfl, hq2, hr3, ht4, fr5⟩
  refine j_st (st' := [.int (iZ (nameT g tl len st)), .ref mg]) rfl ?_
  have h7 := (fr5 pa (h_ne hpa h (oo_n (by decide)))).trans hpa
  have h8 := (fr5 tl0 (h_ne htl h (Ne.symm oa_I))).trans htl
  have h9 := (fr5 by0 (h_ne hb h (Ne.symm oa_I))).trans hb
  have h10 := (fr5 mg (h_ne hmg h (oo_n (by decide)))).trans hmg
  refine j_put hG pX4_133 dX4_takeRight_6 h10 rfl rfl (Nat.le_of_ble_eq_true rfl) (fun f11 h12 fr13 => ?_)
  have h12 : f11 mg = oB 3 [.int (iZ (a0)), .int (iZ (a1)), .int (iZ (nameT g tl len st)), .int (iZ (a3)), .int (iZ (a4)), .int (iZ (a5))] := h12
  have h14 := (fr13 pa (h_ne h7 h10 (oo_n (by decide)))).trans h7
  have h15 := (fr13 tl0 (h_ne h8 h10 (Ne.symm oa_I))).trans h8
  have h16 := (fr13 by0 (h_ne h9 h10 (Ne.symm oa_I))).trans h9
  have h17 := (fr13 tp (h_ne ht4 h10 (oo_n (by decide)))).trans ht4
  refine j_aload_n hG dX4_takeRight_9 rfl rfl ?_
  refine j_get hG fX4_133 dX4_takeRight_10 h12 rfl ?_
  refine j_iconst hG dX4_takeRight_13 ?_
  refine j_icmp_eq (tgt := 21) hG dX4_takeRight_14 (by decide) (by omega) (by omega) (fun c18 => ?_) (fun c18 => ?_)
  · -- taken at 14
    refine j_iconst hG dX4_takeRight_21 ?_
    exact j_zret hG hZ dX4_takeRight_22 (Nat.zero_le _) (Nat.zero_le _) (nar_zr (by omega)) (⟨_, _, rfl, by rcases hq2 with q | q; (first | exact Or.inl ⟨rfl, q⟩ | (exfalso; omega)); (first | exact Or.inr ⟨rfl, q⟩ | (exfalso; omega)), h17, h12, fun q q1 q2 => (Eq.trans (fr13 q q2) (fr5 q q1))⟩)
  · -- on at 14
    refine j_iconst hG dX4_takeRight_17 ?_
    refine j_goto (tgt := 22) hG dX4_takeRight_18 (by decide) ?_
    exact j_zret hG hZ dX4_takeRight_22 (Nat.zero_le _) (Nat.zero_le _) (nar_zr (by omega)) (⟨_, _, rfl, by rcases hq2 with q | q; (first | exact Or.inl ⟨rfl, q⟩ | (exfalso; omega)); (first | exact Or.inr ⟨rfl, q⟩ | (exfalso; omega)), h17, h12, fun q q1 q2 => (Eq.trans (fr13 q q2) (fr5 q q1))⟩)
theorem c_X4_takeDigits {l : Launch} {E : JE} {f : Hp} {pa tp by0 : Nat} {len st : Int} {g : Int → Int} {mg : Nat} {a0 a1 a2 a3 a4 a5 : Int} {lo hi : Int} (h : f tp = oB 9 [.ref by0, .int (iZ (len)), .int (iZ (st)), .int (iZ (tE g len st))]) (hb : f by0 = aI (E.2.1 3) 300 (g)) (hmg : f mg = oB 3 [.int (iZ (a0)), .int (iZ (a1)), .int (iZ (a2)), .int (iZ (a3)), .int (iZ (a4)), .int (iZ (a5))]) (hl : 0 ≤ len ∧ len ≤ 300) (hg : bOk g) (hs : 0 ≤ st ∧ st ≤ len) (hlo : 0 ≤ lo ∧ lo ≤ 1000) (hhi : 0 ≤ hi ∧ hi ≤ 1000) : KX4_takeDigits l E [.ref pa, .ref tp, .ref mg, .int (iZ (lo)), .int (iZ (hi))] f (fun v f' => ∃ z p u : Int, v = some (.int (iZ z)) ∧ ((z = 1 ∧ (lo ≤ dgt g len st ∧ dgt g len st ≤ hi) ∧ p = nx g len st ∧ u = dgt g len st) ∨ (z = 0 ∧ ¬ (lo ≤ dgt g len st ∧ dgt g len st ≤ hi) ∧ st = p ∧ a5 = u)) ∧ f' tp = oB 9 [.ref by0, .int (iZ len), .int (iZ p), .int (iZ (tE g len p))] ∧ f' mg = oB 3 [.int (iZ a0), .int (iZ a1), .int (iZ a2), .int (iZ a3), .int (iZ a4), .int (iZ u)] ∧ ∀ q, q ≠ tp → q ≠ mg → f' q = f q) := by
  refine ct_of (own := RX4) (lv := [(0, .ref pa), (1, .ref tp), (2, .ref mg), (3, .int (iZ (lo))), (4, .int (iZ (hi)))]) (by decide +kernel) rfl (Nat.le_of_ble_eq_true rfl) rfl ?_
  intro G hG hZ
  have q0 := nx_rng (g := g) hs
  have q1 := tE_rng (g := g) hs
  have q2 := dgt_rng (g := g) (len := len) (s := st)
  refine j_aload_n hG dX4_takeDigits_0 rfl rfl ?_
  refine j_callV (rest := []) hG vX4_152 dX4_takeDigits_1 (c_X10_digits h hb hl hg (by omega)) h rfl rfl (by decide) (by decide) (Nat.le_of_ble_eq_true rfl) rfl rfl (Nat.zero_le _) (Nat.zero_le _) ?_
  rintro _ _ ⟨rfl, rfl⟩
  refine j_st (st' := [.int (iZ (dgt g len st))]) rfl ?_
  refine j_istore (lv' := [(0, .ref pa), (1, .ref tp), (2, .ref mg), (3, .int (iZ (lo))), (4, .int (iZ (hi))), (5, .int (iZ (dgt g len st)))]) hG dX4_takeDigits_4 (by decide) rfl ?_
  refine j_iload hG dX4_takeDigits_6 rfl ?_
  refine j_iconst hG dX4_takeDigits_8 ?_
  refine j_icmp_eq (tgt := 23) hG dX4_takeDigits_9 (by decide) (by omega) (by omega) (fun c1 => ?_) (fun c1 => ?_)
  · -- taken at 9
    refine j_iconst hG dX4_takeDigits_23 ?_
    exact j_zret hG hZ dX4_takeDigits_24 (Nat.zero_le _) (Nat.zero_le _) (nar_zr (by omega)) (⟨0, st, a5, rfl, Or.inr ⟨rfl, by omega, rfl, rfl⟩, h, hmg, fun _ _ _ => rfl⟩)
  · -- on at 9
    refine j_iload hG dX4_takeDigits_12 rfl ?_
    refine j_iload_n hG dX4_takeDigits_14 rfl rfl ?_
    refine j_iload hG dX4_takeDigits_15 rfl ?_
    refine j_callSN (rest := []) hG vX4_155 dX4_takeDigits_17 (c_X11_isWithin (a := dgt g len st) (lo := lo) (hi := hi) (by omega) (by omega) (by omega)) rfl rfl (by decide) (by decide) (Nat.le_of_ble_eq_true rfl) rfl rfl (Nat.zero_le _) (Nat.zero_le _) ?_
    rintro _ _ ⟨⟨b2, rfl, hb3⟩, rfl⟩
    refine j_st (st' := [.int (iZ (b2))]) rfl ?_
    refine j_if_ne (tgt := 25) hG dX4_takeDigits_20 (by decide) (by omega) (fun c4 => ?_) (fun c4 => ?_)
    · -- taken at 20
      refine j_aload_n hG dX4_takeDigits_25 rfl rfl ?_
      refine j_iload hG dX4_takeDigits_26 rfl ?_
      refine j_put hG pX4_149 dX4_takeDigits_28 hmg rfl rfl (Nat.le_of_ble_eq_true rfl) (fun f5 h6 fr7 => ?_)
      have h6 : f5 mg = oB 3 [.int (iZ (a0)), .int (iZ (a1)), .int (iZ (a2)), .int (iZ (a3)), .int (iZ (a4)), .int (iZ (dgt g len st))] := h6
      have h8 := (fr7 tp (h_ne h hmg (oo_n (by decide)))).trans h
      have h9 := (fr7 by0 (h_ne hb hmg (Ne.symm oa_I))).trans hb
      refine j_aload_n hG dX4_takeDigits_31 rfl rfl ?_
      refine j_callV (rest := []) hG vX4_67 dX4_takeDigits_32 (c_X10_toNextToken h8 h9 hl hg (by omega)) h8 rfl rfl (by decide) (by decide) (Nat.le_of_ble_eq_true rfl) rfl rfl (Nat.zero_le _) (Nat.zero_le _) ?_
      rintro _ f12 ⟨rfl, h10, fr11⟩
      refine j_st (st' := []) rfl ?_
      have h10 : f12 tp = oB 9 [.ref by0, .int (iZ (len)), .int (iZ (nx g len st)), .int (iZ (tE g len (nx g len st)))] := h10
      have h13 := (fr11 by0 (h_ne h9 h8 (Ne.symm oa_I))).trans h9
      have h14 := (fr11 mg (h_ne h6 h8 (oo_n (by decide)))).trans h6
      refine j_iconst hG dX4_takeDigits_35 ?_
      exact j_zret hG hZ dX4_takeDigits_36 (Nat.zero_le _) (Nat.zero_le _) (nar_zr (by omega)) (⟨1, _, _, rfl, Or.inl ⟨rfl, by omega, rfl, rfl⟩, h10, h14, fun q q1 q2 => (Eq.trans (fr11 q q1) (fr7 q q2))⟩)
    · -- on at 20
      refine j_iconst hG dX4_takeDigits_23 ?_
      exact j_zret hG hZ dX4_takeDigits_24 (Nat.zero_le _) (Nat.zero_le _) (nar_zr (by omega)) (⟨0, st, a5, rfl, Or.inr ⟨rfl, by omega, rfl, rfl⟩, h, hmg, fun _ _ _ => rfl⟩)
theorem c_X4_takeNumber {l : Launch} {E : JE} {f : Hp} {pa tl0 tp by0 : Nat} {len st : Int} {g : Int → Int} {mg : Nat} {a0 a1 a2 a3 a4 a5 : Int} (hpa : f pa = oB 4 [.ref tl0]) (h : f tp = oB 9 [.ref by0, .int (iZ (len)), .int (iZ (st)), .int (iZ (tE g len st))]) (hb : f by0 = aI (E.2.1 3) 300 (g)) (hmg : f mg = oB 3 [.int (iZ (a0)), .int (iZ (a1)), .int (iZ (a2)), .int (iZ (a3)), .int (iZ (a4)), .int (iZ (a5))]) (hl : 0 ≤ len ∧ len ≤ 300) (hg : bOk g) (hs : 0 ≤ st ∧ st ≤ len) : KX4_takeNumber l E [.ref pa, .ref tp, .ref mg] f (fun v f' => ∃ z p u : Int, v = some (.int (iZ z)) ∧ ((z = 1 ∧ (0 ≤ dgt g len (nmS g len st) ∧ dgt g len (nmS g len st) ≤ 1000) ∧ p = nx g len (nmS g len st) ∧ u = nmV g len st) ∨ (z = 0 ∧ ¬ (0 ≤ dgt g len (nmS g len st) ∧ dgt g len (nmS g len st) ≤ 1000) ∧ p = nmS g len st ∧ a5 = u)) ∧ f' tp = oB 9 [.ref by0, .int (iZ len), .int (iZ p), .int (iZ (tE g len p))] ∧ f' mg = oB 3 [.int (iZ a0), .int (iZ a1), .int (iZ a2), .int (iZ a3), .int (iZ a4), .int (iZ u)] ∧ ∀ q, q ≠ tp → q ≠ mg → f' q = f q) := by
  refine ct_of (own := RX4) (lv := [(0, .ref pa), (1, .ref tp), (2, .ref mg)]) (by decide +kernel) rfl (Nat.le_of_ble_eq_true rfl) rfl ?_
  intro G hG hZ
  have q0 := nx_rng (g := g) hs
  refine j_aload_n hG dX4_takeNumber_0 rfl rfl ?_
  refine j_aload_n hG dX4_takeNumber_1 rfl rfl ?_
  refine j_bipush hG dX4_takeNumber_2 (by decide) ?_
  refine j_callV (rest := []) hG vX4_42 dX4_takeNumber_4 (c_X4_takeSign (c := 45) h hb hl hg (by omega) (by omega)) hpa rfl rfl (by decide) (by decide) (Nat.le_of_ble_eq_true rfl) rfl rfl (Nat.zero_le _) (Nat.zero_le _) ?_
  rintro _ f8 ⟨z1, p2, rfl, hq3, ht4, fr5⟩
  refine j_st (st' := [.int (iZ (z1))]) rfl ?_
  have h9 := (fr5 pa (h_ne hpa h (oo_n (by decide)))).trans hpa
  have h10 := (fr5 by0 (h_ne hb h (Ne.symm oa_I))).trans hb
  have h11 := (fr5 mg (h_ne hmg h (oo_n (by decide)))).trans hmg
  refine j_istore_n (lv' := [(0, .ref pa), (1, .ref tp), (2, .ref mg), (3, .int (iZ (z1)))]) hG dX4_takeNumber_7 rfl (by decide) rfl ?_
  have n9 : nmS g len st = p2 := by
    unfold nmS; rcases hq3 with q | q
    · rw [if_pos q.2.1]; exact q.2.2.symm
    · rw [if_neg (by rw [q.2.1]; decide)]; exact q.2.2
  have n8 := nmS_rng (g := g) hs
  rw [n9] at n8
  have n7 := nx_rng (g := g) n8
  have n6 := dgt_rng (g := g) (len := len) (s := p2)
  refine j_aload_n hG dX4_takeNumber_8 rfl rfl ?_
  refine j_aload_n hG dX4_takeNumber_9 rfl rfl ?_
  refine j_aload_n hG dX4_takeNumber_10 rfl rfl ?_
  refine j_iconst hG dX4_takeNumber_11 ?_
  refine j_sipush hG dX4_takeNumber_12 (by decide) ?_
  refine j_callV (rest := []) hG vX4_108 dX4_takeNumber_15 (c_X4_takeDigits (lo := 0) (hi := 1000) ht4 h10 h11 hl hg (by omega) (by omega) (by omega)) h9 rfl rfl (by decide) (by decide) (Nat.le_of_ble_eq_true rfl) rfl rfl (Nat.zero_le _) (Nat.zero_le _) ?_
  rintro _ f21 ⟨z12, p13, u14, rfl, hq15, ht16, hm17, fr18⟩
  refine j_st (st' := [.int (iZ (z12))]) rfl ?_
  have h22 := (fr18 pa (h_ne h9 ht4 (oo_n (by decide))) (h_ne h9 h11 (oo_n (by decide)))).trans h9
  have h23 := (fr18 by0 (h_ne h10 ht4 (Ne.symm oa_I)) (h_ne h10 h11 (Ne.symm oa_I))).trans h10
  refine j_if_ne (tgt := 23) hG dX4_takeNumber_18 (by decide) (by omega) (fun c24 => ?_) (fun c24 => ?_)
  · -- taken at 18
    obtain ⟨-, e19, rfl, rfl⟩ := hq15.resolve_right (fun h => absurd h.1 (by omega))
    refine j_iload_n hG dX4_takeNumber_23 rfl rfl ?_
    refine j_if_eq (tgt := 36) hG dX4_takeNumber_24 (by decide) (by rcases hq3 with q | q <;> (have := q.1; omega)) (fun c25 => ?_) (fun c25 => ?_)
    · -- taken at 24
      refine j_iconst hG dX4_takeNumber_36 ?_
      have m9 : nmV g len st = dgt g len p2 := by
        unfold nmV; rw [n9]; rcases hq3 with q | q
        · first | (exfalso; have := q.1; omega) | (rw [if_pos q.2.1])
        · first | (exfalso; have := q.1; omega) | (rw [if_neg (by rw [q.2.1]; decide)])
      exact j_zret hG hZ dX4_takeNumber_37 (Nat.zero_le _) (Nat.zero_le _) (nar_zr (by omega)) (⟨1, _, _, rfl, Or.inl ⟨rfl, by rw [n9]; omega, by rw [n9], m9.symm⟩, ht16, hm17, fun q q1 q2 => (Eq.trans (fr18 q q1 q2) (fr5 q q1))⟩)
    · -- on at 24
      refine j_aload_n hG dX4_takeNumber_27 rfl rfl ?_
      refine j_aload_n hG dX4_takeNumber_28 rfl rfl ?_
      refine j_get hG fX4_149 dX4_takeNumber_29 hm17 rfl ?_
      refine j_ineg hG dX4_takeNumber_32 ?_
      refine j_put hG pX4_149 dX4_takeNumber_33 hm17 rfl rfl (Nat.le_of_ble_eq_true rfl) (fun f26 h27 fr28 => ?_)
      have h27 : f26 mg = oB 3 [.int (iZ (a0)), .int (iZ (a1)), .int (iZ (a2)), .int (iZ (a3)), .int (iZ (a4)), .int (iZ (-(dgt g len p2)))] := h27
      have h29 := (fr28 pa (h_ne h22 hm17 (oo_n (by decide)))).trans h22
      have h30 := (fr28 by0 (h_ne h23 hm17 (Ne.symm oa_I))).trans h23
      have h31 := (fr28 tp (h_ne ht16 hm17 (oo_n (by decide)))).trans ht16
      refine j_iconst hG dX4_takeNumber_36 ?_
      have m9 : nmV g len st = -(dgt g len p2) := by
        unfold nmV; rw [n9]; rcases hq3 with q | q
        · first | (exfalso; have := q.1; omega) | (rw [if_pos q.2.1])
        · first | (exfalso; have := q.1; omega) | (rw [if_neg (by rw [q.2.1]; decide)])
      exact j_zret hG hZ dX4_takeNumber_37 (Nat.zero_le _) (Nat.zero_le _) (nar_zr (by omega)) (⟨1, _, _, rfl, Or.inl ⟨rfl, by rw [n9]; omega, by rw [n9], m9.symm⟩, h31, h27, fun q q1 q2 => (Eq.trans (fr28 q q2) (Eq.trans (fr18 q q1 q2) (fr5 q q1)))⟩)
  · -- on at 18
    obtain ⟨-, e20, rfl, rfl⟩ := hq15.resolve_left (fun h => absurd h.1 (by omega))
    refine j_iconst hG dX4_takeNumber_21 ?_
    exact j_zret hG hZ dX4_takeNumber_22 (Nat.zero_le _) (Nat.zero_le _) (nar_zr (by omega)) (⟨0, _, _, rfl, Or.inr ⟨rfl, by rw [n9]; omega, n9.symm, rfl⟩, ht16, hm17, fun q q1 q2 => (Eq.trans (fr18 q q1 q2) (fr5 q q1))⟩)
