/-! ===== what MAKINGS make, as lists of (KEY, TIME, VALUE) ===== -/
abbrev Tr : Type := Int × Int × Int
def pk3 (p : Tr) : Int := pk p.1 p.2.1 p.2.2
def rawOk (r : List Tr) : Prop := r.length ≤ 400 ∧ ∀ p ∈ r, -1000000000 ≤ p.2.2 ∧ p.2.2 ≤ 1000000000
theorem rawOk_pre {r s : List Tr} (h : rawOk (r ++ s)) : rawOk r := ⟨by have := h.1; rw [List.length_append] at this; omega, fun p hp => h.2 p (List.mem_append_left _ hp)⟩
/-- what was put into Rows so far -/
def acc (g : Int → Int) (n b : Int) (r : List Tr) : Prop := gOk g ∧ 0 ≤ n ∧ n ≤ 400 ∧ ((b = 0 ∧ rawOk r ∧ n = r.length ∧ seg g 0 n = r.map pk3) ∨ (b = 1 ∧ ¬ rawOk r))
theorem acc_nil {g : Int → Int} (h : gOk g) : acc g 0 0 [] := ⟨h, by omega, by omega, Or.inl ⟨rfl, ⟨by simp, fun p hp => by cases hp⟩, rfl, rfl⟩⟩
theorem acc_b {g : Int → Int} {n b : Int} {r : List Tr} (h : acc g n b r) : b = 0 ∨ b = 1 := by rcases h.2.2.2 with q | q <;> omega
theorem acc_n {g : Int → Int} {n b : Int} {r : List Tr} (h : acc g n b r) : 0 ≤ n ∧ n ≤ 400 := ⟨h.2.1, h.2.2.1⟩
theorem acc_bad {g : Int → Int} {n b : Int} {r s : List Tr} (h : acc g n b r) (hb : b = 1) : acc g n b (r ++ s) := by
  refine ⟨h.1, h.2.1, h.2.2.1, Or.inr ⟨hb, fun q => ?_⟩⟩
  rcases h.2.2.2 with q2 | q2
  · omega
  · exact q2.2 (rawOk_pre q)
theorem acc_add {g g' : Int → Int} {n b k t u n' b' : Int} {r : List Tr} (h : acc g n b r) (hk : 0 ≤ k ∧ k < 32) (ht : 0 ≤ t ∧ t < 16384) (ha : addR n b k t u g n' b' g') : acc g' n' b' (r ++ [(k, t, u)]) := by
  obtain ⟨h1, h2, h3, h4⟩ := h
  rcases ha with ⟨a1, rfl, rfl, rfl⟩ | ⟨a1, rfl, rfl, rfl⟩
  · refine ⟨h1, h2, h3, Or.inr ⟨rfl, fun q => ?_⟩⟩
    rcases h4 with ⟨-, c2, c3, -⟩ | ⟨-, c2⟩
    · have q1 := q.1
      have q2 := q.2 (k, t, u) (by simp)
      rw [List.length_append] at q1
      simp only [List.length_cons, List.length_nil] at q1 q2
      omega
    · exact c2 (rawOk_pre q)
  · refine ⟨gOk_fup h1 (pk_ok hk ht (by omega)).1, by omega, by omega, ?_⟩
    rcases h4 with ⟨c1, c2, c3, c4⟩ | ⟨c1, c2⟩
    · refine Or.inl ⟨c1, ⟨?_, fun p hp => ?_⟩, ?_, ?_⟩
      · rw [List.length_append]; simp only [List.length_cons, List.length_nil]; omega
      · rcases List.mem_append.mp hp with q | q
        · exact c2.2 p q
        · rw [List.mem_singleton.mp q]; simp only []; omega
      · rw [List.length_append]; simp only [List.length_cons, List.length_nil]; omega
      · rw [seg_snoc h2, seg_fup_out (Or.inr (Int.le_refl _)), fup_s, c4, List.map_append]
        rfl
    · exact Or.inr ⟨c1, fun q => c2 (rawOk_pre q)⟩
theorem pkU {x : Int} (h : rOk x) : pk (rK x) (rT x) (rV x) = x := by unfold rOk at h; unfold pk rK rT rV; omega
theorem acc_row {g g' : Int → Int} {n b x n' b' : Int} {r : List Tr} (h : acc g n b r) (hx : rOk x) (hv : rV x ≤ 1000000000) (ha : adL n b x g n' b' g') : acc g' n' b' (r ++ [(rK x, rT x, rV x)]) := by
  refine acc_add h (rK_rng hx) (rT_rng hx) (u := rV x) (n := n) (b := b) (g := g) ?_
  have := rV_rng hx
  rcases ha with ⟨a1, a2⟩ | ⟨a1, a2, a3, a4⟩
  · exact Or.inl ⟨Or.inr a1, a2⟩
  · exact Or.inr ⟨⟨by omega, hv, a1⟩, a2, a3, by rw [pkU hx]; exact a4⟩
def holdsB (rel num p : Int) : Bool := if rel = 60 then decide (p < num) else if rel = 62 then decide (num < p) else decide (p = num)
def each1 (kd col rel num x : Int) : List Tr :=
  if kd = 1 then (if holdsB rel num (rP x col) then [(rK x, rT x, rV x)] else [])
  else if kd = 2 then [(rK x, rT x, rV x + num)]
  else if kd = 3 then [(rK x, rT x, rV x * num)]
  else if kd = 4 then [((rK x + num) % 32, rT x, rV x)]
  else if kd = 5 then [(rK x, if 0 < num then rT x - rT x % num else rT x, rV x)]
  else if kd = 6 then [(rK x, 0, rV x)] else []
def sameG (x : Int) (xs : List Int) : Bool := match xs with
  | [] => false
  | y :: _ => decide (rG y = rG x)
def sameK (x : Int) (xs : List Int) : Bool := match xs with
  | [] => false
  | y :: _ => decide (rK y = rK x)
def grp (kd : Int) (s m : Int) : List Int → List Tr
  | [] => []
  | x :: xs => if sameG x xs then grp kd (s + rV x) (m + 1) xs else (rK x, rT x, if kd = 7 then s + rV x else if kd = 8 then m + 1 else rV x) :: grp kd 0 0 xs
def lstK : List Int → List Tr
  | [] => []
  | x :: xs => if sameK x xs then lstK xs else (rK x, rT x, rV x) :: lstK xs
def pr1 (B : List Int) (x : Int) : List Tr := (B.filter (fun y => decide (rK y = rK x))).map (fun y => (rK x, max (rT x) (rT y), rV x + rV y))
def wout (A B : List Int) : List Tr := (A.filter (fun x => !hasK B (rK x))).map (fun x => (rK x, rT x, rV x))
def rawOf (kd col rel num : Int) (A B : List Int) : List Tr :=
  if kd = 7 ∨ kd = 8 ∨ kd = 9 then grp kd 0 0 A else if kd = 10 then lstK A else if kd = 11 then A.flatMap (pr1 B) else if kd = 12 then wout A B else A.flatMap (each1 kd col rel num)
theorem sameG_seg {g : Int → Int} {i n : Int} : sameG (g i) (seg g (i + 1) n) = (decide (i + 1 < n) && decide (rG (g (i + 1)) = rG (g i))) := by
  by_cases h : i + 1 < n
  · rw [seg_cons h, decide_eq_true h, Bool.true_and]; rfl
  · rw [seg_nil (by omega), decide_eq_false h, Bool.false_and]; rfl
theorem sameK_seg {g : Int → Int} {i n : Int} : sameK (g i) (seg g (i + 1) n) = (decide (i + 1 < n) && decide (rK (g (i + 1)) = rK (g i))) := by
  by_cases h : i + 1 < n
  · rw [seg_cons h, decide_eq_true h, Bool.true_and]; rfl
  · rw [seg_nil (by omega), decide_eq_false h, Bool.false_and]; rfl
theorem c_X3_holdsOf {l : Launch} {E : JE} {f : Hp} {m : Nat} {kd lf rg col rel num : Int} {x : Int} (hm : f m = oB 3 [.int (iZ (kd)), .int (iZ (lf)), .int (iZ (rg)), .int (iZ (col)), .int (iZ (rel)), .int (iZ (num))]) (hx : -2147483648 ≤ x ∧ x < 2147483648) (hr : 0 ≤ rel ∧ rel < 65536) (hn : -1000 ≤ num ∧ num ≤ 1000) : KX3_holdsOf l E [.ref m, .int (iZ (x))] f (fun v f' => v = some (.int (iZ (if holdsB rel num x then 1 else 0))) ∧ f = f') := by
  refine ct_of (own := RX3) (lv := [(0, .ref m), (1, .int (iZ (x)))]) (by decide +kernel) rfl (Nat.le_of_ble_eq_true rfl) rfl ?_
  intro G hG hZ
  refine j_aload_n hG dX3_holdsOf_0 rfl rfl ?_
  refine j_get hG fX3_24 dX3_holdsOf_1 hm rfl ?_
  refine j_bipush hG dX3_holdsOf_4 (by decide) ?_
  refine j_icmp_ne (tgt := 23) hG dX3_holdsOf_6 (by decide) (by omega) (by omega) (fun c1 => ?_) (fun c1 => ?_)
  · -- taken at 6
    refine j_aload_n hG dX3_holdsOf_23 rfl rfl ?_
    refine j_get hG fX3_24 dX3_holdsOf_24 hm rfl ?_
    refine j_bipush hG dX3_holdsOf_27 (by decide) ?_
    refine j_icmp_ne (tgt := 48) hG dX3_holdsOf_29 (by decide) (by omega) (by omega) (fun c2 => ?_) (fun c2 => ?_)
    · -- taken at 29
      refine j_iload_n hG dX3_holdsOf_48 rfl rfl ?_
      refine j_aload_n hG dX3_holdsOf_49 rfl rfl ?_
      refine j_get hG fX3_28 dX3_holdsOf_50 hm rfl ?_
      refine j_icmp_ne (tgt := 60) hG dX3_holdsOf_53 (by decide) (by omega) (by omega) (fun c3 => ?_) (fun c3 => ?_)
      · -- taken at 53
        refine j_iconst hG dX3_holdsOf_60 ?_
        have e9 : holdsB rel num x = false := by
          unfold holdsB
          first | (rw [if_pos (by omega)]; simp; omega) | (rw [if_neg (by omega), if_pos (by omega)]; simp; omega) | (rw [if_neg (by omega), if_neg (by omega)]; simp; omega)
        exact j_zret hG hZ dX3_holdsOf_61 (Nat.zero_le _) (Nat.zero_le _) (nar_zr (by omega)) (⟨by rw [e9]; rfl, rfl⟩)
      · -- on at 53
        refine j_iconst hG dX3_holdsOf_56 ?_
        refine j_goto (tgt := 61) hG dX3_holdsOf_57 (by decide) ?_
        have e9 : holdsB rel num x = true := by
          unfold holdsB
          first | (rw [if_pos (by omega)]; simp; omega) | (rw [if_neg (by omega), if_pos (by omega)]; simp; omega) | (rw [if_neg (by omega), if_neg (by omega)]; simp; omega)
        exact j_zret hG hZ dX3_holdsOf_61 (Nat.zero_le _) (Nat.zero_le _) (nar_zr (by omega)) (⟨by rw [e9]; rfl, rfl⟩)
    · -- on at 29
      refine j_iload_n hG dX3_holdsOf_32 rfl rfl ?_
      refine j_aload_n hG dX3_holdsOf_33 rfl rfl ?_
      refine j_get hG fX3_28 dX3_holdsOf_34 hm rfl ?_
      refine j_icmp_le (tgt := 44) hG dX3_holdsOf_37 (by decide) (by omega) (by omega) (fun c4 => ?_) (fun c4 => ?_)
      · -- taken at 37
        refine j_iconst hG dX3_holdsOf_44 ?_
        refine j_goto (tgt := 61) hG dX3_holdsOf_45 (by decide) ?_
        have e9 : holdsB rel num x = false := by
          unfold holdsB
          first | (rw [if_pos (by omega)]; simp; omega) | (rw [if_neg (by omega), if_pos (by omega)]; simp; omega) | (rw [if_neg (by omega), if_neg (by omega)]; simp; omega)
        exact j_zret hG hZ dX3_holdsOf_61 (Nat.zero_le _) (Nat.zero_le _) (nar_zr (by omega)) (⟨by rw [e9]; rfl, rfl⟩)
      · -- on at 37
        refine j_iconst hG dX3_holdsOf_40 ?_
        refine j_goto (tgt := 61) hG dX3_holdsOf_41 (by decide) ?_
        have e9 : holdsB rel num x = true := by
          unfold holdsB
          first | (rw [if_pos (by omega)]; simp; omega) | (rw [if_neg (by omega), if_pos (by omega)]; simp; omega) | (rw [if_neg (by omega), if_neg (by omega)]; simp; omega)
        exact j_zret hG hZ dX3_holdsOf_61 (Nat.zero_le _) (Nat.zero_le _) (nar_zr (by omega)) (⟨by rw [e9]; rfl, rfl⟩)
  · -- on at 6
    refine j_iload_n hG dX3_holdsOf_9 rfl rfl ?_
    refine j_aload_n hG dX3_holdsOf_10 rfl rfl ?_
    refine j_get hG fX3_28 dX3_holdsOf_11 hm rfl ?_
    refine j_icmp_ge (tgt := 21) hG dX3_holdsOf_14 (by decide) (by omega) (by omega) (fun c5 => ?_) (fun c5 => ?_)
    · -- taken at 14
      refine j_iconst hG dX3_holdsOf_21 ?_
      have e9 : holdsB rel num x = false := by
        unfold holdsB
        first | (rw [if_pos (by omega)]; simp; omega) | (rw [if_neg (by omega), if_pos (by omega)]; simp; omega) | (rw [if_neg (by omega), if_neg (by omega)]; simp; omega)
      exact j_zret hG hZ dX3_holdsOf_22 (Nat.zero_le _) (Nat.zero_le _) (nar_zr (by omega)) (⟨by rw [e9]; rfl, rfl⟩)
    · -- on at 14
      refine j_iconst hG dX3_holdsOf_17 ?_
      refine j_goto (tgt := 22) hG dX3_holdsOf_18 (by decide) ?_
      have e9 : holdsB rel num x = true := by
        unfold holdsB
        first | (rw [if_pos (by omega)]; simp; omega) | (rw [if_neg (by omega), if_pos (by omega)]; simp; omega) | (rw [if_neg (by omega), if_neg (by omega)]; simp; omega)
      exact j_zret hG hZ dX3_holdsOf_22 (Nat.zero_le _) (Nat.zero_le _) (nar_zr (by omega)) (⟨by rw [e9]; rfl, rfl⟩)
theorem md_le {a b : Int} (ha : 0 ≤ a) (hb : 0 < b) : 0 ≤ a % b ∧ a % b ≤ a := by
  have h1 := Int.emod_nonneg a (show b ≠ 0 by omega)
  have h2 := Int.emod_add_mul_ediv a b
  have h3 : 0 ≤ b * (a / b) := Int.mul_nonneg (by omega) (Int.ediv_nonneg ha (by omega))
  omega
theorem rv_abs {a b A B : Int} (ha : -A ≤ a ∧ a ≤ A) (hb : -B ≤ b ∧ b ≤ B) : -(A * B) ≤ a * b ∧ a * b ≤ A * B := by
  have h1 : a.natAbs ≤ A.natAbs := by omega
  have h2 : b.natAbs ≤ B.natAbs := by omega
  have h3 := Nat.mul_le_mul h1 h2
  rw [← Int.natAbs_mul, ← Int.natAbs_mul] at h3
  have h4 : 0 ≤ A * B := Int.mul_nonneg (by omega) (by omega)
  omega
theorem rv_mul_le {a b : Int} (ha : -2000000000 ≤ a ∧ a ≤ 2000000000) (hb : -1000 ≤ b ∧ b ≤ 1000) : a * b ≤ 2000000000 * 1000 := (rv_abs ha hb).2
theorem rv_le_mul {a b : Int} (ha : -2000000000 ≤ a ∧ a ≤ 2000000000) (hb : -1000 ≤ b ∧ b ≤ 1000) : -(2000000000 * 1000) ≤ a * b := (rv_abs ha hb).1
theorem c_X3_addOne {l : Launch} {E : JE} {f : Hp} {m t c : Nat} {kd lf rg col rel num : Int} {n b x : Int} {g : Int → Int} {D : List Tr} (hm : f m = oB 3 [.int (iZ (kd)), .int (iZ (lf)), .int (iZ (rg)), .int (iZ (col)), .int (iZ (rel)), .int (iZ (num))]) (ht : f t = oB 7 [.ref c, .int (iZ (n)), .int (iZ (b))]) (hc : f c = aJ (E.2.1 1) 400 (g)) (hmk : (0 ≤ kd ∧ kd ≤ 12) ∧ (0 ≤ col ∧ col ≤ 2) ∧ (0 ≤ rel ∧ rel < 65536) ∧ (-1000 ≤ num ∧ num ≤ 1000) ∧ (kd = 4 → 0 ≤ num) ∧ (kd = 5 → 1 ≤ num)) (hx : rOk x) (hv : rV x ≤ 1000000000) (hac : acc g n b D) : KX3_addOne l E [.ref m, .long (lZ (x)), .ref t] f (fun v f' => v = none ∧ ∃ (n' b' : Int) (g' : Int → Int), f' t = oB 7 [.ref c, .int (iZ n'), .int (iZ b')] ∧ f' c = aJ (E.2.1 1) 400 g' ∧ acc g' n' b' (D ++ each1 kd col rel num x) ∧ ∀ q, q ≠ t → q ≠ c → f' q = f q) := by
  refine ct_of (own := RX3) (lv := [(0, .ref m), (1, .long (lZ (x))), (3, .ref t)]) (by decide +kernel) rfl (Nat.le_of_ble_eq_true rfl) rfl ?_
  intro G hG hZ
  have q1 := rK_rng hx
  have q2 := rT_rng hx
  have q3 := rV_rng hx
  have q4 := acc_n hac
  refine j_lload_n hG dX3_addOne_0 rfl rfl ?_
  refine j_callS (rest := []) hG vX3_66 dX3_addOne_1 (c_X7_keyOf (x := x) hx) rfl rfl (by decide) (by decide) (Nat.le_of_ble_eq_true rfl) rfl rfl (Nat.zero_le _) (Nat.zero_le _) ?_
  rintro _ _ ⟨rfl, rfl⟩
  refine j_st (st' := [.int (iZ (rK x))]) rfl ?_
  refine j_istore (lv' := [(0, .ref m), (1, .long (lZ (x))), (3, .ref t), (4, .int (iZ (rK x)))]) hG dX3_addOne_4 (by decide) rfl ?_
  refine j_lload_n hG dX3_addOne_6 rfl rfl ?_
  refine j_callS (rest := []) hG vX3_72 dX3_addOne_7 (c_X7_timeOf (x := x) hx) rfl rfl (by decide) (by decide) (Nat.le_of_ble_eq_true rfl) rfl rfl (Nat.zero_le _) (Nat.zero_le _) ?_
  rintro _ _ ⟨rfl, rfl⟩
  refine j_st (st' := [.int (iZ (rT x))]) rfl ?_
  refine j_istore (lv' := [(0, .ref m), (1, .long (lZ (x))), (3, .ref t), (4, .int (iZ (rK x))), (5, .int (iZ (rT x)))]) hG dX3_addOne_10 (by decide) rfl ?_
  refine j_lload_n hG dX3_addOne_12 rfl rfl ?_
  refine j_callS (rest := []) hG vX3_75 dX3_addOne_13 (c_X7_valueOf (x := x) hx) rfl rfl (by decide) (by decide) (Nat.le_of_ble_eq_true rfl) rfl rfl (Nat.zero_le _) (Nat.zero_le _) ?_
  rintro _ _ ⟨rfl, rfl⟩
  refine j_st (st' := [.int (iZ (rV x))]) rfl ?_
  refine j_i2l hG dX3_addOne_16 (by omega) ?_
  refine j_lstore (lv' := [(0, .ref m), (1, .long (lZ (x))), (3, .ref t), (4, .int (iZ (rK x))), (5, .int (iZ (rT x))), (6, .long (lZ (rV x)))]) hG dX3_addOne_17 (by decide) rfl ?_
  refine j_aload_n hG dX3_addOne_19 rfl rfl ?_
  refine j_get hG fX3_9 dX3_addOne_20 hm rfl ?_
  rcases (show (kd < 1 ∨ 6 < kd) ∨ kd = 1 ∨ kd = 2 ∨ kd = 3 ∨ kd = 4 ∨ kd = 5 ∨ kd = 6 by omega) with c1 | c1 | c1 | c1 | c1 | c1 | c1
  · -- case None at 23
    refine j_tswOut (tgt := 187) hG dX3_addOne_23 c1 (by omega) (by decide) ?_
    have e9 : acc g n b (D ++ each1 kd col rel num x) := by
      have e8 : each1 kd col rel num x = [] := by
        unfold each1
        first | (rw [if_pos (by omega), if_neg (by intro q; rw [if_pos q] at *; omega)]) | (rw [if_neg (by omega), if_neg (by omega), if_neg (by omega), if_neg (by omega), if_neg (by omega), if_neg (by omega)])
      rw [e8, List.append_nil]; exact hac
    exact j_vret hG hZ dX3_addOne_187 (Nat.zero_le _) (Nat.zero_le _) (⟨rfl, _, _, _, ht, hc, e9, fun q h1 h2 => rfl⟩)
  · -- case 1 at 23
    refine j_tswIn (tgt := 60) (off := 37) hG (1) dX3_addOne_23 c1 (by decide) (by decide) rfl (by decide) ?_
    refine j_aload_n hG dX3_addOne_60 rfl rfl ?_
    refine j_lload_n hG dX3_addOne_61 rfl rfl ?_
    refine j_aload_n hG dX3_addOne_62 rfl rfl ?_
    refine j_get hG fX3_21 dX3_addOne_63 hm rfl ?_
    refine j_callS (rest := [.ref m]) hG vX3_78 dX3_addOne_66 (c_X7_partOf (x := x) (u := col) hx (by omega)) rfl rfl (by decide) (by decide) (Nat.le_of_ble_eq_true rfl) rfl rfl (Nat.zero_le _) (Nat.zero_le _) ?_
    rintro _ _ ⟨rfl, rfl⟩
    refine j_st (st' := [.int (iZ (rP x col)), .ref m]) rfl ?_
    have rp9 : -2147483648 ≤ rP x col ∧ rP x col < 2147483648 := by unfold rP; split; omega; split; omega; split <;> omega
    refine j_callV (rest := []) hG vX3_82 dX3_addOne_69 (c_X3_holdsOf (x := rP x col) hm rp9 (by omega) (by omega)) hm rfl rfl (by decide) (by decide) (Nat.le_of_ble_eq_true rfl) rfl rfl (Nat.zero_le _) (Nat.zero_le _) ?_
    rintro _ _ ⟨rfl, rfl⟩
    refine j_st (st' := [.int (iZ (if holdsB rel num (rP x col) then 1 else 0))]) rfl ?_
    refine j_if_eq (tgt := 187) hG dX3_addOne_72 (by decide) (by omega) (fun c2 => ?_) (fun c2 => ?_)
    · -- taken at 72
      have e9 : acc g n b (D ++ each1 kd col rel num x) := by
        have e8 : each1 kd col rel num x = [] := by
          unfold each1
          first | (rw [if_pos (by omega), if_neg (by intro q; rw [if_pos q] at *; omega)]) | (rw [if_neg (by omega), if_neg (by omega), if_neg (by omega), if_neg (by omega), if_neg (by omega), if_neg (by omega)])
        rw [e8, List.append_nil]; exact hac
      exact j_vret hG hZ dX3_addOne_187 (Nat.zero_le _) (Nat.zero_le _) (⟨rfl, _, _, _, ht, hc, e9, fun q h1 h2 => rfl⟩)
    · -- on at 72
      refine j_aload_n hG dX3_addOne_75 rfl rfl ?_
      refine j_lload_n hG dX3_addOne_76 rfl rfl ?_
      refine j_callV (rest := []) hG vX3_86 dX3_addOne_77 (c_X8_addL (x := x) ht hc (by omega)) ht rfl rfl (by decide) (by decide) (Nat.le_of_ble_eq_true rfl) rfl rfl (Nat.zero_le _) (Nat.zero_le _) ?_
      rintro _ f10 ⟨rfl, n3, b4, g5, ha6, h7, h8, fr9⟩
      refine j_st (st' := []) rfl ?_
      have h11 := (fr9 m (h_ne hm ht (oo_n (by decide))) (h_ne hm hc oa_J)).trans hm
      refine j_goto (tgt := 187) hG dX3_addOne_80 (by decide) ?_
      have e9 : acc g5 n3 b4 (D ++ each1 kd col rel num x) := by
        have e8 : each1 kd col rel num x = [(rK x, rT x, rV x)] := by
          unfold each1
          rw [if_pos (by omega), if_pos (by apply Decidable.byContradiction; intro q; rw [if_neg q] at *; omega)]
        rw [e8]; exact acc_row hac hx hv ha6
      exact j_vret hG hZ dX3_addOne_187 (Nat.zero_le _) (Nat.zero_le _) (⟨rfl, _, _, _, h7, h8, e9, fun q h1 h2 => (fr9 q h1 h2)⟩)
  · -- case 2 at 23
    refine j_tswIn (tgt := 83) (off := 60) hG (2) dX3_addOne_23 c1 (by decide) (by decide) rfl (by decide) ?_
    refine j_aload_n hG dX3_addOne_83 rfl rfl ?_
    refine j_iload hG dX3_addOne_84 rfl ?_
    refine j_iload hG dX3_addOne_86 rfl ?_
    refine j_lload hG dX3_addOne_88 rfl ?_
    refine j_aload_n hG dX3_addOne_90 rfl rfl ?_
    refine j_get hG fX3_28 dX3_addOne_91 hm rfl ?_
    refine j_i2l hG dX3_addOne_94 (by omega) ?_
    refine j_ladd hG dX3_addOne_95 ?_
    refine j_callV (rest := []) hG vX3_90 dX3_addOne_96 (c_X8_add_ (k := rK x) (t := rT x) (u := (rV x) + num) ht hc (by omega) (by omega) (by omega) (by omega)) ht rfl rfl (by decide) (by decide) (Nat.le_of_ble_eq_true rfl) rfl rfl (Nat.zero_le _) (Nat.zero_le _) ?_
    rintro _ f19 ⟨rfl, n12, b13, g14, ha15, h16, h17, fr18⟩
    refine j_st (st' := []) rfl ?_
    have h20 := (fr18 m (h_ne hm ht (oo_n (by decide))) (h_ne hm hc oa_J)).trans hm
    refine j_goto (tgt := 187) hG dX3_addOne_99 (by decide) ?_
    have e9 : acc g14 n12 b13 (D ++ each1 kd col rel num x) := by
      have e8 : each1 kd col rel num x = [(rK x, rT x, (rV x) + num)] := by
        subst kd
        first | rfl | (show [(rK x, (if 0 < num then rT x - rT x % num else rT x), rV x)] = _; first | rw [if_pos (by omega)] | rw [if_neg (by omega)])
      rw [e8]; exact acc_add hac (by omega) (by omega) ha15
    exact j_vret hG hZ dX3_addOne_187 (Nat.zero_le _) (Nat.zero_le _) (⟨rfl, _, _, _, h16, h17, e9, fun q h1 h2 => (fr18 q h1 h2)⟩)
  · -- case 3 at 23
    refine j_tswIn (tgt := 102) (off := 79) hG (3) dX3_addOne_23 c1 (by decide) (by decide) rfl (by decide) ?_
    refine j_aload_n hG dX3_addOne_102 rfl rfl ?_
    refine j_iload hG dX3_addOne_103 rfl ?_
    refine j_iload hG dX3_addOne_105 rfl ?_
    refine j_lload hG dX3_addOne_107 rfl ?_
    refine j_aload_n hG dX3_addOne_109 rfl rfl ?_
    refine j_get hG fX3_28 dX3_addOne_110 hm rfl ?_
    refine j_i2l hG dX3_addOne_113 (by omega) ?_
    refine j_lmul hG dX3_addOne_114 ?_
    have w9 : -4611686018427387904 ≤ rV x * num ∧ rV x * num ≤ 4611686018427387904 := by
      have p1 : rV x * num ≤ 2000000000 * 1000 := by
            exact rv_mul_le (by omega) (by omega)
      have p2 : -(2000000000 * 1000) ≤ rV x * num := rv_le_mul (by omega) (by omega)
      omega
    refine j_callV (rest := []) hG vX3_90 dX3_addOne_115 (c_X8_add_ (k := rK x) (t := rT x) (u := (rV x) * num) ht hc (by omega) (by omega) (by omega) w9) ht rfl rfl (by decide) (by decide) (Nat.le_of_ble_eq_true rfl) rfl rfl (Nat.zero_le _) (Nat.zero_le _) ?_
    rintro _ f28 ⟨rfl, n21, b22, g23, ha24, h25, h26, fr27⟩
    refine j_st (st' := []) rfl ?_
    have h29 := (fr27 m (h_ne hm ht (oo_n (by decide))) (h_ne hm hc oa_J)).trans hm
    refine j_goto (tgt := 187) hG dX3_addOne_118 (by decide) ?_
    have e9 : acc g23 n21 b22 (D ++ each1 kd col rel num x) := by
      have e8 : each1 kd col rel num x = [(rK x, rT x, (rV x) * num)] := by
        subst kd
        first | rfl | (show [(rK x, (if 0 < num then rT x - rT x % num else rT x), rV x)] = _; first | rw [if_pos (by omega)] | rw [if_neg (by omega)])
      rw [e8]; exact acc_add hac (by omega) (by omega) ha24
    exact j_vret hG hZ dX3_addOne_187 (Nat.zero_le _) (Nat.zero_le _) (⟨rfl, _, _, _, h25, h26, e9, fun q h1 h2 => (fr27 q h1 h2)⟩)
  · -- case 4 at 23
    refine j_tswIn (tgt := 121) (off := 98) hG (4) dX3_addOne_23 c1 (by decide) (by decide) rfl (by decide) ?_
    refine j_aload_n hG dX3_addOne_121 rfl rfl ?_
    refine j_iload hG dX3_addOne_122 rfl ?_
    refine j_aload_n hG dX3_addOne_124 rfl rfl ?_
    refine j_get hG fX3_28 dX3_addOne_125 hm rfl ?_
    refine j_iadd hG dX3_addOne_128 ?_
    refine j_bipush hG dX3_addOne_129 (by decide) ?_
    refine j_irem hG dX3_addOne_131 (by omega) (by omega) ?_
    refine j_iload hG dX3_addOne_132 rfl ?_
    refine j_lload hG dX3_addOne_134 rfl ?_
    refine j_callV (rest := []) hG vX3_90 dX3_addOne_136 (c_X8_add_ (k := ((rK x) + num) % 32) (t := rT x) (u := rV x) ht hc (by omega) (by omega) (by omega) (by omega)) ht rfl rfl (by decide) (by decide) (Nat.le_of_ble_eq_true rfl) rfl rfl (Nat.zero_le _) (Nat.zero_le _) ?_
    rintro _ f37 ⟨rfl, n30, b31, g32, ha33, h34, h35, fr36⟩
    refine j_st (st' := []) rfl ?_
    have h38 := (fr36 m (h_ne hm ht (oo_n (by decide))) (h_ne hm hc oa_J)).trans hm
    refine j_goto (tgt := 187) hG dX3_addOne_139 (by decide) ?_
    have e9 : acc g32 n30 b31 (D ++ each1 kd col rel num x) := by
      have e8 : each1 kd col rel num x = [(((rK x) + num) % 32, rT x, rV x)] := by
        subst kd
        first | rfl | (show [(rK x, (if 0 < num then rT x - rT x % num else rT x), rV x)] = _; first | rw [if_pos (by omega)] | rw [if_neg (by omega)])
      rw [e8]; exact acc_add hac (by omega) (by omega) ha33
    exact j_vret hG hZ dX3_addOne_187 (Nat.zero_le _) (Nat.zero_le _) (⟨rfl, _, _, _, h34, h35, e9, fun q h1 h2 => (fr36 q h1 h2)⟩)
  · -- case 5 at 23
    refine j_tswIn (tgt := 142) (off := 119) hG (5) dX3_addOne_23 c1 (by decide) (by decide) rfl (by decide) ?_
    refine j_aload_n hG dX3_addOne_142 rfl rfl ?_
    refine j_iload hG dX3_addOne_143 rfl ?_
    refine j_aload_n hG dX3_addOne_145 rfl rfl ?_
    refine j_get hG fX3_28 dX3_addOne_146 hm rfl ?_
    refine j_if_le (tgt := 165) hG dX3_addOne_149 (by decide) (by omega) (fun c39 => ?_) (fun c39 => ?_)
    · -- taken at 149
      exfalso; omega
    · -- on at 149
      refine j_iload hG dX3_addOne_152 rfl ?_
      refine j_iload hG dX3_addOne_154 rfl ?_
      refine j_aload_n hG dX3_addOne_156 rfl rfl ?_
      refine j_get hG fX3_28 dX3_addOne_157 hm rfl ?_
      refine j_irem hG dX3_addOne_160 (by omega) (by omega) ?_
      refine j_isub hG dX3_addOne_161 ?_
      refine j_goto (tgt := 167) hG dX3_addOne_162 (by decide) ?_
      refine j_lload hG dX3_addOne_167 rfl ?_
      have w8 := md_le (a := rT x) (b := num) (by omega) (by omega)
      refine j_callV (rest := []) hG vX3_90 dX3_addOne_169 (c_X8_add_ (k := rK x) (t := (rT x) - ((rT x) % num)) (u := rV x) ht hc (by omega) (by omega) (by omega) (by omega)) ht rfl rfl (by decide) (by decide) (Nat.le_of_ble_eq_true rfl) rfl rfl (Nat.zero_le _) (Nat.zero_le _) ?_
      rintro _ f47 ⟨rfl, n40, b41, g42, ha43, h44, h45, fr46⟩
      refine j_st (st' := []) rfl ?_
      have h48 := (fr46 m (h_ne hm ht (oo_n (by decide))) (h_ne hm hc oa_J)).trans hm
      refine j_goto (tgt := 187) hG dX3_addOne_172 (by decide) ?_
      have e9 : acc g42 n40 b41 (D ++ each1 kd col rel num x) := by
        have e8 : each1 kd col rel num x = [(rK x, (rT x) - ((rT x) % num), rV x)] := by
          subst kd
          first | rfl | (show [(rK x, (if 0 < num then rT x - rT x % num else rT x), rV x)] = _; first | rw [if_pos (by omega)] | rw [if_neg (by omega)])
        rw [e8]; exact acc_add hac (by omega) (by omega) ha43
      exact j_vret hG hZ dX3_addOne_187 (Nat.zero_le _) (Nat.zero_le _) (⟨rfl, _, _, _, h44, h45, e9, fun q h1 h2 => (fr46 q h1 h2)⟩)
  · -- case 6 at 23
    refine j_tswIn (tgt := 175) (off := 152) hG (6) dX3_addOne_23 c1 (by decide) (by decide) rfl (by decide) ?_
    refine j_aload_n hG dX3_addOne_175 rfl rfl ?_
    refine j_iload hG dX3_addOne_176 rfl ?_
    refine j_iconst hG dX3_addOne_178 ?_
    refine j_lload hG dX3_addOne_179 rfl ?_
    refine j_callV (rest := []) hG vX3_90 dX3_addOne_181 (c_X8_add_ (k := rK x) (t := 0) (u := rV x) ht hc (by omega) (by omega) (by omega) (by omega)) ht rfl rfl (by decide) (by decide) (Nat.le_of_ble_eq_true rfl) rfl rfl (Nat.zero_le _) (Nat.zero_le _) ?_
    rintro _ f56 ⟨rfl, n49, b50, g51, ha52, h53, h54, fr55⟩
    refine j_st (st' := []) rfl ?_
    have h57 := (fr55 m (h_ne hm ht (oo_n (by decide))) (h_ne hm hc oa_J)).trans hm
    refine j_goto (tgt := 187) hG dX3_addOne_184 (by decide) ?_
    have e9 : acc g51 n49 b50 (D ++ each1 kd col rel num x) := by
      have e8 : each1 kd col rel num x = [(rK x, 0, rV x)] := by
        subst kd
        first | rfl | (show [(rK x, (if 0 < num then rT x - rT x % num else rT x), rV x)] = _; first | rw [if_pos (by omega)] | rw [if_neg (by omega)])
      rw [e8]; exact acc_add hac (by omega) (by omega) ha52
    exact j_vret hG hZ dX3_addOne_187 (Nat.zero_le _) (Nat.zero_le _) (⟨rfl, _, _, _, h53, h54, e9, fun q h1 h2 => (fr55 q h1 h2)⟩)
