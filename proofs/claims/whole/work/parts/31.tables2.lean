def sumT (p : Int → Bool) (X : Int → List Int) : Nat → Int
  | 0 => 0
  | t + 1 => sumT p X t + cntK p (X t)
theorem sumT_rng (p : Int → Bool) {X : Int → List Int} : ∀ t : Nat, (∀ i : Nat, i < t → (X i).length ≤ 400) → 0 ≤ sumT p X t ∧ sumT p X t ≤ 400 * t
  | 0, _ => by unfold sumT; omega
  | t + 1, h => by
    have ih := sumT_rng p t (fun i hi => h i (by omega))
    have h1 : 0 ≤ cntK p (X t) ∧ cntK p (X t) ≤ 400 := by
      unfold cntK
      have := List.length_filter_le (fun x => p (rK x)) (X t)
      have := h t (by omega)
      omega
    unfold sumT
    omega
theorem l_X9_countOfKeys {G : JG} {l : Launch} {E : JE} {P : Option Value → Hp → Prop} (hG : jX G l E cX9_countOfKeys RX9 4 rmX9_countOfKeys) (hZ : jZ G (some .int) P) {T cu ofr mk it pl dr pm : Nat} {sz : Int} {gcu  : Int → Option Nat} {ra ca : Int → Nat} {X : Int → List Int × Int} {x : Int32} {f0 : Hp} (hsz : 0 ≤ sz ∧ sz ≤ 12) (gcu_ : ∀ i, 0 ≤ i → i < 12 → gcu i = some (ra i)) (hP : ∀ f : Hp, f = f0 → P (some (.int (iZ (sumT (fun k => bt x k.toNat) (fun i => (X i).1) sz.toNat)))) f) :
    ∀ (d : Nat) (t : Nat) (m : Int) (f : Hp), (hT : f T = oB 8 [.ref cu, .ref ofr, .ref mk, .ref it, .ref (ra 36), .ref (ca 37), .ref pl, .ref dr]) → (hpl : f pl = oB 5 [.ref pm, .int (iZ (sz))]) → (hcu : f cu = aQ (E.2.1 4) 12 (gcu)) → (hRW : RWs E f ra ca X) → (ht : (t : Int) ≤ sz) → (hm : m = sumT (fun k => bt x k.toNat) (fun i => (X i).1) t) → (hf : f = f0) → ((sz - t).toNat) < d → J G 0 0 f 4 [(0, .ref T), (1, .int (x)), (2, .int (iZ (m))), (3, .int (iZ ((t : Int))))] [] := by
  intro d
  induction d with
  | zero => intro t m f hT hpl hcu hRW ht hm hf hd9; exfalso; omega
  | succ d ih =>
    intro t m f hT hpl hcu hRW ht hm hf hd9
    refine j_iload_n hG dX9_countOfKeys_4 rfl rfl ?_
    refine j_aload_n hG dX9_countOfKeys_5 rfl rfl ?_
    refine j_get hG fX9_39 dX9_countOfKeys_6 hT rfl ?_
    refine j_callV (rest := [.int (iZ ((t : Int)))]) hG vX9_46 dX9_countOfKeys_9 (c_X5_size hpl) hpl rfl rfl (by decide) (by decide) (Nat.le_of_ble_eq_true rfl) rfl rfl (Nat.zero_le _) (Nat.zero_le _) ?_
    rintro _ _ ⟨rfl, rfl⟩
    refine j_st (st' := [.int (iZ (sz)), .int (iZ ((t : Int)))]) rfl ?_
    refine j_icmp_ge (tgt := 34) hG dX9_countOfKeys_12 (by decide) (by omega) (by omega) (fun c1 => ?_) (fun c1 => ?_)
    · -- taken at 12
      refine j_iload_n hG dX9_countOfKeys_34 rfl rfl ?_
      have e9 : sz.toNat = t := by omega
      have e8 : m = sumT (fun k => bt x k.toNat) (fun i => (X i).1) sz.toNat := by rw [hm, e9]
      subst e8
      exact j_iret hG hZ dX9_countOfKeys_35 (Nat.zero_le _) (Nat.zero_le _) (hP f hf)
    · -- on at 12
      refine j_iload_n hG dX9_countOfKeys_15 rfl rfl ?_
      refine j_aload_n hG dX9_countOfKeys_16 rfl rfl ?_
      refine j_get hG fX9_11 dX9_countOfKeys_17 hT rfl ?_
      refine j_iload_n hG dX9_countOfKeys_20 rfl rfl ?_
      obtain ⟨n1, b1, g1, ro1, rc1, rg1, rb1, rn1, rl1⟩ := hRW.1 (t) (by omega) (by omega)
      refine j_ald4 hG dX9_countOfKeys_21 hcu (by omega) (by decide) (gcu_ t (by omega) (by omega)) ?_
      refine j_iload_n hG dX9_countOfKeys_22 rfl rfl ?_
      refine j_callV (rest := [.int (iZ (m))]) hG vX9_110 dX9_countOfKeys_23 (c_X8_countOfKeys ro1 rc1 rn1 rg1) ro1 rfl rfl (by decide) (by decide) (Nat.le_of_ble_eq_true rfl) rfl rfl (Nat.zero_le _) (Nat.zero_le _) ?_
      rintro _ _ ⟨rfl, rfl⟩
      refine j_st (st' := [.int (iZ (cntK (fun k => bt x k.toNat) (seg g1 0 n1))), .int (iZ (m))]) rfl ?_
      refine j_iadd hG dX9_countOfKeys_26 ?_
      refine j_istore_n (lv' := [(0, .ref T), (1, .int (x)), (2, .int (iZ (m + (cntK (fun k => bt x k.toNat) (seg g1 0 n1))))), (3, .int (iZ ((t : Int))))]) hG dX9_countOfKeys_27 rfl (by decide) rfl ?_
      refine j_iinc (a := (t : Int)) (lv' := [(0, .ref T), (1, .int (x)), (2, .int (iZ (m + (cntK (fun k => bt x k.toNat) (seg g1 0 n1))))), (3, .int (iZ ((t : Int) + 1)))]) hG dX9_countOfKeys_28 rfl (by decide) rfl ?_
      refine j_goto (tgt := 4) hG dX9_countOfKeys_31 (by decide) ?_
      refine j_lv (lv' := [(0, .ref T), (1, .int (x)), (2, .int (iZ (m + (cntK (fun k => bt x k.toNat) (seg g1 0 n1))))), (3, .int (iZ (((t + 1 : Nat) : Int))))]) (by simp) ?_
      exact ih (t + 1) _ f hT hpl hcu hRW (by omega) (by rw [hm, rl1.1]; rfl) hf (by omega)
theorem c_X9_countOfKeys {l : Launch} {E : JE} {f : Hp} {T cu ofr mk it pl dr pm : Nat} {sz : Int} {gcu  : Int → Option Nat} {ra ca : Int → Nat} {X : Int → List Int × Int} {x : Int32} (hT : f T = oB 8 [.ref cu, .ref ofr, .ref mk, .ref it, .ref (ra 36), .ref (ca 37), .ref pl, .ref dr]) (hpl : f pl = oB 5 [.ref pm, .int (iZ (sz))]) (hcu : f cu = aQ (E.2.1 4) 12 (gcu)) (hsz : 0 ≤ sz ∧ sz ≤ 12) (gcu_ : ∀ i, 0 ≤ i → i < 12 → gcu i = some (ra i)) (hRW : RWs E f ra ca X) : KX9_countOfKeys l E [.ref T, .int (x)] f (fun v f' => v = some (.int (iZ (sumT (fun k => bt x k.toNat) (fun i => (X i).1) sz.toNat))) ∧ f = f') := by
  refine ct_of (own := RX9) (lv := [(0, .ref T), (1, .int (x))]) (by decide +kernel) rfl (Nat.le_of_ble_eq_true rfl) rfl ?_
  intro G hG hZ
  refine j_iconst hG dX9_countOfKeys_0 ?_
  refine j_istore_n (lv' := [(0, .ref T), (1, .int (x)), (2, .int (iZ (0)))]) hG dX9_countOfKeys_1 rfl (by decide) rfl ?_
  refine j_iconst hG dX9_countOfKeys_2 ?_
  refine j_istore_n (lv' := [(0, .ref T), (1, .int (x)), (2, .int (iZ (0))), (3, .int (iZ (0)))]) hG dX9_countOfKeys_3 rfl (by decide) rfl ?_
  exact l_X9_countOfKeys (f0 := f) hG hZ hsz gcu_ (fun f' e => ⟨rfl, e.symm⟩) ((sz - 0).toNat + 1) 0 0 f hT hpl hcu hRW (by omega) rfl rfl (by omega)
theorem l_X9_clear {G : JG} {l : Launch} {E : JE} {P : Option Value → Hp → Prop} (hG : jX G l E cX9_clear RX9 2 rmX9_clear) (hZ : jZ G none P) {T cu ofr mk it pl dr : Nat} {gcu gmk : Int → Option Nat} {ra ca : Int → Nat} {X0 : Int → List Int × Int} {f0 : Hp} (hd : rwD ra ca) (gcu_ : ∀ i, 0 ≤ i → i < 12 → gcu i = some (ra i)) (gmk_ : ∀ i, 0 ≤ i → i < 12 → gmk i = some (ra (i + 24))) (hP : ∀ (f' : Hp) (X' : Int → List Int × Int), RWs E f' ra ca X' → (∀ j, 0 ≤ j → j < 12 → X' j = ([], 0) ∧ X' (j + 24) = ([], 0)) → (∀ j, 12 ≤ j ∧ j < 24 ∨ 36 ≤ j → True → X' j = X0 j) → (∀ q, (∀ i, 0 ≤ i → i < 37 → q ≠ ra i) → (∀ i, 0 ≤ i → i < 38 → q ≠ ca i) → f' q = f0 q) → P none f') :
    ∀ (d : Nat) (t : Int) (X1 : Int → List Int × Int) (gs : Int → Int) (f1 : Hp), (hT : f1 T = oB 8 [.ref cu, .ref ofr, .ref mk, .ref it, .ref (ra 36), .ref (ca 37), .ref pl, .ref dr]) → (hcu : f1 cu = aQ (E.2.1 4) 12 (gcu)) → (hmk0 : f1 mk = aQ (E.2.1 4) 12 (gmk)) → (hsc : f1 (ca 37) = aJ (E.2.1 1) 400 (gs)) → (hgs : gOk gs) → (hRW : RWs E f1 ra ca X1) → (ht : 0 ≤ t ∧ t ≤ 12) → (hX1 : ∀ j, 0 ≤ j → j < t → X1 j = ([], 0) ∧ X1 (j + 24) = ([], 0)) → (hX2 : ∀ j, (12 ≤ j ∧ j < 24 ∨ 36 ≤ j) → True → X1 j = X0 j) → (hfr : ∀ q, (∀ i, 0 ≤ i → i < 37 → q ≠ ra i) → (∀ i, 0 ≤ i → i < 38 → q ≠ ca i) → f1 q = f0 q) → ((12 - t).toNat) < d → J G 0 0 f1 2 [(0, .ref T), (1, .int (iZ (t)))] [] := by
  intro d
  induction d with
  | zero => intro t X1 gs f1 hT hcu hmk0 hsc hgs hRW ht hX1 hX2 hfr hd9; exfalso; omega
  | succ d ih =>
    intro t X1 gs f1 hT hcu hmk0 hsc hgs hRW ht hX1 hX2 hfr hd9
    refine j_iload_n hG dX9_clear_2 rfl rfl ?_
    refine j_bipush hG dX9_clear_3 (by decide) ?_
    refine j_icmp_ge (tgt := 32) hG dX9_clear_5 (by decide) (by omega) (by omega) (fun c1 => ?_) (fun c1 => ?_)
    · -- taken at 5
      have e9 : t = 12 := by omega
      subst e9
      exact j_vret hG hZ dX9_clear_32 (Nat.zero_le _) (Nat.zero_le _) (hP f1 X1 hRW hX1 hX2 hfr)
    · -- on at 5
      refine j_aload_n hG dX9_clear_8 rfl rfl ?_
      refine j_get hG fX9_11 dX9_clear_9 hT rfl ?_
      refine j_iload_n hG dX9_clear_12 rfl rfl ?_
      obtain ⟨n1, b1, g1, ro1, rc1, rg1, rb1, rn1, rl1⟩ := hRW.1 (t) (by omega) (by omega)
      refine j_ald4 hG dX9_clear_13 hcu (by omega) (by decide) (gcu_ t (by omega) (by omega)) ?_
      refine j_callV (rest := []) hG vX9_68 dX9_clear_14 (c_X8_clear ro1 ) ro1 rfl rfl (by decide) (by decide) (Nat.le_of_ble_eq_true rfl) rfl rfl (Nat.zero_le _) (Nat.zero_le _) ?_
      rintro _ f4 ⟨rfl, h2, fr3⟩
      refine j_st (st' := []) rfl ?_
      have h2 : f4 (ra t) = oB 7 [.ref (ca t), .int (iZ (0)), .int (iZ (0))] := h2
      have h5 := (fr3 T (h_ne hT ro1 (oo_n (by decide)))).trans hT
      have h6 := (fr3 cu (h_ne hcu ro1 (Ne.symm oa_Q))).trans hcu
      have h7 := (fr3 mk (h_ne hmk0 ro1 (Ne.symm oa_Q))).trans hmk0
      have h8 := (fr3 (ca 37) (h_ne hsc ro1 (Ne.symm oa_J))).trans hsc
      have h9 := (fr3 (ca t) (h_ne rc1 ro1 (Ne.symm oa_J))).trans rc1
      have hR2 := RWs_upd (f' := f4) (i := t) (l := ([], 0)) hd hRW (by omega) ⟨0, 0, g1, h2, h9, rg1, Or.inl rfl, by omega, seg_nil (Int.le_refl _), rfl⟩ ⟨_, h8, hgs⟩ (fun q q1 q2 q3 => fr3 q q1)
      refine j_aload_n hG dX9_clear_17 rfl rfl ?_
      refine j_get hG fX9_20 dX9_clear_18 h5 rfl ?_
      refine j_iload_n hG dX9_clear_21 rfl rfl ?_
      obtain ⟨n2, b2, g2, ro2, rc2, rg2, rb2, rn2, rl2⟩ := hR2.1 (t + 24) (by omega) (by omega)
      refine j_ald4 hG dX9_clear_22 h7 (by omega) (by decide) (gmk_ t (by omega) (by omega)) ?_
      refine j_callV (rest := []) hG vX9_68 dX9_clear_23 (c_X8_clear ro2 ) ro2 rfl rfl (by decide) (by decide) (Nat.le_of_ble_eq_true rfl) rfl rfl (Nat.zero_le _) (Nat.zero_le _) ?_
      rintro _ f12 ⟨rfl, h10, fr11⟩
      refine j_st (st' := []) rfl ?_
      have h10 : f12 (ra (t + 24)) = oB 7 [.ref (ca (t + 24)), .int (iZ (0)), .int (iZ (0))] := h10
      have h13 := (fr11 T (h_ne h5 ro2 (oo_n (by decide)))).trans h5
      have h14 := (fr11 cu (h_ne h6 ro2 (Ne.symm oa_Q))).trans h6
      have h15 := (fr11 mk (h_ne h7 ro2 (Ne.symm oa_Q))).trans h7
      have h16 := (fr11 (ca 37) (h_ne h8 ro2 (Ne.symm oa_J))).trans h8
      have h17 := (fr11 (ca t) (h_ne h9 ro2 (Ne.symm oa_J))).trans h9
      have h18 := (fr11 (ra t) (fun q => absurd (hd.1 _ _ (by omega) (by omega) (by omega) (by omega) q) (by omega))).trans h2
      have h19 := (fr11 (ca (t + 24)) (h_ne rc2 ro2 (Ne.symm oa_J))).trans rc2
      refine j_iinc (a := t) (lv' := [(0, .ref T), (1, .int (iZ (t + 1)))]) hG dX9_clear_26 rfl (by decide) rfl ?_
      refine j_goto (tgt := 2) hG dX9_clear_29 (by decide) ?_
      have hR3 := RWs_upd (f' := f12) (i := t + 24) (l := ([], 0)) hd hR2 (by omega) ⟨0, 0, g2, h10, h19, rg2, Or.inl rfl, by omega, seg_nil (Int.le_refl _), rfl⟩ ⟨_, h16, hgs⟩ (fun q q1 q2 q3 => fr11 q q1)
      refine ih (t + 1) _ gs f12 h13 h14 h15 h16 hgs hR3 (by omega) (fun j j1 j2 => ?_) (fun j j1 j2 => ?_) (fun q q1 q2 => (Eq.trans (fr11 q (q1 (t + 24) (by omega) (by omega))) (fr3 q (q1 t (by omega) (by omega)))).trans (hfr q q1 q2)) (by omega)
      · by_cases e : j = t
        · subst e; exact ⟨by rw [fup_n _ _ (by omega), fup_s], by rw [fup_s]⟩
        · have := hX1 j j1 (by omega)
          exact ⟨by rw [fup_n _ _ (by omega), fup_n _ _ (by omega)]; exact this.1, by rw [fup_n _ _ (by omega), fup_n _ _ (by omega)]; exact this.2⟩
      · rw [fup_n _ _ (by omega), fup_n _ _ (by omega)]; exact hX2 j (by omega) (by omega)
theorem c_X9_clear {l : Launch} {E : JE} {f : Hp} {T cu ofr mk it pl dr : Nat} {gcu gmk : Int → Option Nat} {ra ca : Int → Nat} {X : Int → List Int × Int} (hT : f T = oB 8 [.ref cu, .ref ofr, .ref mk, .ref it, .ref (ra 36), .ref (ca 37), .ref pl, .ref dr]) (hcu : f cu = aQ (E.2.1 4) 12 (gcu)) (hmk0 : f mk = aQ (E.2.1 4) 12 (gmk)) (hd : rwD ra ca) (gcu_ : ∀ i, 0 ≤ i → i < 12 → gcu i = some (ra i)) (gmk_ : ∀ i, 0 ≤ i → i < 12 → gmk i = some (ra (i + 24))) (hRW : RWs E f ra ca X) : KX9_clear l E [.ref T] f (fun v f' => v = none ∧ ∃ X' : Int → List Int × Int, RWs E f' ra ca X' ∧ (∀ j, 0 ≤ j → j < 12 → X' j = ([], 0) ∧ X' (j + 24) = ([], 0)) ∧ (∀ j, 12 ≤ j ∧ j < 24 ∨ 36 ≤ j → X' j = X j) ∧ ∀ q, (∀ i, 0 ≤ i → i < 37 → q ≠ ra i) → (∀ i, 0 ≤ i → i < 38 → q ≠ ca i) → f' q = f q) := by
  refine ct_of (own := RX9) (lv := [(0, .ref T)]) (by decide +kernel) rfl (Nat.le_of_ble_eq_true rfl) rfl ?_
  intro G hG hZ
  refine j_iconst hG dX9_clear_0 ?_
  refine j_istore_n (lv' := [(0, .ref T), (1, .int (iZ (0)))]) hG dX9_clear_1 rfl (by decide) rfl ?_
  obtain ⟨gs, hsc, hgs⟩ := hRW.2
  exact l_X9_clear (X0 := X) (f0 := f) hG hZ hd gcu_ gmk_ (fun f' X' a1 a2 a3 a4 => ⟨rfl, X', a1, a2, fun j hj => a3 j hj trivial, a4⟩) 13 0 X gs f hT hcu hmk0 hsc hgs hRW (by omega) (fun j j1 j2 => absurd j2 (by omega)) (fun _ _ _ => rfl) (fun _ _ _ => rfl) (by omega)
theorem l_X9_keep {G : JG} {l : Launch} {E : JE} {P : Option Value → Hp → Prop} (hG : jX G l E cX9_keep RX9 2 rmX9_keep) (hZ : jZ G none P) {T cu ofr mk it pl dr pm : Nat} {sz : Int} {gcu gmk : Int → Option Nat} {ra ca : Int → Nat} {X0 : Int → List Int × Int} {f0 : Hp} (hsz : 0 ≤ sz ∧ sz ≤ 12) (hd : rwD ra ca) (gcu_ : ∀ i, 0 ≤ i → i < 12 → gcu i = some (ra i)) (gmk_ : ∀ i, 0 ≤ i → i < 12 → gmk i = some (ra (i + 24))) (hP : ∀ (f' : Hp) (X' : Int → List Int × Int), RWs E f' ra ca X' → (∀ j, 0 ≤ j → j < sz → X' (j + 24) = X0 j) → (∀ j, (j < 24 ∨ 24 + sz ≤ j) → X' j = X0 j) → (∀ q, (∀ i, 0 ≤ i → i < 37 → q ≠ ra i) → (∀ i, 0 ≤ i → i < 38 → q ≠ ca i) → f' q = f0 q) → P none f') :
    ∀ (d : Nat) (t : Int) (X1 : Int → List Int × Int) (gs : Int → Int) (f1 : Hp), (hT : f1 T = oB 8 [.ref cu, .ref ofr, .ref mk, .ref it, .ref (ra 36), .ref (ca 37), .ref pl, .ref dr]) → (hpl : f1 pl = oB 5 [.ref pm, .int (iZ (sz))]) → (hcu : f1 cu = aQ (E.2.1 4) 12 (gcu)) → (hmk0 : f1 mk = aQ (E.2.1 4) 12 (gmk)) → (hsc : f1 (ca 37) = aJ (E.2.1 1) 400 (gs)) → (hgs : gOk gs) → (hRW : RWs E f1 ra ca X1) → (ht : 0 ≤ t ∧ t ≤ sz) → (hX1 : ∀ j, 0 ≤ j → j < t → X1 (j + 24) = X0 j) → (hX2 : ∀ j, (j < 24 ∨ 24 + t ≤ j) → X1 j = X0 j) → (hfr : ∀ q, (∀ i, 0 ≤ i → i < 37 → q ≠ ra i) → (∀ i, 0 ≤ i → i < 38 → q ≠ ca i) → f1 q = f0 q) → ((sz - t).toNat) < d → J G 0 0 f1 2 [(0, .ref T), (1, .int (iZ (t)))] [] := by
  intro d
  induction d with
  | zero => intro t X1 gs f1 hT hpl hcu hmk0 hsc hgs hRW ht hX1 hX2 hfr hd9; exfalso; omega
  | succ d ih =>
    intro t X1 gs f1 hT hpl hcu hmk0 hsc hgs hRW ht hX1 hX2 hfr hd9
    refine j_iload_n hG dX9_keep_2 rfl rfl ?_
    refine j_aload_n hG dX9_keep_3 rfl rfl ?_
    refine j_get hG fX9_39 dX9_keep_4 hT rfl ?_
    refine j_callV (rest := [.int (iZ (t))]) hG vX9_46 dX9_keep_7 (c_X5_size hpl) hpl rfl rfl (by decide) (by decide) (Nat.le_of_ble_eq_true rfl) rfl rfl (Nat.zero_le _) (Nat.zero_le _) ?_
    rintro _ _ ⟨rfl, rfl⟩
    refine j_st (st' := [.int (iZ (sz)), .int (iZ (t))]) rfl ?_
    refine j_icmp_ge (tgt := 34) hG dX9_keep_10 (by decide) (by omega) (by omega) (fun c1 => ?_) (fun c1 => ?_)
    · -- taken at 10
      have e9 : t = sz := by omega
      subst e9
      exact j_vret hG hZ dX9_keep_34 (Nat.zero_le _) (Nat.zero_le _) (hP f1 X1 hRW hX1 hX2 hfr)
    · -- on at 10
      refine j_aload_n hG dX9_keep_13 rfl rfl ?_
      refine j_get hG fX9_20 dX9_keep_14 hT rfl ?_
      refine j_iload_n hG dX9_keep_17 rfl rfl ?_
      obtain ⟨n1, b1, g1, ro1, rc1, rg1, rb1, rn1, rl1⟩ := hRW.1 (t + 24) (by omega) (by omega)
      obtain ⟨n2, b2, g2, ro2, rc2, rg2, rb2, rn2, rl2⟩ := hRW.1 (t) (by omega) (by omega)
      refine j_ald4 hG dX9_keep_18 hmk0 (by omega) (by decide) (gmk_ t (by omega) (by omega)) ?_
      refine j_aload_n hG dX9_keep_19 rfl rfl ?_
      refine j_get hG fX9_11 dX9_keep_20 hT rfl ?_
      refine j_iload_n hG dX9_keep_23 rfl rfl ?_
      refine j_ald4 hG dX9_keep_24 hcu (by omega) (by decide) (gcu_ t (by omega) (by omega)) ?_
      refine j_callV (rest := []) hG vX9_71 dX9_keep_25 (c_X8_copy ro1 rc1 ro2 rc2 rn2 rb2 (fun q => absurd (hd.1 _ _ (by omega) (by omega) (by omega) (by omega) q) (by omega)) (fun q => absurd (hd.2 _ _ (by omega) (by omega) (by omega) (by omega) q) (by omega))) ro1 rfl rfl (by decide) (by decide) (Nat.le_of_ble_eq_true rfl) rfl rfl (Nat.zero_le _) (Nat.zero_le _) ?_
      rintro _ f7 ⟨rfl, ⟨g2, k3, k4, k5⟩, fr6⟩
      refine j_st (st' := []) rfl ?_
      have h8 := (fr6 T (h_ne hT ro1 (oo_n (by decide))) (h_ne hT rc1 oa_J)).trans hT
      have h9 := (fr6 pl (h_ne hpl ro1 (oo_n (by decide))) (h_ne hpl rc1 oa_J)).trans hpl
      have h10 := (fr6 cu (h_ne hcu ro1 (Ne.symm oa_Q)) (h_ne hcu rc1 (Ne.symm aJQ))).trans hcu
      have h11 := (fr6 mk (h_ne hmk0 ro1 (Ne.symm oa_Q)) (h_ne hmk0 rc1 (Ne.symm aJQ))).trans hmk0
      have h12 := (fr6 (ca 37) (h_ne hsc ro1 (Ne.symm oa_J)) (Ne.symm (fun q => absurd (hd.2 _ _ (by omega) (by omega) (by omega) (by omega) q) (by omega)))).trans hsc
      have h13 := (fr6 (ra t) (fun q => absurd (hd.1 _ _ (by omega) (by omega) (by omega) (by omega) q) (by omega)) (h_ne ro2 rc1 oa_J)).trans ro2
      have h14 := (fr6 (ca t) (h_ne rc2 ro1 (Ne.symm oa_J)) (fun q => absurd (hd.2 _ _ (by omega) (by omega) (by omega) (by omega) q) (by omega))).trans rc2
      refine j_iinc (a := t) (lv' := [(0, .ref T), (1, .int (iZ (t + 1)))]) hG dX9_keep_28 rfl (by decide) rfl ?_
      refine j_goto (tgt := 2) hG dX9_keep_31 (by decide) ?_
      have hR3 := RWs_upd (f' := f7) (i := t + 24) (l := X1 t) hd hRW (by omega) ⟨n2, b2, g2, k3, k4, by rw [k5]; exact gOk_fcp rg2 rg1, rb2, rn2, by rw [← rl2.1, k5]; exact seg_congr (fun j j1 j2 => by unfold fcp; rw [if_pos (by omega)]; congr 1; omega), rl2.2⟩ ⟨_, h12, hgs⟩ (fun q q1 q2 q3 => fr6 q q1 q2)
      refine ih (t + 1) _ gs f7 h8 h9 h10 h11 h12 hgs hR3 (by omega) (fun j j1 j2 => ?_) (fun j j1 => ?_) (fun q q1 q2 => (fr6 q (q1 (t + 24) (by omega) (by omega)) (q2 (t + 24) (by omega) (by omega))).trans (hfr q q1 q2)) (by omega)
      · by_cases e : j = t
        · subst e; rw [fup_s]; exact hX2 _ (by omega)
        · rw [fup_n _ _ (by omega)]; exact hX1 j j1 (by omega)
      · rw [fup_n _ _ (by omega)]; exact hX2 j (by omega)
theorem c_X9_keep {l : Launch} {E : JE} {f : Hp} {T cu ofr mk it pl dr pm : Nat} {sz : Int} {gcu gmk : Int → Option Nat} {ra ca : Int → Nat} {X : Int → List Int × Int} (hT : f T = oB 8 [.ref cu, .ref ofr, .ref mk, .ref it, .ref (ra 36), .ref (ca 37), .ref pl, .ref dr]) (hpl : f pl = oB 5 [.ref pm, .int (iZ (sz))]) (hcu : f cu = aQ (E.2.1 4) 12 (gcu)) (hmk0 : f mk = aQ (E.2.1 4) 12 (gmk)) (hsz : 0 ≤ sz ∧ sz ≤ 12) (hd : rwD ra ca) (gcu_ : ∀ i, 0 ≤ i → i < 12 → gcu i = some (ra i)) (gmk_ : ∀ i, 0 ≤ i → i < 12 → gmk i = some (ra (i + 24))) (hRW : RWs E f ra ca X) : KX9_keep l E [.ref T] f (fun v f' => v = none ∧ ∃ X' : Int → List Int × Int, RWs E f' ra ca X' ∧ (∀ j, 0 ≤ j → j < sz → X' (j + 24) = X j) ∧ (∀ j, (j < 24 ∨ 24 + sz ≤ j) → X' j = X j) ∧ ∀ q, (∀ i, 0 ≤ i → i < 37 → q ≠ ra i) → (∀ i, 0 ≤ i → i < 38 → q ≠ ca i) → f' q = f q) := by
  refine ct_of (own := RX9) (lv := [(0, .ref T)]) (by decide +kernel) rfl (Nat.le_of_ble_eq_true rfl) rfl ?_
  intro G hG hZ
  refine j_iconst hG dX9_keep_0 ?_
  refine j_istore_n (lv' := [(0, .ref T), (1, .int (iZ (0)))]) hG dX9_keep_1 rfl (by decide) rfl ?_
  obtain ⟨gs, hsc, hgs⟩ := hRW.2
  exact l_X9_keep (X0 := X) (f0 := f) hG hZ hsz hd gcu_ gmk_ (fun f' X' a1 a2 a3 a4 => ⟨rfl, X', a1, a2, a3, a4⟩) ((sz - 0).toNat + 1) 0 X gs f hT hpl hcu hmk0 hsc hgs hRW (by omega) (fun j j1 j2 => absurd j2 (by omega)) (fun _ _ => rfl) (fun _ _ _ => rfl) (by omega)
theorem l_X9_restore {G : JG} {l : Launch} {E : JE} {P : Option Value → Hp → Prop} (hG : jX G l E cX9_restore RX9 2 rmX9_restore) (hZ : jZ G none P) {T cu ofr mk it pl dr pm : Nat} {sz : Int} {gcu gmk : Int → Option Nat} {ra ca : Int → Nat} {X0 : Int → List Int × Int} {f0 : Hp} (hsz : 0 ≤ sz ∧ sz ≤ 12) (hd : rwD ra ca) (gcu_ : ∀ i, 0 ≤ i → i < 12 → gcu i = some (ra i)) (gmk_ : ∀ i, 0 ≤ i → i < 12 → gmk i = some (ra (i + 24))) (hP : ∀ (f' : Hp) (X' : Int → List Int × Int), RWs E f' ra ca X' → (∀ j, 0 ≤ j → j < sz → X' j = X0 (j + 24)) → (∀ j, (j < 0 ∨ 0 + sz ≤ j) → X' j = X0 j) → (∀ q, (∀ i, 0 ≤ i → i < 37 → q ≠ ra i) → (∀ i, 0 ≤ i → i < 38 → q ≠ ca i) → f' q = f0 q) → P none f') :
    ∀ (d : Nat) (t : Int) (X1 : Int → List Int × Int) (gs : Int → Int) (f1 : Hp), (hT : f1 T = oB 8 [.ref cu, .ref ofr, .ref mk, .ref it, .ref (ra 36), .ref (ca 37), .ref pl, .ref dr]) → (hpl : f1 pl = oB 5 [.ref pm, .int (iZ (sz))]) → (hcu : f1 cu = aQ (E.2.1 4) 12 (gcu)) → (hmk0 : f1 mk = aQ (E.2.1 4) 12 (gmk)) → (hsc : f1 (ca 37) = aJ (E.2.1 1) 400 (gs)) → (hgs : gOk gs) → (hRW : RWs E f1 ra ca X1) → (ht : 0 ≤ t ∧ t ≤ sz) → (hX1 : ∀ j, 0 ≤ j → j < t → X1 j = X0 (j + 24)) → (hX2 : ∀ j, (j < 0 ∨ 0 + t ≤ j) → X1 j = X0 j) → (hfr : ∀ q, (∀ i, 0 ≤ i → i < 37 → q ≠ ra i) → (∀ i, 0 ≤ i → i < 38 → q ≠ ca i) → f1 q = f0 q) → ((sz - t).toNat) < d → J G 0 0 f1 2 [(0, .ref T), (1, .int (iZ (t)))] [] := by
  intro d
  induction d with
  | zero => intro t X1 gs f1 hT hpl hcu hmk0 hsc hgs hRW ht hX1 hX2 hfr hd9; exfalso; omega
  | succ d ih =>
    intro t X1 gs f1 hT hpl hcu hmk0 hsc hgs hRW ht hX1 hX2 hfr hd9
    refine j_iload_n hG dX9_restore_2 rfl rfl ?_
    refine j_aload_n hG dX9_restore_3 rfl rfl ?_
    refine j_get hG fX9_39 dX9_restore_4 hT rfl ?_
    refine j_callV (rest := [.int (iZ (t))]) hG vX9_46 dX9_restore_7 (c_X5_size hpl) hpl rfl rfl (by decide) (by decide) (Nat.le_of_ble_eq_true rfl) rfl rfl (Nat.zero_le _) (Nat.zero_le _) ?_
    rintro _ _ ⟨rfl, rfl⟩
    refine j_st (st' := [.int (iZ (sz)), .int (iZ (t))]) rfl ?_
    refine j_icmp_ge (tgt := 34) hG dX9_restore_10 (by decide) (by omega) (by omega) (fun c1 => ?_) (fun c1 => ?_)
    · -- taken at 10
      have e9 : t = sz := by omega
      subst e9
      exact j_vret hG hZ dX9_restore_34 (Nat.zero_le _) (Nat.zero_le _) (hP f1 X1 hRW hX1 hX2 hfr)
    · -- on at 10
      refine j_aload_n hG dX9_restore_13 rfl rfl ?_
      refine j_get hG fX9_11 dX9_restore_14 hT rfl ?_
      refine j_iload_n hG dX9_restore_17 rfl rfl ?_
      obtain ⟨n1, b1, g1, ro1, rc1, rg1, rb1, rn1, rl1⟩ := hRW.1 (t) (by omega) (by omega)
      obtain ⟨n2, b2, g2, ro2, rc2, rg2, rb2, rn2, rl2⟩ := hRW.1 (t + 24) (by omega) (by omega)
      refine j_ald4 hG dX9_restore_18 hcu (by omega) (by decide) (gcu_ t (by omega) (by omega)) ?_
      refine j_aload_n hG dX9_restore_19 rfl rfl ?_
      refine j_get hG fX9_20 dX9_restore_20 hT rfl ?_
      refine j_iload_n hG dX9_restore_23 rfl rfl ?_
      refine j_ald4 hG dX9_restore_24 hmk0 (by omega) (by decide) (gmk_ t (by omega) (by omega)) ?_
      refine j_callV (rest := []) hG vX9_71 dX9_restore_25 (c_X8_copy ro1 rc1 ro2 rc2 rn2 rb2 (fun q => absurd (hd.1 _ _ (by omega) (by omega) (by omega) (by omega) q) (by omega)) (fun q => absurd (hd.2 _ _ (by omega) (by omega) (by omega) (by omega) q) (by omega))) ro1 rfl rfl (by decide) (by decide) (Nat.le_of_ble_eq_true rfl) rfl rfl (Nat.zero_le _) (Nat.zero_le _) ?_
      rintro _ f7 ⟨rfl, ⟨g2, k3, k4, k5⟩, fr6⟩
      refine j_st (st' := []) rfl ?_
      have h8 := (fr6 T (h_ne hT ro1 (oo_n (by decide))) (h_ne hT rc1 oa_J)).trans hT
      have h9 := (fr6 pl (h_ne hpl ro1 (oo_n (by decide))) (h_ne hpl rc1 oa_J)).trans hpl
      have h10 := (fr6 cu (h_ne hcu ro1 (Ne.symm oa_Q)) (h_ne hcu rc1 (Ne.symm aJQ))).trans hcu
      have h11 := (fr6 mk (h_ne hmk0 ro1 (Ne.symm oa_Q)) (h_ne hmk0 rc1 (Ne.symm aJQ))).trans hmk0
      have h12 := (fr6 (ca 37) (h_ne hsc ro1 (Ne.symm oa_J)) (Ne.symm (fun q => absurd (hd.2 _ _ (by omega) (by omega) (by omega) (by omega) q) (by omega)))).trans hsc
      have h13 := (fr6 (ra (t + 24)) (Ne.symm (fun q => absurd (hd.1 _ _ (by omega) (by omega) (by omega) (by omega) q) (by omega))) (h_ne ro2 rc1 oa_J)).trans ro2
      have h14 := (fr6 (ca (t + 24)) (h_ne rc2 ro1 (Ne.symm oa_J)) (Ne.symm (fun q => absurd (hd.2 _ _ (by omega) (by omega) (by omega) (by omega) q) (by omega)))).trans rc2
      refine j_iinc (a := t) (lv' := [(0, .ref T), (1, .int (iZ (t + 1)))]) hG dX9_restore_28 rfl (by decide) rfl ?_
      refine j_goto (tgt := 2) hG dX9_restore_31 (by decide) ?_
      have hR3 := RWs_upd (f' := f7) (i := t) (l := X1 (t + 24)) hd hRW (by omega) ⟨n2, b2, g2, k3, k4, by rw [k5]; exact gOk_fcp rg2 rg1, rb2, rn2, by rw [← rl2.1, k5]; exact seg_congr (fun j j1 j2 => by unfold fcp; rw [if_pos (by omega)]; congr 1; omega), rl2.2⟩ ⟨_, h12, hgs⟩ (fun q q1 q2 q3 => fr6 q q1 q2)
      refine ih (t + 1) _ gs f7 h8 h9 h10 h11 h12 hgs hR3 (by omega) (fun j j1 j2 => ?_) (fun j j1 => ?_) (fun q q1 q2 => (fr6 q (q1 (t) (by omega) (by omega)) (q2 (t) (by omega) (by omega))).trans (hfr q q1 q2)) (by omega)
      · by_cases e : j = t
        · subst e; rw [fup_s]; exact hX2 _ (by omega)
        · rw [fup_n _ _ (by omega)]; exact hX1 j j1 (by omega)
      · rw [fup_n _ _ (by omega)]; exact hX2 j (by omega)
theorem c_X9_restore {l : Launch} {E : JE} {f : Hp} {T cu ofr mk it pl dr pm : Nat} {sz : Int} {gcu gmk : Int → Option Nat} {ra ca : Int → Nat} {X : Int → List Int × Int} (hT : f T = oB 8 [.ref cu, .ref ofr, .ref mk, .ref it, .ref (ra 36), .ref (ca 37), .ref pl, .ref dr]) (hpl : f pl = oB 5 [.ref pm, .int (iZ (sz))]) (hcu : f cu = aQ (E.2.1 4) 12 (gcu)) (hmk0 : f mk = aQ (E.2.1 4) 12 (gmk)) (hsz : 0 ≤ sz ∧ sz ≤ 12) (hd : rwD ra ca) (gcu_ : ∀ i, 0 ≤ i → i < 12 → gcu i = some (ra i)) (gmk_ : ∀ i, 0 ≤ i → i < 12 → gmk i = some (ra (i + 24))) (hRW : RWs E f ra ca X) : KX9_restore l E [.ref T] f (fun v f' => v = none ∧ ∃ X' : Int → List Int × Int, RWs E f' ra ca X' ∧ (∀ j, 0 ≤ j → j < sz → X' j = X (j + 24)) ∧ (∀ j, (j < 0 ∨ 0 + sz ≤ j) → X' j = X j) ∧ ∀ q, (∀ i, 0 ≤ i → i < 37 → q ≠ ra i) → (∀ i, 0 ≤ i → i < 38 → q ≠ ca i) → f' q = f q) := by
  refine ct_of (own := RX9) (lv := [(0, .ref T)]) (by decide +kernel) rfl (Nat.le_of_ble_eq_true rfl) rfl ?_
  intro G hG hZ
  refine j_iconst hG dX9_restore_0 ?_
  refine j_istore_n (lv' := [(0, .ref T), (1, .int (iZ (0)))]) hG dX9_restore_1 rfl (by decide) rfl ?_
  obtain ⟨gs, hsc, hgs⟩ := hRW.2
  exact l_X9_restore (X0 := X) (f0 := f) hG hZ hsz hd gcu_ gmk_ (fun f' X' a1 a2 a3 a4 => ⟨rfl, X', a1, a2, a3, a4⟩) ((sz - 0).toNat + 1) 0 X gs f hT hpl hcu hmk0 hsc hgs hRW (by omega) (fun j j1 j2 => absurd j2 (by omega)) (fun _ _ => rfl) (fun _ _ _ => rfl) (by omega)
