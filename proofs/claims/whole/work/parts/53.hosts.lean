theorem l_X12_ownerBy {G9 : JG} {l : Launch} {E : JE} {P : Option Value → Hp → Prop} (hG : jX G9 l E cX12_ownerBy RX12 6 rmX12_ownerBy) (hZ : jZ G9 (some .int) P) {th : Int → Int} {k : Int} {f1 : Hp} (hk : 0 ≤ k ∧ k < 32) (hth : ∀ j, 0 ≤ j → j < 8 → th j = 0 ∨ th j = 1) (hP : P (some (.int (iZ (ownr th k)))) f1) :
    ∀ (d : Nat) (h0 : Nat) (a w : Int), (hi : h0 ≤ 8) → (hb : bst th k h0 = (a, w)) → (8 - h0) < d → J G9 0 0 f1 7 [(0, .int (iZ (k))), (1, .int (iZ (hB th))), (2, .int (iZ (a))), (3, .int (iZ (w))), (4, .int (iZ ((h0 : Int))))] [] := by
  intro d
  induction d with
  | zero => intro h0 a w hi hb hd9; exfalso; omega
  | succ d ih =>
    intro h0 a w hi hb hd9
    refine j_iload hG dX12_ownerBy_7 rfl ?_
    refine j_bipush hG dX12_ownerBy_9 (by decide) ?_
    have hr1 := bst_rng th k h0
    rw [hb] at hr1
    simp only [] at hr1
    refine j_icmp_ge (tgt := 57) hG dX12_ownerBy_11 (by decide) (by omega) (by omega) (fun c1 => ?_) (fun c1 => ?_)
    · -- taken at 11
      refine j_iload_n hG dX12_ownerBy_57 rfl rfl ?_
      have e9 : h0 = 8 := by omega
      subst e9
      have e8 : ownr th k = a := by unfold ownr; rw [hb]
      rw [← e8]
      exact j_iret hG hZ dX12_ownerBy_58 (Nat.zero_le _) (Nat.zero_le _) (hP)
    · -- on at 11
      refine j_iload_n hG dX12_ownerBy_14 rfl rfl ?_
      refine j_iconst hG dX12_ownerBy_15 ?_
      refine j_iadd hG dX12_ownerBy_16 ?_
      refine j_iconst hG dX12_ownerBy_17 ?_
      refine j_iload hG dX12_ownerBy_18 rfl ?_
      refine j_imul hG dX12_ownerBy_20 ?_
      refine j_iconst hG dX12_ownerBy_21 ?_
      refine j_iadd hG dX12_ownerBy_22 ?_
      have hz1 : 0 ≤ (k + 1) * (2 * (h0 : Int) + 3) := Int.mul_nonneg (by omega) (by omega)
      have hz2 : (k + 1) * (2 * (h0 : Int) + 3) ≤ 32 * 20 := Int.mul_le_mul (by omega) (by omega) (by omega) (by omega)
      refine j_imul hG dX12_ownerBy_23 ?_
      refine j_bipush hG dX12_ownerBy_24 (by decide) ?_
      refine j_irem hG dX12_ownerBy_26 (by omega) (by omega) ?_
      refine j_istore (lv' := [(0, .int (iZ (k))), (1, .int (iZ (hB th))), (2, .int (iZ (a))), (3, .int (iZ (w))), (4, .int (iZ ((h0 : Int)))), (5, .int (iZ (((k + 1) * ((2 * (h0 : Int)) + 3)) % 97)))]) hG dX12_ownerBy_27 (by decide) rfl ?_
      refine j_iload_n hG dX12_ownerBy_29 rfl rfl ?_
      refine j_iload hG dX12_ownerBy_30 rfl ?_
      refine j_ishr hG dX12_ownerBy_32 ?_
      refine j_iconst hG dX12_ownerBy_33 ?_
      refine j_iand hG dX12_ownerBy_34 ?_
      refine j_eqi (show (((iZ (hB th)) >>> ((iZ ((h0 : Int))) &&& 31)) &&& (iZ (1)) : Int32) = iZ (th (h0 : Int)) from hshr hth (by omega)) ?_
      refine j_iconst hG dX12_ownerBy_35 ?_
      have hg0 := hth h0 (by omega) (by omega)
      have hr0 := bst_rng th k h0
      rw [hb] at hr0
      simp only [] at hr0
      refine j_icmp_ne (tgt := 51) hG dX12_ownerBy_36 (by decide) (by omega) (by omega) (fun c2 => ?_) (fun c2 => ?_)
      · -- taken at 36
        refine j_iinc (a := (h0 : Int)) (lv' := [(0, .int (iZ (k))), (1, .int (iZ (hB th))), (2, .int (iZ (a))), (3, .int (iZ (w))), (4, .int (iZ ((h0 : Int) + 1))), (5, .int (iZ (((k + 1) * ((2 * (h0 : Int)) + 3)) % 97)))]) hG dX12_ownerBy_51 rfl (by decide) rfl ?_
        refine j_goto (tgt := 7) hG dX12_ownerBy_54 (by decide) ?_
        have e7 : bst th k (h0 + 1) = (a, w) := by
          unfold bst
          rw [hb]
          first | (rw [if_pos ⟨by omega, by omega⟩]) | (rw [if_neg (by simp only []; omega)])
        refine j_lv (lv' := [(0, .int (iZ (k))), (1, .int (iZ (hB th))), (2, .int (iZ (a))), (3, .int (iZ (w))), (4, .int (iZ (((h0 + 1 : Nat) : Int))))]) (by simp) ?_
        exact ih (h0 + 1) _ _ (by omega) e7 (by omega)
      · -- on at 36
        refine j_iload hG dX12_ownerBy_39 rfl ?_
        refine j_iload_n hG dX12_ownerBy_41 rfl rfl ?_
        refine j_icmp_le (tgt := 51) hG dX12_ownerBy_42 (by decide) (by omega) (by omega) (fun c3 => ?_) (fun c3 => ?_)
        · -- taken at 42
          refine j_iinc (a := (h0 : Int)) (lv' := [(0, .int (iZ (k))), (1, .int (iZ (hB th))), (2, .int (iZ (a))), (3, .int (iZ (w))), (4, .int (iZ ((h0 : Int) + 1))), (5, .int (iZ (((k + 1) * ((2 * (h0 : Int)) + 3)) % 97)))]) hG dX12_ownerBy_51 rfl (by decide) rfl ?_
          refine j_goto (tgt := 7) hG dX12_ownerBy_54 (by decide) ?_
          have e7 : bst th k (h0 + 1) = (a, w) := by
            unfold bst
            rw [hb]
            first | (rw [if_pos ⟨by omega, by omega⟩]) | (rw [if_neg (by simp only []; omega)])
          refine j_lv (lv' := [(0, .int (iZ (k))), (1, .int (iZ (hB th))), (2, .int (iZ (a))), (3, .int (iZ (w))), (4, .int (iZ (((h0 + 1 : Nat) : Int))))]) (by simp) ?_
          exact ih (h0 + 1) _ _ (by omega) e7 (by omega)
        · -- on at 42
          refine j_iload hG dX12_ownerBy_45 rfl ?_
          refine j_istore_n (lv' := [(0, .int (iZ (k))), (1, .int (iZ (hB th))), (2, .int (iZ (a))), (3, .int (iZ (((k + 1) * ((2 * (h0 : Int)) + 3)) % 97))), (4, .int (iZ ((h0 : Int)))), (5, .int (iZ (((k + 1) * ((2 * (h0 : Int)) + 3)) % 97)))]) hG dX12_ownerBy_47 rfl (by decide) rfl ?_
          refine j_iload hG dX12_ownerBy_48 rfl ?_
          refine j_istore_n (lv' := [(0, .int (iZ (k))), (1, .int (iZ (hB th))), (2, .int (iZ ((h0 : Int)))), (3, .int (iZ (((k + 1) * ((2 * (h0 : Int)) + 3)) % 97))), (4, .int (iZ ((h0 : Int)))), (5, .int (iZ (((k + 1) * ((2 * (h0 : Int)) + 3)) % 97)))]) hG dX12_ownerBy_50 rfl (by decide) rfl ?_
          refine j_iinc (a := (h0 : Int)) (lv' := [(0, .int (iZ (k))), (1, .int (iZ (hB th))), (2, .int (iZ ((h0 : Int)))), (3, .int (iZ (((k + 1) * ((2 * (h0 : Int)) + 3)) % 97))), (4, .int (iZ ((h0 : Int) + 1))), (5, .int (iZ (((k + 1) * ((2 * (h0 : Int)) + 3)) % 97)))]) hG dX12_ownerBy_51 rfl (by decide) rfl ?_
          refine j_goto (tgt := 7) hG dX12_ownerBy_54 (by decide) ?_
          have e7 : bst th k (h0 + 1) = ((h0 : Int), ((k + 1) * ((2 * (h0 : Int)) + 3)) % 97) := by
            unfold bst
            rw [hb]
            first | (rw [if_pos ⟨by omega, by omega⟩]) | (rw [if_neg (by simp only []; omega)])
          refine j_lv (lv' := [(0, .int (iZ (k))), (1, .int (iZ (hB th))), (2, .int (iZ ((h0 : Int)))), (3, .int (iZ (((k + 1) * ((2 * (h0 : Int)) + 3)) % 97))), (4, .int (iZ (((h0 + 1 : Nat) : Int))))]) (by simp) ?_
          exact ih (h0 + 1) _ _ (by omega) e7 (by omega)
theorem c_X12_ownerBy {l : Launch} {E : JE} {f : Hp}  {th : Int → Int} {k : Int} (hk : 0 ≤ k ∧ k < 32) (hth : ∀ j, 0 ≤ j → j < 8 → th j = 0 ∨ th j = 1) : KX12_ownerBy l E [.int (iZ (k)), .int (iZ (hB th))] f (fun v f' => v = some (.int (iZ (ownr th k))) ∧ f = f') := by
  refine ct_of (own := RX12) (lv := [(0, .int (iZ (k))), (1, .int (iZ (hB th)))]) (by decide +kernel) rfl (Nat.le_of_ble_eq_true rfl) rfl ?_
  intro G9 hG hZ
  refine j_iconst hG dX12_ownerBy_0 ?_
  refine j_istore_n (lv' := [(0, .int (iZ (k))), (1, .int (iZ (hB th))), (2, .int (iZ (-1)))]) hG dX12_ownerBy_1 rfl (by decide) rfl ?_
  refine j_iconst hG dX12_ownerBy_2 ?_
  refine j_istore_n (lv' := [(0, .int (iZ (k))), (1, .int (iZ (hB th))), (2, .int (iZ (-1))), (3, .int (iZ (-1)))]) hG dX12_ownerBy_3 rfl (by decide) rfl ?_
  refine j_iconst hG dX12_ownerBy_4 ?_
  refine j_istore (lv' := [(0, .int (iZ (k))), (1, .int (iZ (hB th))), (2, .int (iZ (-1))), (3, .int (iZ (-1))), (4, .int (iZ (0)))]) hG dX12_ownerBy_5 (by decide) rfl ?_
  exact l_X12_ownerBy hG hZ hk hth ⟨rfl, rfl⟩ 9 0 (-1) (-1) (by omega) rfl (by omega)
theorem c_X12_owner {l : Launch} {E : JE} {f : Hp} {rg : Nat → Nat} {f0 : Hp} {m : Nat} {ls : Int → Int} {lr : Int → Int} {ln : Nat} {M : Int → Int → Int} {sz : Nat} {la : Int} {rd : Nat} {mr : Nat} {W : List Int} {O : List Int} {g : Int → Int} {len : Int} {th : Int → Int} {fa : Int} {re : Int} {k : Int} (hM : MR E rg f0 f m (ls, lr, ln, M, sz, la, rd, mr, W, O, g, len, th, fa, re)) (hS : SOk (ls, lr, ln, M, sz, la, rd, mr, W, O, g, len, th, fa, re)) (hk_ : -2147483648 ≤ k ∧ k < 2147483648)  : KX12_owner l E [.ref m, .int (iZ (k))] f (fun v f' => v = some (.int (iZ (ownerF (ls, lr, ln, M, sz, la, rd, mr, W, O, g, len, th, fa, re) k).1)) ∧ MR E rg f0 f' m (ownerF (ls, lr, ln, M, sz, la, rd, mr, W, O, g, len, th, fa, re) k).2) := by
  refine ct_of (own := RX12) (lv := [(0, .ref m), (1, .int (iZ (k)))]) (by decide +kernel) rfl (Nat.le_of_ble_eq_true rfl) rfl ?_
  intro G9 hG hZ
  obtain ⟨A, V, G, hW, ⟨⟨m2, mlg⟩, ⟨m8, m9, m10⟩, mlt, ⟨m11, mtr⟩, mtb, ⟨m26, mw⟩, ⟨m31, mo⟩, ⟨m44, m43⟩, m51, m49, m1⟩⟩ := hM
  obtain ⟨⟨hln, hlg⟩, ⟨hsz, hMo⟩, hla, hrd, hok1, hok2, hWO, hbg, hle, hth, hh1⟩ := hS
  have hW := sV_in hW m2 m8 m9 m10 m11 m26 m31 m44 m51 m49 m1
  refine j_aload_n hG dX12_owner_0 rfl rfl ?_
  refine j_iconst hG dX12_owner_1 ?_
  refine j_put hG pX12_120 dX12_owner_2 hW.1 rfl rfl (Nat.le_of_ble_eq_true rfl) (fun f1 h2 fr3 => ?_)
  have hW4 : MF E rg f0 f1 m A (up (sV V (ln : Int) la (rd : Int) (mr : Int) (sz : Int) (W.length : Int) (O.length : Int) len (hB th) fa re) 0 0) G := MF_p0 hW h2 fr3
  refine j_iload_n hG dX12_owner_5 rfl rfl ?_
  refine j_i2l hG dX12_owner_6 (by omega) ?_
  refine j_lconst (y := 0) hG dX12_owner_7 (by decide) ?_
  refine j_ldc2 (z := 31) hG dX12_owner_8 kX12_132 (by decide) ?_
  refine j_callS (rest := []) hG vX12_128 dX12_owner_11 (c_X12_in (a := k) (lo := 0) (hi := 31) (by omega) (by omega) (by omega)) rfl rfl (by decide) (by decide) (Nat.le_of_ble_eq_true rfl) rfl rfl (Nat.zero_le _) (Nat.zero_le _) ?_
  rintro _ _ ⟨⟨z5, rfl, hz6⟩, rfl⟩
  refine j_st (st' := [.int (iZ (z5))]) rfl ?_
  refine j_if_eq (tgt := 28) hG dX12_owner_14 (by decide) (by omega) (fun c9 => ?_) (fun c9 => ?_)
  · -- taken at 14
    obtain ⟨-, e8⟩ := hz6.resolve_left (fun h => absurd h.1 (by omega))
    refine j_iconst hG dX12_owner_28 ?_
    have eF : ownerF (ls, lr, ln, M, sz, la, rd, mr, W, O, g, len, th, fa, re) k = (-1, (ls, lr, ln, M, sz, la, rd, mr, W, O, g, len, th, fa, re)) := by
      unfold ownerF
      dsimp only
      rw [if_neg (by omega)]
    exact j_iret hG hZ dX12_owner_29 (Nat.zero_le _) (Nat.zero_le _) (⟨by rw [eF], by rw [eF]; exact ⟨A, up (sV V (ln : Int) la (rd : Int) (mr : Int) (sz : Int) (W.length : Int) (O.length : Int) len (hB th) fa re) 0 0, G, hW4, ⟨⟨rfl, mlg⟩, ⟨rfl, rfl, rfl⟩, mlt, ⟨rfl, mtr⟩, mtb, ⟨rfl, mw⟩, ⟨rfl, mo⟩, ⟨rfl, m43⟩, rfl, rfl, rfl⟩⟩⟩)
  · -- on at 14
    obtain ⟨-, e7⟩ := hz6.resolve_right (fun h => absurd h.1 (by omega))
    refine j_iload_n hG dX12_owner_17 rfl rfl ?_
    refine j_aload_n hG dX12_owner_18 rfl rfl ?_
    refine j_get (v := .int (iZ (hB th))) hG fX12_117 dX12_owner_19 hW4.1 rfl ?_
    refine j_callS (rest := []) hG vX12_302 dX12_owner_22 (c_X12_ownerBy (th := th) (k := k) (by omega) hth) rfl rfl (by decide) (by decide) (Nat.le_of_ble_eq_true rfl) rfl rfl (Nat.zero_le _) (Nat.zero_le _) ?_
    rintro _ _ ⟨rfl, rfl⟩
    refine j_st (st' := [.int (iZ (ownr th k))]) rfl ?_
    refine j_goto (tgt := 29) hG dX12_owner_25 (by decide) ?_
    have eF : ownerF (ls, lr, ln, M, sz, la, rd, mr, W, O, g, len, th, fa, re) k = (ownr th k, (ls, lr, ln, M, sz, la, rd, mr, W, O, g, len, th, fa, re)) := by
      unfold ownerF
      dsimp only
      rw [if_pos (by omega)]
    exact j_iret hG hZ dX12_owner_29 (Nat.zero_le _) (Nat.zero_le _) (⟨by rw [eF], by rw [eF]; exact ⟨A, up (sV V (ln : Int) la (rd : Int) (mr : Int) (sz : Int) (W.length : Int) (O.length : Int) len (hB th) fa re) 0 0, G, hW4, ⟨⟨rfl, mlg⟩, ⟨rfl, rfl, rfl⟩, mlt, ⟨rfl, mtr⟩, mtb, ⟨rfl, mw⟩, ⟨rfl, mo⟩, ⟨rfl, m43⟩, rfl, rfl, rfl⟩⟩⟩)
theorem l_X12_owns_i {G9 : JG} {l : Launch} {E : JE} {P : Option Value → Hp → Prop} (hG : jX G9 l E cX12_owns RX12 5 rmX12_owns) (hZ : jZ G9 (some .int) P) {rg : Nat → Nat} {f0 f1 : Hp} {m : Nat} {A : Nat → Nat} {V : Nat → Int} {G : Nat → Int → Int} {th th2 : Int → Int} {h z : Int} {sz : Nat} {X : Int → List Int} (hW : MF E rg f0 f1 m A V G) (h11 : V 11 = (sz : Int)) (hsz : sz ≤ 12) (h51 : V 51 = hB th) (hth : ∀ j, 0 ≤ j → j < 8 → th j = 0 ∨ th j = 1) (hh1 : 1 ≤ hN th) (hh : 0 ≤ h ∧ h < 8) (hX : ∀ t : Nat, t < sz → (G 17 t = ((X t).length : Int) ∧ (X t).length ≤ 400) ∧ (∀ i : Nat, i < (X t).length → G 18 (400 * (t : Int) + i) = rK ((X t).getD i 0)) ∧ lOk (X t)) {t : Nat} (ht : t < sz) {c0 : Int} (hc0 : 0 ≤ c0 ∧ c0 ≤ 400 * (t : Int)) (hN : J G9 0 0 f1 98 [(0, .ref m), (1, .int (iZ (h))), (2, .int (iZ (c0 + cntK (fun k => decide (ownr th k = h)) (X t)))), (3, .int (iZ ((t : Int))))] []) :
    ∀ (d : Nat) (i : Nat) (c : Int), (hi : i ≤ (X t).length) → (hc : c = c0 + cntK (fun k => decide (ownr th k = h)) ((X t).take i)) → ((X t).length - i) < d → J G9 0 0 f1 49 [(0, .ref m), (1, .int (iZ (h))), (2, .int (iZ (c))), (3, .int (iZ ((t : Int)))), (4, .int (iZ (400 * (t : Int) + (i : Int))))] [] := by
  intro d
  induction d with
  | zero => intro i c hi hc hd9; exfalso; omega
  | succ d ih =>
    intro i c hi hc hd9
    have g17 := (hX t ht).1
    have cn9 := cntK_bd (fun k => decide (ownr th k = h)) ((X t).take i)
    have ln9 : ((X t).take i).length ≤ i := by rw [List.length_take]; omega
    refine j_iload hG dX12_owns_49 rfl ?_
    refine j_sipush hG dX12_owns_51 (by decide) ?_
    refine j_iload_n hG dX12_owns_54 rfl rfl ?_
    refine j_imul hG dX12_owns_55 ?_
    refine j_aload_n hG dX12_owns_56 rfl rfl ?_
    refine j_get (v := .ref (A 17)) hG fX12_45 dX12_owns_57 hW.1 rfl ?_
    refine j_iload_n hG dX12_owns_60 rfl rfl ?_
    refine j_iald hG dX12_owns_61 (MF_a17 hW) (by omega) (by decide) ?_
    have g17 := (hX t ht).1
    refine j_iadd hG dX12_owns_62 ?_
    refine j_icmp_ge (tgt := 98) hG dX12_owns_63 (by decide) (by omega) (by omega) (fun c1 => ?_) (fun c1 => ?_)
    · -- taken at 63
      refine j_lv (lv' := [(0, .ref m), (1, .int (iZ (h))), (2, .int (iZ (c))), (3, .int (iZ ((t : Int))))]) (by simp) ?_
      have e9 : i = (X t).length := by omega
      subst e9
      rw [List.take_length] at hc
      rw [hc]
      exact hN
    · -- on at 63
      have r9 := (hX t (by omega)).2.1 i (by omega)
      have k9 := rK_rng ((hX t (by omega)).2.2 _ (gd_mem (L := (X t)) (i := i) (by omega))).1
      have cn9 := cntK_bd (fun k => decide (ownr th k = h)) ((X t).take i)
      have o9 := ownr_rng (th := th) (k := rK ((X t).getD i 0)) k9.1 hh1
      refine j_iload_n hG dX12_owns_66 rfl rfl ?_
      refine j_aload_n hG dX12_owns_67 rfl rfl ?_
      refine j_get (v := .ref (A 18)) hG fX12_48 dX12_owns_68 hW.1 rfl ?_
      refine j_iload hG dX12_owns_71 rfl ?_
      refine j_iald hG dX12_owns_73 (MF_a18 hW) (by omega) (by decide) ?_
      refine j_eq (show ((G 18) (400 * (t : Int) + (i : Int)) : Int) = (rK ((X t).getD i 0) : Int) from r9) ?_
      refine j_aload_n hG dX12_owns_74 rfl rfl ?_
      refine j_get (v := .int (iZ (V 51))) hG fX12_117 dX12_owns_75 hW.1 rfl ?_
      refine j_eq (show (V 51 : Int) = (hB th : Int) from h51) ?_
      refine j_callS (rest := [.int (iZ (c))]) hG vX12_302 dX12_owns_78 (c_X12_ownerBy (th := th) (k := rK ((X t).getD i 0)) k9 hth) rfl rfl (by decide) (by decide) (Nat.le_of_ble_eq_true rfl) rfl rfl (Nat.zero_le _) (Nat.zero_le _) ?_
      rintro _ _ ⟨rfl, rfl⟩
      refine j_st (st' := [.int (iZ (ownr th (rK ((X t).getD i 0)))), .int (iZ (c))]) rfl ?_
      refine j_iload_n hG dX12_owns_81 rfl rfl ?_
      refine j_icmp_ne (tgt := 89) hG dX12_owns_82 (by decide) (by omega) (by omega) (fun c2 => ?_) (fun c2 => ?_)
      · -- taken at 82
        refine j_iconst hG dX12_owns_89 ?_
        refine j_iadd hG dX12_owns_90 ?_
        refine j_istore_n (lv' := [(0, .ref m), (1, .int (iZ (h))), (2, .int (iZ (c + 0))), (3, .int (iZ ((t : Int)))), (4, .int (iZ (400 * (t : Int) + (i : Int))))]) hG dX12_owns_91 rfl (by decide) rfl ?_
        refine j_iinc (a := 400 * (t : Int) + (i : Int)) (lv' := [(0, .ref m), (1, .int (iZ (h))), (2, .int (iZ (c + 0))), (3, .int (iZ ((t : Int)))), (4, .int (iZ ((400 * (t : Int) + (i : Int)) + 1)))]) hG dX12_owns_92 rfl (by decide) rfl ?_
        refine j_goto (tgt := 49) hG dX12_owns_95 (by decide) ?_
        refine j_lv (lv' := [(0, .ref m), (1, .int (iZ (h))), (2, .int (iZ (c + 0))), (3, .int (iZ ((t : Int)))), (4, .int (iZ (400 * (t : Int) + (i : Int) + 1)))]) (by simp) ?_
        rw [show 400 * (t : Int) + (i : Int) + 1 = 400 * (t : Int) + ((i + 1 : Nat) : Int) by omega]
        exact ih (i + 1) (c + 0) (by omega) (by rw [take_snoc (by omega), cntK_snoc]; rw [if_neg (fun q => absurd (of_decide_eq_true q) (by omega))]; omega) (by omega)
      · -- on at 82
        refine j_iconst hG dX12_owns_85 ?_
        refine j_goto (tgt := 90) hG dX12_owns_86 (by decide) ?_
        refine j_iadd hG dX12_owns_90 ?_
        refine j_istore_n (lv' := [(0, .ref m), (1, .int (iZ (h))), (2, .int (iZ (c + 1))), (3, .int (iZ ((t : Int)))), (4, .int (iZ (400 * (t : Int) + (i : Int))))]) hG dX12_owns_91 rfl (by decide) rfl ?_
        refine j_iinc (a := 400 * (t : Int) + (i : Int)) (lv' := [(0, .ref m), (1, .int (iZ (h))), (2, .int (iZ (c + 1))), (3, .int (iZ ((t : Int)))), (4, .int (iZ ((400 * (t : Int) + (i : Int)) + 1)))]) hG dX12_owns_92 rfl (by decide) rfl ?_
        refine j_goto (tgt := 49) hG dX12_owns_95 (by decide) ?_
        refine j_lv (lv' := [(0, .ref m), (1, .int (iZ (h))), (2, .int (iZ (c + 1))), (3, .int (iZ ((t : Int)))), (4, .int (iZ (400 * (t : Int) + (i : Int) + 1)))]) (by simp) ?_
        rw [show 400 * (t : Int) + (i : Int) + 1 = 400 * (t : Int) + ((i + 1 : Nat) : Int) by omega]
        exact ih (i + 1) (c + 1) (by omega) (by rw [take_snoc (by omega), cntK_snoc]; rw [if_pos (decide_eq_true (by omega))]; omega) (by omega)
theorem l_X12_owns {G9 : JG} {l : Launch} {E : JE} {P : Option Value → Hp → Prop} (hG : jX G9 l E cX12_owns RX12 5 rmX12_owns) (hZ : jZ G9 (some .int) P) {rg : Nat → Nat} {f0 f1 : Hp} {m : Nat} {A : Nat → Nat} {V : Nat → Int} {G : Nat → Int → Int} {th th2 : Int → Int} {h z : Int} {sz : Nat} {X : Int → List Int} (hW : MF E rg f0 f1 m A V G) (h11 : V 11 = (sz : Int)) (hsz : sz ≤ 12) (h51 : V 51 = hB th) (hth : ∀ j, 0 ≤ j → j < 8 → th j = 0 ∨ th j = 1) (hh1 : 1 ≤ hN th) (hh : 0 ≤ h ∧ h < 8) (hX : ∀ t : Nat, t < sz → (G 17 t = ((X t).length : Int) ∧ (X t).length ≤ 400) ∧ (∀ i : Nat, i < (X t).length → G 18 (400 * (t : Int) + i) = rK ((X t).getD i 0)) ∧ lOk (X t)) (hP : P (some (.int (iZ (sumT (fun k => decide (ownr th k = h)) X sz)))) f1) :
    ∀ (d : Nat) (t : Nat), (hti : t ≤ sz) → (sz - t) < d → J G9 0 0 f1 34 [(0, .ref m), (1, .int (iZ (h))), (2, .int (iZ (sumT (fun k => decide (ownr th k = h)) X t))), (3, .int (iZ ((t : Int))))] [] := by
  intro d
  induction d with
  | zero => intro t hti hd9; exfalso; omega
  | succ d ih =>
    intro t hti hd9
    refine j_iload_n hG dX12_owns_34 rfl rfl ?_
    refine j_aload_n hG dX12_owns_35 rfl rfl ?_
    refine j_get (v := .int (iZ (V 11))) hG fX12_173 dX12_owns_36 hW.1 rfl ?_
    refine j_eq (show (V 11 : Int) = ((sz : Int) : Int) from h11) ?_
    refine j_icmp_ge (tgt := 104) hG dX12_owns_39 (by decide) (by omega) (by omega) (fun c1 => ?_) (fun c1 => ?_)
    · -- taken at 39
      refine j_iload_n hG dX12_owns_104 rfl rfl ?_
      have e9 : t = sz := by omega
      subst e9
      exact j_iret hG hZ dX12_owns_105 (Nat.zero_le _) (Nat.zero_le _) (hP)
    · -- on at 39
      refine j_sipush hG dX12_owns_42 (by decide) ?_
      refine j_iload_n hG dX12_owns_45 rfl rfl ?_
      refine j_imul hG dX12_owns_46 ?_
      refine j_istore (lv' := [(0, .ref m), (1, .int (iZ (h))), (2, .int (iZ (sumT (fun k => decide (ownr th k = h)) X t))), (3, .int (iZ ((t : Int)))), (4, .int (iZ (400 * (t : Int))))]) hG dX12_owns_47 (by decide) rfl ?_
      have sr := sumT_rng (fun k => decide (ownr th k = h)) (X := X) t (fun i hi => (hX i (by omega)).1.2)
      refine l_X12_owns_i (z := z) (th2 := th2) hG hZ hW h11 hsz h51 hth hh1 hh hX (t := t) (by omega) (c0 := sumT (fun k => decide (ownr th k = h)) X t) (by omega) ?_ ((X t).length + 1) 0 (sumT (fun k => decide (ownr th k = h)) X t) (by omega) (by rw [List.take_zero]; show _ = _ + 0; omega) (by omega)
      refine j_iinc (a := (t : Int)) (lv' := [(0, .ref m), (1, .int (iZ (h))), (2, .int (iZ (sumT (fun k => decide (ownr th k = h)) X t + cntK (fun k => decide (ownr th k = h)) (X t)))), (3, .int (iZ ((t : Int) + 1)))]) hG dX12_owns_98 rfl (by decide) rfl ?_
      refine j_goto (tgt := 34) hG dX12_owns_101 (by decide) ?_
      refine j_lv (lv' := [(0, .ref m), (1, .int (iZ (h))), (2, .int (iZ (sumT (fun k => decide (ownr th k = h)) X (t + 1)))), (3, .int (iZ (((t + 1 : Nat) : Int))))]) (fun q hq => hq) ?_
      exact ih (t + 1) (by omega) (by omega)
theorem c_X12_owns {l : Launch} {E : JE} {f : Hp} {rg : Nat → Nat} {f0 : Hp} {m : Nat} {ls : Int → Int} {lr : Int → Int} {ln : Nat} {M : Int → Int → Int} {sz : Nat} {la : Int} {rd : Nat} {mr : Nat} {W : List Int} {O : List Int} {g : Int → Int} {len : Int} {th : Int → Int} {fa : Int} {re : Int} {h : Int} (hM : MR E rg f0 f m (ls, lr, ln, M, sz, la, rd, mr, W, O, g, len, th, fa, re)) (hS : SOk (ls, lr, ln, M, sz, la, rd, mr, W, O, g, len, th, fa, re)) (hh_ : -2147483648 ≤ h ∧ h < 2147483648)  : KX12_owns l E [.ref m, .int (iZ (h))] f (fun v f' => v = some (.int (iZ (ownsF (ls, lr, ln, M, sz, la, rd, mr, W, O, g, len, th, fa, re) h).1)) ∧ MR E rg f0 f' m (ownsF (ls, lr, ln, M, sz, la, rd, mr, W, O, g, len, th, fa, re) h).2) := by
  refine ct_of (own := RX12) (lv := [(0, .ref m), (1, .int (iZ (h)))]) (by decide +kernel) rfl (Nat.le_of_ble_eq_true rfl) rfl ?_
  intro G9 hG hZ
  obtain ⟨A, V, G, hW, ⟨⟨m2, mlg⟩, ⟨m8, m9, m10⟩, mlt, ⟨m11, mtr⟩, mtb, ⟨m26, mw⟩, ⟨m31, mo⟩, ⟨m44, m43⟩, m51, m49, m1⟩⟩ := hM
  obtain ⟨⟨hln, hlg⟩, ⟨hsz, hMo⟩, hla, hrd, hok1, hok2, hWO, hbg, hle, hth, hh1⟩ := hS
  have hW := sV_in hW m2 m8 m9 m10 m11 m26 m31 m44 m51 m49 m1
  refine j_aload_n hG dX12_owns_0 rfl rfl ?_
  refine j_iconst hG dX12_owns_1 ?_
  refine j_put hG pX12_120 dX12_owns_2 hW.1 rfl rfl (Nat.le_of_ble_eq_true rfl) (fun f1 h2 fr3 => ?_)
  have hW4 : MF E rg f0 f1 m A (up (sV V (ln : Int) la (rd : Int) (mr : Int) (sz : Int) (W.length : Int) (O.length : Int) len (hB th) fa re) 0 0) G := MF_p0 hW h2 fr3
  refine j_iload_n hG dX12_owns_5 rfl rfl ?_
  refine j_i2l hG dX12_owns_6 (by omega) ?_
  refine j_lconst (y := 0) hG dX12_owns_7 (by decide) ?_
  refine j_ldc2 (z := 7) hG dX12_owns_8 kX12_300 (by decide) ?_
  refine j_callS (rest := []) hG vX12_128 dX12_owns_11 (c_X12_in (a := h) (lo := 0) (hi := 7) (by omega) (by omega) (by omega)) rfl rfl (by decide) (by decide) (Nat.le_of_ble_eq_true rfl) rfl rfl (Nat.zero_le _) (Nat.zero_le _) ?_
  rintro _ _ ⟨⟨z5, rfl, hz6⟩, rfl⟩
  refine j_st (st' := [.int (iZ (z5))]) rfl ?_
  refine j_if_eq (tgt := 28) hG dX12_owns_14 (by decide) (by omega) (fun c9 => ?_) (fun c9 => ?_)
  · -- taken at 14
    obtain ⟨-, e8⟩ := hz6.resolve_left (fun h => absurd h.1 (by omega))
    refine j_iconst hG dX12_owns_28 ?_
    have eF : ownsF (ls, lr, ln, M, sz, la, rd, mr, W, O, g, len, th, fa, re) h = (-1, (ls, lr, ln, M, sz, la, rd, mr, W, O, g, len, th, fa, re)) := by
      unfold ownsF
      dsimp only
      rw [if_neg (by first | omega | (intro q; have := q.2; omega))]
    exact j_iret hG hZ dX12_owns_29 (Nat.zero_le _) (Nat.zero_le _) (⟨by rw [eF], by rw [eF]; exact ⟨A, up (sV V (ln : Int) la (rd : Int) (mr : Int) (sz : Int) (W.length : Int) (O.length : Int) len (hB th) fa re) 0 0, G, hW4, ⟨⟨rfl, mlg⟩, ⟨rfl, rfl, rfl⟩, mlt, ⟨rfl, mtr⟩, mtb, ⟨rfl, mw⟩, ⟨rfl, mo⟩, ⟨rfl, m43⟩, rfl, rfl, rfl⟩⟩⟩)
  · -- on at 14
    obtain ⟨-, e7⟩ := hz6.resolve_right (fun h => absurd h.1 (by omega))
    refine j_aload_n hG dX12_owns_17 rfl rfl ?_
    refine j_get (v := .int (iZ (hB th))) hG fX12_117 dX12_owns_18 hW4.1 rfl ?_
    refine j_iload_n hG dX12_owns_21 rfl rfl ?_
    refine j_ishr hG dX12_owns_22 ?_
    refine j_iconst hG dX12_owns_23 ?_
    refine j_iand hG dX12_owns_24 ?_
    refine j_eqi (show (((iZ (hB th)) >>> ((iZ (h)) &&& 31)) &&& (iZ (1)) : Int32) = iZ (th h) from hshr hth (by omega)) ?_
    refine j_if_ne (tgt := 30) hG dX12_owns_25 (by decide) (by have := hth h (by omega) (by omega); omega) (fun c10 => ?_) (fun c10 => ?_)
    · -- taken at 25
      refine j_iconst hG dX12_owns_30 ?_
      refine j_istore_n (lv' := [(0, .ref m), (1, .int (iZ (h))), (2, .int (iZ (0)))]) hG dX12_owns_31 rfl (by decide) rfl ?_
      refine j_iconst hG dX12_owns_32 ?_
      refine j_istore_n (lv' := [(0, .ref m), (1, .int (iZ (h))), (2, .int (iZ (0))), (3, .int (iZ (0)))]) hG dX12_owns_33 rfl (by decide) rfl ?_
      have tL := tab_l hMo (srcN_l (ls := ls) (la := la) rd (fun j hj => (hlg j (Nat.lt_of_lt_of_le hj hrd.2)).1)) hok1
      have hX : ∀ t : Nat, t < sz → (G 17 t = ((tab M (srcN ls lr la rd) ((t : Int).toNat)).length : Int) ∧ (tab M (srcN ls lr la rd) ((t : Int).toNat)).length ≤ 400) ∧ (∀ i : Nat, i < (tab M (srcN ls lr la rd) ((t : Int).toNat)).length → G 18 (400 * (t : Int) + i) = rK ((tab M (srcN ls lr la rd) ((t : Int).toNat)).getD i 0)) ∧ lOk (tab M (srcN ls lr la rd) ((t : Int).toNat)) := fun t ht => by rw [Int.toNat_natCast]; exact ⟨⟨(mtb t ht).1, (tL t ht).2⟩, fun i hi => ((mtb t ht).2 i hi).1, (tL t ht).1⟩
      have eF : ownsF (ls, lr, ln, M, sz, la, rd, mr, W, O, g, len, th, fa, re) h = (sumT (fun k => decide (ownr th k = h)) (fun i => tab M (srcN ls lr la rd) i.toNat) sz, (ls, lr, ln, M, sz, la, rd, mr, W, O, g, len, th, fa, re)) := by
        unfold ownsF
        dsimp only
        rw [if_pos (by have := hth h (by omega) (by omega); omega)]
      exact l_X12_owns (X := (fun i => tab M (srcN ls lr la rd) i.toNat)) (z := 0) (th2 := th) hG hZ hW4 rfl hsz rfl hth hh1 (by omega) hX ⟨by rw [eF], by rw [eF]; exact ⟨A, up (sV V (ln : Int) la (rd : Int) (mr : Int) (sz : Int) (W.length : Int) (O.length : Int) len (hB th) fa re) 0 0, G, hW4, ⟨⟨rfl, mlg⟩, ⟨rfl, rfl, rfl⟩, mlt, ⟨rfl, mtr⟩, mtb, ⟨rfl, mw⟩, ⟨rfl, mo⟩, ⟨rfl, m43⟩, rfl, rfl, rfl⟩⟩⟩ (sz + 1) 0 (by omega) (by omega)
    · -- on at 25
      refine j_iconst hG dX12_owns_28 ?_
      have eF : ownsF (ls, lr, ln, M, sz, la, rd, mr, W, O, g, len, th, fa, re) h = (-1, (ls, lr, ln, M, sz, la, rd, mr, W, O, g, len, th, fa, re)) := by
        unfold ownsF
        dsimp only
        rw [if_neg (by first | omega | (intro q; have := q.2; omega))]
      exact j_iret hG hZ dX12_owns_29 (Nat.zero_le _) (Nat.zero_le _) (⟨by rw [eF], by rw [eF]; exact ⟨A, up (sV V (ln : Int) la (rd : Int) (mr : Int) (sz : Int) (W.length : Int) (O.length : Int) len (hB th) fa re) 0 0, G, hW4, ⟨⟨rfl, mlg⟩, ⟨rfl, rfl, rfl⟩, mlt, ⟨rfl, mtr⟩, mtb, ⟨rfl, mw⟩, ⟨rfl, mo⟩, ⟨rfl, m43⟩, rfl, rfl, rfl⟩⟩⟩)
theorem l_X12_host_i {G9 : JG} {l : Launch} {E : JE} {P : Option Value → Hp → Prop} (hG : jX G9 l E cX12_host RX12 7 rmX12_host) (hZ : jZ G9 (some .int) P) {rg : Nat → Nat} {f0 f1 : Hp} {m : Nat} {A : Nat → Nat} {V : Nat → Int} {G : Nat → Int → Int} {th th2 : Int → Int} {h z : Int} {sz : Nat} {X : Int → List Int} (hW : MF E rg f0 f1 m A V G) (h11 : V 11 = (sz : Int)) (hsz : sz ≤ 12) (h51 : V 51 = hB th2) (hth : ∀ j, 0 ≤ j → j < 8 → th j = 0 ∨ th j = 1) (hh1 : 1 ≤ hN th) (hth2 : ∀ j, 0 ≤ j → j < 8 → th2 j = 0 ∨ th2 j = 1) (hh2 : 1 ≤ hN th2) (hh : 0 ≤ h ∧ h < 8) (hX : ∀ t : Nat, t < sz → (G 17 t = ((X t).length : Int) ∧ (X t).length ≤ 400) ∧ (∀ i : Nat, i < (X t).length → G 18 (400 * (t : Int) + i) = rK ((X t).getD i 0)) ∧ lOk (X t)) {t : Nat} (ht : t < sz) {c0 : Int} (hc0 : 0 ≤ c0 ∧ c0 ≤ 400 * (t : Int)) (hN : J G9 0 0 f1 171 [(0, .ref m), (1, .int (iZ (h))), (2, .int (iZ (z))), (3, .int (iZ (hB th))), (4, .int (iZ (c0 + cntK (fun k => decide (ownr th2 k ≠ ownr th k)) (X t)))), (5, .int (iZ ((t : Int))))] []) :
    ∀ (d : Nat) (i : Nat) (c : Int), (hi : i ≤ (X t).length) → (hc : c = c0 + cntK (fun k => decide (ownr th2 k ≠ ownr th k)) ((X t).take i)) → ((X t).length - i) < d → J G9 0 0 f1 108 [(0, .ref m), (1, .int (iZ (h))), (2, .int (iZ (z))), (3, .int (iZ (hB th))), (4, .int (iZ (c))), (5, .int (iZ ((t : Int)))), (6, .int (iZ (400 * (t : Int) + (i : Int))))] [] := by
  intro d
  induction d with
  | zero => intro i c hi hc hd9; exfalso; omega
  | succ d ih =>
    intro i c hi hc hd9
    have g17 := (hX t ht).1
    have cn9 := cntK_bd (fun k => decide (ownr th2 k ≠ ownr th k)) ((X t).take i)
    have ln9 : ((X t).take i).length ≤ i := by rw [List.length_take]; omega
    refine j_iload hG dX12_host_108 rfl ?_
    refine j_sipush hG dX12_host_110 (by decide) ?_
    refine j_iload hG dX12_host_113 rfl ?_
    refine j_imul hG dX12_host_115 ?_
    refine j_aload_n hG dX12_host_116 rfl rfl ?_
    refine j_get (v := .ref (A 17)) hG fX12_45 dX12_host_117 hW.1 rfl ?_
    refine j_iload hG dX12_host_120 rfl ?_
    refine j_iald hG dX12_host_122 (MF_a17 hW) (by omega) (by decide) ?_
    have g17 := (hX t ht).1
    refine j_iadd hG dX12_host_123 ?_
    refine j_icmp_ge (tgt := 171) hG dX12_host_124 (by decide) (by omega) (by omega) (fun c1 => ?_) (fun c1 => ?_)
    · -- taken at 124
      refine j_lv (lv' := [(0, .ref m), (1, .int (iZ (h))), (2, .int (iZ (z))), (3, .int (iZ (hB th))), (4, .int (iZ (c))), (5, .int (iZ ((t : Int))))]) (by simp) ?_
      have e9 : i = (X t).length := by omega
      subst e9
      rw [List.take_length] at hc
      rw [hc]
      exact hN
    · -- on at 124
      have r9 := (hX t (by omega)).2.1 i (by omega)
      have k9 := rK_rng ((hX t (by omega)).2.2 _ (gd_mem (L := (X t)) (i := i) (by omega))).1
      have cn9 := cntK_bd (fun k => decide (ownr th2 k ≠ ownr th k)) ((X t).take i)
      have o9 := ownr_rng (th := th) (k := rK ((X t).getD i 0)) k9.1 hh1
      have o8 := ownr_rng (th := th2) (k := rK ((X t).getD i 0)) k9.1 hh2
      refine j_iload hG dX12_host_127 rfl ?_
      refine j_aload_n hG dX12_host_129 rfl rfl ?_
      refine j_get (v := .ref (A 18)) hG fX12_48 dX12_host_130 hW.1 rfl ?_
      refine j_iload hG dX12_host_133 rfl ?_
      refine j_iald hG dX12_host_135 (MF_a18 hW) (by omega) (by decide) ?_
      refine j_eq (show ((G 18) (400 * (t : Int) + (i : Int)) : Int) = (rK ((X t).getD i 0) : Int) from r9) ?_
      refine j_iload_n hG dX12_host_136 rfl rfl ?_
      refine j_callS (rest := [.int (iZ (c))]) hG vX12_302 dX12_host_137 (c_X12_ownerBy (th := th) (k := rK ((X t).getD i 0)) k9 hth) rfl rfl (by decide) (by decide) (Nat.le_of_ble_eq_true rfl) rfl rfl (Nat.zero_le _) (Nat.zero_le _) ?_
      rintro _ _ ⟨rfl, rfl⟩
      refine j_st (st' := [.int (iZ (ownr th (rK ((X t).getD i 0)))), .int (iZ (c))]) rfl ?_
      refine j_aload_n hG dX12_host_140 rfl rfl ?_
      refine j_get (v := .ref (A 18)) hG fX12_48 dX12_host_141 hW.1 rfl ?_
      refine j_iload hG dX12_host_144 rfl ?_
      refine j_iald hG dX12_host_146 (MF_a18 hW) (by omega) (by decide) ?_
      refine j_eq (show ((G 18) (400 * (t : Int) + (i : Int)) : Int) = (rK ((X t).getD i 0) : Int) from r9) ?_
      refine j_aload_n hG dX12_host_147 rfl rfl ?_
      refine j_get (v := .int (iZ (V 51))) hG fX12_117 dX12_host_148 hW.1 rfl ?_
      refine j_eq (show (V 51 : Int) = (hB th2 : Int) from h51) ?_
      refine j_callS (rest := [.int (iZ (ownr th (rK ((X t).getD i 0)))), .int (iZ (c))]) hG vX12_302 dX12_host_151 (c_X12_ownerBy (th := th2) (k := rK ((X t).getD i 0)) k9 hth2) rfl rfl (by decide) (by decide) (Nat.le_of_ble_eq_true rfl) rfl rfl (Nat.zero_le _) (Nat.zero_le _) ?_
      rintro _ _ ⟨rfl, rfl⟩
      refine j_st (st' := [.int (iZ (ownr th2 (rK ((X t).getD i 0)))), .int (iZ (ownr th (rK ((X t).getD i 0)))), .int (iZ (c))]) rfl ?_
      refine j_icmp_eq (tgt := 161) hG dX12_host_154 (by decide) (by omega) (by omega) (fun c2 => ?_) (fun c2 => ?_)
      · -- taken at 154
        refine j_iconst hG dX12_host_161 ?_
        refine j_iadd hG dX12_host_162 ?_
        refine j_istore (lv' := [(0, .ref m), (1, .int (iZ (h))), (2, .int (iZ (z))), (3, .int (iZ (hB th))), (4, .int (iZ (c + 0))), (5, .int (iZ ((t : Int)))), (6, .int (iZ (400 * (t : Int) + (i : Int))))]) hG dX12_host_163 (by decide) rfl ?_
        refine j_iinc (a := 400 * (t : Int) + (i : Int)) (lv' := [(0, .ref m), (1, .int (iZ (h))), (2, .int (iZ (z))), (3, .int (iZ (hB th))), (4, .int (iZ (c + 0))), (5, .int (iZ ((t : Int)))), (6, .int (iZ ((400 * (t : Int) + (i : Int)) + 1)))]) hG dX12_host_165 rfl (by decide) rfl ?_
        refine j_goto (tgt := 108) hG dX12_host_168 (by decide) ?_
        refine j_lv (lv' := [(0, .ref m), (1, .int (iZ (h))), (2, .int (iZ (z))), (3, .int (iZ (hB th))), (4, .int (iZ (c + 0))), (5, .int (iZ ((t : Int)))), (6, .int (iZ (400 * (t : Int) + (i : Int) + 1)))]) (by simp) ?_
        rw [show 400 * (t : Int) + (i : Int) + 1 = 400 * (t : Int) + ((i + 1 : Nat) : Int) by omega]
        exact ih (i + 1) (c + 0) (by omega) (by rw [take_snoc (by omega), cntK_snoc]; rw [if_neg (fun q => absurd (of_decide_eq_true q) (by omega))]; omega) (by omega)
      · -- on at 154
        refine j_iconst hG dX12_host_157 ?_
        refine j_goto (tgt := 162) hG dX12_host_158 (by decide) ?_
        refine j_iadd hG dX12_host_162 ?_
        refine j_istore (lv' := [(0, .ref m), (1, .int (iZ (h))), (2, .int (iZ (z))), (3, .int (iZ (hB th))), (4, .int (iZ (c + 1))), (5, .int (iZ ((t : Int)))), (6, .int (iZ (400 * (t : Int) + (i : Int))))]) hG dX12_host_163 (by decide) rfl ?_
        refine j_iinc (a := 400 * (t : Int) + (i : Int)) (lv' := [(0, .ref m), (1, .int (iZ (h))), (2, .int (iZ (z))), (3, .int (iZ (hB th))), (4, .int (iZ (c + 1))), (5, .int (iZ ((t : Int)))), (6, .int (iZ ((400 * (t : Int) + (i : Int)) + 1)))]) hG dX12_host_165 rfl (by decide) rfl ?_
        refine j_goto (tgt := 108) hG dX12_host_168 (by decide) ?_
        refine j_lv (lv' := [(0, .ref m), (1, .int (iZ (h))), (2, .int (iZ (z))), (3, .int (iZ (hB th))), (4, .int (iZ (c + 1))), (5, .int (iZ ((t : Int)))), (6, .int (iZ (400 * (t : Int) + (i : Int) + 1)))]) (by simp) ?_
        rw [show 400 * (t : Int) + (i : Int) + 1 = 400 * (t : Int) + ((i + 1 : Nat) : Int) by omega]
        exact ih (i + 1) (c + 1) (by omega) (by rw [take_snoc (by omega), cntK_snoc]; rw [if_pos (decide_eq_true (by omega))]; omega) (by omega)
theorem l_X12_host {G9 : JG} {l : Launch} {E : JE} {P : Option Value → Hp → Prop} (hG : jX G9 l E cX12_host RX12 7 rmX12_host) (hZ : jZ G9 (some .int) P) {rg : Nat → Nat} {f0 f1 : Hp} {m : Nat} {A : Nat → Nat} {V : Nat → Int} {G : Nat → Int → Int} {th th2 : Int → Int} {h z : Int} {sz : Nat} {X : Int → List Int} (hW : MF E rg f0 f1 m A V G) (h11 : V 11 = (sz : Int)) (hsz : sz ≤ 12) (h51 : V 51 = hB th2) (hth : ∀ j, 0 ≤ j → j < 8 → th j = 0 ∨ th j = 1) (hh1 : 1 ≤ hN th) (hth2 : ∀ j, 0 ≤ j → j < 8 → th2 j = 0 ∨ th2 j = 1) (hh2 : 1 ≤ hN th2) (hh : 0 ≤ h ∧ h < 8) (hX : ∀ t : Nat, t < sz → (G 17 t = ((X t).length : Int) ∧ (X t).length ≤ 400) ∧ (∀ i : Nat, i < (X t).length → G 18 (400 * (t : Int) + i) = rK ((X t).getD i 0)) ∧ lOk (X t)) (hP : ∀ f' : Hp, MF E rg f0 f' m A (up V 1 0) G → P (some (.int (iZ (sumT (fun k => decide (ownr th2 k ≠ ownr th k)) X sz)))) f') :
    ∀ (d : Nat) (t : Nat), (hti : t ≤ sz) → (sz - t) < d → J G9 0 0 f1 91 [(0, .ref m), (1, .int (iZ (h))), (2, .int (iZ (z))), (3, .int (iZ (hB th))), (4, .int (iZ (sumT (fun k => decide (ownr th2 k ≠ ownr th k)) X t))), (5, .int (iZ ((t : Int))))] [] := by
  intro d
  induction d with
  | zero => intro t hti hd9; exfalso; omega
  | succ d ih =>
    intro t hti hd9
    refine j_iload hG dX12_host_91 rfl ?_
    refine j_aload_n hG dX12_host_93 rfl rfl ?_
    refine j_get (v := .int (iZ (V 11))) hG fX12_173 dX12_host_94 hW.1 rfl ?_
    refine j_eq (show (V 11 : Int) = ((sz : Int) : Int) from h11) ?_
    refine j_icmp_ge (tgt := 177) hG dX12_host_97 (by decide) (by omega) (by omega) (fun c1 => ?_) (fun c1 => ?_)
    · -- taken at 97
      have sr := sumT_rng (fun k => decide (ownr th2 k ≠ ownr th k)) (X := X) t (fun i hi => (hX i (by omega)).1.2)
      refine j_aload_n hG dX12_host_177 rfl rfl ?_
      refine j_iload hG dX12_host_178 rfl ?_
      refine j_callV (rest := []) hG vX12_140 dX12_host_180 (c_X12_toldP (z := sumT (fun k => decide (ownr th2 k ≠ ownr th k)) X t) hW (by omega)) hW.1 rfl rfl (by decide) (by decide) (Nat.le_of_ble_eq_true rfl) rfl rfl (Nat.zero_le _) (Nat.zero_le _) ?_
      rintro _ f3 ⟨rfl, hW2⟩
      refine j_st (st' := [.int (iZ (sumT (fun k => decide (ownr th2 k ≠ ownr th k)) X t))]) rfl ?_
      have e9 : t = sz := by omega
      subst e9
      exact j_iret hG hZ dX12_host_183 (Nat.zero_le _) (Nat.zero_le _) (hP _ hW2)
    · -- on at 97
      refine j_sipush hG dX12_host_100 (by decide) ?_
      refine j_iload hG dX12_host_103 rfl ?_
      refine j_imul hG dX12_host_105 ?_
      refine j_istore (lv' := [(0, .ref m), (1, .int (iZ (h))), (2, .int (iZ (z))), (3, .int (iZ (hB th))), (4, .int (iZ (sumT (fun k => decide (ownr th2 k ≠ ownr th k)) X t))), (5, .int (iZ ((t : Int)))), (6, .int (iZ (400 * (t : Int))))]) hG dX12_host_106 (by decide) rfl ?_
      have sr := sumT_rng (fun k => decide (ownr th2 k ≠ ownr th k)) (X := X) t (fun i hi => (hX i (by omega)).1.2)
      refine l_X12_host_i (z := z) (th2 := th2) hG hZ hW h11 hsz h51 hth hh1 hth2 hh2 hh hX (t := t) (by omega) (c0 := sumT (fun k => decide (ownr th2 k ≠ ownr th k)) X t) (by omega) ?_ ((X t).length + 1) 0 (sumT (fun k => decide (ownr th2 k ≠ ownr th k)) X t) (by omega) (by rw [List.take_zero]; show _ = _ + 0; omega) (by omega)
      refine j_iinc (a := (t : Int)) (lv' := [(0, .ref m), (1, .int (iZ (h))), (2, .int (iZ (z))), (3, .int (iZ (hB th))), (4, .int (iZ (sumT (fun k => decide (ownr th2 k ≠ ownr th k)) X t + cntK (fun k => decide (ownr th2 k ≠ ownr th k)) (X t)))), (5, .int (iZ ((t : Int) + 1)))]) hG dX12_host_171 rfl (by decide) rfl ?_
      refine j_goto (tgt := 91) hG dX12_host_174 (by decide) ?_
      refine j_lv (lv' := [(0, .ref m), (1, .int (iZ (h))), (2, .int (iZ (z))), (3, .int (iZ (hB th))), (4, .int (iZ (sumT (fun k => decide (ownr th2 k ≠ ownr th k)) X (t + 1)))), (5, .int (iZ (((t + 1 : Nat) : Int))))]) (fun q hq => hq) ?_
      exact ih (t + 1) (by omega) (by omega)
theorem c_X12_host {l : Launch} {E : JE} {f : Hp} {rg : Nat → Nat} {f0 : Hp} {m : Nat} {ls : Int → Int} {lr : Int → Int} {ln : Nat} {M : Int → Int → Int} {sz : Nat} {la : Int} {rd : Nat} {mr : Nat} {W : List Int} {O : List Int} {g : Int → Int} {len : Int} {th : Int → Int} {fa : Int} {re : Int} {h : Int} {z : Int} (hM : MR E rg f0 f m (ls, lr, ln, M, sz, la, rd, mr, W, O, g, len, th, fa, re)) (hS : SOk (ls, lr, ln, M, sz, la, rd, mr, W, O, g, len, th, fa, re)) (hh_ : -2147483648 ≤ h ∧ h < 2147483648) (hz_ : -2147483648 ≤ z ∧ z < 2147483648) (hz01 : z = 0 ∨ z = 1) : KX12_host l E [.ref m, .int (iZ (h)), .int (iZ (z))] f (fun v f' => v = some (.int (iZ (hostF (ls, lr, ln, M, sz, la, rd, mr, W, O, g, len, th, fa, re) h z).1)) ∧ MR E rg f0 f' m (hostF (ls, lr, ln, M, sz, la, rd, mr, W, O, g, len, th, fa, re) h z).2) := by
  refine ct_of (own := RX12) (lv := [(0, .ref m), (1, .int (iZ (h))), (2, .int (iZ (z)))]) (by decide +kernel) rfl (Nat.le_of_ble_eq_true rfl) rfl ?_
  intro G9 hG hZ
  obtain ⟨A, V, G, hW, ⟨⟨m2, mlg⟩, ⟨m8, m9, m10⟩, mlt, ⟨m11, mtr⟩, mtb, ⟨m26, mw⟩, ⟨m31, mo⟩, ⟨m44, m43⟩, m51, m49, m1⟩⟩ := hM
  obtain ⟨⟨hln, hlg⟩, ⟨hsz, hMo⟩, hla, hrd, hok1, hok2, hWO, hbg, hle, hth, hh1⟩ := hS
  have hW := sV_in hW m2 m8 m9 m10 m11 m26 m31 m44 m51 m49 m1
  refine j_aload_n hG dX12_host_0 rfl rfl ?_
  refine j_iconst hG dX12_host_1 ?_
  refine j_put hG pX12_120 dX12_host_2 hW.1 rfl rfl (Nat.le_of_ble_eq_true rfl) (fun f1 h2 fr3 => ?_)
  have hW4 : MF E rg f0 f1 m A (up (sV V (ln : Int) la (rd : Int) (mr : Int) (sz : Int) (W.length : Int) (O.length : Int) len (hB th) fa re) 0 0) G := MF_p0 hW h2 fr3
  refine j_iload_n hG dX12_host_5 rfl rfl ?_
  refine j_i2l hG dX12_host_6 (by omega) ?_
  refine j_lconst (y := 0) hG dX12_host_7 (by decide) ?_
  refine j_ldc2 (z := 7) hG dX12_host_8 kX12_300 (by decide) ?_
  refine j_callS (rest := []) hG vX12_128 dX12_host_11 (c_X12_in (a := h) (lo := 0) (hi := 7) (by omega) (by omega) (by omega)) rfl rfl (by decide) (by decide) (Nat.le_of_ble_eq_true rfl) rfl rfl (Nat.zero_le _) (Nat.zero_le _) ?_
  rintro _ _ ⟨⟨z5, rfl, hz6⟩, rfl⟩
  refine j_st (st' := [.int (iZ (z5))]) rfl ?_
  refine j_if_ne (tgt := 23) hG dX12_host_14 (by decide) (by omega) (fun c9 => ?_) (fun c9 => ?_)
  · -- taken at 14
    obtain ⟨-, e7⟩ := hz6.resolve_right (fun h => absurd h.1 (by omega))
    have z8 := hth h (by omega) (by omega)
    refine j_aload_n hG dX12_host_23 rfl rfl ?_
    refine j_get (v := .int (iZ (hB th))) hG fX12_117 dX12_host_24 hW4.1 rfl ?_
    refine j_iload_n hG dX12_host_27 rfl rfl ?_
    refine j_ishr hG dX12_host_28 ?_
    refine j_iconst hG dX12_host_29 ?_
    refine j_iand hG dX12_host_30 ?_
    refine j_eqi (show (((iZ (hB th)) >>> ((iZ (h)) &&& 31)) &&& (iZ (1)) : Int32) = iZ (th h) from hshr hth (by omega)) ?_
    refine j_iconst hG dX12_host_31 ?_
    refine j_icmp_ne (tgt := 39) hG dX12_host_32 (by decide) (by omega) (by omega) (fun c10 => ?_) (fun c10 => ?_)
    · -- taken at 32
      refine j_iconst hG dX12_host_39 ?_
      refine j_iload_n hG dX12_host_40 rfl rfl ?_
      refine j_icmp_ne (tgt := 51) hG dX12_host_41 (by decide) (by omega) (by omega) (fun c11 => ?_) (fun c11 => ?_)
      · -- taken at 41
        have hr9 := hB_rng hth
        have p9 := p2_rng (h := h) (by omega)
        refine j_aload_n hG dX12_host_51 rfl rfl ?_
        refine j_get (v := .int (iZ (hB th))) hG fX12_117 dX12_host_52 hW4.1 rfl ?_
        refine j_iconst hG dX12_host_55 ?_
        refine j_iload_n hG dX12_host_56 rfl rfl ?_
        refine j_ishl hG dX12_host_57 ?_
        refine j_eqi (show ((iZ (1)) <<< ((iZ (h)) &&& 31) : Int32) = iZ (2 ^ h.toNat) from shl1 (by omega)) ?_
        refine j_icmp_ne (tgt := 68) hG dX12_host_58 (by decide) (by omega) (by omega) (fun c12 => ?_) (fun c12 => ?_)
        · -- taken at 58
          have n9 := c12
          refine j_aload_n hG dX12_host_68 rfl rfl ?_
          refine j_get (v := .int (iZ (hB th))) hG fX12_117 dX12_host_69 hW4.1 rfl ?_
          refine j_istore_n (lv' := [(0, .ref m), (1, .int (iZ (h))), (2, .int (iZ (z))), (3, .int (iZ (hB th)))]) hG dX12_host_72 rfl (by decide) rfl ?_
          refine j_aload_n hG dX12_host_73 rfl rfl ?_
          refine j_dup hG dX12_host_74 rfl ?_
          refine j_get (v := .int (iZ (hB th))) hG fX12_117 dX12_host_75 hW4.1 rfl ?_
          refine j_iconst hG dX12_host_78 ?_
          refine j_iload_n hG dX12_host_79 rfl rfl ?_
          refine j_ishl hG dX12_host_80 ?_
          refine j_eqi (show ((iZ (1)) <<< ((iZ (h)) &&& 31) : Int32) = iZ (2 ^ h.toNat) from shl1 (by omega)) ?_
          refine j_ixor hG dX12_host_81 ?_
          refine j_eqi (show ((iZ (hB th)) ^^^ (iZ (2 ^ h.toNat)) : Int32) = iZ (hB (fup th h z)) from hB_xor hth (by omega) hz01 (by omega)) ?_
          refine j_put hG pX12_117 dX12_host_82 hW4.1 rfl rfl (Nat.le_of_ble_eq_true rfl) (fun f13 h14 fr15 => ?_)
          have hW16 : MF E rg f0 f13 m A (up (up (sV V (ln : Int) la (rd : Int) (mr : Int) (sz : Int) (W.length : Int) (O.length : Int) len (hB th) fa re) 0 0) 51 (hB (fup th h z))) G := MF_p51 hW4 h14 fr15
          refine j_iconst hG dX12_host_85 ?_
          refine j_istore (lv' := [(0, .ref m), (1, .int (iZ (h))), (2, .int (iZ (z))), (3, .int (iZ (hB th))), (4, .int (iZ (0)))]) hG dX12_host_86 (by decide) rfl ?_
          refine j_iconst hG dX12_host_88 ?_
          refine j_istore (lv' := [(0, .ref m), (1, .int (iZ (h))), (2, .int (iZ (z))), (3, .int (iZ (hB th))), (4, .int (iZ (0))), (5, .int (iZ (0)))]) hG dX12_host_89 (by decide) rfl ?_
          have tL := tab_l hMo (srcN_l (ls := ls) (la := la) rd (fun j hj => (hlg j (Nat.lt_of_lt_of_le hj hrd.2)).1)) hok1
          have hX : ∀ t : Nat, t < sz → (G 17 t = ((tab M (srcN ls lr la rd) ((t : Int).toNat)).length : Int) ∧ (tab M (srcN ls lr la rd) ((t : Int).toNat)).length ≤ 400) ∧ (∀ i : Nat, i < (tab M (srcN ls lr la rd) ((t : Int).toNat)).length → G 18 (400 * (t : Int) + i) = rK ((tab M (srcN ls lr la rd) ((t : Int).toNat)).getD i 0)) ∧ lOk (tab M (srcN ls lr la rd) ((t : Int).toNat)) := fun t ht => by rw [Int.toNat_natCast]; exact ⟨⟨(mtb t ht).1, (tL t ht).2⟩, fun i hi => ((mtb t ht).2 i hi).1, (tL t ht).1⟩
          have n1 : ¬ (z = 0 ∧ hN th = 1) := fun q => n9 ((hB_one hth (h := h) (by omega)).mpr ⟨by omega, q.2⟩)
          have eF : hostF (ls, lr, ln, M, sz, la, rd, mr, W, O, g, len, th, fa, re) h z = (sumT (fun k => decide (ownr (fup th h z) k ≠ ownr th k)) (fun i => tab M (srcN ls lr la rd) i.toNat) sz, (ls, lr, ln, M, sz, la, rd, mr, W, O, g, len, fup th h z, fa, 0)) := by
            unfold hostF
            dsimp only
            rw [if_pos (by omega), if_neg (by omega), if_neg n1]
          have hth2 : ∀ j, 0 ≤ j → j < 8 → fup th h z j = 0 ∨ fup th h z j = 1 := fun j j1 j2 => by
            unfold fup; split
            · exact hz01
            · exact hth j j1 j2
          have hh2 : 1 ≤ hN (fup th h z) := by
            rw [hN_fup (by omega)]
            have := hN_rng hth
            omega
          exact l_X12_host (X := (fun i => tab M (srcN ls lr la rd) i.toNat)) (z := z) hG hZ hW16 rfl hsz rfl hth hh1 hth2 hh2 (by omega) hX (fun f' w9 => ⟨by rw [eF], by rw [eF]; exact ⟨A, up (up (up (sV V (ln : Int) la (rd : Int) (mr : Int) (sz : Int) (W.length : Int) (O.length : Int) len (hB th) fa re) 0 0) 51 (hB (fup th h z))) 1 0, G, w9, ⟨⟨rfl, mlg⟩, ⟨rfl, rfl, rfl⟩, mlt, ⟨rfl, mtr⟩, mtb, ⟨rfl, mw⟩, ⟨rfl, mo⟩, ⟨rfl, m43⟩, rfl, rfl, rfl⟩⟩⟩) (sz + 1) 0 (by omega) (by omega)
        · -- on at 58
          refine j_aload_n hG dX12_host_61 rfl rfl ?_
          refine j_bipush hG dX12_host_62 (by decide) ?_
          refine j_callV (rest := []) hG vX12_140 dX12_host_64 (c_X12_toldN (z := -5) hW4 (by omega)) hW4.1 rfl rfl (by decide) (by decide) (Nat.le_of_ble_eq_true rfl) rfl rfl (Nat.zero_le _) (Nat.zero_le _) ?_
          rintro _ f18 ⟨rfl, hW17⟩
          refine j_st (st' := [.int (iZ (-5))]) rfl ?_
          have eF : hostF (ls, lr, ln, M, sz, la, rd, mr, W, O, g, len, th, fa, re) h z = (-5, (ls, lr, ln, M, sz, la, rd, mr, W, O, g, len, th, fa, -5)) := by
            unfold hostF
            dsimp only
            rw [if_pos (by omega), if_neg (by omega), if_pos (by have := (hB_one hth (h := h) (by omega)).mp (by omega); omega)]
          exact j_iret hG hZ dX12_host_67 (Nat.zero_le _) (Nat.zero_le _) (⟨by rw [eF], by rw [eF]; exact ⟨A, up (up (sV V (ln : Int) la (rd : Int) (mr : Int) (sz : Int) (W.length : Int) (O.length : Int) len (hB th) fa re) 0 0) 1 (-5), G, hW17, ⟨⟨rfl, mlg⟩, ⟨rfl, rfl, rfl⟩, mlt, ⟨rfl, mtr⟩, mtb, ⟨rfl, mw⟩, ⟨rfl, mo⟩, ⟨rfl, m43⟩, rfl, rfl, rfl⟩⟩⟩)
      · -- on at 41
        refine j_aload_n hG dX12_host_44 rfl rfl ?_
        refine j_bipush hG dX12_host_45 (by decide) ?_
        refine j_callV (rest := []) hG vX12_140 dX12_host_47 (c_X12_toldN (z := -4) hW4 (by omega)) hW4.1 rfl rfl (by decide) (by decide) (Nat.le_of_ble_eq_true rfl) rfl rfl (Nat.zero_le _) (Nat.zero_le _) ?_
        rintro _ f20 ⟨rfl, hW19⟩
        refine j_st (st' := [.int (iZ (-4))]) rfl ?_
        have eF : hostF (ls, lr, ln, M, sz, la, rd, mr, W, O, g, len, th, fa, re) h z = (-4, (ls, lr, ln, M, sz, la, rd, mr, W, O, g, len, th, fa, -4)) := by
          unfold hostF
          dsimp only
          rw [if_pos (by omega), if_pos (by omega)]
        exact j_iret hG hZ dX12_host_50 (Nat.zero_le _) (Nat.zero_le _) (⟨by rw [eF], by rw [eF]; exact ⟨A, up (up (sV V (ln : Int) la (rd : Int) (mr : Int) (sz : Int) (W.length : Int) (O.length : Int) len (hB th) fa re) 0 0) 1 (-4), G, hW19, ⟨⟨rfl, mlg⟩, ⟨rfl, rfl, rfl⟩, mlt, ⟨rfl, mtr⟩, mtb, ⟨rfl, mw⟩, ⟨rfl, mo⟩, ⟨rfl, m43⟩, rfl, rfl, rfl⟩⟩⟩)
    · -- on at 32
      refine j_iconst hG dX12_host_35 ?_
      refine j_goto (tgt := 40) hG dX12_host_36 (by decide) ?_
      refine j_iload_n hG dX12_host_40 rfl rfl ?_
      refine j_icmp_ne (tgt := 51) hG dX12_host_41 (by decide) (by omega) (by omega) (fun c21 => ?_) (fun c21 => ?_)
      · -- taken at 41
        have hr9 := hB_rng hth
        have p9 := p2_rng (h := h) (by omega)
        refine j_aload_n hG dX12_host_51 rfl rfl ?_
        refine j_get (v := .int (iZ (hB th))) hG fX12_117 dX12_host_52 hW4.1 rfl ?_
        refine j_iconst hG dX12_host_55 ?_
        refine j_iload_n hG dX12_host_56 rfl rfl ?_
        refine j_ishl hG dX12_host_57 ?_
        refine j_eqi (show ((iZ (1)) <<< ((iZ (h)) &&& 31) : Int32) = iZ (2 ^ h.toNat) from shl1 (by omega)) ?_
        refine j_icmp_ne (tgt := 68) hG dX12_host_58 (by decide) (by omega) (by omega) (fun c22 => ?_) (fun c22 => ?_)
        · -- taken at 58
          have n9 := c22
          refine j_aload_n hG dX12_host_68 rfl rfl ?_
          refine j_get (v := .int (iZ (hB th))) hG fX12_117 dX12_host_69 hW4.1 rfl ?_
          refine j_istore_n (lv' := [(0, .ref m), (1, .int (iZ (h))), (2, .int (iZ (z))), (3, .int (iZ (hB th)))]) hG dX12_host_72 rfl (by decide) rfl ?_
          refine j_aload_n hG dX12_host_73 rfl rfl ?_
          refine j_dup hG dX12_host_74 rfl ?_
          refine j_get (v := .int (iZ (hB th))) hG fX12_117 dX12_host_75 hW4.1 rfl ?_
          refine j_iconst hG dX12_host_78 ?_
          refine j_iload_n hG dX12_host_79 rfl rfl ?_
          refine j_ishl hG dX12_host_80 ?_
          refine j_eqi (show ((iZ (1)) <<< ((iZ (h)) &&& 31) : Int32) = iZ (2 ^ h.toNat) from shl1 (by omega)) ?_
          refine j_ixor hG dX12_host_81 ?_
          refine j_eqi (show ((iZ (hB th)) ^^^ (iZ (2 ^ h.toNat)) : Int32) = iZ (hB (fup th h z)) from hB_xor hth (by omega) hz01 (by omega)) ?_
          refine j_put hG pX12_117 dX12_host_82 hW4.1 rfl rfl (Nat.le_of_ble_eq_true rfl) (fun f23 h24 fr25 => ?_)
          have hW26 : MF E rg f0 f23 m A (up (up (sV V (ln : Int) la (rd : Int) (mr : Int) (sz : Int) (W.length : Int) (O.length : Int) len (hB th) fa re) 0 0) 51 (hB (fup th h z))) G := MF_p51 hW4 h24 fr25
          refine j_iconst hG dX12_host_85 ?_
          refine j_istore (lv' := [(0, .ref m), (1, .int (iZ (h))), (2, .int (iZ (z))), (3, .int (iZ (hB th))), (4, .int (iZ (0)))]) hG dX12_host_86 (by decide) rfl ?_
          refine j_iconst hG dX12_host_88 ?_
          refine j_istore (lv' := [(0, .ref m), (1, .int (iZ (h))), (2, .int (iZ (z))), (3, .int (iZ (hB th))), (4, .int (iZ (0))), (5, .int (iZ (0)))]) hG dX12_host_89 (by decide) rfl ?_
          have tL := tab_l hMo (srcN_l (ls := ls) (la := la) rd (fun j hj => (hlg j (Nat.lt_of_lt_of_le hj hrd.2)).1)) hok1
          have hX : ∀ t : Nat, t < sz → (G 17 t = ((tab M (srcN ls lr la rd) ((t : Int).toNat)).length : Int) ∧ (tab M (srcN ls lr la rd) ((t : Int).toNat)).length ≤ 400) ∧ (∀ i : Nat, i < (tab M (srcN ls lr la rd) ((t : Int).toNat)).length → G 18 (400 * (t : Int) + i) = rK ((tab M (srcN ls lr la rd) ((t : Int).toNat)).getD i 0)) ∧ lOk (tab M (srcN ls lr la rd) ((t : Int).toNat)) := fun t ht => by rw [Int.toNat_natCast]; exact ⟨⟨(mtb t ht).1, (tL t ht).2⟩, fun i hi => ((mtb t ht).2 i hi).1, (tL t ht).1⟩
          have n1 : ¬ (z = 0 ∧ hN th = 1) := fun q => n9 ((hB_one hth (h := h) (by omega)).mpr ⟨by omega, q.2⟩)
          have eF : hostF (ls, lr, ln, M, sz, la, rd, mr, W, O, g, len, th, fa, re) h z = (sumT (fun k => decide (ownr (fup th h z) k ≠ ownr th k)) (fun i => tab M (srcN ls lr la rd) i.toNat) sz, (ls, lr, ln, M, sz, la, rd, mr, W, O, g, len, fup th h z, fa, 0)) := by
            unfold hostF
            dsimp only
            rw [if_pos (by omega), if_neg (by omega), if_neg n1]
          have hth2 : ∀ j, 0 ≤ j → j < 8 → fup th h z j = 0 ∨ fup th h z j = 1 := fun j j1 j2 => by
            unfold fup; split
            · exact hz01
            · exact hth j j1 j2
          have hh2 : 1 ≤ hN (fup th h z) := by
            rw [hN_fup (by omega)]
            have := hN_rng hth
            omega
          exact l_X12_host (X := (fun i => tab M (srcN ls lr la rd) i.toNat)) (z := z) hG hZ hW26 rfl hsz rfl hth hh1 hth2 hh2 (by omega) hX (fun f' w9 => ⟨by rw [eF], by rw [eF]; exact ⟨A, up (up (up (sV V (ln : Int) la (rd : Int) (mr : Int) (sz : Int) (W.length : Int) (O.length : Int) len (hB th) fa re) 0 0) 51 (hB (fup th h z))) 1 0, G, w9, ⟨⟨rfl, mlg⟩, ⟨rfl, rfl, rfl⟩, mlt, ⟨rfl, mtr⟩, mtb, ⟨rfl, mw⟩, ⟨rfl, mo⟩, ⟨rfl, m43⟩, rfl, rfl, rfl⟩⟩⟩) (sz + 1) 0 (by omega) (by omega)
        · -- on at 58
          refine j_aload_n hG dX12_host_61 rfl rfl ?_
          refine j_bipush hG dX12_host_62 (by decide) ?_
          refine j_callV (rest := []) hG vX12_140 dX12_host_64 (c_X12_toldN (z := -5) hW4 (by omega)) hW4.1 rfl rfl (by decide) (by decide) (Nat.le_of_ble_eq_true rfl) rfl rfl (Nat.zero_le _) (Nat.zero_le _) ?_
          rintro _ f28 ⟨rfl, hW27⟩
          refine j_st (st' := [.int (iZ (-5))]) rfl ?_
          have eF : hostF (ls, lr, ln, M, sz, la, rd, mr, W, O, g, len, th, fa, re) h z = (-5, (ls, lr, ln, M, sz, la, rd, mr, W, O, g, len, th, fa, -5)) := by
            unfold hostF
            dsimp only
            rw [if_pos (by omega), if_neg (by omega), if_pos (by have := (hB_one hth (h := h) (by omega)).mp (by omega); omega)]
          exact j_iret hG hZ dX12_host_67 (Nat.zero_le _) (Nat.zero_le _) (⟨by rw [eF], by rw [eF]; exact ⟨A, up (up (sV V (ln : Int) la (rd : Int) (mr : Int) (sz : Int) (W.length : Int) (O.length : Int) len (hB th) fa re) 0 0) 1 (-5), G, hW27, ⟨⟨rfl, mlg⟩, ⟨rfl, rfl, rfl⟩, mlt, ⟨rfl, mtr⟩, mtb, ⟨rfl, mw⟩, ⟨rfl, mo⟩, ⟨rfl, m43⟩, rfl, rfl, rfl⟩⟩⟩)
      · -- on at 41
        refine j_aload_n hG dX12_host_44 rfl rfl ?_
        refine j_bipush hG dX12_host_45 (by decide) ?_
        refine j_callV (rest := []) hG vX12_140 dX12_host_47 (c_X12_toldN (z := -4) hW4 (by omega)) hW4.1 rfl rfl (by decide) (by decide) (Nat.le_of_ble_eq_true rfl) rfl rfl (Nat.zero_le _) (Nat.zero_le _) ?_
        rintro _ f30 ⟨rfl, hW29⟩
        refine j_st (st' := [.int (iZ (-4))]) rfl ?_
        have eF : hostF (ls, lr, ln, M, sz, la, rd, mr, W, O, g, len, th, fa, re) h z = (-4, (ls, lr, ln, M, sz, la, rd, mr, W, O, g, len, th, fa, -4)) := by
          unfold hostF
          dsimp only
          rw [if_pos (by omega), if_pos (by omega)]
        exact j_iret hG hZ dX12_host_50 (Nat.zero_le _) (Nat.zero_le _) (⟨by rw [eF], by rw [eF]; exact ⟨A, up (up (sV V (ln : Int) la (rd : Int) (mr : Int) (sz : Int) (W.length : Int) (O.length : Int) len (hB th) fa re) 0 0) 1 (-4), G, hW29, ⟨⟨rfl, mlg⟩, ⟨rfl, rfl, rfl⟩, mlt, ⟨rfl, mtr⟩, mtb, ⟨rfl, mw⟩, ⟨rfl, mo⟩, ⟨rfl, m43⟩, rfl, rfl, rfl⟩⟩⟩)
  · -- on at 14
    obtain ⟨-, e8⟩ := hz6.resolve_left (fun h => absurd h.1 (by omega))
    refine j_aload_n hG dX12_host_17 rfl rfl ?_
    refine j_iconst hG dX12_host_18 ?_
    refine j_callV (rest := []) hG vX12_140 dX12_host_19 (c_X12_toldN (z := -1) hW4 (by omega)) hW4.1 rfl rfl (by decide) (by decide) (Nat.le_of_ble_eq_true rfl) rfl rfl (Nat.zero_le _) (Nat.zero_le _) ?_
    rintro _ f32 ⟨rfl, hW31⟩
    refine j_st (st' := [.int (iZ (-1))]) rfl ?_
    have eF : hostF (ls, lr, ln, M, sz, la, rd, mr, W, O, g, len, th, fa, re) h z = (-1, (ls, lr, ln, M, sz, la, rd, mr, W, O, g, len, th, fa, -1)) := by
      unfold hostF
      dsimp only
      rw [if_neg (by omega)]
    exact j_iret hG hZ dX12_host_22 (Nat.zero_le _) (Nat.zero_le _) (⟨by rw [eF], by rw [eF]; exact ⟨A, up (up (sV V (ln : Int) la (rd : Int) (mr : Int) (sz : Int) (W.length : Int) (O.length : Int) len (hB th) fa re) 0 0) 1 (-1), G, hW31, ⟨⟨rfl, mlg⟩, ⟨rfl, rfl, rfl⟩, mlt, ⟨rfl, mtr⟩, mtb, ⟨rfl, mw⟩, ⟨rfl, mo⟩, ⟨rfl, m43⟩, rfl, rfl, rfl⟩⟩⟩)
def ltM (g : Int → Int) : Nat → Int
  | 0 => -1
  | n + 1 => max (ltM g n) (g n)
theorem ltM_eq {g lr : Int → Int} : ∀ n : Nat, (∀ j : Nat, j < n → g j = rT (lr j)) → ltM g n = ltst lr n
  | 0, _ => rfl
  | n + 1, h => by
    unfold ltM ltst
    rw [ltM_eq n (fun j hj => h j (by omega)), h n (by omega)]
theorem ltM_rng {g : Int → Int} : ∀ n : Nat, (∀ j : Nat, j < n → 0 ≤ g j ∧ g j < 16384) → -1 ≤ ltM g n ∧ ltM g n < 16384
  | 0, _ => by unfold ltM; omega
  | n + 1, h => by
    have := ltM_rng n (fun j hj => h j (by omega))
    have := h n (by omega)
    unfold ltM; omega
theorem l_X12_latest {G9 : JG} {l : Launch} {E : JE} {P : Option Value → Hp → Prop} (hG : jX G9 l E cX12_latest RX12 4 rmX12_latest) (hZ : jZ G9 (some .int) P) {rg : Nat → Nat} {f0 f1 : Hp} {m : Nat} {A : Nat → Nat} {V : Nat → Int} {G : Nat → Int → Int} {g : Int → Int} {n : Nat} (hW : MF E rg f0 f1 m A V G) (h6 : G 6 = g) (hn : n ≤ 150) (hg : ∀ j : Nat, j < n → 0 ≤ g j ∧ g j < 16384) (hP : P (some (.int (iZ (ltM g n)))) f1) :
    ∀ (d : Nat) (k : Nat) (a : Int), (hk : k ≤ n) → (ha : a = ltM g k) → (n - k) < d → J G9 0 0 f1 4 [(0, .ref m), (1, .int (iZ ((n : Int)))), (2, .int (iZ (a))), (3, .int (iZ ((k : Int))))] [] := by
  intro d
  induction d with
  | zero => intro k a hk ha hd9; exfalso; omega
  | succ d ih =>
    intro k a hk ha hd9
    refine j_iload_n hG dX12_latest_4 rfl rfl ?_
    refine j_iload_n hG dX12_latest_5 rfl rfl ?_
    refine j_icmp_ge (tgt := 36) hG dX12_latest_6 (by decide) (by omega) (by omega) (fun c1 => ?_) (fun c1 => ?_)
    · -- taken at 6
      refine j_iload_n hG dX12_latest_36 rfl rfl ?_
      have e9 : k = n := by omega
      subst e9
      rw [ha]
      exact j_iret hG hZ dX12_latest_37 (Nat.zero_le _) (Nat.zero_le _) (hP)
    · -- on at 6
      have r9 := ltM_rng k (fun j hj => hg j (by omega))
      have r8 := hg k (by omega)
      refine j_aload_n hG dX12_latest_9 rfl rfl ?_
      refine j_get (v := .ref (A 6)) hG fX12_19 dX12_latest_10 hW.1 rfl ?_
      refine j_iload_n hG dX12_latest_13 rfl rfl ?_
      refine j_iald hG dX12_latest_14 (MF_a6 hW) (by omega) (by decide) ?_
      refine j_eq (show ((G 6) (k : Int) : Int) = (g (k : Int) : Int) from by rw [h6]) ?_
      refine j_iload_n hG dX12_latest_15 rfl rfl ?_
      refine j_icmp_le (tgt := 28) hG dX12_latest_16 (by decide) (by omega) (by omega) (fun c2 => ?_) (fun c2 => ?_)
      · -- taken at 16
        refine j_iload_n hG dX12_latest_28 rfl rfl ?_
        refine j_istore_n (lv' := [(0, .ref m), (1, .int (iZ ((n : Int)))), (2, .int (iZ (a))), (3, .int (iZ ((k : Int))))]) hG dX12_latest_29 rfl (by decide) rfl ?_
        refine j_iinc (a := (k : Int)) (lv' := [(0, .ref m), (1, .int (iZ ((n : Int)))), (2, .int (iZ (a))), (3, .int (iZ ((k : Int) + 1)))]) hG dX12_latest_30 rfl (by decide) rfl ?_
        refine j_goto (tgt := 4) hG dX12_latest_33 (by decide) ?_
        refine j_lv (lv' := [(0, .ref m), (1, .int (iZ ((n : Int)))), (2, .int (iZ (a))), (3, .int (iZ (((k + 1 : Nat) : Int))))]) (by simp) ?_
        exact ih (k + 1) (a) (by omega) (by unfold ltM; omega) (by omega)
      · -- on at 16
        refine j_aload_n hG dX12_latest_19 rfl rfl ?_
        refine j_get (v := .ref (A 6)) hG fX12_19 dX12_latest_20 hW.1 rfl ?_
        refine j_iload_n hG dX12_latest_23 rfl rfl ?_
        refine j_iald hG dX12_latest_24 (MF_a6 hW) (by omega) (by decide) ?_
        refine j_eq (show ((G 6) (k : Int) : Int) = (g (k : Int) : Int) from by rw [h6]) ?_
        refine j_goto (tgt := 29) hG dX12_latest_25 (by decide) ?_
        refine j_istore_n (lv' := [(0, .ref m), (1, .int (iZ ((n : Int)))), (2, .int (iZ (g (k : Int)))), (3, .int (iZ ((k : Int))))]) hG dX12_latest_29 rfl (by decide) rfl ?_
        refine j_iinc (a := (k : Int)) (lv' := [(0, .ref m), (1, .int (iZ ((n : Int)))), (2, .int (iZ (g (k : Int)))), (3, .int (iZ ((k : Int) + 1)))]) hG dX12_latest_30 rfl (by decide) rfl ?_
        refine j_goto (tgt := 4) hG dX12_latest_33 (by decide) ?_
        refine j_lv (lv' := [(0, .ref m), (1, .int (iZ ((n : Int)))), (2, .int (iZ (g (k : Int)))), (3, .int (iZ (((k + 1 : Nat) : Int))))]) (by simp) ?_
        exact ih (k + 1) (g (k : Int)) (by omega) (by unfold ltM; omega) (by omega)
theorem c_X12_latest {l : Launch} {E : JE} {f : Hp} {rg : Nat → Nat} {f0 : Hp} {m : Nat} {A : Nat → Nat} {V : Nat → Int} {G : Nat → Int → Int} {g : Int → Int} {n : Nat} (hW : MF E rg f0 f m A V G) (h6 : G 6 = g) (hn : n ≤ 150) (hg : ∀ j : Nat, j < n → 0 ≤ g j ∧ g j < 16384) : KX12_latest l E [.ref m, .int (iZ ((n : Int)))] f (fun v f' => v = some (.int (iZ (ltM g n))) ∧ f = f') := by
  refine ct_of (own := RX12) (lv := [(0, .ref m), (1, .int (iZ ((n : Int))))]) (by decide +kernel) rfl (Nat.le_of_ble_eq_true rfl) rfl ?_
  intro G9 hG hZ
  refine j_iconst hG dX12_latest_0 ?_
  refine j_istore_n (lv' := [(0, .ref m), (1, .int (iZ ((n : Int)))), (2, .int (iZ (-1)))]) hG dX12_latest_1 rfl (by decide) rfl ?_
  refine j_iconst hG dX12_latest_2 ?_
  refine j_istore_n (lv' := [(0, .ref m), (1, .int (iZ ((n : Int)))), (2, .int (iZ (-1))), (3, .int (iZ (0)))]) hG dX12_latest_3 rfl (by decide) rfl ?_
  exact l_X12_latest hG hZ hW h6 hn hg ⟨rfl, rfl⟩ (n + 1) 0 (-1) (by omega) rfl (by omega)
theorem nlatM {lr g : Int → Int} {la : Int} {n : Nat} (h : g n = if lateB lr la n = true then 1 else 0) : nlat lr la (n + 1) = nlat lr la n + g n := by rw [h]; rfl
theorem l_X12_count2 {G9 : JG} {l : Launch} {E : JE} {P : Option Value → Hp → Prop} (hG : jX G9 l E cX12_count RX12 4 rmX12_count) (hZ : jZ G9 (some .int) P) {rg : Nat → Nat} {f0 f1 : Hp} {m : Nat} {A : Nat → Nat} {V : Nat → Int} {G : Nat → Int → Int} {lr : Int → Int} {la u : Int} {rd : Nat} (hW : MF E rg f0 f1 m A V G) (h9 : V 9 = (rd : Int)) (hn : rd ≤ 150) (hg : ∀ j : Nat, j < rd → G 7 j = if lateB lr la j = true then 1 else 0) (hP : P (some (.int (iZ (nlat lr la rd)))) f1) :
    ∀ (d : Nat) (k : Nat), (hk : k ≤ rd) → (rd - k) < d → J G9 0 0 f1 70 [(0, .ref m), (1, .int (iZ (u))), (2, .int (iZ (nlat lr la k))), (3, .int (iZ ((k : Int))))] [] := by
  intro d
  induction d with
  | zero => intro k hk hd9; exfalso; omega
  | succ d ih =>
    intro k hk hd9
    refine j_iload_n hG dX12_count_70 rfl rfl ?_
    refine j_aload_n hG dX12_count_71 rfl rfl ?_
    refine j_get (v := .int (iZ (V 9))) hG fX12_187 dX12_count_72 hW.1 rfl ?_
    refine j_eq (show (V 9 : Int) = ((rd : Int) : Int) from h9) ?_
    refine j_icmp_ge (tgt := 101) hG dX12_count_75 (by decide) (by omega) (by omega) (fun c1 => ?_) (fun c1 => ?_)
    · -- taken at 75
      refine j_iload_n hG dX12_count_101 rfl rfl ?_
      have e9 : k = rd := by omega
      subst e9
      exact j_iret hG hZ dX12_count_102 (Nat.zero_le _) (Nat.zero_le _) (hP)
    · -- on at 75
      refine j_iload_n hG dX12_count_78 rfl rfl ?_
      refine j_aload_n hG dX12_count_79 rfl rfl ?_
      refine j_get (v := .ref (A 7)) hG fX12_22 dX12_count_80 hW.1 rfl ?_
      refine j_iload_n hG dX12_count_83 rfl rfl ?_
      have r9 := hg k (by omega)
      have r8 : G 7 (k : Int) = 0 ∨ G 7 (k : Int) = 1 := by rw [r9]; split; exact Or.inr rfl; exact Or.inl rfl
      have r7 := nlatM r9
      refine j_zald hG dX12_count_84 (MF_a7 hW) (by omega) (by decide) ?_
      refine j_if_eq (tgt := 92) hG dX12_count_85 (by decide) (by omega) (fun c2 => ?_) (fun c2 => ?_)
      · -- taken at 85
        refine j_iconst hG dX12_count_92 ?_
        refine j_iadd hG dX12_count_93 ?_
        refine j_istore_n (lv' := [(0, .ref m), (1, .int (iZ (u))), (2, .int (iZ ((nlat lr la k) + 0))), (3, .int (iZ ((k : Int))))]) hG dX12_count_94 rfl (by decide) rfl ?_
        refine j_iinc (a := (k : Int)) (lv' := [(0, .ref m), (1, .int (iZ (u))), (2, .int (iZ ((nlat lr la k) + 0))), (3, .int (iZ ((k : Int) + 1)))]) hG dX12_count_95 rfl (by decide) rfl ?_
        refine j_goto (tgt := 70) hG dX12_count_98 (by decide) ?_
        refine j_lv (lv' := [(0, .ref m), (1, .int (iZ (u))), (2, .int (iZ ((nlat lr la k) + 0))), (3, .int (iZ (((k + 1 : Nat) : Int))))]) (by simp) ?_
        rw [show (nlat lr la k) + 0 = nlat lr la (k + 1) by omega]
        exact ih (k + 1) (by omega) (by omega)
      · -- on at 85
        refine j_iconst hG dX12_count_88 ?_
        refine j_goto (tgt := 93) hG dX12_count_89 (by decide) ?_
        refine j_iadd hG dX12_count_93 ?_
        refine j_istore_n (lv' := [(0, .ref m), (1, .int (iZ (u))), (2, .int (iZ ((nlat lr la k) + 1))), (3, .int (iZ ((k : Int))))]) hG dX12_count_94 rfl (by decide) rfl ?_
        refine j_iinc (a := (k : Int)) (lv' := [(0, .ref m), (1, .int (iZ (u))), (2, .int (iZ ((nlat lr la k) + 1))), (3, .int (iZ ((k : Int) + 1)))]) hG dX12_count_95 rfl (by decide) rfl ?_
        refine j_goto (tgt := 70) hG dX12_count_98 (by decide) ?_
        refine j_lv (lv' := [(0, .ref m), (1, .int (iZ (u))), (2, .int (iZ ((nlat lr la k) + 1))), (3, .int (iZ (((k + 1 : Nat) : Int))))]) (by simp) ?_
        rw [show (nlat lr la k) + 1 = nlat lr la (k + 1) by omega]
        exact ih (k + 1) (by omega) (by omega)
theorem c_X12_count {l : Launch} {E : JE} {f : Hp} {rg : Nat → Nat} {f0 : Hp} {m : Nat} {ls : Int → Int} {lr : Int → Int} {ln : Nat} {M : Int → Int → Int} {sz : Nat} {la : Int} {rd : Nat} {mr : Nat} {W : List Int} {O : List Int} {g : Int → Int} {len : Int} {th : Int → Int} {fa : Int} {re : Int} {u : Int} (hM : MR E rg f0 f m (ls, lr, ln, M, sz, la, rd, mr, W, O, g, len, th, fa, re)) (hS : SOk (ls, lr, ln, M, sz, la, rd, mr, W, O, g, len, th, fa, re)) (hu_ : -2147483648 ≤ u ∧ u < 2147483648)  : KX12_count l E [.ref m, .int (iZ (u))] f (fun v f' => v = some (.int (iZ (countF (ls, lr, ln, M, sz, la, rd, mr, W, O, g, len, th, fa, re) u).1)) ∧ MR E rg f0 f' m (countF (ls, lr, ln, M, sz, la, rd, mr, W, O, g, len, th, fa, re) u).2) := by
  refine ct_of (own := RX12) (lv := [(0, .ref m), (1, .int (iZ (u)))]) (by decide +kernel) rfl (Nat.le_of_ble_eq_true rfl) rfl ?_
  intro G9 hG hZ
  obtain ⟨A, V, G, hW, ⟨⟨m2, mlg⟩, ⟨m8, m9, m10⟩, mlt, ⟨m11, mtr⟩, mtb, ⟨m26, mw⟩, ⟨m31, mo⟩, ⟨m44, m43⟩, m51, m49, m1⟩⟩ := hM
  obtain ⟨⟨hln, hlg⟩, ⟨hsz, hMo⟩, hla, hrd, hok1, hok2, hWO, hbg, hle, hth, hh1⟩ := hS
  have hW := sV_in hW m2 m8 m9 m10 m11 m26 m31 m44 m51 m49 m1
  have hg6 : ∀ j : Nat, j < rd → 0 ≤ G 6 j ∧ G 6 j < 16384 := fun j hj => by rw [(mlg j (by omega)).2.2.2]; exact rT_rng (hlg j (by omega)).1.1
  refine j_aload_n hG dX12_count_0 rfl rfl ?_
  refine j_iconst hG dX12_count_1 ?_
  refine j_put hG pX12_120 dX12_count_2 hW.1 rfl rfl (Nat.le_of_ble_eq_true rfl) (fun f1 h2 fr3 => ?_)
  have hW4 : MF E rg f0 f1 m A (up (sV V (ln : Int) la (rd : Int) (mr : Int) (sz : Int) (W.length : Int) (O.length : Int) len (hB th) fa re) 0 0) G := MF_p0 hW h2 fr3
  refine j_iload_n hG dX12_count_5 rfl rfl ?_
  rcases (show (u < 0 ∨ 8 < u) ∨ u = 0 ∨ u = 1 ∨ u = 2 ∨ u = 3 ∨ u = 4 ∨ u = 5 ∨ u = 6 ∨ u = 7 ∨ u = 8 by omega) with c5 | c5 | c5 | c5 | c5 | c5 | c5 | c5 | c5 | c5
  · -- case None at 6
    refine j_tswOut (tgt := 161) hG dX12_count_6 c5 (by omega) (by decide) ?_
    refine j_iconst hG dX12_count_161 ?_
    exact j_iret hG hZ dX12_count_162 (Nat.zero_le _) (Nat.zero_le _) (⟨by unfold countF; dsimp only; first | (subst u; rfl) | (subst u; rw [ltM_eq rd (fun j hj => (mlg j (Nat.lt_of_lt_of_le hj hrd.2)).2.2.2)]; rfl) | (repeat rw [if_neg (by omega)]), ⟨A, up (sV V (ln : Int) la (rd : Int) (mr : Int) (sz : Int) (W.length : Int) (O.length : Int) len (hB th) fa re) 0 0, G, hW4, ⟨⟨rfl, mlg⟩, ⟨rfl, rfl, rfl⟩, mlt, ⟨rfl, mtr⟩, mtb, ⟨rfl, mw⟩, ⟨rfl, mo⟩, ⟨rfl, m43⟩, rfl, rfl, rfl⟩⟩⟩)
  · -- case 0 at 6
    refine j_tswIn (tgt := 56) (off := 50) hG (0) dX12_count_6 c5 (by decide) (by decide) rfl (by decide) ?_
    refine j_aload_n hG dX12_count_56 rfl rfl ?_
    refine j_get (v := .int (iZ ((ln : Int)))) hG fX12_144 dX12_count_57 hW4.1 rfl ?_
    exact j_iret hG hZ dX12_count_60 (Nat.zero_le _) (Nat.zero_le _) (⟨by unfold countF; dsimp only; first | (subst u; rfl) | (subst u; rw [ltM_eq rd (fun j hj => (mlg j (Nat.lt_of_lt_of_le hj hrd.2)).2.2.2)]; rfl) | (repeat rw [if_neg (by omega)]), ⟨A, up (sV V (ln : Int) la (rd : Int) (mr : Int) (sz : Int) (W.length : Int) (O.length : Int) len (hB th) fa re) 0 0, G, hW4, ⟨⟨rfl, mlg⟩, ⟨rfl, rfl, rfl⟩, mlt, ⟨rfl, mtr⟩, mtb, ⟨rfl, mw⟩, ⟨rfl, mo⟩, ⟨rfl, m43⟩, rfl, rfl, rfl⟩⟩⟩)
  · -- case 1 at 6
    refine j_tswIn (tgt := 61) (off := 55) hG (1) dX12_count_6 c5 (by decide) (by decide) rfl (by decide) ?_
    refine j_aload_n hG dX12_count_61 rfl rfl ?_
    refine j_get (v := .int (iZ ((rd : Int)))) hG fX12_187 dX12_count_62 hW4.1 rfl ?_
    exact j_iret hG hZ dX12_count_65 (Nat.zero_le _) (Nat.zero_le _) (⟨by unfold countF; dsimp only; first | (subst u; rfl) | (subst u; rw [ltM_eq rd (fun j hj => (mlg j (Nat.lt_of_lt_of_le hj hrd.2)).2.2.2)]; rfl) | (repeat rw [if_neg (by omega)]), ⟨A, up (sV V (ln : Int) la (rd : Int) (mr : Int) (sz : Int) (W.length : Int) (O.length : Int) len (hB th) fa re) 0 0, G, hW4, ⟨⟨rfl, mlg⟩, ⟨rfl, rfl, rfl⟩, mlt, ⟨rfl, mtr⟩, mtb, ⟨rfl, mw⟩, ⟨rfl, mo⟩, ⟨rfl, m43⟩, rfl, rfl, rfl⟩⟩⟩)
  · -- case 2 at 6
    refine j_tswIn (tgt := 66) (off := 60) hG (2) dX12_count_6 c5 (by decide) (by decide) rfl (by decide) ?_
    refine j_iconst hG dX12_count_66 ?_
    refine j_istore_n (lv' := [(0, .ref m), (1, .int (iZ (u))), (2, .int (iZ (0)))]) hG dX12_count_67 rfl (by decide) rfl ?_
    refine j_iconst hG dX12_count_68 ?_
    refine j_istore_n (lv' := [(0, .ref m), (1, .int (iZ (u))), (2, .int (iZ (0))), (3, .int (iZ (0)))]) hG dX12_count_69 rfl (by decide) rfl ?_
    exact l_X12_count2 hG hZ hW4 rfl (by omega) mlt ⟨by subst u; rfl, ⟨A, up (sV V (ln : Int) la (rd : Int) (mr : Int) (sz : Int) (W.length : Int) (O.length : Int) len (hB th) fa re) 0 0, G, hW4, ⟨⟨rfl, mlg⟩, ⟨rfl, rfl, rfl⟩, mlt, ⟨rfl, mtr⟩, mtb, ⟨rfl, mw⟩, ⟨rfl, mo⟩, ⟨rfl, m43⟩, rfl, rfl, rfl⟩⟩⟩ (rd + 1) 0 (by omega) (by omega)
  · -- case 3 at 6
    refine j_tswIn (tgt := 103) (off := 97) hG (3) dX12_count_6 c5 (by decide) (by decide) rfl (by decide) ?_
    refine j_aload_n hG dX12_count_103 rfl rfl ?_
    refine j_get (v := .int (iZ ((sz : Int)))) hG fX12_173 dX12_count_104 hW4.1 rfl ?_
    exact j_iret hG hZ dX12_count_107 (Nat.zero_le _) (Nat.zero_le _) (⟨by unfold countF; dsimp only; first | (subst u; rfl) | (subst u; rw [ltM_eq rd (fun j hj => (mlg j (Nat.lt_of_lt_of_le hj hrd.2)).2.2.2)]; rfl) | (repeat rw [if_neg (by omega)]), ⟨A, up (sV V (ln : Int) la (rd : Int) (mr : Int) (sz : Int) (W.length : Int) (O.length : Int) len (hB th) fa re) 0 0, G, hW4, ⟨⟨rfl, mlg⟩, ⟨rfl, rfl, rfl⟩, mlt, ⟨rfl, mtr⟩, mtb, ⟨rfl, mw⟩, ⟨rfl, mo⟩, ⟨rfl, m43⟩, rfl, rfl, rfl⟩⟩⟩)
  · -- case 4 at 6
    refine j_tswIn (tgt := 108) (off := 102) hG (4) dX12_count_6 c5 (by decide) (by decide) rfl (by decide) ?_
    refine j_iconst hG dX12_count_108 ?_
    refine j_istore_n (lv' := [(0, .ref m), (1, .int (iZ (u))), (2, .int (iZ (0)))]) hG dX12_count_109 rfl (by decide) rfl ?_
    refine j_iconst hG dX12_count_110 ?_
    refine j_istore_n (lv' := [(0, .ref m), (1, .int (iZ (u))), (2, .int (iZ (0))), (3, .int (iZ (0)))]) hG dX12_count_111 rfl (by decide) rfl ?_
    refine j_iload_n hG dX12_count_112 rfl rfl ?_
    refine j_bipush hG dX12_count_113 (by decide) ?_
    refine j_icmp_ge (tgt := 135) hG dX12_count_115 (by decide) (by omega) (by omega) (fun c6 => ?_) (fun c6 => ?_)
    · -- taken at 115
      exfalso; omega
    · -- on at 115
      refine j_iload_n hG dX12_count_118 rfl rfl ?_
      refine j_aload_n hG dX12_count_119 rfl rfl ?_
      refine j_get (v := .int (iZ (hB th))) hG fX12_117 dX12_count_120 hW4.1 rfl ?_
      refine j_iload_n hG dX12_count_123 rfl rfl ?_
      refine j_ishr hG dX12_count_124 ?_
      refine j_iconst hG dX12_count_125 ?_
      refine j_iand hG dX12_count_126 ?_
      refine j_eqi (show (((iZ (hB th)) >>> ((iZ (0)) &&& 31)) &&& (iZ (1)) : Int32) = iZ (th 0) from hshr hth (by omega)) ?_
      refine j_iadd hG dX12_count_127 ?_
      refine j_istore_n (lv' := [(0, .ref m), (1, .int (iZ (u))), (2, .int (iZ (0 + (th 0)))), (3, .int (iZ (0)))]) hG dX12_count_128 rfl (by decide) rfl ?_
      refine j_iinc (a := 0) (lv' := [(0, .ref m), (1, .int (iZ (u))), (2, .int (iZ (0 + (th 0)))), (3, .int (iZ (1)))]) hG dX12_count_129 rfl (by decide) rfl ?_
      refine j_goto (tgt := 112) hG dX12_count_132 (by decide) ?_
      refine j_iload_n hG dX12_count_112 rfl rfl ?_
      refine j_bipush hG dX12_count_113 (by decide) ?_
      refine j_icmp_ge (tgt := 135) hG dX12_count_115 (by decide) (by omega) (by omega) (fun c7 => ?_) (fun c7 => ?_)
      · -- taken at 115
        exfalso; omega
      · -- on at 115
        refine j_iload_n hG dX12_count_118 rfl rfl ?_
        refine j_aload_n hG dX12_count_119 rfl rfl ?_
        refine j_get (v := .int (iZ (hB th))) hG fX12_117 dX12_count_120 hW4.1 rfl ?_
        refine j_iload_n hG dX12_count_123 rfl rfl ?_
        refine j_ishr hG dX12_count_124 ?_
        refine j_iconst hG dX12_count_125 ?_
        refine j_iand hG dX12_count_126 ?_
        refine j_eqi (show (((iZ (hB th)) >>> ((iZ (1)) &&& 31)) &&& (iZ (1)) : Int32) = iZ (th 1) from hshr hth (by omega)) ?_
        refine j_iadd hG dX12_count_127 ?_
        refine j_istore_n (lv' := [(0, .ref m), (1, .int (iZ (u))), (2, .int (iZ ((0 + (th 0)) + (th 1)))), (3, .int (iZ (1)))]) hG dX12_count_128 rfl (by decide) rfl ?_
        refine j_iinc (a := 1) (lv' := [(0, .ref m), (1, .int (iZ (u))), (2, .int (iZ ((0 + (th 0)) + (th 1)))), (3, .int (iZ (2)))]) hG dX12_count_129 rfl (by decide) rfl ?_
        refine j_goto (tgt := 112) hG dX12_count_132 (by decide) ?_
        refine j_iload_n hG dX12_count_112 rfl rfl ?_
        refine j_bipush hG dX12_count_113 (by decide) ?_
        refine j_icmp_ge (tgt := 135) hG dX12_count_115 (by decide) (by omega) (by omega) (fun c8 => ?_) (fun c8 => ?_)
        · -- taken at 115
          exfalso; omega
        · -- on at 115
          refine j_iload_n hG dX12_count_118 rfl rfl ?_
          refine j_aload_n hG dX12_count_119 rfl rfl ?_
          refine j_get (v := .int (iZ (hB th))) hG fX12_117 dX12_count_120 hW4.1 rfl ?_
          refine j_iload_n hG dX12_count_123 rfl rfl ?_
          refine j_ishr hG dX12_count_124 ?_
          refine j_iconst hG dX12_count_125 ?_
          refine j_iand hG dX12_count_126 ?_
          refine j_eqi (show (((iZ (hB th)) >>> ((iZ (2)) &&& 31)) &&& (iZ (1)) : Int32) = iZ (th 2) from hshr hth (by omega)) ?_
          refine j_iadd hG dX12_count_127 ?_
          refine j_istore_n (lv' := [(0, .ref m), (1, .int (iZ (u))), (2, .int (iZ (((0 + (th 0)) + (th 1)) + (th 2)))), (3, .int (iZ (2)))]) hG dX12_count_128 rfl (by decide) rfl ?_
          refine j_iinc (a := 2) (lv' := [(0, .ref m), (1, .int (iZ (u))), (2, .int (iZ (((0 + (th 0)) + (th 1)) + (th 2)))), (3, .int (iZ (3)))]) hG dX12_count_129 rfl (by decide) rfl ?_
          refine j_goto (tgt := 112) hG dX12_count_132 (by decide) ?_
          refine j_iload_n hG dX12_count_112 rfl rfl ?_
          refine j_bipush hG dX12_count_113 (by decide) ?_
          refine j_icmp_ge (tgt := 135) hG dX12_count_115 (by decide) (by omega) (by omega) (fun c9 => ?_) (fun c9 => ?_)
          · -- taken at 115
            exfalso; omega
          · -- on at 115
            refine j_iload_n hG dX12_count_118 rfl rfl ?_
            refine j_aload_n hG dX12_count_119 rfl rfl ?_
            refine j_get (v := .int (iZ (hB th))) hG fX12_117 dX12_count_120 hW4.1 rfl ?_
            refine j_iload_n hG dX12_count_123 rfl rfl ?_
            refine j_ishr hG dX12_count_124 ?_
            refine j_iconst hG dX12_count_125 ?_
            refine j_iand hG dX12_count_126 ?_
            refine j_eqi (show (((iZ (hB th)) >>> ((iZ (3)) &&& 31)) &&& (iZ (1)) : Int32) = iZ (th 3) from hshr hth (by omega)) ?_
            refine j_iadd hG dX12_count_127 ?_
            refine j_istore_n (lv' := [(0, .ref m), (1, .int (iZ (u))), (2, .int (iZ ((((0 + (th 0)) + (th 1)) + (th 2)) + (th 3)))), (3, .int (iZ (3)))]) hG dX12_count_128 rfl (by decide) rfl ?_
            refine j_iinc (a := 3) (lv' := [(0, .ref m), (1, .int (iZ (u))), (2, .int (iZ ((((0 + (th 0)) + (th 1)) + (th 2)) + (th 3)))), (3, .int (iZ (4)))]) hG dX12_count_129 rfl (by decide) rfl ?_
            refine j_goto (tgt := 112) hG dX12_count_132 (by decide) ?_
            refine j_iload_n hG dX12_count_112 rfl rfl ?_
            refine j_bipush hG dX12_count_113 (by decide) ?_
            refine j_icmp_ge (tgt := 135) hG dX12_count_115 (by decide) (by omega) (by omega) (fun c10 => ?_) (fun c10 => ?_)
            · -- taken at 115
              exfalso; omega
            · -- on at 115
              refine j_iload_n hG dX12_count_118 rfl rfl ?_
              refine j_aload_n hG dX12_count_119 rfl rfl ?_
              refine j_get (v := .int (iZ (hB th))) hG fX12_117 dX12_count_120 hW4.1 rfl ?_
              refine j_iload_n hG dX12_count_123 rfl rfl ?_
              refine j_ishr hG dX12_count_124 ?_
              refine j_iconst hG dX12_count_125 ?_
              refine j_iand hG dX12_count_126 ?_
              refine j_eqi (show (((iZ (hB th)) >>> ((iZ (4)) &&& 31)) &&& (iZ (1)) : Int32) = iZ (th 4) from hshr hth (by omega)) ?_
              refine j_iadd hG dX12_count_127 ?_
              refine j_istore_n (lv' := [(0, .ref m), (1, .int (iZ (u))), (2, .int (iZ (((((0 + (th 0)) + (th 1)) + (th 2)) + (th 3)) + (th 4)))), (3, .int (iZ (4)))]) hG dX12_count_128 rfl (by decide) rfl ?_
              refine j_iinc (a := 4) (lv' := [(0, .ref m), (1, .int (iZ (u))), (2, .int (iZ (((((0 + (th 0)) + (th 1)) + (th 2)) + (th 3)) + (th 4)))), (3, .int (iZ (5)))]) hG dX12_count_129 rfl (by decide) rfl ?_
              refine j_goto (tgt := 112) hG dX12_count_132 (by decide) ?_
              refine j_iload_n hG dX12_count_112 rfl rfl ?_
              refine j_bipush hG dX12_count_113 (by decide) ?_
              refine j_icmp_ge (tgt := 135) hG dX12_count_115 (by decide) (by omega) (by omega) (fun c11 => ?_) (fun c11 => ?_)
              · -- taken at 115
                exfalso; omega
              · -- on at 115
                refine j_iload_n hG dX12_count_118 rfl rfl ?_
                refine j_aload_n hG dX12_count_119 rfl rfl ?_
                refine j_get (v := .int (iZ (hB th))) hG fX12_117 dX12_count_120 hW4.1 rfl ?_
                refine j_iload_n hG dX12_count_123 rfl rfl ?_
                refine j_ishr hG dX12_count_124 ?_
                refine j_iconst hG dX12_count_125 ?_
                refine j_iand hG dX12_count_126 ?_
                refine j_eqi (show (((iZ (hB th)) >>> ((iZ (5)) &&& 31)) &&& (iZ (1)) : Int32) = iZ (th 5) from hshr hth (by omega)) ?_
                refine j_iadd hG dX12_count_127 ?_
                refine j_istore_n (lv' := [(0, .ref m), (1, .int (iZ (u))), (2, .int (iZ ((((((0 + (th 0)) + (th 1)) + (th 2)) + (th 3)) + (th 4)) + (th 5)))), (3, .int (iZ (5)))]) hG dX12_count_128 rfl (by decide) rfl ?_
                refine j_iinc (a := 5) (lv' := [(0, .ref m), (1, .int (iZ (u))), (2, .int (iZ ((((((0 + (th 0)) + (th 1)) + (th 2)) + (th 3)) + (th 4)) + (th 5)))), (3, .int (iZ (6)))]) hG dX12_count_129 rfl (by decide) rfl ?_
                refine j_goto (tgt := 112) hG dX12_count_132 (by decide) ?_
                refine j_iload_n hG dX12_count_112 rfl rfl ?_
                refine j_bipush hG dX12_count_113 (by decide) ?_
                refine j_icmp_ge (tgt := 135) hG dX12_count_115 (by decide) (by omega) (by omega) (fun c12 => ?_) (fun c12 => ?_)
                · -- taken at 115
                  exfalso; omega
                · -- on at 115
                  refine j_iload_n hG dX12_count_118 rfl rfl ?_
                  refine j_aload_n hG dX12_count_119 rfl rfl ?_
                  refine j_get (v := .int (iZ (hB th))) hG fX12_117 dX12_count_120 hW4.1 rfl ?_
                  refine j_iload_n hG dX12_count_123 rfl rfl ?_
                  refine j_ishr hG dX12_count_124 ?_
                  refine j_iconst hG dX12_count_125 ?_
                  refine j_iand hG dX12_count_126 ?_
                  refine j_eqi (show (((iZ (hB th)) >>> ((iZ (6)) &&& 31)) &&& (iZ (1)) : Int32) = iZ (th 6) from hshr hth (by omega)) ?_
                  refine j_iadd hG dX12_count_127 ?_
                  refine j_istore_n (lv' := [(0, .ref m), (1, .int (iZ (u))), (2, .int (iZ (((((((0 + (th 0)) + (th 1)) + (th 2)) + (th 3)) + (th 4)) + (th 5)) + (th 6)))), (3, .int (iZ (6)))]) hG dX12_count_128 rfl (by decide) rfl ?_
                  refine j_iinc (a := 6) (lv' := [(0, .ref m), (1, .int (iZ (u))), (2, .int (iZ (((((((0 + (th 0)) + (th 1)) + (th 2)) + (th 3)) + (th 4)) + (th 5)) + (th 6)))), (3, .int (iZ (7)))]) hG dX12_count_129 rfl (by decide) rfl ?_
                  refine j_goto (tgt := 112) hG dX12_count_132 (by decide) ?_
                  refine j_iload_n hG dX12_count_112 rfl rfl ?_
                  refine j_bipush hG dX12_count_113 (by decide) ?_
                  refine j_icmp_ge (tgt := 135) hG dX12_count_115 (by decide) (by omega) (by omega) (fun c13 => ?_) (fun c13 => ?_)
                  · -- taken at 115
                    exfalso; omega
                  · -- on at 115
                    refine j_iload_n hG dX12_count_118 rfl rfl ?_
                    refine j_aload_n hG dX12_count_119 rfl rfl ?_
                    refine j_get (v := .int (iZ (hB th))) hG fX12_117 dX12_count_120 hW4.1 rfl ?_
                    refine j_iload_n hG dX12_count_123 rfl rfl ?_
                    refine j_ishr hG dX12_count_124 ?_
                    refine j_iconst hG dX12_count_125 ?_
                    refine j_iand hG dX12_count_126 ?_
                    refine j_eqi (show (((iZ (hB th)) >>> ((iZ (7)) &&& 31)) &&& (iZ (1)) : Int32) = iZ (th 7) from hshr hth (by omega)) ?_
                    refine j_iadd hG dX12_count_127 ?_
                    refine j_istore_n (lv' := [(0, .ref m), (1, .int (iZ (u))), (2, .int (iZ ((((((((0 + (th 0)) + (th 1)) + (th 2)) + (th 3)) + (th 4)) + (th 5)) + (th 6)) + (th 7)))), (3, .int (iZ (7)))]) hG dX12_count_128 rfl (by decide) rfl ?_
                    refine j_iinc (a := 7) (lv' := [(0, .ref m), (1, .int (iZ (u))), (2, .int (iZ ((((((((0 + (th 0)) + (th 1)) + (th 2)) + (th 3)) + (th 4)) + (th 5)) + (th 6)) + (th 7)))), (3, .int (iZ (8)))]) hG dX12_count_129 rfl (by decide) rfl ?_
                    refine j_goto (tgt := 112) hG dX12_count_132 (by decide) ?_
                    refine j_iload_n hG dX12_count_112 rfl rfl ?_
                    refine j_bipush hG dX12_count_113 (by decide) ?_
                    refine j_icmp_ge (tgt := 135) hG dX12_count_115 (by decide) (by omega) (by omega) (fun c14 => ?_) (fun c14 => ?_)
                    · -- taken at 115
                      refine j_iload_n hG dX12_count_135 rfl rfl ?_
                      have e9 : 0 + th 0 + th 1 + th 2 + th 3 + th 4 + th 5 + th 6 + th 7 = hN th := by unfold hN; omega
                      exact j_iret hG hZ dX12_count_136 (Nat.zero_le _) (Nat.zero_le _) (⟨by subst u; rw [e9]; rfl, ⟨A, up (sV V (ln : Int) la (rd : Int) (mr : Int) (sz : Int) (W.length : Int) (O.length : Int) len (hB th) fa re) 0 0, G, hW4, ⟨⟨rfl, mlg⟩, ⟨rfl, rfl, rfl⟩, mlt, ⟨rfl, mtr⟩, mtb, ⟨rfl, mw⟩, ⟨rfl, mo⟩, ⟨rfl, m43⟩, rfl, rfl, rfl⟩⟩⟩)
                    · -- on at 115
                      exfalso; omega
  · -- case 5 at 6
    refine j_tswIn (tgt := 137) (off := 131) hG (5) dX12_count_6 c5 (by decide) (by decide) rfl (by decide) ?_
    refine j_aload_n hG dX12_count_137 rfl rfl ?_
    refine j_get (v := .int (iZ ((W.length : Int)))) hG fX12_184 dX12_count_138 hW4.1 rfl ?_
    exact j_iret hG hZ dX12_count_141 (Nat.zero_le _) (Nat.zero_le _) (⟨by unfold countF; dsimp only; first | (subst u; rfl) | (subst u; rw [ltM_eq rd (fun j hj => (mlg j (Nat.lt_of_lt_of_le hj hrd.2)).2.2.2)]; rfl) | (repeat rw [if_neg (by omega)]), ⟨A, up (sV V (ln : Int) la (rd : Int) (mr : Int) (sz : Int) (W.length : Int) (O.length : Int) len (hB th) fa re) 0 0, G, hW4, ⟨⟨rfl, mlg⟩, ⟨rfl, rfl, rfl⟩, mlt, ⟨rfl, mtr⟩, mtb, ⟨rfl, mw⟩, ⟨rfl, mo⟩, ⟨rfl, m43⟩, rfl, rfl, rfl⟩⟩⟩)
  · -- case 6 at 6
    refine j_tswIn (tgt := 142) (off := 136) hG (6) dX12_count_6 c5 (by decide) (by decide) rfl (by decide) ?_
    refine j_aload_n hG dX12_count_142 rfl rfl ?_
    refine j_get (v := .int (iZ (len))) hG fX12_223 dX12_count_143 hW4.1 rfl ?_
    exact j_iret hG hZ dX12_count_146 (Nat.zero_le _) (Nat.zero_le _) (⟨by unfold countF; dsimp only; first | (subst u; rfl) | (subst u; rw [ltM_eq rd (fun j hj => (mlg j (Nat.lt_of_lt_of_le hj hrd.2)).2.2.2)]; rfl) | (repeat rw [if_neg (by omega)]), ⟨A, up (sV V (ln : Int) la (rd : Int) (mr : Int) (sz : Int) (W.length : Int) (O.length : Int) len (hB th) fa re) 0 0, G, hW4, ⟨⟨rfl, mlg⟩, ⟨rfl, rfl, rfl⟩, mlt, ⟨rfl, mtr⟩, mtb, ⟨rfl, mw⟩, ⟨rfl, mo⟩, ⟨rfl, m43⟩, rfl, rfl, rfl⟩⟩⟩)
  · -- case 7 at 6
    refine j_tswIn (tgt := 147) (off := 141) hG (7) dX12_count_6 c5 (by decide) (by decide) rfl (by decide) ?_
    refine j_aload_n hG dX12_count_147 rfl rfl ?_
    refine j_aload_n hG dX12_count_148 rfl rfl ?_
    refine j_get (v := .int (iZ ((rd : Int)))) hG fX12_187 dX12_count_149 hW4.1 rfl ?_
    refine j_callV (rest := []) hG vX12_190 dX12_count_152 (c_X12_latest (g := G 6) (n := rd) hW4 rfl (by omega) hg6) hW4.1 rfl rfl (by decide) (by decide) (Nat.le_of_ble_eq_true rfl) rfl rfl (Nat.zero_le _) (Nat.zero_le _) ?_
    rintro _ _ ⟨rfl, rfl⟩
    refine j_st (st' := [.int (iZ (ltM (G 6) rd))]) rfl ?_
    exact j_iret hG hZ dX12_count_155 (Nat.zero_le _) (Nat.zero_le _) (⟨by unfold countF; dsimp only; first | (subst u; rfl) | (subst u; rw [ltM_eq rd (fun j hj => (mlg j (Nat.lt_of_lt_of_le hj hrd.2)).2.2.2)]; rfl) | (repeat rw [if_neg (by omega)]), ⟨A, up (sV V (ln : Int) la (rd : Int) (mr : Int) (sz : Int) (W.length : Int) (O.length : Int) len (hB th) fa re) 0 0, G, hW4, ⟨⟨rfl, mlg⟩, ⟨rfl, rfl, rfl⟩, mlt, ⟨rfl, mtr⟩, mtb, ⟨rfl, mw⟩, ⟨rfl, mo⟩, ⟨rfl, m43⟩, rfl, rfl, rfl⟩⟩⟩)
  · -- case 8 at 6
    refine j_tswIn (tgt := 156) (off := 150) hG (8) dX12_count_6 c5 (by decide) (by decide) rfl (by decide) ?_
    refine j_aload_n hG dX12_count_156 rfl rfl ?_
    refine j_get (v := .int (iZ ((mr : Int)))) hG fX12_209 dX12_count_157 hW4.1 rfl ?_
    exact j_iret hG hZ dX12_count_160 (Nat.zero_le _) (Nat.zero_le _) (⟨by unfold countF; dsimp only; first | (subst u; rfl) | (subst u; rw [ltM_eq rd (fun j hj => (mlg j (Nat.lt_of_lt_of_le hj hrd.2)).2.2.2)]; rfl) | (repeat rw [if_neg (by omega)]), ⟨A, up (sV V (ln : Int) la (rd : Int) (mr : Int) (sz : Int) (W.length : Int) (O.length : Int) len (hB th) fa re) 0 0, G, hW4, ⟨⟨rfl, mlg⟩, ⟨rfl, rfl, rfl⟩, mlt, ⟨rfl, mtr⟩, mtb, ⟨rfl, mw⟩, ⟨rfl, mo⟩, ⟨rfl, m43⟩, rfl, rfl, rfl⟩⟩⟩)
