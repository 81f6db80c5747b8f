theorem wrep_two {K U T S : Int → Int} {W W1 D D1 : List Int} (h : wrep K U T S W1) (e : W ++ D = W1 ++ D1) (hl : W.length ≤ W1.length) : wrep K U T S W := fun i hi => by
  have g : W.getD i 0 = W1.getD i 0 := by
    have : (W ++ D).getD i 0 = (W1 ++ D1).getD i 0 := congrArg (fun l : List Int => l.getD i 0) e
    rw [List.getD_eq_getElem?_getD, List.getD_eq_getElem?_getD, List.getElem?_append_left hi, List.getElem?_append_left (by omega), ← List.getD_eq_getElem?_getD, ← List.getD_eq_getElem?_getD] at this
    exact this
  rw [g]; exact h i (by omega)
theorem c_X12_goTo {l : Launch} {E : JE} {f : Hp} {rg : Nat → Nat} {f0 : Hp} {m : Nat} {A : Nat → Nat} {V : Nat → Int} {G : Nat → Int → Int} {n sz : Nat} {ls lr : Int → Int} {la : Int} {M : Int → Int → Int} (hW : MF E rg f0 f m A V G) (h11 : V 11 = (sz : Int)) (hsz : sz ≤ 12) (hMo : ∀ t : Nat, t < sz → mkOk M t) (htr : ∀ t : Nat, t < sz → trel M (G 12) (G 13) (G 14) (G 15) (G 16) t) (hlg : ∀ j : Nat, j < n → G 3 j = ls j ∧ G 4 j = rK (lr j) ∧ G 5 j = rV (lr j) ∧ G 6 j = rT (lr j)) (hlt : ∀ j : Nat, j < n → G 7 j = if lateB lr la j = true then 1 else 0) (hlo : ∀ j : Nat, j < n → (rOk (lr j) ∧ rV (lr j) ≤ 1000000000) ∧ 0 ≤ ls j ∧ ls j ≤ 2) (hn : n ≤ 150) (hok : okF M (srcN ls lr la n) sz) : KX12_goTo l E [.ref m, .int (iZ ((n : Int)))] f (fun v f' => v = none ∧ ∃ (V' : Nat → Int) (G' : Nat → Int → Int), MF E rg f0 f' m A V' G' ∧ ((∀ i, i ≠ 9 → i ≠ 25 → i ≠ 26 → V' i = V i) ∧ V' 9 = (n : Int) ∧ V' 26 = 0) ∧ (∀ i, i < 17 ∨ 24 < i → G' i = G i) ∧ ∀ t : Nat, t < sz → krep G' t (tab M (srcN ls lr la n) t)) := by
  refine ct_of (own := RX12) (lv := [(0, .ref m), (1, .int (iZ ((n : Int))))]) (by decide +kernel) rfl (Nat.le_of_ble_eq_true rfl) rfl ?_
  intro G9 hG hZ
  refine j_aload_n hG dX12_goTo_0 rfl rfl ?_
  refine j_iload_n hG dX12_goTo_1 rfl rfl ?_
  refine j_put hG pX12_187 dX12_goTo_2 hW.1 rfl rfl (Nat.le_of_ble_eq_true rfl) (fun f1 h2 fr3 => ?_)
  have hW4 : MF E rg f0 f1 m A (up V 9 (n : Int)) G := MF_p9 hW h2 fr3
  refine j_aload_n hG dX12_goTo_5 rfl rfl ?_
  refine j_iconst hG dX12_goTo_6 ?_
  refine j_put hG pX12_184 dX12_goTo_7 hW4.1 rfl rfl (Nat.le_of_ble_eq_true rfl) (fun f5 h6 fr7 => ?_)
  have hW8 : MF E rg f0 f5 m A (up (up V 9 (n : Int)) 26 0) G := MF_p26 hW4 h6 fr7
  refine j_aload_n hG dX12_goTo_10 rfl rfl ?_
  refine j_iload_n hG dX12_goTo_11 rfl rfl ?_
  refine j_callV (rest := []) hG vX12_193 dX12_goTo_12 (c_X12_makeAll (M := M) (ls := ls) (lr := lr) (la := la) (n := n) (sz := sz) hW8 h11 hsz hMo htr hlg hlt hlo hn) hW8.1 rfl rfl (by decide) (by decide) (Nat.le_of_ble_eq_true rfl) rfl rfl (Nat.zero_le _) (Nat.zero_le _) ?_
  rintro _ f18 ⟨z15, rfl, V9, G10, hW11, oA12, oV13, hq14⟩
  refine j_st (st' := [.int (iZ (z15))]) rfl ?_
  obtain ⟨-, -, hr9⟩ := hq14.resolve_right (fun q => q.2 hok)
  have tl9 := tab_l hMo (srcN_l n (fun j hj => (hlo j hj).1)) hok
  have hX9 : ∀ t : Nat, t < sz → nrep G10 t (tab M (srcN ls lr la n) t) ∧ (tab M (srcN ls lr la n) t).length ≤ 400 := fun t ht => ⟨hr9 t ht, (tl9 t ht).2⟩
  refine j_pop hG dX12_goTo_15 rfl ?_
  refine j_aload_n hG dX12_goTo_16 rfl rfl ?_
  refine j_callV (rest := []) hG vX12_200 dX12_goTo_17 (c_X12_keep (sz := sz) (X := fun t => tab M (srcN ls lr la n) t) hW11 ((oV13 11 (by decide)).trans h11) hsz hX9) hW11.1 rfl rfl (by decide) (by decide) (Nat.le_of_ble_eq_true rfl) rfl rfl (Nat.zero_le _) (Nat.zero_le _) ?_
  rintro _ f23 ⟨rfl, G19, hW20, oK21, hk22⟩
  refine j_st (st' := []) rfl ?_
  exact j_vret hG hZ dX12_goTo_20 (Nat.zero_le _) (Nat.zero_le _) (⟨rfl, V9, G19, hW20, ⟨fun i i1 i2 i3 => by rw [oV13 i i2, up_n _ _ i3, up_n _ _ i1], oV13 9 (by decide), oV13 26 (by decide)⟩, fun i hi => by rw [oK21 i (by omega) (by omega) (by omega) (by omega), oA12 i (by omega) (by omega) (by omega) (by omega)], hk22⟩)
theorem c_X12_begin {l : Launch} {E : JE} {f : Hp} {rg : Nat → Nat} {f0 : Hp} {m : Nat} {A : Nat → Nat} {V : Nat → Int} {G : Nat → Int → Int} {sz : Nat} {M : Int → Int → Int} (hW : MF E rg f0 f m A V G) (h11 : V 11 = (sz : Int)) (hsz : sz ≤ 12) (hMo : ∀ t : Nat, t < sz → mkOk M t) (htr : ∀ t : Nat, t < sz → trel M (G 12) (G 13) (G 14) (G 15) (G 16) t) : KX12_begin l E [.ref m] f (fun v f' => v = none ∧ ∃ (V' : Nat → Int) (G' : Nat → Int → Int), MF E rg f0 f' m A V' G' ∧ ((∀ i, i ≠ 9 → i ≠ 10 → i ≠ 25 → i ≠ 26 → i ≠ 31 → V' i = V i) ∧ V' 9 = 0 ∧ V' 26 = 0 ∧ V' 10 = 0 ∧ V' 31 = 0) ∧ (∀ i, i < 17 ∨ 24 < i → G' i = G i) ∧ ∀ t : Nat, t < sz → krep G' t []) := by
  refine ct_of (own := RX12) (lv := [(0, .ref m)]) (by decide +kernel) rfl (Nat.le_of_ble_eq_true rfl) rfl ?_
  intro G9 hG hZ
  refine j_aload_n hG dX12_begin_0 rfl rfl ?_
  refine j_iconst hG dX12_begin_1 ?_
  refine j_put hG pX12_209 dX12_begin_2 hW.1 rfl rfl (Nat.le_of_ble_eq_true rfl) (fun f1 h2 fr3 => ?_)
  have hW4 : MF E rg f0 f1 m A (up V 10 0) G := MF_p10 hW h2 fr3
  refine j_aload_n hG dX12_begin_5 rfl rfl ?_
  refine j_iconst hG dX12_begin_6 ?_
  refine j_put hG pX12_212 dX12_begin_7 hW4.1 rfl rfl (Nat.le_of_ble_eq_true rfl) (fun f5 h6 fr7 => ?_)
  have hW8 : MF E rg f0 f5 m A (up (up V 10 0) 31 0) G := MF_p31 hW4 h6 fr7
  obtain ⟨ls, els⟩ : ∃ ls : Int → Int, ls = fun _ => 0 := ⟨_, rfl⟩
  obtain ⟨lr, elr⟩ : ∃ lr : Int → Int, lr = fun _ => 0 := ⟨_, rfl⟩
  refine j_aload_n hG dX12_begin_10 rfl rfl ?_
  refine j_iconst hG dX12_begin_11 ?_
  refine j_eq (show (0 : Int) = (((0 : Nat) : Int) : Int) from rfl) ?_
  refine j_callV (rest := []) hG vX12_215 dX12_begin_12 (c_X12_goTo (M := M) (ls := ls) (lr := lr) (la := 0) (n := 0) (sz := sz) hW8 h11 hsz hMo htr (fun j hj => absurd hj (Nat.not_lt_zero j)) (fun j hj => absurd hj (Nat.not_lt_zero j)) (fun j hj => absurd hj (Nat.not_lt_zero j)) (by omega) (okF_empty (fun _ => rfl) sz)) hW8.1 rfl rfl (by decide) (by decide) (Nat.le_of_ble_eq_true rfl) rfl rfl (Nat.zero_le _) (Nat.zero_le _) ?_
  rintro _ f17 ⟨rfl, V9, G10, hW11, ⟨hv12, hv13, hv14⟩, hg15, hk16⟩
  refine j_st (st' := []) rfl ?_
  exact j_vret hG hZ dX12_begin_15 (Nat.zero_le _) (Nat.zero_le _) (⟨rfl, V9, G10, hW11, ⟨fun i i1 i2 i3 i4 i5 => by rw [hv12 i i1 i3 i4, up_n _ _ i5, up_n _ _ i2], hv13, hv14, hv12 10 (by decide) (by decide) (by decide), hv12 31 (by decide) (by decide) (by decide)⟩, hg15, fun t ht => by have q := hk16 t ht; rw [tab_0] at q; exact q⟩)
theorem c_X12_late {l : Launch} {E : JE} {f : Hp} {rg : Nat → Nat} {f0 : Hp} {m : Nat} {ls : Int → Int} {lr : Int → Int} {ln : Nat} {M : Int → Int → Int} {sz : Nat} {la : Int} {rd : Nat} {mr : Nat} {W : List Int} {O : List Int} {g : Int → Int} {len : Int} {th : Int → Int} {fa : Int} {re : Int} {n : Int} (hM : MR E rg f0 f m (ls, lr, ln, M, sz, la, rd, mr, W, O, g, len, th, fa, re)) (hS : SOk (ls, lr, ln, M, sz, la, rd, mr, W, O, g, len, th, fa, re)) (hn_ : -2147483648 ≤ n ∧ n < 2147483648)  : KX12_late l E [.ref m, .int (iZ (n))] f (fun v f' => v = some (.int (iZ (lateF (ls, lr, ln, M, sz, la, rd, mr, W, O, g, len, th, fa, re) n).1)) ∧ MR E rg f0 f' m (lateF (ls, lr, ln, M, sz, la, rd, mr, W, O, g, len, th, fa, re) n).2) := by
  refine ct_of (own := RX12) (lv := [(0, .ref m), (1, .int (iZ (n)))]) (by decide +kernel) rfl (Nat.le_of_ble_eq_true rfl) rfl ?_
  intro G9 hG hZ
  obtain ⟨A, V, G, hW, ⟨⟨m2, mlg⟩, ⟨m8, m9, m10⟩, mlt, ⟨m11, mtr⟩, mtb, ⟨m26, mw⟩, ⟨m31, mo⟩, ⟨m44, m43⟩, m51, m49, m1⟩⟩ := hM
  obtain ⟨⟨hln, hlg⟩, ⟨hsz, hMo⟩, hla, hrd, hok1, hok2, hWO, hbg, hle, hth, hh1⟩ := hS
  have hW := sV_in hW m2 m8 m9 m10 m11 m26 m31 m44 m51 m49 m1
  refine j_aload_n hG dX12_late_0 rfl rfl ?_
  refine j_iconst hG dX12_late_1 ?_
  refine j_put hG pX12_120 dX12_late_2 hW.1 rfl rfl (Nat.le_of_ble_eq_true rfl) (fun f1 h2 fr3 => ?_)
  have hW4 : MF E rg f0 f1 m A (up (sV V (ln : Int) la (rd : Int) (mr : Int) (sz : Int) (W.length : Int) (O.length : Int) len (hB th) fa re) 0 0) G := MF_p0 hW h2 fr3
  refine j_iload_n hG dX12_late_5 rfl rfl ?_
  refine j_i2l hG dX12_late_6 (by omega) ?_
  refine j_ldc2 (z := -1) hG dX12_late_7 kX12_218 (by decide) ?_
  refine j_ldc2 (z := 10000) hG dX12_late_10 kX12_138 (by decide) ?_
  refine j_callS (rest := []) hG vX12_128 dX12_late_13 (c_X12_in (a := n) (lo := -1) (hi := 10000) (by omega) (by omega) (by omega)) rfl rfl (by decide) (by decide) (Nat.le_of_ble_eq_true rfl) rfl rfl (Nat.zero_le _) (Nat.zero_le _) ?_
  rintro _ _ ⟨⟨z5, rfl, hz6⟩, rfl⟩
  refine j_st (st' := [.int (iZ (z5))]) rfl ?_
  refine j_if_ne (tgt := 27) hG dX12_late_16 (by decide) (by omega) (fun c9 => ?_) (fun c9 => ?_)
  · -- taken at 16
    obtain ⟨-, e7⟩ := hz6.resolve_right (fun h => absurd h.1 (by omega))
    refine j_aload_n hG dX12_late_27 rfl rfl ?_
    refine j_get (v := .int (iZ (la))) hG fX12_26 dX12_late_28 hW4.1 rfl ?_
    refine j_istore_n (lv' := [(0, .ref m), (1, .int (iZ (n))), (2, .int (iZ (la)))]) hG dX12_late_31 rfl (by decide) rfl ?_
    refine j_aload_n hG dX12_late_32 rfl rfl ?_
    refine j_iload_n hG dX12_late_33 rfl rfl ?_
    refine j_put hG pX12_26 dX12_late_34 hW4.1 rfl rfl (Nat.le_of_ble_eq_true rfl) (fun f10 h11 fr12 => ?_)
    have hW13 : MF E rg f0 f10 m A (up (up (sV V (ln : Int) la (rd : Int) (mr : Int) (sz : Int) (W.length : Int) (O.length : Int) len (hB th) fa re) 0 0) 8 n) G := MF_p8 hW4 h11 fr12
    refine j_aload_n hG dX12_late_37 rfl rfl ?_
    refine j_callV (rest := []) hG vX12_220 dX12_late_38 (c_X12_begin (M := M) (sz := sz) hW13 rfl hsz hMo mtr) hW13.1 rfl rfl (by decide) (by decide) (Nat.le_of_ble_eq_true rfl) rfl rfl (Nat.zero_le _) (Nat.zero_le _) ?_
    rintro _ f24 ⟨rfl, V14, G15, hW16, ⟨hv19, hv20, hv21, hv22, hv23⟩, hg17, hk18⟩
    refine j_st (st' := []) rfl ?_
    refine j_aload_n hG dX12_late_41 rfl rfl ?_
    refine j_iconst hG dX12_late_42 ?_
    refine j_put hG pX12_123 dX12_late_43 hW16.1 rfl rfl (Nat.le_of_ble_eq_true rfl) (fun f25 h26 fr27 => ?_)
    have hW28 : MF E rg f0 f25 m A (up V14 1 0) G15 := MF_p1 hW16 h26 fr27
    refine j_iload_n hG dX12_late_46 rfl rfl ?_
    have eF : lateF (ls, lr, ln, M, sz, la, rd, mr, W, O, g, len, th, fa, re) n = (la, (ls, lr, ln, M, sz, n, 0, 0, [], [], g, len, th, fa, 0)) := by
      unfold lateF
      dsimp only
      rw [if_pos (by omega)]
    exact j_iret hG hZ dX12_late_47 (Nat.zero_le _) (Nat.zero_le _) (⟨by rw [eF], by rw [eF]; exact ⟨A, up V14 1 0, G15, hW28, ⟨⟨(hv19 2 (by decide) (by decide) (by decide) (by decide) (by decide)), (by rw [hg17 3 (by omega), hg17 4 (by omega), hg17 5 (by omega), hg17 6 (by omega)]; exact mlg)⟩, ⟨(hv19 8 (by decide) (by decide) (by decide) (by decide) (by decide)), hv20, hv22⟩, (fun j hj => absurd hj (Nat.not_lt_zero j)), ⟨(hv19 11 (by decide) (by decide) (by decide) (by decide) (by decide)), (by rw [hg17 12 (by omega), hg17 13 (by omega), hg17 14 (by omega), hg17 15 (by omega), hg17 16 (by omega)]; exact mtr)⟩, (fun t ht => by rw [tab_0]; exact hk18 t ht), ⟨hv21, (fun i hi => absurd hi (Nat.not_lt_zero i))⟩, ⟨hv23, (fun i hi => absurd hi (Nat.not_lt_zero i))⟩, ⟨(hv19 44 (by decide) (by decide) (by decide) (by decide) (by decide)), (by rw [hg17 43 (by omega)]; exact m43)⟩, (hv19 51 (by decide) (by decide) (by decide) (by decide) (by decide)), (hv19 49 (by decide) (by decide) (by decide) (by decide) (by decide)), rfl⟩⟩⟩)
  · -- on at 16
    obtain ⟨-, e8⟩ := hz6.resolve_left (fun h => absurd h.1 (by omega))
    refine j_aload_n hG dX12_late_19 rfl rfl ?_
    refine j_iconst hG dX12_late_20 ?_
    refine j_put hG pX12_123 dX12_late_21 hW4.1 rfl rfl (Nat.le_of_ble_eq_true rfl) (fun f29 h30 fr31 => ?_)
    have hW32 : MF E rg f0 f29 m A (up (up (sV V (ln : Int) la (rd : Int) (mr : Int) (sz : Int) (W.length : Int) (O.length : Int) len (hB th) fa re) 0 0) 1 (-1)) G := MF_p1 hW4 h30 fr31
    refine j_bipush hG dX12_late_24 (by decide) ?_
    have eF : lateF (ls, lr, ln, M, sz, la, rd, mr, W, O, g, len, th, fa, re) n = (-5, (ls, lr, ln, M, sz, la, rd, mr, W, O, g, len, th, fa, -1)) := by
      unfold lateF
      dsimp only
      rw [if_neg (by omega)]
    exact j_iret hG hZ dX12_late_26 (Nat.zero_le _) (Nat.zero_le _) (⟨by rw [eF], by rw [eF]; exact ⟨A, up (up (sV V (ln : Int) la (rd : Int) (mr : Int) (sz : Int) (W.length : Int) (O.length : Int) len (hB th) fa re) 0 0) 1 (-1), G, hW32, ⟨⟨rfl, mlg⟩, ⟨rfl, rfl, rfl⟩, mlt, ⟨rfl, mtr⟩, mtb, ⟨rfl, mw⟩, ⟨rfl, mo⟩, ⟨rfl, m43⟩, rfl, rfl, rfl⟩⟩⟩)
theorem c_X12_fall {l : Launch} {E : JE} {f : Hp} {rg : Nat → Nat} {f0 : Hp} {m : Nat} {ls : Int → Int} {lr : Int → Int} {ln : Nat} {M : Int → Int → Int} {sz : Nat} {la : Int} {rd : Nat} {mr : Nat} {W : List Int} {O : List Int} {g : Int → Int} {len : Int} {th : Int → Int} {fa : Int} {re : Int}  (hM : MR E rg f0 f m (ls, lr, ln, M, sz, la, rd, mr, W, O, g, len, th, fa, re)) (hS : SOk (ls, lr, ln, M, sz, la, rd, mr, W, O, g, len, th, fa, re))   : KX12_fall l E [.ref m] f (fun v f' => v = some (.int (iZ (fallF (ls, lr, ln, M, sz, la, rd, mr, W, O, g, len, th, fa, re)).1)) ∧ MR E rg f0 f' m (fallF (ls, lr, ln, M, sz, la, rd, mr, W, O, g, len, th, fa, re)).2) := by
  refine ct_of (own := RX12) (lv := [(0, .ref m)]) (by decide +kernel) rfl (Nat.le_of_ble_eq_true rfl) rfl ?_
  intro G9 hG hZ
  obtain ⟨A, V, G, hW, ⟨⟨m2, mlg⟩, ⟨m8, m9, m10⟩, mlt, ⟨m11, mtr⟩, mtb, ⟨m26, mw⟩, ⟨m31, mo⟩, ⟨m44, m43⟩, m51, m49, m1⟩⟩ := hM
  obtain ⟨⟨hln, hlg⟩, ⟨hsz, hMo⟩, hla, hrd, hok1, hok2, hWO, hbg, hle, hth, hh1⟩ := hS
  have hW := sV_in hW m2 m8 m9 m10 m11 m26 m31 m44 m51 m49 m1
  refine j_aload_n hG dX12_fall_0 rfl rfl ?_
  refine j_iconst hG dX12_fall_1 ?_
  refine j_put hG pX12_120 dX12_fall_2 hW.1 rfl rfl (Nat.le_of_ble_eq_true rfl) (fun f1 h2 fr3 => ?_)
  have hW4 : MF E rg f0 f1 m A (up (sV V (ln : Int) la (rd : Int) (mr : Int) (sz : Int) (W.length : Int) (O.length : Int) len (hB th) fa re) 0 0) G := MF_p0 hW h2 fr3
  refine j_aload_n hG dX12_fall_5 rfl rfl ?_
  refine j_get (v := .int (iZ ((sz : Int)))) hG fX12_173 dX12_fall_6 hW4.1 rfl ?_
  refine j_if_ne (tgt := 19) hG dX12_fall_9 (by decide) (by omega) (fun c5 => ?_) (fun c5 => ?_)
  · -- taken at 9
    refine j_aload_n hG dX12_fall_19 rfl rfl ?_
    refine j_aload_n hG dX12_fall_20 rfl rfl ?_
    refine j_get (v := .int (iZ ((mr : Int)))) hG fX12_209 dX12_fall_21 hW4.1 rfl ?_
    refine j_callV (rest := []) hG vX12_215 dX12_fall_24 (c_X12_goTo (M := M) (ls := ls) (lr := lr) (la := la) (n := mr) (sz := sz) hW4 rfl hsz hMo mtr (fun j hj => mlg j (by omega)) (fun j hj => mlt j (by omega)) (fun j hj => hlg j (by omega)) (by omega) hok2) hW4.1 rfl rfl (by decide) (by decide) (Nat.le_of_ble_eq_true rfl) rfl rfl (Nat.zero_le _) (Nat.zero_le _) ?_
    rintro _ f14 ⟨rfl, V6, G7, hW8, ⟨hv9, hv10, hv11⟩, hg12, hk13⟩
    refine j_st (st' := []) rfl ?_
    refine j_aload_n hG dX12_fall_27 rfl rfl ?_
    refine j_aload_n hG dX12_fall_28 rfl rfl ?_
    refine j_get (v := .int (iZ (V6 9))) hG fX12_187 dX12_fall_29 hW8.1 rfl ?_
    refine j_eq (show (V6 9 : Int) = ((mr : Int) : Int) from hv10) ?_
    refine j_callV (rest := []) hG vX12_140 dX12_fall_32 (c_X12_toldP (z := (mr : Int)) hW8 (by omega)) hW8.1 rfl rfl (by decide) (by decide) (Nat.le_of_ble_eq_true rfl) rfl rfl (Nat.zero_le _) (Nat.zero_le _) ?_
    rintro _ f16 ⟨rfl, hW15⟩
    refine j_st (st' := [.int (iZ ((mr : Int)))]) rfl ?_
    have eF : fallF (ls, lr, ln, M, sz, la, rd, mr, W, O, g, len, th, fa, re) = ((mr : Int), (ls, lr, ln, M, sz, la, mr, mr, [], O, g, len, th, fa, 0)) := by
      unfold fallF
      dsimp only
      rw [if_neg (by omega)]
    exact j_iret hG hZ dX12_fall_35 (Nat.zero_le _) (Nat.zero_le _) (⟨by rw [eF], by rw [eF]; exact ⟨A, up V6 1 0, G7, hW15, ⟨⟨(hv9 2 (by decide) (by decide) (by decide)), (by rw [hg12 3 (by omega), hg12 4 (by omega), hg12 5 (by omega), hg12 6 (by omega)]; exact mlg)⟩, ⟨(hv9 8 (by decide) (by decide) (by decide)), hv10, (hv9 10 (by decide) (by decide) (by decide))⟩, (fun j hj => by rw [hg12 7 (by omega)]; exact mlt j (by omega)), ⟨(hv9 11 (by decide) (by decide) (by decide)), (by rw [hg12 12 (by omega), hg12 13 (by omega), hg12 14 (by omega), hg12 15 (by omega), hg12 16 (by omega)]; exact mtr)⟩, hk13, ⟨hv11, (fun i hi => absurd hi (Nat.not_lt_zero i))⟩, ⟨(hv9 31 (by decide) (by decide) (by decide)), (by rw [hg12 32 (by omega), hg12 33 (by omega), hg12 34 (by omega), hg12 35 (by omega)]; exact mo)⟩, ⟨(hv9 44 (by decide) (by decide) (by decide)), (by rw [hg12 43 (by omega)]; exact m43)⟩, (hv9 51 (by decide) (by decide) (by decide)), (hv9 49 (by decide) (by decide) (by decide)), rfl⟩⟩⟩)
  · -- on at 9
    refine j_aload_n hG dX12_fall_12 rfl rfl ?_
    refine j_bipush hG dX12_fall_13 (by decide) ?_
    refine j_callV (rest := []) hG vX12_140 dX12_fall_15 (c_X12_toldN (z := -6) hW4 (by omega)) hW4.1 rfl rfl (by decide) (by decide) (Nat.le_of_ble_eq_true rfl) rfl rfl (Nat.zero_le _) (Nat.zero_le _) ?_
    rintro _ f18 ⟨rfl, hW17⟩
    refine j_st (st' := [.int (iZ (-6))]) rfl ?_
    have eF : fallF (ls, lr, ln, M, sz, la, rd, mr, W, O, g, len, th, fa, re) = (-6, (ls, lr, ln, M, sz, la, rd, mr, W, O, g, len, th, fa, -6)) := by
      unfold fallF
      dsimp only
      rw [if_pos (by omega)]
    exact j_iret hG hZ dX12_fall_18 (Nat.zero_le _) (Nat.zero_le _) (⟨by rw [eF], by rw [eF]; exact ⟨A, up (up (sV V (ln : Int) la (rd : Int) (mr : Int) (sz : Int) (W.length : Int) (O.length : Int) len (hB th) fa re) 0 0) 1 (-6), G, hW17, ⟨⟨rfl, mlg⟩, ⟨rfl, rfl, rfl⟩, mlt, ⟨rfl, mtr⟩, mtb, ⟨rfl, mw⟩, ⟨rfl, mo⟩, ⟨rfl, m43⟩, rfl, rfl, rfl⟩⟩⟩)
def othO (G G' : Nat → Int → Int) : Prop := ∀ i, i ≠ 32 → i ≠ 33 → i ≠ 34 → i ≠ 35 → G' i = G i
theorem l_X12_mark {G9 : JG} {l : Launch} {E : JE} {P : Option Value → Hp → Prop} (hG : jX G9 l E cX12_mark RX12 2 rmX12_mark) (hZ : jZ G9 (some .int) P) {rg : Nat → Nat} {f0 : Hp} {m : Nat} {A : Nat → Nat} {V : Nat → Int} {G : Nat → Int → Int} {W O : List Int} (hw : wrep (G 27) (G 28) (G 29) (G 30) W) (h26 : V 26 = (W.length : Int)) (hlo : O.length + W.length ≤ 4000) (hP : ∀ (f' : Hp) (V' : Nat → Int) (G' : Nat → Int → Int), MF E rg f0 f' m A V' G' → othO G G' → (∀ i, i ≠ 1 → i ≠ 31 → i ≠ 26 → i ≠ 10 → V' i = V i) → V' 1 = 0 → V' 26 = 0 → V' 10 = V 9 → V' 31 = ((O ++ W).length : Int) → wrep (G' 32) (G' 33) (G' 34) (G' 35) (O ++ W) → P (some (.int (iZ ((O.length : Int) + (W.length : Int))))) f') :
    ∀ (d : Nat) (k : Nat) (V1 : Nat → Int) (G1 : Nat → Int → Int) (f1 : Hp), (hW0 : MF E rg f0 f1 m A V1 G1) → (ho : othO G G1) → (hv : ∀ i, i ≠ 31 → V1 i = V i) → (h31 : V1 31 = (O.length : Int) + (k : Int)) → (hk : k ≤ W.length) → (hw1 : wrep (G1 32) (G1 33) (G1 34) (G1 35) (O ++ W.take k)) → (W.length - k) < d → J G9 0 0 f1 43 [(0, .ref m), (1, .int (iZ ((k : Int))))] [] := by
  intro d
  induction d with
  | zero => intro k V1 G1 f1 hW0 ho hv h31 hk hw1 hd9; exfalso; omega
  | succ d ih =>
    intro k V1 G1 f1 hW0 ho hv h31 hk hw1 hd9
    have hW := MF_vid hW0 h31
    refine j_iload_n hG dX12_mark_43 rfl rfl ?_
    refine j_aload_n hG dX12_mark_44 rfl rfl ?_
    refine j_get (v := .int (iZ (V1 26))) hG fX12_184 dX12_mark_45 hW.1 rfl ?_
    refine j_eq (show (V1 26 : Int) = ((W.length : Int) : Int) from (by rw [hv 26 (by decide)]; exact h26)) ?_
    refine j_icmp_ge (tgt := 127) hG dX12_mark_48 (by decide) (by omega) (by omega) (fun c1 => ?_) (fun c1 => ?_)
    · -- taken at 48
      refine j_aload_n hG dX12_mark_127 rfl rfl ?_
      refine j_iconst hG dX12_mark_128 ?_
      refine j_put hG pX12_184 dX12_mark_129 hW.1 rfl rfl (Nat.le_of_ble_eq_true rfl) (fun f2 h3 fr4 => ?_)
      have hW5 : MF E rg f0 f2 m A (up (up V1 31 ((O.length : Int) + (k : Int))) 26 0) G1 := MF_p26 hW h3 fr4
      refine j_aload_n hG dX12_mark_132 rfl rfl ?_
      refine j_aload_n hG dX12_mark_133 rfl rfl ?_
      refine j_get (v := .int (iZ (V1 9))) hG fX12_187 dX12_mark_134 hW5.1 rfl ?_
      refine j_eq (show (V1 9 : Int) = (V 9 : Int) from (hv 9 (by decide))) ?_
      refine j_put hG pX12_209 dX12_mark_137 hW5.1 rfl rfl (Nat.le_of_ble_eq_true rfl) (fun f6 h7 fr8 => ?_)
      have hW9 : MF E rg f0 f6 m A (up (up (up V1 31 ((O.length : Int) + (k : Int))) 26 0) 10 (V 9)) G1 := MF_p10 hW5 h7 fr8
      refine j_aload_n hG dX12_mark_140 rfl rfl ?_
      refine j_aload_n hG dX12_mark_141 rfl rfl ?_
      refine j_get (v := .int (iZ ((O.length : Int) + (k : Int)))) hG fX12_212 dX12_mark_142 hW9.1 rfl ?_
      refine j_callV (rest := []) hG vX12_140 dX12_mark_145 (c_X12_toldP (z := (O.length : Int) + (k : Int)) hW9 (by omega)) hW9.1 rfl rfl (by decide) (by decide) (Nat.le_of_ble_eq_true rfl) rfl rfl (Nat.zero_le _) (Nat.zero_le _) ?_
      rintro _ f11 ⟨rfl, hW10⟩
      refine j_st (st' := [.int (iZ ((O.length : Int) + (k : Int)))]) rfl ?_
      have e9 : k = W.length := by omega
      subst e9
      rw [List.take_length] at hw1
      exact j_iret hG hZ dX12_mark_148 (Nat.zero_le _) (Nat.zero_le _) (hP f11 _ G1 hW10 ho (fun i i1 i2 i3 i4 => by rw [up_n _ _ i1, up_n _ _ i4, up_n _ _ i3, up_n _ _ i2]; exact hv i i2) rfl rfl rfl (by show (O.length : Int) + (W.length : Int) = _; rw [List.length_append]; omega) hw1)
    · -- on at 48
      have w9 := hw k (by omega)
      rw [← ho 27 (by decide) (by decide) (by decide) (by decide), ← ho 28 (by decide) (by decide) (by decide) (by decide), ← ho 29 (by decide) (by decide) (by decide) (by decide), ← ho 30 (by decide) (by decide) (by decide) (by decide)] at w9
      refine j_aload_n hG dX12_mark_51 rfl rfl ?_
      refine j_get (v := .ref (A 32)) hG fX12_81 dX12_mark_52 hW.1 rfl ?_
      refine j_aload_n hG dX12_mark_55 rfl rfl ?_
      refine j_get (v := .int (iZ ((O.length : Int) + (k : Int)))) hG fX12_212 dX12_mark_56 hW.1 rfl ?_
      refine j_aload_n hG dX12_mark_59 rfl rfl ?_
      refine j_get (v := .ref (A 27)) hG fX12_69 dX12_mark_60 hW.1 rfl ?_
      refine j_iload_n hG dX12_mark_63 rfl rfl ?_
      refine j_iald hG dX12_mark_64 (MF_a27 hW) (by omega) (by decide) ?_
      refine j_eq (show ((G1 27) (k : Int) : Int) = (rK (W.getD k 0 / 2) : Int) from w9.1) ?_
      refine j_iast hG dX12_mark_65 (MF_a32 hW) (by omega) (by decide) (fun f12 h13 fr14 => ?_)
      have hW15 : MF E rg f0 f12 m A (up V1 31 ((O.length : Int) + (k : Int))) (up G1 32 (fup (G1 32) ((O.length : Int) + (k : Int)) (rK (W.getD k 0 / 2)))) := MF_a hW 32 rfl h13 fr14
      refine j_aload_n hG dX12_mark_66 rfl rfl ?_
      refine j_get (v := .ref (A 33)) hG fX12_84 dX12_mark_67 hW15.1 rfl ?_
      refine j_aload_n hG dX12_mark_70 rfl rfl ?_
      refine j_get (v := .int (iZ ((O.length : Int) + (k : Int)))) hG fX12_212 dX12_mark_71 hW15.1 rfl ?_
      refine j_aload_n hG dX12_mark_74 rfl rfl ?_
      refine j_get (v := .ref (A 28)) hG fX12_72 dX12_mark_75 hW15.1 rfl ?_
      refine j_iload_n hG dX12_mark_78 rfl rfl ?_
      refine j_iald hG dX12_mark_79 (MF_a28 hW15) (by omega) (by decide) ?_
      refine j_eq (show ((G1 28) (k : Int) : Int) = (rV (W.getD k 0 / 2) : Int) from w9.2.1) ?_
      refine j_iast hG dX12_mark_80 (MF_a33 hW15) (by omega) (by decide) (fun f16 h17 fr18 => ?_)
      have hW19 : MF E rg f0 f16 m A (up V1 31 ((O.length : Int) + (k : Int))) (up (up G1 32 (fup (G1 32) ((O.length : Int) + (k : Int)) (rK (W.getD k 0 / 2)))) 33 (fup (G1 33) ((O.length : Int) + (k : Int)) (rV (W.getD k 0 / 2)))) := MF_a hW15 33 rfl h17 fr18
      refine j_aload_n hG dX12_mark_81 rfl rfl ?_
      refine j_get (v := .ref (A 34)) hG fX12_87 dX12_mark_82 hW19.1 rfl ?_
      refine j_aload_n hG dX12_mark_85 rfl rfl ?_
      refine j_get (v := .int (iZ ((O.length : Int) + (k : Int)))) hG fX12_212 dX12_mark_86 hW19.1 rfl ?_
      refine j_aload_n hG dX12_mark_89 rfl rfl ?_
      refine j_get (v := .ref (A 29)) hG fX12_75 dX12_mark_90 hW19.1 rfl ?_
      refine j_iload_n hG dX12_mark_93 rfl rfl ?_
      refine j_iald hG dX12_mark_94 (MF_a29 hW19) (by omega) (by decide) ?_
      refine j_eq (show ((G1 29) (k : Int) : Int) = (rT (W.getD k 0 / 2) : Int) from w9.2.2.1) ?_
      refine j_iast hG dX12_mark_95 (MF_a34 hW19) (by omega) (by decide) (fun f20 h21 fr22 => ?_)
      have hW23 : MF E rg f0 f20 m A (up V1 31 ((O.length : Int) + (k : Int))) (up (up (up G1 32 (fup (G1 32) ((O.length : Int) + (k : Int)) (rK (W.getD k 0 / 2)))) 33 (fup (G1 33) ((O.length : Int) + (k : Int)) (rV (W.getD k 0 / 2)))) 34 (fup (G1 34) ((O.length : Int) + (k : Int)) (rT (W.getD k 0 / 2)))) := MF_a hW19 34 rfl h21 fr22
      refine j_aload_n hG dX12_mark_96 rfl rfl ?_
      refine j_get (v := .ref (A 35)) hG fX12_90 dX12_mark_97 hW23.1 rfl ?_
      refine j_aload_n hG dX12_mark_100 rfl rfl ?_
      refine j_get (v := .int (iZ ((O.length : Int) + (k : Int)))) hG fX12_212 dX12_mark_101 hW23.1 rfl ?_
      refine j_aload_n hG dX12_mark_104 rfl rfl ?_
      refine j_get (v := .ref (A 30)) hG fX12_78 dX12_mark_105 hW23.1 rfl ?_
      refine j_iload_n hG dX12_mark_108 rfl rfl ?_
      refine j_iald hG dX12_mark_109 (MF_a30 hW23) (by omega) (by decide) ?_
      refine j_eq (show ((G1 30) (k : Int) : Int) = (if W.getD k 0 % 2 = 1 then 1 else -1 : Int) from w9.2.2.2) ?_
      refine j_iast hG dX12_mark_110 (MF_a35 hW23) (by omega) (by decide) (fun f24 h25 fr26 => ?_)
      have hW27 : MF E rg f0 f24 m A (up V1 31 ((O.length : Int) + (k : Int))) (up (up (up (up G1 32 (fup (G1 32) ((O.length : Int) + (k : Int)) (rK (W.getD k 0 / 2)))) 33 (fup (G1 33) ((O.length : Int) + (k : Int)) (rV (W.getD k 0 / 2)))) 34 (fup (G1 34) ((O.length : Int) + (k : Int)) (rT (W.getD k 0 / 2)))) 35 (fup (G1 35) ((O.length : Int) + (k : Int)) (if W.getD k 0 % 2 = 1 then 1 else -1))) := MF_a hW23 35 rfl h25 fr26
      refine j_aload_n hG dX12_mark_111 rfl rfl ?_
      refine j_dup hG dX12_mark_112 rfl ?_
      refine j_get (v := .int (iZ ((O.length : Int) + (k : Int)))) hG fX12_212 dX12_mark_113 hW27.1 rfl ?_
      refine j_iconst hG dX12_mark_116 ?_
      refine j_iadd hG dX12_mark_117 ?_
      refine j_put hG pX12_212 dX12_mark_118 hW27.1 rfl rfl (Nat.le_of_ble_eq_true rfl) (fun f28 h29 fr30 => ?_)
      have hW31 : MF E rg f0 f28 m A (up (up V1 31 ((O.length : Int) + (k : Int))) 31 (((O.length : Int) + (k : Int)) + 1)) (up (up (up (up G1 32 (fup (G1 32) ((O.length : Int) + (k : Int)) (rK (W.getD k 0 / 2)))) 33 (fup (G1 33) ((O.length : Int) + (k : Int)) (rV (W.getD k 0 / 2)))) 34 (fup (G1 34) ((O.length : Int) + (k : Int)) (rT (W.getD k 0 / 2)))) 35 (fup (G1 35) ((O.length : Int) + (k : Int)) (if W.getD k 0 % 2 = 1 then 1 else -1))) := MF_p31 hW27 h29 fr30
      rw [up_up] at hW31
      refine j_iinc (a := (k : Int)) (lv' := [(0, .ref m), (1, .int (iZ ((k : Int) + 1)))]) hG dX12_mark_121 rfl (by decide) rfl ?_
      refine j_goto (tgt := 43) hG dX12_mark_124 (by decide) ?_
      refine j_lv (lv' := [(0, .ref m), (1, .int (iZ (((k + 1 : Nat) : Int))))]) (by simp) ?_
      refine ih (k + 1) _ _ f28 hW31 (fun i e1 e2 e3 e4 => by rw [up_n _ _ e4, up_n _ _ e3, up_n _ _ e2, up_n _ _ e1]; exact ho i e1 e2 e3 e4) (fun i hi => by rw [up_n _ _ hi]; exact hv i hi) (by show (O.length : Int) + (k : Int) + 1 = _; omega) (by omega) ?_ (by omega)
      have l9 : (((O ++ W.take k).length : Nat) : Int) = (O.length : Int) + (k : Int) := by rw [List.length_append, List.length_take]; omega
      have q9 := wrep_snoc (c := W.getD k 0) hw1 rfl rfl rfl rfl
      rw [l9, List.append_assoc, ← take_snoc (by omega)] at q9
      exact q9
theorem c_X12_mark {l : Launch} {E : JE} {f : Hp} {rg : Nat → Nat} {f0 : Hp} {m : Nat} {ls : Int → Int} {lr : Int → Int} {ln : Nat} {M : Int → Int → Int} {sz : Nat} {la : Int} {rd : Nat} {mr : Nat} {W : List Int} {O : List Int} {g : Int → Int} {len : Int} {th : Int → Int} {fa : Int} {re : Int}  (hM : MR E rg f0 f m (ls, lr, ln, M, sz, la, rd, mr, W, O, g, len, th, fa, re)) (hS : SOk (ls, lr, ln, M, sz, la, rd, mr, W, O, g, len, th, fa, re))   : KX12_mark l E [.ref m] f (fun v f' => v = some (.int (iZ (markF (ls, lr, ln, M, sz, la, rd, mr, W, O, g, len, th, fa, re)).1)) ∧ MR E rg f0 f' m (markF (ls, lr, ln, M, sz, la, rd, mr, W, O, g, len, th, fa, re)).2) := by
  refine ct_of (own := RX12) (lv := [(0, .ref m)]) (by decide +kernel) rfl (Nat.le_of_ble_eq_true rfl) rfl ?_
  intro G9 hG hZ
  obtain ⟨A, V, G, hW, ⟨⟨m2, mlg⟩, ⟨m8, m9, m10⟩, mlt, ⟨m11, mtr⟩, mtb, ⟨m26, mw⟩, ⟨m31, mo⟩, ⟨m44, m43⟩, m51, m49, m1⟩⟩ := hM
  obtain ⟨⟨hln, hlg⟩, ⟨hsz, hMo⟩, hla, hrd, hok1, hok2, hWO, hbg, hle, hth, hh1⟩ := hS
  have hW := sV_in hW m2 m8 m9 m10 m11 m26 m31 m44 m51 m49 m1
  refine j_aload_n hG dX12_mark_0 rfl rfl ?_
  refine j_iconst hG dX12_mark_1 ?_
  refine j_put hG pX12_120 dX12_mark_2 hW.1 rfl rfl (Nat.le_of_ble_eq_true rfl) (fun f1 h2 fr3 => ?_)
  have hW4 : MF E rg f0 f1 m A (up (sV V (ln : Int) la (rd : Int) (mr : Int) (sz : Int) (W.length : Int) (O.length : Int) len (hB th) fa re) 0 0) G := MF_p0 hW h2 fr3
  refine j_aload_n hG dX12_mark_5 rfl rfl ?_
  refine j_get (v := .int (iZ ((sz : Int)))) hG fX12_173 dX12_mark_6 hW4.1 rfl ?_
  refine j_if_ne (tgt := 19) hG dX12_mark_9 (by decide) (by omega) (fun c5 => ?_) (fun c5 => ?_)
  · -- taken at 9
    refine j_aload_n hG dX12_mark_19 rfl rfl ?_
    refine j_get (v := .int (iZ ((O.length : Int)))) hG fX12_212 dX12_mark_20 hW4.1 rfl ?_
    refine j_aload_n hG dX12_mark_23 rfl rfl ?_
    refine j_get (v := .int (iZ ((W.length : Int)))) hG fX12_184 dX12_mark_24 hW4.1 rfl ?_
    refine j_iadd hG dX12_mark_27 ?_
    refine j_sipush hG dX12_mark_28 (by decide) ?_
    refine j_icmp_le (tgt := 41) hG dX12_mark_31 (by decide) (by omega) (by omega) (fun c6 => ?_) (fun c6 => ?_)
    · -- taken at 31
      refine j_iconst hG dX12_mark_41 ?_
      refine j_istore_n (lv' := [(0, .ref m), (1, .int (iZ (0)))]) hG dX12_mark_42 rfl (by decide) rfl ?_
      have eF : markF (ls, lr, ln, M, sz, la, rd, mr, W, O, g, len, th, fa, re) = (((O ++ W).length : Int), (ls, lr, ln, M, sz, la, rd, rd, [], O ++ W, g, len, th, fa, 0)) := by
        unfold markF
        dsimp only
        rw [if_neg (by omega), if_pos (by omega)]
      have l9 : (O.length : Int) + (W.length : Int) = ((O ++ W).length : Int) := by rw [List.length_append]; omega
      exact l_X12_mark (W := W) (O := O) hG hZ mw rfl (by omega) (fun f' V' G' a1 a2 a3 a4 a5 a6 a7 a8 => ⟨by rw [eF, l9], by rw [eF]; exact ⟨A, V', G', a1, ⟨⟨(a3 2 (by decide) (by decide) (by decide) (by decide)), (by rw [a2 3 (by decide) (by decide) (by decide) (by decide), a2 4 (by decide) (by decide) (by decide) (by decide), a2 5 (by decide) (by decide) (by decide) (by decide), a2 6 (by decide) (by decide) (by decide) (by decide)]; exact mlg)⟩, ⟨(a3 8 (by decide) (by decide) (by decide) (by decide)), (a3 9 (by decide) (by decide) (by decide) (by decide)), a6⟩, (by rw [a2 7 (by decide) (by decide) (by decide) (by decide)]; exact mlt), ⟨(a3 11 (by decide) (by decide) (by decide) (by decide)), (by rw [a2 12 (by decide) (by decide) (by decide) (by decide), a2 13 (by decide) (by decide) (by decide) (by decide), a2 14 (by decide) (by decide) (by decide) (by decide), a2 15 (by decide) (by decide) (by decide) (by decide), a2 16 (by decide) (by decide) (by decide) (by decide)]; exact mtr)⟩, (by rw [a2 17 (by decide) (by decide) (by decide) (by decide), a2 18 (by decide) (by decide) (by decide) (by decide), a2 19 (by decide) (by decide) (by decide) (by decide), a2 20 (by decide) (by decide) (by decide) (by decide)]; exact mtb), ⟨a5, (fun i hi => absurd hi (Nat.not_lt_zero i))⟩, ⟨a7, a8⟩, ⟨(a3 44 (by decide) (by decide) (by decide) (by decide)), (by rw [a2 43 (by decide) (by decide) (by decide) (by decide)]; exact m43)⟩, (a3 51 (by decide) (by decide) (by decide) (by decide)), (a3 49 (by decide) (by decide) (by decide) (by decide)), a4⟩⟩⟩) (W.length + 1) 0 _ G f1 hW4 (fun _ _ _ _ _ => rfl) (fun _ _ => rfl) (by show (O.length : Int) = _; omega) (by omega) (by rw [List.take_zero, List.append_nil]; exact mo) (by omega)
    · -- on at 31
      refine j_aload_n hG dX12_mark_34 rfl rfl ?_
      refine j_bipush hG dX12_mark_35 (by decide) ?_
      refine j_callV (rest := []) hG vX12_140 dX12_mark_37 (c_X12_toldN (z := -5) hW4 (by omega)) hW4.1 rfl rfl (by decide) (by decide) (Nat.le_of_ble_eq_true rfl) rfl rfl (Nat.zero_le _) (Nat.zero_le _) ?_
      rintro _ f8 ⟨rfl, hW7⟩
      refine j_st (st' := [.int (iZ (-5))]) rfl ?_
      have eF : markF (ls, lr, ln, M, sz, la, rd, mr, W, O, g, len, th, fa, re) = (-5, (ls, lr, ln, M, sz, la, rd, mr, W, O, g, len, th, fa, -5)) := by
        unfold markF
        dsimp only
        rw [if_neg (by omega), if_neg (by omega)]
      exact j_iret hG hZ dX12_mark_40 (Nat.zero_le _) (Nat.zero_le _) (⟨by rw [eF], by rw [eF]; exact ⟨A, up (up (sV V (ln : Int) la (rd : Int) (mr : Int) (sz : Int) (W.length : Int) (O.length : Int) len (hB th) fa re) 0 0) 1 (-5), G, hW7, ⟨⟨rfl, mlg⟩, ⟨rfl, rfl, rfl⟩, mlt, ⟨rfl, mtr⟩, mtb, ⟨rfl, mw⟩, ⟨rfl, mo⟩, ⟨rfl, m43⟩, rfl, rfl, rfl⟩⟩⟩)
  · -- on at 9
    refine j_aload_n hG dX12_mark_12 rfl rfl ?_
    refine j_bipush hG dX12_mark_13 (by decide) ?_
    refine j_callV (rest := []) hG vX12_140 dX12_mark_15 (c_X12_toldN (z := -6) hW4 (by omega)) hW4.1 rfl rfl (by decide) (by decide) (Nat.le_of_ble_eq_true rfl) rfl rfl (Nat.zero_le _) (Nat.zero_le _) ?_
    rintro _ f10 ⟨rfl, hW9⟩
    refine j_st (st' := [.int (iZ (-6))]) rfl ?_
    have eF : markF (ls, lr, ln, M, sz, la, rd, mr, W, O, g, len, th, fa, re) = (-6, (ls, lr, ln, M, sz, la, rd, mr, W, O, g, len, th, fa, -6)) := by
      unfold markF
      dsimp only
      rw [if_pos (by omega)]
    exact j_iret hG hZ dX12_mark_18 (Nat.zero_le _) (Nat.zero_le _) (⟨by rw [eF], by rw [eF]; exact ⟨A, up (up (sV V (ln : Int) la (rd : Int) (mr : Int) (sz : Int) (W.length : Int) (O.length : Int) len (hB th) fa re) 0 0) 1 (-6), G, hW9, ⟨⟨rfl, mlg⟩, ⟨rfl, rfl, rfl⟩, mlt, ⟨rfl, mtr⟩, mtb, ⟨rfl, mw⟩, ⟨rfl, mo⟩, ⟨rfl, m43⟩, rfl, rfl, rfl⟩⟩⟩)
