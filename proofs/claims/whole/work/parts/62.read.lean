theorem chg_dfs {A B : List Int} : chg A B = dfs (-1) A B ++ dfs 1 A B := by
  unfold chg dfs
  rw [if_pos (by decide), if_neg (by decide)]
theorem c_X12_readOne {l : Launch} {E : JE} {f : Hp} {rg : Nat → Nat} {f0 : Hp} {m : Nat} {ls : Int → Int} {lr : Int → Int} {ln : Nat} {M : Int → Int → Int} {sz : Nat} {la : Int} {rd : Nat} {mr : Nat} {W : List Int} {O : List Int} {g : Int → Int} {len : Int} {th : Int → Int} {fa : Int} {re : Int}  (hM : MR E rg f0 f m (ls, lr, ln, M, sz, la, rd, mr, W, O, g, len, th, fa, re)) (hS : SOk (ls, lr, ln, M, sz, la, rd, mr, W, O, g, len, th, fa, re)) (hsz1 : 1 ≤ sz) (hrl : rd < ln) : KX12_readOne l E [.ref m] f (fun v f' => ∃ z : Int, v = some (.int (iZ z)) ∧ ((z = 1 ∧ rdOk ls lr M sz la rd W ∧ MR E rg f0 f' m (ls, lr, ln, M, sz, la, rd + 1, mr, W ++ chg (tab M (srcN ls lr la rd) (sz - 1)) (tab M (srcN ls lr la (rd + 1)) (sz - 1)), O, g, len, th, fa, re)) ∨ (z = 0 ∧ ¬ rdOk ls lr M sz la rd W ∧ MR E rg f0 f' m (ls, lr, ln, M, sz, la, rd, mr, W, O, g, len, th, fa, re)))) := by
  refine ct_of (own := RX12) (lv := [(0, .ref m)]) (by decide +kernel) rfl (Nat.le_of_ble_eq_true rfl) rfl ?_
  intro G9 hG hZ
  have hM0 := hM; have hS0 := hS
  obtain ⟨A, V, G, hW, ⟨⟨m2, mlg⟩, ⟨m8, m9, m10⟩, mlt, ⟨m11, mtr⟩, mtb, ⟨m26, mw⟩, ⟨m31, mo⟩, ⟨m44, m43⟩, m51, m49, m1⟩⟩ := hM
  obtain ⟨⟨hln, hlg⟩, ⟨hsz, hMo⟩, hla, hrd, hok1, hok2, hWO, hbg, hle, hth, hh1⟩ := hS
  have hW := sV_in hW m2 m8 m9 m10 m11 m26 m31 m44 m51 m49 m1
  have hg6 : ∀ j : Nat, j < rd → 0 ≤ G 6 j ∧ G 6 j < 16384 := fun j hj => by rw [(mlg j (by omega)).2.2.2]; exact rT_rng (hlg j (by omega)).1.1
  have g6 := (mlg rd hrl).2.2.2
  have hlx := (hlg rd hrl).1
  have htm := rT_rng hlx.1
  have hlt := ltst_rng rd (fun j hj => (hlg j (by omega)).1.1)
  have lt9 : ltM (G 6) rd = ltst lr rd := ltM_eq rd (fun j hj => (mlg j (by omega)).2.2.2)
  refine j_aload_n hG dX12_readOne_0 rfl rfl ?_
  refine j_get (v := .int (iZ ((rd : Int)))) hG fX12_187 dX12_readOne_1 hW.1 rfl ?_
  refine j_istore_n (lv' := [(0, .ref m), (1, .int (iZ ((rd : Int))))]) hG dX12_readOne_4 rfl (by decide) rfl ?_
  refine j_aload_n hG dX12_readOne_5 rfl rfl ?_
  refine j_get (v := .ref (A 7)) hG fX12_22 dX12_readOne_6 hW.1 rfl ?_
  refine j_iload_n hG dX12_readOne_9 rfl rfl ?_
  have hj1 : ∀ (b9 : Int) , (b9 = 1 ∧ lateB lr la rd = true) ∨ (b9 = 0 ∧ lateB lr la rd = false) → J G9 0 0 f 42 [(0, .ref m), (1, .int (iZ ((rd : Int))))] [.int (iZ (b9)), .int (iZ ((rd : Int))), .ref (A 7)] := by
    intro b9  hb9
    refine j_zast hG dX12_readOne_42 (MF_a7 hW) (by omega) (by decide) (by omega) (fun f2 h3 fr4 => ?_)
    have hW5 : MF E rg f0 f2 m A (sV V (ln : Int) la (rd : Int) (mr : Int) (sz : Int) (W.length : Int) (O.length : Int) len (hB th) fa re) (up G 7 (fup (G 7) (rd : Int) b9)) := MF_a hW 7 rfl h3 fr4
    have hlt9 : ∀ j : Nat, j < rd + 1 → fup (G 7) (rd : Int) b9 j = if lateB lr la j = true then 1 else 0 := fun j hj => by
      by_cases e : j = rd
      · subst e; rw [fup_s]; rcases hb9 with q | q; (rw [q.2, q.1]; rfl); (rw [q.2, q.1]; rfl)
      · rw [fup_n _ _ (by omega)]; exact mlt j (by omega)
    refine j_aload_n hG dX12_readOne_43 rfl rfl ?_
    refine j_iload_n hG dX12_readOne_44 rfl rfl ?_
    refine j_iconst hG dX12_readOne_45 ?_
    refine j_iadd hG dX12_readOne_46 ?_
    refine j_eq (show ((rd : Int) + 1 : Int) = (((rd + 1 : Nat) : Int) : Int) from (by omega)) ?_
    refine j_callV (rest := []) hG vX12_193 dX12_readOne_47 (c_X12_makeAll (M := M) (ls := ls) (lr := lr) (la := la) (n := (rd + 1)) (sz := sz) hW5 rfl hsz hMo mtr (fun j hj => mlg j (by omega)) hlt9 (fun j hj => hlg j (by omega)) (by omega)) hW5.1 rfl rfl (by decide) (by decide) (Nat.le_of_ble_eq_true rfl) rfl rfl (Nat.zero_le _) (Nat.zero_le _) ?_
    rintro _ f15 ⟨z12, rfl, V6, G7, hW8, oA9, oV10, hq11⟩
    refine j_st (st' := [.int (iZ (z12))]) rfl ?_
    refine j_if_ne (tgt := 55) hG dX12_readOne_50 (by decide) (by omega) (fun c16 => ?_) (fun c16 => ?_)
    · -- taken at 50
      obtain ⟨-, e13⟩ := hq11.resolve_right (fun h => absurd h.1 (by omega))
      refine j_aload_n hG dX12_readOne_55 rfl rfl ?_
      refine j_get (v := .int (iZ (V6 26))) hG fX12_184 dX12_readOne_56 hW8.1 rfl ?_
      refine j_istore_n (lv' := [(0, .ref m), (1, .int (iZ ((rd : Int)))), (2, .int (iZ (V6 26)))]) hG dX12_readOne_59 rfl (by decide) rfl ?_
      have tl1 := tab_l hMo (srcN_l (ls := ls) (la := la) rd (fun j hj => (hlg j (by omega)).1)) hok1 (sz - 1) (by omega)
      have tl2 := tab_l hMo (srcN_l (ls := ls) (la := la) (rd + 1) (fun j hj => (hlg j (by omega)).1)) e13.1 (sz - 1) (by omega)
      have w26 : V6 26 = (W.length : Int) := (oV10 26 (by decide))
      have ww : wrep (G7 27) (G7 28) (G7 29) (G7 30) W := by rw [(oA9 27 (by decide) (by decide) (by decide) (by decide)), (oA9 28 (by decide) (by decide) (by decide) (by decide)), (oA9 29 (by decide) (by decide) (by decide) (by decide)), (oA9 30 (by decide) (by decide) (by decide) (by decide))]; exact mw
      refine j_aload_n hG dX12_readOne_60 rfl rfl ?_
      refine j_iconst hG dX12_readOne_61 ?_
      refine j_callV (rest := []) hG vX12_197 dX12_readOne_62 (c_X12_changeN (t := sz - 1) (Lo := (tab M (srcN ls lr la rd) (sz - 1))) (Ln := (tab M (srcN ls lr la (rd + 1)) (sz - 1))) (W := W) hW8 (by omega) (by rw [(oV10 11 (by decide))]; show (sz : Int) = _; omega) (by unfold krep; rw [(oA9 17 (by decide) (by decide) (by decide) (by decide)), (oA9 18 (by decide) (by decide) (by decide) (by decide)), (oA9 19 (by decide) (by decide) (by decide) (by decide)), (oA9 20 (by decide) (by decide) (by decide) (by decide))]; exact mtb (sz - 1) (by omega)) (e13.2 (sz - 1) (by omega)) tl1.1 tl2.1 tl1.2 tl2.2 w26 ww hWO.1) hW8.1 rfl rfl (by decide) (by decide) (Nat.le_of_ble_eq_true rfl) rfl rfl (Nat.zero_le _) (Nat.zero_le _) ?_
      rintro _ f29 ⟨z17, V18, G19, Wl20, rfl, hW21, oW22, oU23, hl24, hw25, hq26⟩
      refine j_st (st' := [.int (iZ (z17))]) rfl ?_
      refine j_if_eq (tgt := 76) hG dX12_readOne_65 (by decide) (by omega) (fun c30 => ?_) (fun c30 => ?_)
      · -- taken at 65
        obtain ⟨-, ⟨e28d, e28⟩, e28m, e28n⟩ := hq26.resolve_left (fun h => absurd h.1 (by omega))
        refine j_aload_n hG dX12_readOne_76 rfl rfl ?_
        refine j_iload_n hG dX12_readOne_77 rfl rfl ?_
        refine j_put hG pX12_184 dX12_readOne_78 hW21.1 rfl rfl (Nat.le_of_ble_eq_true rfl) (fun f31 h32 fr33 => ?_)
        have hW34 : MF E rg f0 f31 m A (up V18 26 (V6 26)) G19 := MF_p26 hW21 h32 fr33
        refine j_iconst hG dX12_readOne_81 ?_
        have c9 := congrArg List.length (chg_dfs (A := (tab M (srcN ls lr la rd) (sz - 1))) (B := (tab M (srcN ls lr la (rd + 1)) (sz - 1))))
        rw [List.length_append] at c9
        rw [List.length_append] at e28n
        exact j_zret hG hZ dX12_readOne_82 (Nat.zero_le _) (Nat.zero_le _) (nar_zr (by omega)) (⟨0, rfl, Or.inr ⟨rfl, fun q => by have := q.2; omega, A, up V18 26 (V6 26), G19, hW34, ⟨⟨((oU23 2 (by decide)).trans (oV10 2 (by decide))), (by rw [((oW22 3 (by decide) (by decide) (by decide) (by decide)).trans (oA9 3 (by decide) (by decide) (by decide) (by decide))), ((oW22 4 (by decide) (by decide) (by decide) (by decide)).trans (oA9 4 (by decide) (by decide) (by decide) (by decide))), ((oW22 5 (by decide) (by decide) (by decide) (by decide)).trans (oA9 5 (by decide) (by decide) (by decide) (by decide))), ((oW22 6 (by decide) (by decide) (by decide) (by decide)).trans (oA9 6 (by decide) (by decide) (by decide) (by decide)))]; exact mlg)⟩, ⟨((oU23 8 (by decide)).trans (oV10 8 (by decide))), ((oU23 9 (by decide)).trans (oV10 9 (by decide))), ((oU23 10 (by decide)).trans (oV10 10 (by decide)))⟩, (fun j hj => by rw [((oW22 7 (by decide) (by decide) (by decide) (by decide)).trans (oA9 7 (by decide) (by decide) (by decide) (by decide)))]; show fup (G 7) (rd : Int) b9 j = _; rw [fup_n _ _ (by omega)]; exact mlt j hj), ⟨((oU23 11 (by decide)).trans (oV10 11 (by decide))), (by rw [((oW22 12 (by decide) (by decide) (by decide) (by decide)).trans (oA9 12 (by decide) (by decide) (by decide) (by decide))), ((oW22 13 (by decide) (by decide) (by decide) (by decide)).trans (oA9 13 (by decide) (by decide) (by decide) (by decide))), ((oW22 14 (by decide) (by decide) (by decide) (by decide)).trans (oA9 14 (by decide) (by decide) (by decide) (by decide))), ((oW22 15 (by decide) (by decide) (by decide) (by decide)).trans (oA9 15 (by decide) (by decide) (by decide) (by decide))), ((oW22 16 (by decide) (by decide) (by decide) (by decide)).trans (oA9 16 (by decide) (by decide) (by decide) (by decide)))]; exact mtr)⟩, (by rw [((oW22 17 (by decide) (by decide) (by decide) (by decide)).trans (oA9 17 (by decide) (by decide) (by decide) (by decide))), ((oW22 18 (by decide) (by decide) (by decide) (by decide)).trans (oA9 18 (by decide) (by decide) (by decide) (by decide))), ((oW22 19 (by decide) (by decide) (by decide) (by decide)).trans (oA9 19 (by decide) (by decide) (by decide) (by decide))), ((oW22 20 (by decide) (by decide) (by decide) (by decide)).trans (oA9 20 (by decide) (by decide) (by decide) (by decide)))]; exact mtb), ⟨w26, (wrep_two hw25 e28 (by omega))⟩, ⟨((oU23 31 (by decide)).trans (oV10 31 (by decide))), (by rw [((oW22 32 (by decide) (by decide) (by decide) (by decide)).trans (oA9 32 (by decide) (by decide) (by decide) (by decide))), ((oW22 33 (by decide) (by decide) (by decide) (by decide)).trans (oA9 33 (by decide) (by decide) (by decide) (by decide))), ((oW22 34 (by decide) (by decide) (by decide) (by decide)).trans (oA9 34 (by decide) (by decide) (by decide) (by decide))), ((oW22 35 (by decide) (by decide) (by decide) (by decide)).trans (oA9 35 (by decide) (by decide) (by decide) (by decide)))]; exact mo)⟩, ⟨((oU23 44 (by decide)).trans (oV10 44 (by decide))), (by rw [((oW22 43 (by decide) (by decide) (by decide) (by decide)).trans (oA9 43 (by decide) (by decide) (by decide) (by decide)))]; exact m43)⟩, ((oU23 51 (by decide)).trans (oV10 51 (by decide))), ((oU23 49 (by decide)).trans (oV10 49 (by decide))), ((oU23 1 (by decide)).trans (oV10 1 (by decide)))⟩⟩⟩)
      · -- on at 65
        obtain ⟨-, e27, e27l⟩ := hq26.resolve_right (fun h => absurd h.1 (by omega))
        refine j_aload_n hG dX12_readOne_68 rfl rfl ?_
        refine j_iconst hG dX12_readOne_69 ?_
        refine j_callV (rest := []) hG vX12_197 dX12_readOne_70 (c_X12_changeP (t := sz - 1) (Lo := (tab M (srcN ls lr la rd) (sz - 1))) (Ln := (tab M (srcN ls lr la (rd + 1)) (sz - 1))) (W := Wl20) hW21 (by omega) (by rw [((oU23 11 (by decide)).trans (oV10 11 (by decide)))]; show (sz : Int) = _; omega) (by unfold krep; rw [((oW22 17 (by decide) (by decide) (by decide) (by decide)).trans (oA9 17 (by decide) (by decide) (by decide) (by decide))), ((oW22 18 (by decide) (by decide) (by decide) (by decide)).trans (oA9 18 (by decide) (by decide) (by decide) (by decide))), ((oW22 19 (by decide) (by decide) (by decide) (by decide)).trans (oA9 19 (by decide) (by decide) (by decide) (by decide))), ((oW22 20 (by decide) (by decide) (by decide) (by decide)).trans (oA9 20 (by decide) (by decide) (by decide) (by decide)))]; exact mtb (sz - 1) (by omega)) (by unfold nrep; rw [oW22 21 (by decide) (by decide) (by decide) (by decide), oW22 22 (by decide) (by decide) (by decide) (by decide), oW22 23 (by decide) (by decide) (by decide) (by decide), oW22 24 (by decide) (by decide) (by decide) (by decide)]; exact (e13.2 (sz - 1) (by omega))) tl1.1 tl2.1 tl1.2 tl2.2 hl24 hw25 e27l) hW21.1 rfl rfl (by decide) (by decide) (Nat.le_of_ble_eq_true rfl) rfl rfl (Nat.zero_le _) (Nat.zero_le _) ?_
        rintro _ f47 ⟨z35, V36, G37, Wl38, rfl, hW39, oW40, oU41, hl42, hw43, hq44⟩
        refine j_st (st' := [.int (iZ (z35))]) rfl ?_
        refine j_if_ne (tgt := 83) hG dX12_readOne_73 (by decide) (by omega) (fun c48 => ?_) (fun c48 => ?_)
        · -- taken at 73
          obtain ⟨-, e45, e45l⟩ := hq44.resolve_right (fun h => absurd h.1 (by omega))
          have v11 : V36 11 = (sz : Int) := ((oU41 11 (by decide)).trans ((oU23 11 (by decide)).trans (oV10 11 (by decide))))
          have tl3 := tab_l hMo (srcN_l (ls := ls) (la := la) (rd + 1) (fun j hj => (hlg j (by omega)).1)) e13.1
          have hX9 : ∀ t : Nat, t < sz → nrep G37 t (tab M (srcN ls lr la (rd + 1)) t) ∧ (tab M (srcN ls lr la (rd + 1)) t).length ≤ 400 := fun t ht => ⟨by unfold nrep; rw [oW40 21 (by decide) (by decide) (by decide) (by decide), oW22 21 (by decide) (by decide) (by decide) (by decide), oW40 22 (by decide) (by decide) (by decide) (by decide), oW22 22 (by decide) (by decide) (by decide) (by decide), oW40 23 (by decide) (by decide) (by decide) (by decide), oW22 23 (by decide) (by decide) (by decide) (by decide), oW40 24 (by decide) (by decide) (by decide) (by decide), oW22 24 (by decide) (by decide) (by decide) (by decide)]; exact e13.2 t ht, (tl3 t ht).2⟩
          refine j_aload_n hG dX12_readOne_83 rfl rfl ?_
          refine j_callV (rest := []) hG vX12_200 dX12_readOne_84 (c_X12_keep (sz := sz) (X := fun t => tab M (srcN ls lr la (rd + 1)) t) hW39 v11 hsz hX9) hW39.1 rfl rfl (by decide) (by decide) (Nat.le_of_ble_eq_true rfl) rfl rfl (Nat.zero_le _) (Nat.zero_le _) ?_
          rintro _ f53 ⟨rfl, G49, hW50, oK51, hk52⟩
          refine j_st (st' := []) rfl ?_
          refine j_aload_n hG dX12_readOne_87 rfl rfl ?_
          refine j_dup hG dX12_readOne_88 rfl ?_
          refine j_get (v := .int (iZ (V36 9))) hG fX12_187 dX12_readOne_89 hW50.1 rfl ?_
          refine j_iconst hG dX12_readOne_92 ?_
          refine j_iadd hG dX12_readOne_93 ?_
          refine j_put hG pX12_187 dX12_readOne_94 hW50.1 rfl rfl (Nat.le_of_ble_eq_true rfl) (fun f54 h55 fr56 => ?_)
          have hW57 : MF E rg f0 f54 m A (up V36 9 ((V36 9) + 1)) G49 := MF_p9 hW50 h55 fr56
          refine j_iconst hG dX12_readOne_97 ?_
          have c9 := chg_dfs (A := (tab M (srcN ls lr la rd) (sz - 1))) (B := (tab M (srcN ls lr la (rd + 1)) (sz - 1)))
          rw [e27, List.append_assoc, ← c9] at e45
          subst e45
          have v9 : V36 9 = (rd : Int) := ((oU41 9 (by decide)).trans ((oU23 9 (by decide)).trans (oV10 9 (by decide))))
          exact j_zret hG hZ dX12_readOne_98 (Nat.zero_le _) (Nat.zero_le _) (nar_zr (by omega)) (⟨1, rfl, Or.inl ⟨rfl, ⟨e13.1, by rw [← List.length_append]; exact e45l⟩, A, up V36 9 ((V36 9) + 1), G49, hW57, ⟨⟨((oU41 2 (by decide)).trans ((oU23 2 (by decide)).trans (oV10 2 (by decide)))), (by rw [((oK51 3 (by decide) (by decide) (by decide) (by decide)).trans ((oW40 3 (by decide) (by decide) (by decide) (by decide)).trans ((oW22 3 (by decide) (by decide) (by decide) (by decide)).trans (oA9 3 (by decide) (by decide) (by decide) (by decide))))), ((oK51 4 (by decide) (by decide) (by decide) (by decide)).trans ((oW40 4 (by decide) (by decide) (by decide) (by decide)).trans ((oW22 4 (by decide) (by decide) (by decide) (by decide)).trans (oA9 4 (by decide) (by decide) (by decide) (by decide))))), ((oK51 5 (by decide) (by decide) (by decide) (by decide)).trans ((oW40 5 (by decide) (by decide) (by decide) (by decide)).trans ((oW22 5 (by decide) (by decide) (by decide) (by decide)).trans (oA9 5 (by decide) (by decide) (by decide) (by decide))))), ((oK51 6 (by decide) (by decide) (by decide) (by decide)).trans ((oW40 6 (by decide) (by decide) (by decide) (by decide)).trans ((oW22 6 (by decide) (by decide) (by decide) (by decide)).trans (oA9 6 (by decide) (by decide) (by decide) (by decide)))))]; exact mlg)⟩, ⟨((oU41 8 (by decide)).trans ((oU23 8 (by decide)).trans (oV10 8 (by decide)))), (by show V36 9 + 1 = _; omega), ((oU41 10 (by decide)).trans ((oU23 10 (by decide)).trans (oV10 10 (by decide))))⟩, (fun j hj => by rw [((oK51 7 (by decide) (by decide) (by decide) (by decide)).trans ((oW40 7 (by decide) (by decide) (by decide) (by decide)).trans ((oW22 7 (by decide) (by decide) (by decide) (by decide)).trans (oA9 7 (by decide) (by decide) (by decide) (by decide)))))]; exact hlt9 j hj), ⟨((oU41 11 (by decide)).trans ((oU23 11 (by decide)).trans (oV10 11 (by decide)))), (by rw [((oK51 12 (by decide) (by decide) (by decide) (by decide)).trans ((oW40 12 (by decide) (by decide) (by decide) (by decide)).trans ((oW22 12 (by decide) (by decide) (by decide) (by decide)).trans (oA9 12 (by decide) (by decide) (by decide) (by decide))))), ((oK51 13 (by decide) (by decide) (by decide) (by decide)).trans ((oW40 13 (by decide) (by decide) (by decide) (by decide)).trans ((oW22 13 (by decide) (by decide) (by decide) (by decide)).trans (oA9 13 (by decide) (by decide) (by decide) (by decide))))), ((oK51 14 (by decide) (by decide) (by decide) (by decide)).trans ((oW40 14 (by decide) (by decide) (by decide) (by decide)).trans ((oW22 14 (by decide) (by decide) (by decide) (by decide)).trans (oA9 14 (by decide) (by decide) (by decide) (by decide))))), ((oK51 15 (by decide) (by decide) (by decide) (by decide)).trans ((oW40 15 (by decide) (by decide) (by decide) (by decide)).trans ((oW22 15 (by decide) (by decide) (by decide) (by decide)).trans (oA9 15 (by decide) (by decide) (by decide) (by decide))))), ((oK51 16 (by decide) (by decide) (by decide) (by decide)).trans ((oW40 16 (by decide) (by decide) (by decide) (by decide)).trans ((oW22 16 (by decide) (by decide) (by decide) (by decide)).trans (oA9 16 (by decide) (by decide) (by decide) (by decide)))))]; exact mtr)⟩, hk52, ⟨hl42, (by rw [oK51 27 (by decide) (by decide) (by decide) (by decide), oK51 28 (by decide) (by decide) (by decide) (by decide), oK51 29 (by decide) (by decide) (by decide) (by decide), oK51 30 (by decide) (by decide) (by decide) (by decide)]; exact hw43)⟩, ⟨((oU41 31 (by decide)).trans ((oU23 31 (by decide)).trans (oV10 31 (by decide)))), (by rw [((oK51 32 (by decide) (by decide) (by decide) (by decide)).trans ((oW40 32 (by decide) (by decide) (by decide) (by decide)).trans ((oW22 32 (by decide) (by decide) (by decide) (by decide)).trans (oA9 32 (by decide) (by decide) (by decide) (by decide))))), ((oK51 33 (by decide) (by decide) (by decide) (by decide)).trans ((oW40 33 (by decide) (by decide) (by decide) (by decide)).trans ((oW22 33 (by decide) (by decide) (by decide) (by decide)).trans (oA9 33 (by decide) (by decide) (by decide) (by decide))))), ((oK51 34 (by decide) (by decide) (by decide) (by decide)).trans ((oW40 34 (by decide) (by decide) (by decide) (by decide)).trans ((oW22 34 (by decide) (by decide) (by decide) (by decide)).trans (oA9 34 (by decide) (by decide) (by decide) (by decide))))), ((oK51 35 (by decide) (by decide) (by decide) (by decide)).trans ((oW40 35 (by decide) (by decide) (by decide) (by decide)).trans ((oW22 35 (by decide) (by decide) (by decide) (by decide)).trans (oA9 35 (by decide) (by decide) (by decide) (by decide)))))]; exact mo)⟩, ⟨((oU41 44 (by decide)).trans ((oU23 44 (by decide)).trans (oV10 44 (by decide)))), (by rw [((oK51 43 (by decide) (by decide) (by decide) (by decide)).trans ((oW40 43 (by decide) (by decide) (by decide) (by decide)).trans ((oW22 43 (by decide) (by decide) (by decide) (by decide)).trans (oA9 43 (by decide) (by decide) (by decide) (by decide)))))]; exact m43)⟩, ((oU41 51 (by decide)).trans ((oU23 51 (by decide)).trans (oV10 51 (by decide)))), ((oU41 49 (by decide)).trans ((oU23 49 (by decide)).trans (oV10 49 (by decide)))), ((oU41 1 (by decide)).trans ((oU23 1 (by decide)).trans (oV10 1 (by decide))))⟩⟩⟩)
        · -- on at 73
          obtain ⟨-, ⟨e46d, e46⟩, e46m, e46n⟩ := hq44.resolve_left (fun h => absurd h.1 (by omega))
          refine j_aload_n hG dX12_readOne_76 rfl rfl ?_
          refine j_iload_n hG dX12_readOne_77 rfl rfl ?_
          refine j_put hG pX12_184 dX12_readOne_78 hW39.1 rfl rfl (Nat.le_of_ble_eq_true rfl) (fun f58 h59 fr60 => ?_)
          have hW61 : MF E rg f0 f58 m A (up V36 26 (V6 26)) G37 := MF_p26 hW39 h59 fr60
          refine j_iconst hG dX12_readOne_81 ?_
          have c9 := congrArg List.length (chg_dfs (A := (tab M (srcN ls lr la rd) (sz - 1))) (B := (tab M (srcN ls lr la (rd + 1)) (sz - 1))))
          rw [List.length_append] at c9
          rw [e27, List.length_append, List.length_append] at e46n
          rw [e27, List.append_assoc] at e46
          exact j_zret hG hZ dX12_readOne_82 (Nat.zero_le _) (Nat.zero_le _) (nar_zr (by omega)) (⟨0, rfl, Or.inr ⟨rfl, fun q => by have := q.2; omega, A, up V36 26 (V6 26), G37, hW61, ⟨⟨((oU41 2 (by decide)).trans ((oU23 2 (by decide)).trans (oV10 2 (by decide)))), (by rw [((oW40 3 (by decide) (by decide) (by decide) (by decide)).trans ((oW22 3 (by decide) (by decide) (by decide) (by decide)).trans (oA9 3 (by decide) (by decide) (by decide) (by decide)))), ((oW40 4 (by decide) (by decide) (by decide) (by decide)).trans ((oW22 4 (by decide) (by decide) (by decide) (by decide)).trans (oA9 4 (by decide) (by decide) (by decide) (by decide)))), ((oW40 5 (by decide) (by decide) (by decide) (by decide)).trans ((oW22 5 (by decide) (by decide) (by decide) (by decide)).trans (oA9 5 (by decide) (by decide) (by decide) (by decide)))), ((oW40 6 (by decide) (by decide) (by decide) (by decide)).trans ((oW22 6 (by decide) (by decide) (by decide) (by decide)).trans (oA9 6 (by decide) (by decide) (by decide) (by decide))))]; exact mlg)⟩, ⟨((oU41 8 (by decide)).trans ((oU23 8 (by decide)).trans (oV10 8 (by decide)))), ((oU41 9 (by decide)).trans ((oU23 9 (by decide)).trans (oV10 9 (by decide)))), ((oU41 10 (by decide)).trans ((oU23 10 (by decide)).trans (oV10 10 (by decide))))⟩, (fun j hj => by rw [((oW40 7 (by decide) (by decide) (by decide) (by decide)).trans ((oW22 7 (by decide) (by decide) (by decide) (by decide)).trans (oA9 7 (by decide) (by decide) (by decide) (by decide))))]; show fup (G 7) (rd : Int) b9 j = _; rw [fup_n _ _ (by omega)]; exact mlt j hj), ⟨((oU41 11 (by decide)).trans ((oU23 11 (by decide)).trans (oV10 11 (by decide)))), (by rw [((oW40 12 (by decide) (by decide) (by decide) (by decide)).trans ((oW22 12 (by decide) (by decide) (by decide) (by decide)).trans (oA9 12 (by decide) (by decide) (by decide) (by decide)))), ((oW40 13 (by decide) (by decide) (by decide) (by decide)).trans ((oW22 13 (by decide) (by decide) (by decide) (by decide)).trans (oA9 13 (by decide) (by decide) (by decide) (by decide)))), ((oW40 14 (by decide) (by decide) (by decide) (by decide)).trans ((oW22 14 (by decide) (by decide) (by decide) (by decide)).trans (oA9 14 (by decide) (by decide) (by decide) (by decide)))), ((oW40 15 (by decide) (by decide) (by decide) (by decide)).trans ((oW22 15 (by decide) (by decide) (by decide) (by decide)).trans (oA9 15 (by decide) (by decide) (by decide) (by decide)))), ((oW40 16 (by decide) (by decide) (by decide) (by decide)).trans ((oW22 16 (by decide) (by decide) (by decide) (by decide)).trans (oA9 16 (by decide) (by decide) (by decide) (by decide))))]; exact mtr)⟩, (by rw [((oW40 17 (by decide) (by decide) (by decide) (by decide)).trans ((oW22 17 (by decide) (by decide) (by decide) (by decide)).trans (oA9 17 (by decide) (by decide) (by decide) (by decide)))), ((oW40 18 (by decide) (by decide) (by decide) (by decide)).trans ((oW22 18 (by decide) (by decide) (by decide) (by decide)).trans (oA9 18 (by decide) (by decide) (by decide) (by decide)))), ((oW40 19 (by decide) (by decide) (by decide) (by decide)).trans ((oW22 19 (by decide) (by decide) (by decide) (by decide)).trans (oA9 19 (by decide) (by decide) (by decide) (by decide)))), ((oW40 20 (by decide) (by decide) (by decide) (by decide)).trans ((oW22 20 (by decide) (by decide) (by decide) (by decide)).trans (oA9 20 (by decide) (by decide) (by decide) (by decide))))]; exact mtb), ⟨w26, (wrep_two hw43 e46 (by omega))⟩, ⟨((oU41 31 (by decide)).trans ((oU23 31 (by decide)).trans (oV10 31 (by decide)))), (by rw [((oW40 32 (by decide) (by decide) (by decide) (by decide)).trans ((oW22 32 (by decide) (by decide) (by decide) (by decide)).trans (oA9 32 (by decide) (by decide) (by decide) (by decide)))), ((oW40 33 (by decide) (by decide) (by decide) (by decide)).trans ((oW22 33 (by decide) (by decide) (by decide) (by decide)).trans (oA9 33 (by decide) (by decide) (by decide) (by decide)))), ((oW40 34 (by decide) (by decide) (by decide) (by decide)).trans ((oW22 34 (by decide) (by decide) (by decide) (by decide)).trans (oA9 34 (by decide) (by decide) (by decide) (by decide)))), ((oW40 35 (by decide) (by decide) (by decide) (by decide)).trans ((oW22 35 (by decide) (by decide) (by decide) (by decide)).trans (oA9 35 (by decide) (by decide) (by decide) (by decide))))]; exact mo)⟩, ⟨((oU41 44 (by decide)).trans ((oU23 44 (by decide)).trans (oV10 44 (by decide)))), (by rw [((oW40 43 (by decide) (by decide) (by decide) (by decide)).trans ((oW22 43 (by decide) (by decide) (by decide) (by decide)).trans (oA9 43 (by decide) (by decide) (by decide) (by decide))))]; exact m43)⟩, ((oU41 51 (by decide)).trans ((oU23 51 (by decide)).trans (oV10 51 (by decide)))), ((oU41 49 (by decide)).trans ((oU23 49 (by decide)).trans (oV10 49 (by decide)))), ((oU41 1 (by decide)).trans ((oU23 1 (by decide)).trans (oV10 1 (by decide))))⟩⟩⟩)
    · -- on at 50
      obtain ⟨-, e14⟩ := hq11.resolve_left (fun h => absurd h.1 (by omega))
      refine j_iconst hG dX12_readOne_53 ?_
      exact j_zret hG hZ dX12_readOne_54 (Nat.zero_le _) (Nat.zero_le _) (nar_zr (by omega)) (⟨0, rfl, Or.inr ⟨rfl, fun q => e14 q.1, A, V6, G7, hW8, ⟨⟨(oV10 2 (by decide)), (by rw [(oA9 3 (by decide) (by decide) (by decide) (by decide)), (oA9 4 (by decide) (by decide) (by decide) (by decide)), (oA9 5 (by decide) (by decide) (by decide) (by decide)), (oA9 6 (by decide) (by decide) (by decide) (by decide))]; exact mlg)⟩, ⟨(oV10 8 (by decide)), (oV10 9 (by decide)), (oV10 10 (by decide))⟩, (fun j hj => by rw [(oA9 7 (by decide) (by decide) (by decide) (by decide))]; show fup (G 7) (rd : Int) b9 j = _; rw [fup_n _ _ (by omega)]; exact mlt j hj), ⟨(oV10 11 (by decide)), (by rw [(oA9 12 (by decide) (by decide) (by decide) (by decide)), (oA9 13 (by decide) (by decide) (by decide) (by decide)), (oA9 14 (by decide) (by decide) (by decide) (by decide)), (oA9 15 (by decide) (by decide) (by decide) (by decide)), (oA9 16 (by decide) (by decide) (by decide) (by decide))]; exact mtr)⟩, (by rw [(oA9 17 (by decide) (by decide) (by decide) (by decide)), (oA9 18 (by decide) (by decide) (by decide) (by decide)), (oA9 19 (by decide) (by decide) (by decide) (by decide)), (oA9 20 (by decide) (by decide) (by decide) (by decide))]; exact mtb), ⟨(oV10 26 (by decide)), (by rw [(oA9 27 (by decide) (by decide) (by decide) (by decide)), (oA9 28 (by decide) (by decide) (by decide) (by decide)), (oA9 29 (by decide) (by decide) (by decide) (by decide)), (oA9 30 (by decide) (by decide) (by decide) (by decide))]; exact mw)⟩, ⟨(oV10 31 (by decide)), (by rw [(oA9 32 (by decide) (by decide) (by decide) (by decide)), (oA9 33 (by decide) (by decide) (by decide) (by decide)), (oA9 34 (by decide) (by decide) (by decide) (by decide)), (oA9 35 (by decide) (by decide) (by decide) (by decide))]; exact mo)⟩, ⟨(oV10 44 (by decide)), (by rw [(oA9 43 (by decide) (by decide) (by decide) (by decide))]; exact m43)⟩, (oV10 51 (by decide)), (oV10 49 (by decide)), (oV10 1 (by decide))⟩⟩⟩)
  refine j_aload_n hG dX12_readOne_10 rfl rfl ?_
  refine j_get (v := .int (iZ (la))) hG fX12_26 dX12_readOne_11 hW.1 rfl ?_
  refine j_iconst hG dX12_readOne_14 ?_
  refine j_icmp_eq (tgt := 41) hG dX12_readOne_15 (by decide) (by omega) (by omega) (fun c62 => ?_) (fun c62 => ?_)
  · -- taken at 15
    refine j_iconst hG dX12_readOne_41 ?_
    exact hj1 (0) (Or.inr ⟨rfl, by unfold lateB; exact decide_eq_false (by omega)⟩)
  · -- on at 15
    refine j_aload_n hG dX12_readOne_18 rfl rfl ?_
    refine j_get (v := .ref (A 6)) hG fX12_19 dX12_readOne_19 hW.1 rfl ?_
    refine j_iload_n hG dX12_readOne_22 rfl rfl ?_
    refine j_iald hG dX12_readOne_23 (MF_a6 hW) (by omega) (by decide) ?_
    refine j_eq (show ((G 6) (rd : Int) : Int) = (rT (lr (rd : Int)) : Int) from g6) ?_
    refine j_aload_n hG dX12_readOne_24 rfl rfl ?_
    refine j_iload_n hG dX12_readOne_25 rfl rfl ?_
    refine j_callV (rest := [.int (iZ (rT (lr (rd : Int)))), .int (iZ ((rd : Int))), .ref (A 7)]) hG vX12_190 dX12_readOne_26 (c_X12_latest (g := G 6) (n := rd) hW rfl (by omega) hg6) hW.1 rfl rfl (by decide) (by decide) (Nat.le_of_ble_eq_true rfl) rfl rfl (Nat.zero_le _) (Nat.zero_le _) ?_
    rintro _ _ ⟨rfl, rfl⟩
    refine j_st (st' := [.int (iZ (ltM (G 6) rd)), .int (iZ (rT (lr (rd : Int)))), .int (iZ ((rd : Int))), .ref (A 7)]) rfl ?_
    refine j_eq (show (ltM (G 6) rd : Int) = (ltst lr rd : Int) from lt9) ?_
    refine j_aload_n hG dX12_readOne_29 rfl rfl ?_
    refine j_get (v := .int (iZ (la))) hG fX12_26 dX12_readOne_30 hW.1 rfl ?_
    refine j_isub hG dX12_readOne_33 ?_
    refine j_icmp_ge (tgt := 41) hG dX12_readOne_34 (by decide) (by omega) (by omega) (fun c63 => ?_) (fun c63 => ?_)
    · -- taken at 34
      refine j_iconst hG dX12_readOne_41 ?_
      exact hj1 (0) (Or.inr ⟨rfl, by unfold lateB; exact decide_eq_false (by omega)⟩)
    · -- on at 34
      refine j_iconst hG dX12_readOne_37 ?_
      refine j_goto (tgt := 42) hG dX12_readOne_38 (by decide) ?_
      exact hj1 (1) (Or.inl ⟨rfl, by unfold lateB; exact decide_eq_true (by omega)⟩)
theorem sg_X12_read {G9 : JG} {l : Launch} {E : JE} {P : Option Value → Hp → Prop} (hG : jX G9 l E cX12_read RX12 4 rmX12_read) (hZ : jZ G9 (some .int) P) {rg : Nat → Nat} {f0 : Hp} {m : Nat} {ls : Int → Int} {lr : Int → Int} {ln : Nat} {M : Int → Int → Int} {sz : Nat} {la : Int} {rd : Nat} {mr : Nat} {W : List Int} {O : List Int} {g : Int → Int} {len : Int} {th : Int → Int} {fa : Int} {re : Int} {n dn : Int} {f1 : Hp} (hM : MR E rg f0 f1 m (ls, lr, ln, M, sz, la, rd, mr, W, O, g, len, th, fa, re)) (hS : SOk (ls, lr, ln, M, sz, la, rd, mr, W, O, g, len, th, fa, re)) (hn : 0 ≤ n ∧ n ≤ 150) (hdn : 0 ≤ dn ∧ dn ≤ n) (hP : ∀ f' : Hp, MR E rg f0 f' m (ls, lr, ln, M, sz, la, rd, mr, W, O, g, len, th, fa, -5) → P (some (.int (iZ dn))) f') : J G9 0 0 f1 41 [(0, .ref m), (1, .int (iZ (n))), (2, .int (iZ (dn))), (3, .int (iZ (0)))] [] := by
  obtain ⟨A, V, G, hW, ⟨⟨m2, mlg⟩, ⟨m8, m9, m10⟩, mlt, ⟨m11, mtr⟩, mtb, ⟨m26, mw⟩, ⟨m31, mo⟩, ⟨m44, m43⟩, m51, m49, m1⟩⟩ := hM
  obtain ⟨⟨hln, hlg⟩, ⟨hsz, hMo⟩, hla, hrd, hok1, hok2, hWO, hbg, hle, hth, hh1⟩ := hS
  have hW := sV_in hW m2 m8 m9 m10 m11 m26 m31 m44 m51 m49 m1
  refine j_iload_n hG dX12_read_41 rfl rfl ?_
  refine j_iload_n hG dX12_read_42 rfl rfl ?_
  refine j_icmp_ge (tgt := 81) hG dX12_read_43 (by decide) (by omega) (by omega) (fun c1 => ?_) (fun c1 => ?_)
  · -- taken at 43
    refine j_aload_n hG dX12_read_81 rfl rfl ?_
    refine j_iload_n hG dX12_read_82 rfl rfl ?_
    refine j_if_eq (tgt := 90) hG dX12_read_83 (by decide) (by omega) (fun c2 => ?_) (fun c2 => ?_)
    · -- taken at 83
      refine j_bipush hG dX12_read_90 (by decide) ?_
      refine j_put hG pX12_123 dX12_read_92 hW.1 rfl rfl (Nat.le_of_ble_eq_true rfl) (fun f3 h4 fr5 => ?_)
      have hW6 : MF E rg f0 f3 m A (up (sV V (ln : Int) la (rd : Int) (mr : Int) (sz : Int) (W.length : Int) (O.length : Int) len (hB th) fa re) 1 (-5)) G := MF_p1 hW h4 fr5
      refine j_iload_n hG dX12_read_95 rfl rfl ?_
      exact j_iret hG hZ dX12_read_96 (Nat.zero_le _) (Nat.zero_le _) (hP f3 ⟨A, up (sV V (ln : Int) la (rd : Int) (mr : Int) (sz : Int) (W.length : Int) (O.length : Int) len (hB th) fa re) 1 (-5), G, hW6, ⟨⟨rfl, mlg⟩, ⟨rfl, rfl, rfl⟩, mlt, ⟨rfl, mtr⟩, mtb, ⟨rfl, mw⟩, ⟨rfl, mo⟩, ⟨rfl, m43⟩, rfl, rfl, rfl⟩⟩)
    · -- on at 83
      exfalso; omega
  · -- on at 43
    refine j_aload_n hG dX12_read_46 rfl rfl ?_
    refine j_get (v := .int (iZ ((rd : Int)))) hG fX12_187 dX12_read_47 hW.1 rfl ?_
    refine j_aload_n hG dX12_read_50 rfl rfl ?_
    refine j_get (v := .int (iZ ((ln : Int)))) hG fX12_144 dX12_read_51 hW.1 rfl ?_
    refine j_icmp_ge (tgt := 81) hG dX12_read_54 (by decide) (by omega) (by omega) (fun c7 => ?_) (fun c7 => ?_)
    · -- taken at 54
      refine j_aload_n hG dX12_read_81 rfl rfl ?_
      refine j_iload_n hG dX12_read_82 rfl rfl ?_
      refine j_if_eq (tgt := 90) hG dX12_read_83 (by decide) (by omega) (fun c8 => ?_) (fun c8 => ?_)
      · -- taken at 83
        refine j_bipush hG dX12_read_90 (by decide) ?_
        refine j_put hG pX12_123 dX12_read_92 hW.1 rfl rfl (Nat.le_of_ble_eq_true rfl) (fun f9 h10 fr11 => ?_)
        have hW12 : MF E rg f0 f9 m A (up (sV V (ln : Int) la (rd : Int) (mr : Int) (sz : Int) (W.length : Int) (O.length : Int) len (hB th) fa re) 1 (-5)) G := MF_p1 hW h10 fr11
        refine j_iload_n hG dX12_read_95 rfl rfl ?_
        exact j_iret hG hZ dX12_read_96 (Nat.zero_le _) (Nat.zero_le _) (hP f9 ⟨A, up (sV V (ln : Int) la (rd : Int) (mr : Int) (sz : Int) (W.length : Int) (O.length : Int) len (hB th) fa re) 1 (-5), G, hW12, ⟨⟨rfl, mlg⟩, ⟨rfl, rfl, rfl⟩, mlt, ⟨rfl, mtr⟩, mtb, ⟨rfl, mw⟩, ⟨rfl, mo⟩, ⟨rfl, m43⟩, rfl, rfl, rfl⟩⟩)
      · -- on at 83
        exfalso; omega
    · -- on at 54
      refine j_iload_n hG dX12_read_57 rfl rfl ?_
      refine j_if_eq (tgt := 81) hG dX12_read_58 (by decide) (by omega) (fun c13 => ?_) (fun c13 => ?_)
      · -- taken at 58
        refine j_aload_n hG dX12_read_81 rfl rfl ?_
        refine j_iload_n hG dX12_read_82 rfl rfl ?_
        refine j_if_eq (tgt := 90) hG dX12_read_83 (by decide) (by omega) (fun c14 => ?_) (fun c14 => ?_)
        · -- taken at 83
          refine j_bipush hG dX12_read_90 (by decide) ?_
          refine j_put hG pX12_123 dX12_read_92 hW.1 rfl rfl (Nat.le_of_ble_eq_true rfl) (fun f15 h16 fr17 => ?_)
          have hW18 : MF E rg f0 f15 m A (up (sV V (ln : Int) la (rd : Int) (mr : Int) (sz : Int) (W.length : Int) (O.length : Int) len (hB th) fa re) 1 (-5)) G := MF_p1 hW h16 fr17
          refine j_iload_n hG dX12_read_95 rfl rfl ?_
          exact j_iret hG hZ dX12_read_96 (Nat.zero_le _) (Nat.zero_le _) (hP f15 ⟨A, up (sV V (ln : Int) la (rd : Int) (mr : Int) (sz : Int) (W.length : Int) (O.length : Int) len (hB th) fa re) 1 (-5), G, hW18, ⟨⟨rfl, mlg⟩, ⟨rfl, rfl, rfl⟩, mlt, ⟨rfl, mtr⟩, mtb, ⟨rfl, mw⟩, ⟨rfl, mo⟩, ⟨rfl, m43⟩, rfl, rfl, rfl⟩⟩)
        · -- on at 83
          exfalso; omega
      · -- on at 58
        exfalso; omega
theorem l_X12_read {G9 : JG} {l : Launch} {E : JE} {P : Option Value → Hp → Prop} (hG : jX G9 l E cX12_read RX12 4 rmX12_read) (hZ : jZ G9 (some .int) P) {rg : Nat → Nat} {f0 : Hp} {m : Nat} {ls : Int → Int} {lr : Int → Int} {ln : Nat} {M : Int → Int → Int} {sz : Nat} {la : Int} {mr : Nat} {O : List Int} {g : Int → Int} {len : Int} {th : Int → Int} {fa : Int} {re : Int} {n : Int} {R : Nat × List Int × Int × Int} (hsz1 : 1 ≤ sz) (hn : 0 ≤ n ∧ n ≤ 150) (hP : ∀ f' : Hp, MR E rg f0 f' m (ls, lr, ln, M, sz, la, R.1, mr, R.2.1, O, g, len, th, fa, R.2.2.2) → P (some (.int (iZ R.2.2.1))) f') :
    ∀ (d : Nat) (rd : Nat) (W : List Int) (dn : Int) (f1 : Hp), (hM0 : MR E rg f0 f1 m (ls, lr, ln, M, sz, la, rd, mr, W, O, g, len, th, fa, re)) → (hS0 : SOk (ls, lr, ln, M, sz, la, rd, mr, W, O, g, len, th, fa, re)) → (hdn : 0 ≤ dn ∧ dn ≤ n) → (hR9 : rdL ls lr M sz la (min (n - dn) ((ln : Int) - (rd : Int))).toNat rd W dn = R) → ((n - dn).toNat) < d → J G9 0 0 f1 41 [(0, .ref m), (1, .int (iZ (n))), (2, .int (iZ (dn))), (3, .int (iZ (1)))] [] := by
  intro d
  induction d with
  | zero => intro rd W dn f1 hM0 hS0 hdn hR9 hd9; exfalso; omega
  | succ d ih =>
    intro rd W dn f1 hM0 hS0 hdn hR9 hd9
    have hM := hM0
    have hS := hS0
    obtain ⟨A, V, G, hW, ⟨⟨m2, mlg⟩, ⟨m8, m9, m10⟩, mlt, ⟨m11, mtr⟩, mtb, ⟨m26, mw⟩, ⟨m31, mo⟩, ⟨m44, m43⟩, m51, m49, m1⟩⟩ := hM
    have hS9 := hS0
    obtain ⟨⟨hln, hlg⟩, ⟨hsz, hMo⟩, hla, hrd, hok1, hok2, hWO, hbg, hle, hth, hh1⟩ := hS9
    have hW := sV_in hW m2 m8 m9 m10 m11 m26 m31 m44 m51 m49 m1
    refine j_iload_n hG dX12_read_41 rfl rfl ?_
    refine j_iload_n hG dX12_read_42 rfl rfl ?_
    refine j_icmp_ge (tgt := 81) hG dX12_read_43 (by decide) (by omega) (by omega) (fun c1 => ?_) (fun c1 => ?_)
    · -- taken at 43
      refine j_aload_n hG dX12_read_81 rfl rfl ?_
      refine j_iload_n hG dX12_read_82 rfl rfl ?_
      refine j_if_eq (tgt := 90) hG dX12_read_83 (by decide) (by omega) (fun c2 => ?_) (fun c2 => ?_)
      · -- taken at 83
        exfalso; omega
      · -- on at 83
        refine j_iconst hG dX12_read_86 ?_
        refine j_goto (tgt := 92) hG dX12_read_87 (by decide) ?_
        refine j_put hG pX12_123 dX12_read_92 hW.1 rfl rfl (Nat.le_of_ble_eq_true rfl) (fun f3 h4 fr5 => ?_)
        have hW6 : MF E rg f0 f3 m A (up (sV V (ln : Int) la (rd : Int) (mr : Int) (sz : Int) (W.length : Int) (O.length : Int) len (hB th) fa re) 1 0) G := MF_p1 hW h4 fr5
        refine j_iload_n hG dX12_read_95 rfl rfl ?_
        rw [show (min (n - dn) ((ln : Int) - (rd : Int))).toNat = 0 by omega] at hR9
        rw [rdL] at hR9
        subst hR9
        exact j_iret hG hZ dX12_read_96 (Nat.zero_le _) (Nat.zero_le _) (hP f3 ⟨A, up (sV V (ln : Int) la (rd : Int) (mr : Int) (sz : Int) (W.length : Int) (O.length : Int) len (hB th) fa re) 1 0, G, hW6, ⟨⟨rfl, mlg⟩, ⟨rfl, rfl, rfl⟩, mlt, ⟨rfl, mtr⟩, mtb, ⟨rfl, mw⟩, ⟨rfl, mo⟩, ⟨rfl, m43⟩, rfl, rfl, rfl⟩⟩)
    · -- on at 43
      refine j_aload_n hG dX12_read_46 rfl rfl ?_
      refine j_get (v := .int (iZ ((rd : Int)))) hG fX12_187 dX12_read_47 hW.1 rfl ?_
      refine j_aload_n hG dX12_read_50 rfl rfl ?_
      refine j_get (v := .int (iZ ((ln : Int)))) hG fX12_144 dX12_read_51 hW.1 rfl ?_
      refine j_icmp_ge (tgt := 81) hG dX12_read_54 (by decide) (by omega) (by omega) (fun c7 => ?_) (fun c7 => ?_)
      · -- taken at 54
        refine j_aload_n hG dX12_read_81 rfl rfl ?_
        refine j_iload_n hG dX12_read_82 rfl rfl ?_
        refine j_if_eq (tgt := 90) hG dX12_read_83 (by decide) (by omega) (fun c8 => ?_) (fun c8 => ?_)
        · -- taken at 83
          exfalso; omega
        · -- on at 83
          refine j_iconst hG dX12_read_86 ?_
          refine j_goto (tgt := 92) hG dX12_read_87 (by decide) ?_
          refine j_put hG pX12_123 dX12_read_92 hW.1 rfl rfl (Nat.le_of_ble_eq_true rfl) (fun f9 h10 fr11 => ?_)
          have hW12 : MF E rg f0 f9 m A (up (sV V (ln : Int) la (rd : Int) (mr : Int) (sz : Int) (W.length : Int) (O.length : Int) len (hB th) fa re) 1 0) G := MF_p1 hW h10 fr11
          refine j_iload_n hG dX12_read_95 rfl rfl ?_
          rw [show (min (n - dn) ((ln : Int) - (rd : Int))).toNat = 0 by omega] at hR9
          rw [rdL] at hR9
          subst hR9
          exact j_iret hG hZ dX12_read_96 (Nat.zero_le _) (Nat.zero_le _) (hP f9 ⟨A, up (sV V (ln : Int) la (rd : Int) (mr : Int) (sz : Int) (W.length : Int) (O.length : Int) len (hB th) fa re) 1 0, G, hW12, ⟨⟨rfl, mlg⟩, ⟨rfl, rfl, rfl⟩, mlt, ⟨rfl, mtr⟩, mtb, ⟨rfl, mw⟩, ⟨rfl, mo⟩, ⟨rfl, m43⟩, rfl, rfl, rfl⟩⟩)
      · -- on at 54
        refine j_iload_n hG dX12_read_57 rfl rfl ?_
        refine j_if_eq (tgt := 81) hG dX12_read_58 (by decide) (by omega) (fun c13 => ?_) (fun c13 => ?_)
        · -- taken at 58
          exfalso; omega
        · -- on at 58
          refine j_aload_n hG dX12_read_61 rfl rfl ?_
          refine j_callV (rest := []) hG vX12_205 dX12_read_62 (c_X12_readOne hM0 hS (by omega) (by omega)) hW.1 rfl rfl (by decide) (by decide) (Nat.le_of_ble_eq_true rfl) rfl rfl (Nat.zero_le _) (Nat.zero_le _) ?_
          rintro _ f20 ⟨z14, rfl, hq15⟩
          refine j_st (st' := [.int (iZ (z14))]) rfl ?_
          refine j_istore_n (lv' := [(0, .ref m), (1, .int (iZ (n))), (2, .int (iZ (dn))), (3, .int (iZ (z14)))]) hG dX12_read_65 rfl (by decide) rfl ?_
          refine j_iload_n hG dX12_read_66 rfl rfl ?_
          refine j_iload_n hG dX12_read_67 rfl rfl ?_
          refine j_if_eq (tgt := 75) hG dX12_read_68 (by decide) (by omega) (fun c21 => ?_) (fun c21 => ?_)
          · -- taken at 68
            obtain ⟨-, k18, hM19⟩ := hq15.resolve_left (fun h => absurd h.1 (by omega))
            refine j_iconst hG dX12_read_75 ?_
            refine j_iadd hG dX12_read_76 ?_
            refine j_istore_n (lv' := [(0, .ref m), (1, .int (iZ (n))), (2, .int (iZ (dn + 0))), (3, .int (iZ (z14)))]) hG dX12_read_77 rfl (by decide) rfl ?_
            refine j_goto (tgt := 41) hG dX12_read_78 (by decide) ?_
            rw [show z14 = 0 by omega]
            refine j_lv (lv' := [(0, .ref m), (1, .int (iZ (n))), (2, .int (iZ (dn + 0))), (3, .int (iZ (0)))]) (by simp) ?_
            rw [show dn + 0 = dn by omega]
            rw [show (min (n - dn) ((ln : Int) - (rd : Int))).toNat = (min (n - dn) ((ln : Int) - (rd : Int))).toNat - 1 + 1 by omega, rdL_no k18] at hR9
            subst hR9
            exact sg_X12_read hG hZ hM19 hS0 (by omega) (by omega) hP
          · -- on at 68
            obtain ⟨-, k16, hM17⟩ := hq15.resolve_right (fun h => absurd h.1 (by omega))
            refine j_iconst hG dX12_read_71 ?_
            refine j_goto (tgt := 76) hG dX12_read_72 (by decide) ?_
            refine j_iadd hG dX12_read_76 ?_
            refine j_istore_n (lv' := [(0, .ref m), (1, .int (iZ (n))), (2, .int (iZ (dn + 1))), (3, .int (iZ (z14)))]) hG dX12_read_77 rfl (by decide) rfl ?_
            refine j_goto (tgt := 41) hG dX12_read_78 (by decide) ?_
            rw [show z14 = 1 by omega]
            refine j_lv (lv' := [(0, .ref m), (1, .int (iZ (n))), (2, .int (iZ (dn + 1))), (3, .int (iZ (1)))]) (by simp) ?_
            refine ih (rd + 1) (W ++ chg (tab M (srcN ls lr la rd) (sz - 1)) (tab M (srcN ls lr la (rd + 1)) (sz - 1))) (dn + 1) f20 hM17 (rd_SOk hS0 (by omega) k16) (by omega) ?_ (by omega)
            rw [← hR9, show (min (n - dn) ((ln : Int) - (rd : Int))).toNat = (min (n - (dn + 1)) ((ln : Int) - ((rd + 1 : Nat) : Int))).toNat + 1 by omega, rdL_yes k16]
theorem c_X12_read {l : Launch} {E : JE} {f : Hp} {rg : Nat → Nat} {f0 : Hp} {m : Nat} {ls : Int → Int} {lr : Int → Int} {ln : Nat} {M : Int → Int → Int} {sz : Nat} {la : Int} {rd : Nat} {mr : Nat} {W : List Int} {O : List Int} {g : Int → Int} {len : Int} {th : Int → Int} {fa : Int} {re : Int} {n : Int} (hM : MR E rg f0 f m (ls, lr, ln, M, sz, la, rd, mr, W, O, g, len, th, fa, re)) (hS : SOk (ls, lr, ln, M, sz, la, rd, mr, W, O, g, len, th, fa, re)) (hn_ : -2147483648 ≤ n ∧ n < 2147483648)  : KX12_read l E [.ref m, .int (iZ (n))] f (fun v f' => v = some (.int (iZ (readF (ls, lr, ln, M, sz, la, rd, mr, W, O, g, len, th, fa, re) n).1)) ∧ MR E rg f0 f' m (readF (ls, lr, ln, M, sz, la, rd, mr, W, O, g, len, th, fa, re) n).2) := by
  refine ct_of (own := RX12) (lv := [(0, .ref m), (1, .int (iZ (n)))]) (by decide +kernel) rfl (Nat.le_of_ble_eq_true rfl) rfl ?_
  intro G9 hG hZ
  have hS0 := hS; obtain ⟨A, V, G, hW, ⟨⟨m2, mlg⟩, ⟨m8, m9, m10⟩, mlt, ⟨m11, mtr⟩, mtb, ⟨m26, mw⟩, ⟨m31, mo⟩, ⟨m44, m43⟩, m51, m49, m1⟩⟩ := hM
  obtain ⟨⟨hln, hlg⟩, ⟨hsz, hMo⟩, hla, hrd, hok1, hok2, hWO, hbg, hle, hth, hh1⟩ := hS
  have hW := sV_in hW m2 m8 m9 m10 m11 m26 m31 m44 m51 m49 m1
  refine j_aload_n hG dX12_read_0 rfl rfl ?_
  refine j_iconst hG dX12_read_1 ?_
  refine j_put hG pX12_120 dX12_read_2 hW.1 rfl rfl (Nat.le_of_ble_eq_true rfl) (fun f1 h2 fr3 => ?_)
  have hW4 : MF E rg f0 f1 m A (up (sV V (ln : Int) la (rd : Int) (mr : Int) (sz : Int) (W.length : Int) (O.length : Int) len (hB th) fa re) 0 0) G := MF_p0 hW h2 fr3
  refine j_iload_n hG dX12_read_5 rfl rfl ?_
  refine j_i2l hG dX12_read_6 (by omega) ?_
  refine j_lconst (y := 0) hG dX12_read_7 (by decide) ?_
  refine j_ldc2 (z := 150) hG dX12_read_8 kX12_203 (by decide) ?_
  refine j_callS (rest := []) hG vX12_128 dX12_read_11 (c_X12_in (a := n) (lo := 0) (hi := 150) (by omega) (by omega) (by omega)) rfl rfl (by decide) (by decide) (Nat.le_of_ble_eq_true rfl) rfl rfl (Nat.zero_le _) (Nat.zero_le _) ?_
  rintro _ _ ⟨⟨z5, rfl, hz6⟩, rfl⟩
  refine j_st (st' := [.int (iZ (z5))]) rfl ?_
  refine j_if_ne (tgt := 23) hG dX12_read_14 (by decide) (by omega) (fun c9 => ?_) (fun c9 => ?_)
  · -- taken at 14
    obtain ⟨-, e7⟩ := hz6.resolve_right (fun h => absurd h.1 (by omega))
    refine j_aload_n hG dX12_read_23 rfl rfl ?_
    refine j_get (v := .int (iZ ((sz : Int)))) hG fX12_173 dX12_read_24 hW4.1 rfl ?_
    refine j_if_ne (tgt := 37) hG dX12_read_27 (by decide) (by omega) (fun c10 => ?_) (fun c10 => ?_)
    · -- taken at 27
      refine j_iconst hG dX12_read_37 ?_
      refine j_istore_n (lv' := [(0, .ref m), (1, .int (iZ (n))), (2, .int (iZ (0)))]) hG dX12_read_38 rfl (by decide) rfl ?_
      refine j_iconst hG dX12_read_39 ?_
      refine j_istore_n (lv' := [(0, .ref m), (1, .int (iZ (n))), (2, .int (iZ (0))), (3, .int (iZ (1)))]) hG dX12_read_40 rfl (by decide) rfl ?_
      have eF : readF (ls, lr, ln, M, sz, la, rd, mr, W, O, g, len, th, fa, re) n = ((rdL ls lr M sz la (min n ((ln : Int) - (rd : Int))).toNat rd W 0).2.2.1, (ls, lr, ln, M, sz, la, (rdL ls lr M sz la (min n ((ln : Int) - (rd : Int))).toNat rd W 0).1, mr, (rdL ls lr M sz la (min n ((ln : Int) - (rd : Int))).toNat rd W 0).2.1, O, g, len, th, fa, (rdL ls lr M sz la (min n ((ln : Int) - (rd : Int))).toNat rd W 0).2.2.2)) := by
        unfold readF
        dsimp only
        rw [if_pos (by omega), if_neg (by omega)]
      have hM1 : MR E rg f0 f1 m (ls, lr, ln, M, sz, la, rd, mr, W, O, g, len, th, fa, re) := ⟨A, up (sV V (ln : Int) la (rd : Int) (mr : Int) (sz : Int) (W.length : Int) (O.length : Int) len (hB th) fa re) 0 0, G, hW4, ⟨⟨rfl, mlg⟩, ⟨rfl, rfl, rfl⟩, mlt, ⟨rfl, mtr⟩, mtb, ⟨rfl, mw⟩, ⟨rfl, mo⟩, ⟨rfl, m43⟩, rfl, rfl, rfl⟩⟩
      refine l_X12_read (R := (rdL ls lr M sz la (min n ((ln : Int) - (rd : Int))).toNat rd W 0)) hG hZ (by omega) (by omega) (fun f' a1 => ⟨by rw [eF], by rw [eF]; exact a1⟩) (n + 1).toNat rd W 0 f1 hM1 hS0 (by omega) ?_ (by omega)
      rw [Int.sub_zero]
    · -- on at 27
      refine j_aload_n hG dX12_read_30 rfl rfl ?_
      refine j_bipush hG dX12_read_31 (by decide) ?_
      refine j_callV (rest := []) hG vX12_140 dX12_read_33 (c_X12_toldN (z := -6) hW4 (by omega)) hW4.1 rfl rfl (by decide) (by decide) (Nat.le_of_ble_eq_true rfl) rfl rfl (Nat.zero_le _) (Nat.zero_le _) ?_
      rintro _ f12 ⟨rfl, hW11⟩
      refine j_st (st' := [.int (iZ (-6))]) rfl ?_
      have eF : readF (ls, lr, ln, M, sz, la, rd, mr, W, O, g, len, th, fa, re) n = (-6, (ls, lr, ln, M, sz, la, rd, mr, W, O, g, len, th, fa, -6)) := by
        unfold readF
        dsimp only
        rw [if_pos (by omega), if_pos (by omega)]
      exact j_iret hG hZ dX12_read_36 (Nat.zero_le _) (Nat.zero_le _) (⟨by rw [eF], by rw [eF]; exact ⟨A, up (up (sV V (ln : Int) la (rd : Int) (mr : Int) (sz : Int) (W.length : Int) (O.length : Int) len (hB th) fa re) 0 0) 1 (-6), G, hW11, ⟨⟨rfl, mlg⟩, ⟨rfl, rfl, rfl⟩, mlt, ⟨rfl, mtr⟩, mtb, ⟨rfl, mw⟩, ⟨rfl, mo⟩, ⟨rfl, m43⟩, rfl, rfl, rfl⟩⟩⟩)
  · -- on at 14
    obtain ⟨-, e8⟩ := hz6.resolve_left (fun h => absurd h.1 (by omega))
    refine j_aload_n hG dX12_read_17 rfl rfl ?_
    refine j_iconst hG dX12_read_18 ?_
    refine j_callV (rest := []) hG vX12_140 dX12_read_19 (c_X12_toldN (z := -1) hW4 (by omega)) hW4.1 rfl rfl (by decide) (by decide) (Nat.le_of_ble_eq_true rfl) rfl rfl (Nat.zero_le _) (Nat.zero_le _) ?_
    rintro _ f14 ⟨rfl, hW13⟩
    refine j_st (st' := [.int (iZ (-1))]) rfl ?_
    have eF : readF (ls, lr, ln, M, sz, la, rd, mr, W, O, g, len, th, fa, re) n = (-1, (ls, lr, ln, M, sz, la, rd, mr, W, O, g, len, th, fa, -1)) := by
      unfold readF
      dsimp only
      rw [if_neg (by omega)]
    exact j_iret hG hZ dX12_read_22 (Nat.zero_le _) (Nat.zero_le _) (⟨by rw [eF], by rw [eF]; exact ⟨A, up (up (sV V (ln : Int) la (rd : Int) (mr : Int) (sz : Int) (W.length : Int) (O.length : Int) len (hB th) fa re) 0 0) 1 (-1), G, hW13, ⟨⟨rfl, mlg⟩, ⟨rfl, rfl, rfl⟩, mlt, ⟨rfl, mtr⟩, mtb, ⟨rfl, mw⟩, ⟨rfl, mo⟩, ⟨rfl, m43⟩, rfl, rfl, rfl⟩⟩⟩)
