theorem l_X12_tables {G9 : JG} {l : Launch} {E : JE} {P : Option Value → Hp → Prop} (hG : jX G9 l E cX12_tables RX12 2 rmX12_tables) (hZ : jZ G9 (some .int) P) {rg : Nat → Nat} {f0 : Hp} {m : Nat} {A : Nat → Nat} {V0 : Nat → Int} {G0 : Nat → Int → Int} {ls : Int → Int} {lr : Int → Int} {ln : Nat} {M : Int → Int → Int} {sz : Nat} {la : Int} {rd : Nat} {mr : Nat} {W : List Int} {O : List Int} {g : Int → Int} {len : Int} {th : Int → Int} {fa : Int} {re : Int} {R : Int × Nat × (Int → Int → Int)} (hM0 : MS V0 G0 (ls, lr, ln, M, sz, la, rd, mr, W, O, g, len, th, fa, re)) (hS0 : SOk (ls, lr, ln, M, sz, la, rd, mr, W, O, g, len, th, fa, re)) (hRp : R.1 = (prsF g len).1 ∧ R.2.1 = (prsF g len).2.1 ∧ ∀ i : Nat, i < (prsF g len).2.1 → R.2.2 i = (prsF g len).2.2 i) (hP : ∀ f' : Hp, MR E rg f0 f' m (tablesF (ls, lr, ln, M, sz, la, rd, mr, W, O, g, len, th, fa, re)).2 → P (some (.int (iZ (tablesF (ls, lr, ln, M, sz, la, rd, mr, W, O, g, len, th, fa, re)).1))) f') :
    ∀ (d : Nat) (t : Nat) (S : T3) (V1 : Nat → Int) (G1 : Nat → Int → Int) (f1 : Hp), (hW : MF E rg f0 f1 m A V1 G1) → (ht : tk V1 g len S) → (h36 : V1 36 = (t : Int)) → (ht12 : t ≤ 12) → (hv : oV9 V0 V1) → (ho : oG9 G0 G1) → (hst : stT g len R t G1 S) → (2 * (13 - t) + (1 - S.2.1).toNat) < d → J G9 0 0 f1 54 [(0, .ref m)] [] := by
  intro d
  induction d with
  | zero => intro t S V1 G1 f1 hW ht h36 ht12 hv ho hst hd9; exfalso; omega
  | succ d ih =>
    intro t S V1 G1 f1 hW ht h36 ht12 hv ho hst hd9
    have hM9 := hM0
    obtain ⟨⟨m2, mlg⟩, ⟨m8, m9, m10⟩, mlt, ⟨m11, mtr⟩, mtb, ⟨m26, mw⟩, ⟨m31, mo⟩, ⟨m44, m43⟩, m51, m49, m1⟩ := hM9
    have hS9 := hS0
    obtain ⟨⟨hln, hlg⟩, ⟨hsz, hMo⟩, hla, hrd, hok1, hok2, hWO, hbg, hle, hth, hh1⟩ := hS9
    have k44 : V1 44 = len := (hv 44 (by decide) (by decide) (by decide) (by decide) (by decide) (by decide) (by decide) (by decide)).trans m44
    have k43 : G1 43 = g := (ho 43 (by omega)).trans m43
    have hb := ht.2.2.2.1
    have sr := so_rng (g := g) (len := len) (s := S.1)
    have hg := hbg
    refine j_aload_n hG dX12_tables_54 rfl rfl ?_
    refine j_get (v := .int (iZ (V1 50))) hG fX12_256 dX12_tables_55 hW.1 rfl ?_
    refine j_eq (show (V1 50 : Int) = (S.2.1 : Int) from ht.2.1) ?_
    refine j_if_ne (tgt := 81) hG dX12_tables_58 (by decide) (by omega) (fun c1_ => ?_) (fun c1_ => ?_)
    · -- taken at 58
      refine j_aload_n hG dX12_tables_81 rfl rfl ?_
      refine j_get (v := .int (iZ (V1 50))) hG fX12_256 dX12_tables_82 hW.1 rfl ?_
      refine j_eq (show (V1 50 : Int) = (S.2.1 : Int) from ht.2.1) ?_
      refine j_if_ne (tgt := 100) hG dX12_tables_85 (by decide) (by omega) (fun c2_ => ?_) (fun c2_ => ?_)
      · -- taken at 85
        obtain ⟨b1, b2, b3⟩ := hst.resolve_left (fun q => by have := q.1; omega)
        have eT : tablesF (ls, lr, ln, M, sz, la, rd, mr, W, O, g, len, th, fa, re) = (-6, (ls, lr, ln, M, sz, la, rd, mr, W, O, g, 0, th, (prsF g len).1, -6)) := by
          unfold tablesF
          dsimp only
          rw [if_neg (by rw [← hRp.1]; omega)]
        exact sg_X12_tables_bad hG hZ hM0 hS0 hv ho hW (p := (prsF g len).1) (by rw [← hRp.1]; rw [b2]; exact ht.2.2.1) (ht.2.1.trans b1) (fun f' a1 => by have q := hP f' (by rw [eT]; exact a1); rw [eT] at q; exact q)
      · -- on at 85
        exfalso; omega
    · -- on at 58
      refine j_aload_n hG dX12_tables_61 rfl rfl ?_
      refine j_bipush hG dX12_tables_62 (by decide) ?_
      refine j_callV (rest := []) hG vX12_266 dX12_tables_64 (c_X12_isSign (g := g) (len := len) (s := S.1) (c := 59) hW ht.1.2.2.1 ht.1.2.2.2 ht.2.2.2.2 hg (by omega)) hW.1 rfl rfl (by decide) (by decide) (Nat.le_of_ble_eq_true rfl) rfl rfl (Nat.zero_le _) (Nat.zero_le _) ?_
      rintro _ _ ⟨⟨z3_, rfl, hz4_⟩, rfl⟩
      refine j_st (st' := [.int (iZ (z3_))]) rfl ?_
      refine j_if_eq (tgt := 81) hG dX12_tables_67 (by decide) (by omega) (fun c7_ => ?_) (fun c7_ => ?_)
      · -- taken at 67
        obtain ⟨-, e6_⟩ := hz4_.resolve_left (fun h => absurd h.1 (by omega))
        refine j_aload_n hG dX12_tables_81 rfl rfl ?_
        refine j_get (v := .int (iZ (V1 50))) hG fX12_256 dX12_tables_82 hW.1 rfl ?_
        refine j_eq (show (V1 50 : Int) = (S.2.1 : Int) from ht.2.1) ?_
        refine j_if_ne (tgt := 100) hG dX12_tables_85 (by decide) (by omega) (fun c8_ => ?_) (fun c8_ => ?_)
        · -- taken at 85
          exfalso; omega
        · -- on at 85
          refine j_aload_n hG dX12_tables_88 rfl rfl ?_
          refine j_get (v := .int (iZ (V1 47))) hG fX12_245 dX12_tables_89 hW.1 rfl ?_
          refine j_eq (show (V1 47 : Int) = (soF g len S.1 : Int) from ht.1.2.2.1) ?_
          refine j_if_eq (tgt := 100) hG dX12_tables_92 (by decide) (by omega) (fun c9_ => ?_) (fun c9_ => ?_)
          · -- taken at 92
            obtain ⟨-, hfl, tl, M1_, h42, htr, hMA, hR⟩ := hst.resolve_right (fun q => by have := q.1; omega)
            have le9 : len ≤ S.1 := by
              apply Decidable.byContradiction
              intro q
              have q9 : soF g len S.1 = 0 := by omega
              unfold soF at q9
              rw [if_pos (by omega)] at q9
              split at q9
              · omega
              · split at q9 <;> omega
            have hR3 : R = (-1, t, M1_) := by rw [← hR]; unfold aft; rw [if_pos le9]
            have e1 : (prsF g len).1 = -1 := by rw [← hRp.1, hR3]
            have e2 : (prsF g len).2.1 = t := by rw [← hRp.2.1, hR3]
            have e3 : ∀ i : Nat, i < t → M1_ i = (prsF g len).2.2 i := fun i hi => by have q := hRp.2.2 i (by rw [e2]; exact hi); rw [hR3] at q; exact q
            have eT : tablesF (ls, lr, ln, M, sz, la, rd, mr, W, O, g, len, th, fa, re) = ((t : Int), (ls, lr, ln, (prsF g len).2.2, t, la, 0, 0, [], [], g, 0, th, -1, 0)) := by
              unfold tablesF
              dsimp only
              rw [if_pos e1, e2]
            have ok9 := prsF_ok (g := g) (len := len)
            rw [e2] at ok9
            exact sg_X12_tables_good hG hZ hM0 hS0 hv ho hW (n := t) (Mf := (prsF g len).2.2) h36 ht12 (ht.2.2.1.trans hfl) (ht.2.1.trans (by omega)) ok9.2 (fun i hi => by have q := hMA i hi; rw [e3 i hi] at q; exact q) (fun f' a1 => by have q := hP f' (by rw [eT]; exact a1); rw [eT] at q; exact q)
          · -- on at 92
            have h43 : G1 43 = g := k43
            have hl := hle
            have hg := hbg
            refine j_aload_n hG dX12_tables_95 rfl rfl ?_
            refine j_iconst hG dX12_tables_96 ?_
            refine j_callV (rest := []) hG vX12_262 dX12_tables_97 (c_X12_must (z := 0) (S := S) hW k44 h43 hl hg ht (by omega)) hW.1 rfl rfl (by decide) (by decide) (Nat.le_of_ble_eq_true rfl) rfl rfl (Nat.zero_le _) (Nat.zero_le _) ?_
            rintro _ f14_ ⟨rfl, V10_, hW11_, ht12_, ho13_⟩
            refine j_st (st' := []) rfl ?_
            have h4415_ : V10_ 44 = len := (ho13_ 44 (by decide) (by decide) (by decide) (by decide) (by decide) (by decide)).trans k44
            obtain ⟨-, hfl, tl, M1_, h42, htr, hMA, hR⟩ := hst.resolve_right (fun q => by have := q.1; omega)
            have e9 : mustF g len 0 S = (S.1, 1, S.1) := by unfold mustF; rw [if_neg (by omega), if_pos rfl]
            have tt := ht12_
            rw [e9] at tt
            have lt9 : ¬ len ≤ S.1 := fun q => by have := so_0 (g := g) q; omega
            have hR3 : R.1 = S.1 := by rw [← hR]; unfold aft; rw [if_neg lt9, if_pos e6_]
            have p9 := ht.2.2.2.2
            have eT : tablesF (ls, lr, ln, M, sz, la, rd, mr, W, O, g, len, th, fa, re) = (-6, (ls, lr, ln, M, sz, la, rd, mr, W, O, g, 0, th, (prsF g len).1, -6)) := by
              unfold tablesF
              dsimp only
              rw [if_neg (by rw [← hRp.1]; omega)]
            exact sg_X12_tables_bad hG hZ hM0 hS0 (fun i a b c d e f g h => by rw [ho13_ i c d e f g h]; exact hv i a b c d e f g h) ho hW11_ (p := (prsF g len).1) (by rw [← hRp.1]; rw [hR3]; exact tt.2.2.1) tt.2.1 (fun f' a1 => by have q := hP f' (by rw [eT]; exact a1); rw [eT] at q; exact q)
      · -- on at 67
        obtain ⟨-, e5_⟩ := hz4_.resolve_right (fun h => absurd h.1 (by omega))
        obtain ⟨-, hfl, tl, M1_, h42, htr, hMA, hR⟩ := hst.resolve_right (fun q => by have := q.1; omega)
        have lt9 : S.1 < len := by have q := (sign_iff ht.2.2.2.2 (by omega)).mpr e5_; exact (so_3m q.1).1
        have hR2 : prsL g len (12 - t) t tl M1_ (nx g len S.1) = R := by rw [← hR]; unfold aft; rw [if_neg (by omega), if_neg (by rw [e5_]; decide)]
        refine j_aload_n hG dX12_tables_70 rfl rfl ?_
        refine j_callV (rest := []) hG vX12_259 dX12_tables_71 (c_X12_next (g := g) (len := len) (p := tE g len S.1) hW k44 k43 hle hbg ht.1.2.1 (te_r ht.2.2.2.2)) hW.1 rfl rfl (by decide) (by decide) (Nat.le_of_ble_eq_true rfl) rfl rfl (Nat.zero_le _) (Nat.zero_le _) ?_
        rintro _ f20_ ⟨rfl, V16_, hW17_, ht18_, ho19_⟩
        refine j_st (st' := []) rfl ?_
        have r8 := nx_rng (g := g) ht.2.2.2.2
        have ht8 : tk V16_ g len (nx g len S.1, 0, -1) := ⟨ht18_, (ho19_ 50 (by decide) (by decide) (by decide) (by decide)).trans (ht.2.1.trans (by omega)), (ho19_ 49 (by decide) (by decide) (by decide) (by decide)).trans (ht.2.2.1.trans hfl), Or.inl rfl, r8⟩
        refine j_aload_n hG dX12_tables_74 rfl rfl ?_
        refine j_callV (rest := []) hG vX12_293 dX12_tables_75 (c_X12_readTable (g := g) (len := len) (tl := tl) (S := (nx g len S.1, 0, -1)) (t := t) hW17_ ((ho19_ 44 (by decide) (by decide) (by decide) (by decide)).trans k44) k43 hle hbg ht8 h42 htr ((ho19_ 36 (by decide) (by decide) (by decide) (by decide)).trans h36) (by omega)) hW17_.1 rfl rfl (by decide) (by decide) (Nat.le_of_ble_eq_true rfl) rfl rfl (Nat.zero_le _) (Nat.zero_le _) ?_
        rintro _ f29_ ⟨rfl, V21_, G22_, kd24_, hk25_, hW23_, ht26_, ho27_, hq28_⟩
        refine j_st (st' := []) rfl ?_
        refine j_goto (tgt := 54) hG dX12_tables_78 (by decide) ?_
        obtain ⟨t', u1, u2, u3, u4, u5⟩ := rt_use (V' := V21_) (by omega) r8 htr hMA hR2 hk25_ ht26_.2.2.2.1 hq28_
        exact ih t' _ V21_ G22_ f29_ hW23_ ht26_ u1 u2 (fun i a b c d e f g h => by rw [ho27_ i b c d e f g h, ho19_ i c d e f]; exact hv i a b c d e f g h) (fun i hi => by rw [u3 i hi]; exact ho i hi) u4 (by omega)
theorem l_X12_tables_n {G9 : JG} {l : Launch} {E : JE} {P : Option Value → Hp → Prop} (hG : jX G9 l E cX12_tables RX12 2 rmX12_tables) (hZ : jZ G9 (some .int) P) {rg : Nat → Nat} {f0 : Hp} {m : Nat} {A : Nat → Nat} {V : Nat → Int} {G : Nat → Int → Int} (hN : ∀ (f' : Hp) (G' : Nat → Int → Int), MF E rg f0 f' m A V G' → (∀ i, i ≠ 42 → G' i = G i) → (∀ j, 0 ≤ j → j < 26 → G' 42 j = -1) → J G9 0 0 f' 46 [(0, .ref m)] []) :
    ∀ (d : Nat) (k : Nat) (G1 : Nat → Int → Int) (f1 : Hp), (hW : MF E rg f0 f1 m A V G1) → (ho : ∀ i, i ≠ 42 → G1 i = G i) → (hk : k ≤ 26) → (hc : ∀ j, 0 ≤ j → j < (k : Int) → G1 42 j = -1) → (26 - k) < d → J G9 0 0 f1 27 [(0, .ref m), (1, .int (iZ ((k : Int))))] [] := by
  intro d
  induction d with
  | zero => intro k G1 f1 hW ho hk hc hd9; exfalso; omega
  | succ d ih =>
    intro k G1 f1 hW ho hk hc hd9
    refine j_iload_n hG dX12_tables_27 rfl rfl ?_
    refine j_bipush hG dX12_tables_28 (by decide) ?_
    refine j_icmp_ge (tgt := 46) hG dX12_tables_30 (by decide) (by omega) (by omega) (fun c1_ => ?_) (fun c1_ => ?_)
    · -- taken at 30
      refine j_lv (lv' := [(0, .ref m)]) (by simp) ?_
      exact hN f1 G1 hW ho (fun j j1 j2 => hc j j1 (by omega))
    · -- on at 30
      refine j_aload_n hG dX12_tables_33 rfl rfl ?_
      refine j_get (v := .ref (A 42)) hG fX12_108 dX12_tables_34 hW.1 rfl ?_
      refine j_iload_n hG dX12_tables_37 rfl rfl ?_
      refine j_iconst hG dX12_tables_38 ?_
      refine j_iast hG dX12_tables_39 (MF_a42 hW) (by omega) (by decide) (fun f2_ h3_ fr4_ => ?_)
      have hW5_ : MF E rg f0 f2_ m A V (up G1 42 (fup (G1 42) (k : Int) (-1))) := MF_a hW 42 rfl h3_ fr4_
      refine j_iinc (a := (k : Int)) (lv' := [(0, .ref m), (1, .int (iZ ((k : Int) + 1)))]) hG dX12_tables_40 rfl (by decide) rfl ?_
      refine j_goto (tgt := 27) hG dX12_tables_43 (by decide) ?_
      refine j_lv (lv' := [(0, .ref m), (1, .int (iZ (((k + 1 : Nat) : Int))))]) (by simp) ?_
      refine ih (k + 1) _ f2_ hW5_ (fun i hi => by rw [up_n _ _ hi]; exact ho i hi) (by omega) (fun j j1 j2 => ?_) (by omega)
      show fup (G1 42) (k : Int) (-1) j = -1
      by_cases e : j = (k : Int)
      · rw [e, fup_s]
      · rw [fup_n _ _ e]; exact hc j j1 (by omega)
theorem c_X12_tables {l : Launch} {E : JE} {f : Hp} {rg : Nat → Nat} {f0 : Hp} {m : Nat} {ls : Int → Int} {lr : Int → Int} {ln : Nat} {M : Int → Int → Int} {sz : Nat} {la : Int} {rd : Nat} {mr : Nat} {W : List Int} {O : List Int} {g : Int → Int} {len : Int} {th : Int → Int} {fa : Int} {re : Int}  (hM : MR E rg f0 f m (ls, lr, ln, M, sz, la, rd, mr, W, O, g, len, th, fa, re)) (hS : SOk (ls, lr, ln, M, sz, la, rd, mr, W, O, g, len, th, fa, re))   : KX12_tables l E [.ref m] f (fun v f' => v = some (.int (iZ (tablesF (ls, lr, ln, M, sz, la, rd, mr, W, O, g, len, th, fa, re)).1)) ∧ MR E rg f0 f' m (tablesF (ls, lr, ln, M, sz, la, rd, mr, W, O, g, len, th, fa, re)).2) := by
  refine ct_of (own := RX12) (lv := [(0, .ref m)]) (by decide +kernel) rfl (Nat.le_of_ble_eq_true rfl) rfl ?_
  intro G9 hG hZ
  have hS0 := hS; obtain ⟨A, V, G, hW, ⟨⟨m2, mlg⟩, ⟨m8, m9, m10⟩, mlt, ⟨m11, mtr⟩, mtb, ⟨m26, mw⟩, ⟨m31, mo⟩, ⟨m44, m43⟩, m51, m49, m1⟩⟩ := hM
  obtain ⟨⟨hln, hlg⟩, ⟨hsz, hMo⟩, hla, hrd, hok1, hok2, hWO, hbg, hle, hth, hh1⟩ := hS
  have hW := sV_in hW m2 m8 m9 m10 m11 m26 m31 m44 m51 m49 m1
  refine j_aload_n hG dX12_tables_0 rfl rfl ?_
  refine j_iconst hG dX12_tables_1 ?_
  refine j_put hG pX12_120 dX12_tables_2 hW.1 rfl rfl (Nat.le_of_ble_eq_true rfl) (fun f1_ h2_ fr3_ => ?_)
  have hW4_ : MF E rg f0 f1_ m A (up (sV V (ln : Int) la (rd : Int) (mr : Int) (sz : Int) (W.length : Int) (O.length : Int) len (hB th) fa re) 0 0) G := MF_p0 hW h2_ fr3_
  refine j_aload_n hG dX12_tables_5 rfl rfl ?_
  refine j_iconst hG dX12_tables_6 ?_
  refine j_put hG pX12_229 dX12_tables_7 hW4_.1 rfl rfl (Nat.le_of_ble_eq_true rfl) (fun f5_ h6_ fr7_ => ?_)
  have hW8_ : MF E rg f0 f5_ m A (up (up (sV V (ln : Int) la (rd : Int) (mr : Int) (sz : Int) (W.length : Int) (O.length : Int) len (hB th) fa re) 0 0) 46 0) G := MF_p46 hW4_ h6_ fr7_
  refine j_aload_n hG dX12_tables_10 rfl rfl ?_
  refine j_iconst hG dX12_tables_11 ?_
  refine j_put hG pX12_256 dX12_tables_12 hW8_.1 (nar_zr (Or.inl rfl)) (fit_z (Or.inl rfl)) (Nat.le_of_ble_eq_true rfl) (fun f9_ h10_ fr11_ => ?_)
  have hW12_ : MF E rg f0 f9_ m A (up (up (up (sV V (ln : Int) la (rd : Int) (mr : Int) (sz : Int) (W.length : Int) (O.length : Int) len (hB th) fa re) 0 0) 46 0) 50 0) G := MF_p50 hW8_ h10_ fr11_
  refine j_aload_n hG dX12_tables_15 rfl rfl ?_
  refine j_iconst hG dX12_tables_16 ?_
  refine j_put hG pX12_114 dX12_tables_17 hW12_.1 rfl rfl (Nat.le_of_ble_eq_true rfl) (fun f13_ h14_ fr15_ => ?_)
  have hW16_ : MF E rg f0 f13_ m A (up (up (up (up (sV V (ln : Int) la (rd : Int) (mr : Int) (sz : Int) (W.length : Int) (O.length : Int) len (hB th) fa re) 0 0) 46 0) 50 0) 49 (-1)) G := MF_p49 hW12_ h14_ fr15_
  refine j_aload_n hG dX12_tables_20 rfl rfl ?_
  refine j_iconst hG dX12_tables_21 ?_
  refine j_put hG pX12_280 dX12_tables_22 hW16_.1 rfl rfl (Nat.le_of_ble_eq_true rfl) (fun f17_ h18_ fr19_ => ?_)
  have hW20_ : MF E rg f0 f17_ m A (up (up (up (up (up (sV V (ln : Int) la (rd : Int) (mr : Int) (sz : Int) (W.length : Int) (O.length : Int) len (hB th) fa re) 0 0) 46 0) 50 0) 49 (-1)) 36 0) G := MF_p36 hW16_ h18_ fr19_
  refine j_iconst hG dX12_tables_25 ?_
  refine j_istore_n (lv' := [(0, .ref m), (1, .int (iZ (0)))]) hG dX12_tables_26 rfl (by decide) rfl ?_
  refine l_X12_tables_n (V := up (up (up (up (up (sV V (ln : Int) la (rd : Int) (mr : Int) (sz : Int) (W.length : Int) (O.length : Int) len (hB th) fa re) 0 0) 46 0) 50 0) 49 (-1)) 36 0) hG hZ (fun f2 G2 w2 o2 c2 => ?_) 27 0 _ f17_ hW20_ (fun _ _ => rfl) (by omega) (fun j j1 j2 => by omega) (by omega)
  refine j_aload_n hG dX12_tables_46 rfl rfl ?_
  refine j_callV (rest := []) hG vX12_259 dX12_tables_47 (c_X12_next (g := g) (len := len) (p := 0) w2 rfl ((o2 43 (by decide)).trans m43) hle hbg rfl ⟨Int.le_refl 0, hle.1⟩) w2.1 rfl rfl (by decide) (by decide) (Nat.le_of_ble_eq_true rfl) rfl rfl (Nat.zero_le _) (Nat.zero_le _) ?_
  rintro _ f25_ ⟨rfl, V21_, hW22_, ht23_, ho24_⟩
  refine j_st (st' := []) rfl ?_
  have htr2 : ∀ j, 0 ≤ j → j < 26 → -1 ≤ G2 42 j ∧ G2 42 j < 12 := fun j j1 j2 => by rw [c2 j j1 j2]; omega
  have s9 := tS_rng (g := g) (len := len) (p := 0) ⟨Int.le_refl 0, hle.1⟩
  have ht8 : tk V21_ g len (tS g len 0, 0, -1) := ⟨ht23_, ho24_ 50 (by decide) (by decide) (by decide) (by decide), ho24_ 49 (by decide) (by decide) (by decide) (by decide), Or.inl rfl, by show 0 ≤ tS g len 0; omega, by show tS g len 0 ≤ len; omega⟩
  refine j_aload_n hG dX12_tables_50 rfl rfl ?_
  refine j_callV (rest := []) hG vX12_293 dX12_tables_51 (c_X12_readTable (g := g) (len := len) (tl := (G2 42)) (S := (tS g len 0, 0, -1)) (t := 0) hW22_ (ho24_ 44 (by decide) (by decide) (by decide) (by decide)) ((o2 43 (by decide)).trans m43) hle hbg ht8 rfl htr2 (ho24_ 36 (by decide) (by decide) (by decide) (by decide)) (by omega)) hW22_.1 rfl rfl (by decide) (by decide) (Nat.le_of_ble_eq_true rfl) rfl rfl (Nat.zero_le _) (Nat.zero_le _) ?_
  rintro _ f34_ ⟨rfl, V26_, G27_, kd29_, hk30_, hW28_, ht31_, ho32_, hq33_⟩
  refine j_st (st' := []) rfl ?_
  have hM1 : MS (sV V (ln : Int) la (rd : Int) (mr : Int) (sz : Int) (W.length : Int) (O.length : Int) len (hB th) fa re) G (ls, lr, ln, M, sz, la, rd, mr, W, O, g, len, th, fa, re) := ⟨⟨rfl, mlg⟩, ⟨rfl, rfl, rfl⟩, mlt, ⟨rfl, mtr⟩, mtb, ⟨rfl, mw⟩, ⟨rfl, mo⟩, ⟨rfl, m43⟩, rfl, rfl, rfl⟩
  obtain ⟨t', u1, u2, u3, u4, u5⟩ := rt_use (V' := V26_) (M := fun _ _ => 0) (R := prsL g len 12 0 (G2 42) (fun _ _ => 0) (tS g len 0)) (by omega) (by omega) htr2 (fun i hi => absurd hi (Nat.not_lt_zero i)) rfl hk30_ ht31_.2.2.2.1 hq33_
  have hRp := prsL_eq (g := g) (len := len) 12 0 (G2 42) (fun _ => -1) (fun _ _ => 0) (fun _ _ => 0) (tS g len 0) c2 (fun i hi => rfl)
  exact l_X12_tables hG hZ hM1 hS0 hRp (fun f' a1 => ⟨rfl, a1⟩) (2 * 13 + 2) t' _ V26_ G27_ f34_ hW28_ ht31_ u1 u2 (fun i a b c d e f g h => by rw [ho32_ i b c d e f g h, ho24_ i c d e f, up_n _ _ b, up_n _ _ g, up_n _ _ h, up_n _ _ d, up_n _ _ a]) (fun i hi => by rw [u3 i hi]; exact o2 i (by omega)) u4 (by omega)
