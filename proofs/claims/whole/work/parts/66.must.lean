abbrev T3 : Type := Int × Int × Int
def tk (V : Nat → Int) (g : Int → Int) (len : Int) (S : T3) : Prop := tok V g len S.1 ∧ V 50 = S.2.1 ∧ V 49 = S.2.2 ∧ (S.2.1 = 0 ∨ S.2.1 = 1) ∧ 0 ≤ S.1 ∧ S.1 ≤ len
def othM (V V' : Nat → Int) : Prop := ∀ i, i ≠ 45 → i ≠ 46 → i ≠ 47 → i ≠ 48 → i ≠ 49 → i ≠ 50 → V' i = V i
theorem othM_tr {V V1 V2 : Nat → Int} (h : othM V V1) (k : othM V1 V2) : othM V V2 := fun i a b c d e f => (k i a b c d e f).trans (h i a b c d e f)
def mustF (g : Int → Int) (len z : Int) (S : T3) : T3 := if S.2.1 ≠ 0 then S else if z = 0 then (S.1, 1, S.1) else (nx g len S.1, 0, S.2.2)
def sgS (g : Int → Int) (len : Int) (S : T3) : T3 := if S.2.1 = 0 ∧ sgn g len S.1 45 = true then (nx g len S.1, S.2.1, S.2.2) else S
def sgV (g : Int → Int) (len : Int) (S : T3) : Int := if S.2.1 = 0 ∧ sgn g len S.1 45 = true then -woF g len (sgS g len S).1 else woF g len (sgS g len S).1
theorem letr_1 {g : Int → Int} {len s : Int} (h : soF g len s = 1) (k : tE g len s - s = 1) : letr g len s = g s - 97 ∧ 97 ≤ g s ∧ g s ≤ 122 := by
  have m := so_1m h
  unfold letr
  rw [if_pos ⟨k, m.1, m.2⟩]
  exact ⟨rfl, isL_iff.mp m.2⟩
theorem letr_0 {g : Int → Int} {len s : Int} (h : ¬ (soF g len s = 1 ∧ tE g len s - s = 1)) : letr g len s = -1 := by
  unfold letr
  rw [if_neg (fun q => h ⟨so_1 q.2.1 q.2.2, q.1⟩)]
theorem te_r {g : Int → Int} {len s : Int} (h : 0 ≤ s ∧ s ≤ len) : 0 ≤ tE g len s ∧ tE g len s ≤ len := by have := tE_rng (g := g) h; omega
theorem c_X12_must {l : Launch} {E : JE} {f : Hp} {rg : Nat → Nat} {f0 : Hp} {m : Nat} {A : Nat → Nat} {V : Nat → Int} {G : Nat → Int → Int} {g : Int → Int} {len z : Int} {S : T3} (hW : MF E rg f0 f m A V G) (h44 : V 44 = len) (h43 : G 43 = g) (hl : 0 ≤ len ∧ len ≤ 300) (hg : bOk g) (ht : tk V g len S) (hz : z = 0 ∨ z = 1) : KX12_must l E [.ref m, .int (iZ (z))] f (fun v f' => v = none ∧ ∃ V' : Nat → Int, MF E rg f0 f' m A V' G ∧ tk V' g len (mustF g len z S) ∧ othM V V') := by
  refine ct_of (own := RX12) (lv := [(0, .ref m), (1, .int (iZ (z)))]) (by decide +kernel) rfl (Nat.le_of_ble_eq_true rfl) rfl ?_
  intro G9 hG hZ
  have hb := ht.2.2.2.1
  refine j_aload_n hG dX12_must_0 rfl rfl ?_
  refine j_get (v := .int (iZ (V 50))) hG fX12_256 dX12_must_1 hW.1 rfl ?_
  refine j_eq (show (V 50 : Int) = (S.2.1 : Int) from ht.2.1) ?_
  refine j_if_ne (tgt := 24) hG dX12_must_4 (by decide) (by omega) (fun c1_ => ?_) (fun c1_ => ?_)
  · -- taken at 4
    refine j_aload_n hG dX12_must_24 rfl rfl ?_
    refine j_get (v := .int (iZ (V 50))) hG fX12_256 dX12_must_25 hW.1 rfl ?_
    refine j_eq (show (V 50 : Int) = (S.2.1 : Int) from ht.2.1) ?_
    refine j_if_ne (tgt := 35) hG dX12_must_28 (by decide) (by omega) (fun c2_ => ?_) (fun c2_ => ?_)
    · -- taken at 28
      have e9 : mustF g len z S = S := by unfold mustF; rw [if_pos (by omega)]
      exact j_vret hG hZ dX12_must_35 (Nat.zero_le _) (Nat.zero_le _) (⟨rfl, V, hW, by rw [e9]; exact ht, fun _ _ _ _ _ _ _ => rfl⟩)
    · -- on at 28
      refine j_aload_n hG dX12_must_31 rfl rfl ?_
      refine j_callV (rest := []) hG vX12_259 dX12_must_32 (c_X12_next (g := g) (len := len) (p := tE g len S.1) hW h44 h43 hl hg ht.1.2.1 (te_r ht.2.2.2.2)) hW.1 rfl rfl (by decide) (by decide) (Nat.le_of_ble_eq_true rfl) rfl rfl (Nat.zero_le _) (Nat.zero_le _) ?_
      rintro _ f7_ ⟨rfl, V3_, hW4_, ht5_, ho6_⟩
      refine j_st (st' := []) rfl ?_
      have e9 : mustF g len z S = (nx g len S.1, 0, S.2.2) := by unfold mustF; rw [if_neg (by omega), if_neg (by omega)]
      have r9 := nx_rng (g := g) ht.2.2.2.2
      exact j_vret hG hZ dX12_must_35 (Nat.zero_le _) (Nat.zero_le _) (⟨rfl, V3_, hW4_, by rw [e9]; exact ⟨ht5_, (ho6_ 50 (by decide) (by decide) (by decide) (by decide)).trans (ht.2.1.trans (by omega)), (ho6_ 49 (by decide) (by decide) (by decide) (by decide)).trans ht.2.2.1, Or.inl rfl, r9⟩, fun i a b c d e f => ho6_ i a b c d⟩)
  · -- on at 4
    refine j_iload_n hG dX12_must_7 rfl rfl ?_
    refine j_if_ne (tgt := 24) hG dX12_must_8 (by decide) (by omega) (fun c8_ => ?_) (fun c8_ => ?_)
    · -- taken at 8
      refine j_aload_n hG dX12_must_24 rfl rfl ?_
      refine j_get (v := .int (iZ (V 50))) hG fX12_256 dX12_must_25 hW.1 rfl ?_
      refine j_eq (show (V 50 : Int) = (S.2.1 : Int) from ht.2.1) ?_
      refine j_if_ne (tgt := 35) hG dX12_must_28 (by decide) (by omega) (fun c9_ => ?_) (fun c9_ => ?_)
      · -- taken at 28
        have e9 : mustF g len z S = S := by unfold mustF; rw [if_pos (by omega)]
        exact j_vret hG hZ dX12_must_35 (Nat.zero_le _) (Nat.zero_le _) (⟨rfl, V, hW, by rw [e9]; exact ht, fun _ _ _ _ _ _ _ => rfl⟩)
      · -- on at 28
        refine j_aload_n hG dX12_must_31 rfl rfl ?_
        refine j_callV (rest := []) hG vX12_259 dX12_must_32 (c_X12_next (g := g) (len := len) (p := tE g len S.1) hW h44 h43 hl hg ht.1.2.1 (te_r ht.2.2.2.2)) hW.1 rfl rfl (by decide) (by decide) (Nat.le_of_ble_eq_true rfl) rfl rfl (Nat.zero_le _) (Nat.zero_le _) ?_
        rintro _ f14_ ⟨rfl, V10_, hW11_, ht12_, ho13_⟩
        refine j_st (st' := []) rfl ?_
        have e9 : mustF g len z S = (nx g len S.1, 0, S.2.2) := by unfold mustF; rw [if_neg (by omega), if_neg (by omega)]
        have r9 := nx_rng (g := g) ht.2.2.2.2
        exact j_vret hG hZ dX12_must_35 (Nat.zero_le _) (Nat.zero_le _) (⟨rfl, V10_, hW11_, by rw [e9]; exact ⟨ht12_, (ho13_ 50 (by decide) (by decide) (by decide) (by decide)).trans (ht.2.1.trans (by omega)), (ho13_ 49 (by decide) (by decide) (by decide) (by decide)).trans ht.2.2.1, Or.inl rfl, r9⟩, fun i a b c d e f => ho13_ i a b c d⟩)
    · -- on at 8
      refine j_aload_n hG dX12_must_11 rfl rfl ?_
      refine j_iconst hG dX12_must_12 ?_
      refine j_put hG pX12_256 dX12_must_13 hW.1 (nar_zr (Or.inr rfl)) (fit_z (Or.inr rfl)) (Nat.le_of_ble_eq_true rfl) (fun f15_ h16_ fr17_ => ?_)
      have hW18_ : MF E rg f0 f15_ m A (up V 50 1) G := MF_p50 hW h16_ fr17_
      refine j_aload_n hG dX12_must_16 rfl rfl ?_
      refine j_aload_n hG dX12_must_17 rfl rfl ?_
      refine j_get (v := .int (iZ (V 45))) hG fX12_232 dX12_must_18 hW18_.1 rfl ?_
      refine j_eq (show (V 45 : Int) = (S.1 : Int) from ht.1.1) ?_
      refine j_put hG pX12_114 dX12_must_21 hW18_.1 rfl rfl (Nat.le_of_ble_eq_true rfl) (fun f19_ h20_ fr21_ => ?_)
      have hW22_ : MF E rg f0 f19_ m A (up (up V 50 1) 49 S.1) G := MF_p49 hW18_ h20_ fr21_
      refine j_aload_n hG dX12_must_24 rfl rfl ?_
      refine j_get (v := .int (iZ (1))) hG fX12_256 dX12_must_25 hW22_.1 rfl ?_
      refine j_eq (show (1 : Int) = (1 : Int) from rfl) ?_
      refine j_if_ne (tgt := 35) hG dX12_must_28 (by decide) (by omega) (fun c23_ => ?_) (fun c23_ => ?_)
      · -- taken at 28
        have e9 : mustF g len z S = (S.1, 1, S.1) := by unfold mustF; rw [if_neg (by omega), if_pos (by omega)]
        exact j_vret hG hZ dX12_must_35 (Nat.zero_le _) (Nat.zero_le _) (⟨rfl, _, hW22_, by rw [e9]; exact ⟨ht.1, rfl, rfl, Or.inr rfl, ht.2.2.2.2⟩, fun i a b c d e f => by rw [up_n _ _ e, up_n _ _ f]⟩)
      · -- on at 28
        exfalso; omega
theorem c_X12_isSign {l : Launch} {E : JE} {f : Hp} {rg : Nat → Nat} {f0 : Hp} {m : Nat} {A : Nat → Nat} {V : Nat → Int} {G : Nat → Int → Int} {g : Int → Int} {len s c : Int} (hW : MF E rg f0 f m A V G) (h47 : V 47 = soF g len s) (h48 : V 48 = woF g len s) (hs : 0 ≤ s ∧ s ≤ len) (hg : bOk g) (hc : (0 ≤ c ∧ c < 256) ∧ ¬ (97 ≤ c ∧ c ≤ 122) ∧ ¬ (48 ≤ c ∧ c ≤ 57)) : KX12_isSign l E [.ref m, .int (iZ (c))] f (fun v f' => (∃ z : Int, v = some (.int (iZ z)) ∧ ((z = 1 ∧ sgn g len s c = true) ∨ (z = 0 ∧ sgn g len s c = false))) ∧ f = f') := by
  refine ct_of (own := RX12) (lv := [(0, .ref m), (1, .int (iZ (c)))]) (by decide +kernel) rfl (Nat.le_of_ble_eq_true rfl) rfl ?_
  intro G9 hG hZ
  have wr := wo_rng hg hs
  have sr := so_rng (g := g) (len := len) (s := s)
  refine j_aload_n hG dX12_isSign_0 rfl rfl ?_
  refine j_get (v := .int (iZ (V 47))) hG fX12_245 dX12_isSign_1 hW.1 rfl ?_
  refine j_eq (show (V 47 : Int) = (soF g len s : Int) from h47) ?_
  refine j_iconst hG dX12_isSign_4 ?_
  refine j_icmp_ne (tgt := 22) hG dX12_isSign_5 (by decide) (by omega) (by omega) (fun c1_ => ?_) (fun c1_ => ?_)
  · -- taken at 5
    refine j_iconst hG dX12_isSign_22 ?_
    exact j_zret hG hZ dX12_isSign_23 (Nat.zero_le _) (Nat.zero_le _) (nar_zr (by omega)) (⟨⟨0, rfl, Or.inr ⟨rfl, Bool.eq_false_iff.mpr (fun q => by have q := (sign_iff hs hc.2).mpr q; omega)⟩⟩, rfl⟩)
  · -- on at 5
    refine j_aload_n hG dX12_isSign_8 rfl rfl ?_
    refine j_get (v := .long (lZ (V 48))) hG fX12_235 dX12_isSign_9 hW.1 rfl ?_
    refine j_eqL (show (V 48 : Int) = (woF g len s : Int) from h48) ?_
    refine j_iload_n hG dX12_isSign_12 rfl rfl ?_
    refine j_i2l hG dX12_isSign_13 (by omega) ?_
    refine j_lcmp hG dX12_isSign_14 (by omega) (by omega) ?_
    refine j_if_ne (tgt := 22) hG dX12_isSign_15 (by decide) (by have h9 := cI_rng (woF g len s) c; omega) (fun c2_ => ?_) (fun c2_ => ?_)
    · -- taken at 15
      have c2_ : ¬ _ := fun h9 => c2_ (cI_eq.mpr h9)
      refine j_iconst hG dX12_isSign_22 ?_
      exact j_zret hG hZ dX12_isSign_23 (Nat.zero_le _) (Nat.zero_le _) (nar_zr (by omega)) (⟨⟨0, rfl, Or.inr ⟨rfl, Bool.eq_false_iff.mpr (fun q => by have q := (sign_iff hs hc.2).mpr q; omega)⟩⟩, rfl⟩)
    · -- on at 15
      have c2_ := cI_eq.mp c2_
      refine j_iconst hG dX12_isSign_18 ?_
      refine j_goto (tgt := 23) hG dX12_isSign_19 (by decide) ?_
      exact j_zret hG hZ dX12_isSign_23 (Nat.zero_le _) (Nat.zero_le _) (nar_zr (by omega)) (⟨⟨1, rfl, Or.inl ⟨rfl, (sign_iff hs hc.2).mp ⟨by omega, by omega⟩⟩⟩, rfl⟩)
theorem c_X12_isWord_0 {l : Launch} {E : JE} {f : Hp} {rg : Nat → Nat} {f0 : Hp} {m : Nat} {A : Nat → Nat} {V : Nat → Int} {G : Nat → Int → Int} {g : Int → Int} {len s : Int} (hW : MF E rg f0 f m A V G) (h47 : V 47 = soF g len s) (h48 : V 48 = woF g len s) (hs : 0 ≤ s ∧ s ≤ len) (hg : bOk g) : KX12_isWord l E [.ref m, .int (iZ (115)), .int (iZ (111)), .int (iZ (117)), .int (iZ (114)), .int (iZ (99)), .int (iZ (101))] f (fun v f' => (∃ z : Int, v = some (.int (iZ z)) ∧ ((z = 1 ∧ wrdB g len s 0 = true) ∨ (z = 0 ∧ wrdB g len s 0 = false))) ∧ f = f') := by
  refine ct_of (own := RX12) (lv := [(0, .ref m), (1, .int (iZ (115))), (2, .int (iZ (111))), (3, .int (iZ (117))), (4, .int (iZ (114))), (5, .int (iZ (99))), (6, .int (iZ (101)))]) (by decide +kernel) rfl (Nat.le_of_ble_eq_true rfl) rfl ?_
  intro G9 hG hZ
  have wr := wo_rng hg hs
  have sr := so_rng (g := g) (len := len) (s := s)
  refine j_iload_n hG dX12_isWord_0 rfl rfl ?_
  refine j_i2l hG dX12_isWord_1 (by omega) ?_
  refine j_ldc2 (z := 96) hG dX12_isWord_2 kX12_250 (by decide) ?_
  refine j_lsub hG dX12_isWord_5 ?_
  refine j_ldc2 (z := 32) hG dX12_isWord_6 kX12_248 (by decide) ?_
  refine j_lmul hG dX12_isWord_9 ?_
  refine j_iload_n hG dX12_isWord_10 rfl rfl ?_
  refine j_i2l hG dX12_isWord_11 (by omega) ?_
  refine j_ladd hG dX12_isWord_12 ?_
  refine j_ldc2 (z := 96) hG dX12_isWord_13 kX12_250 (by decide) ?_
  refine j_lsub hG dX12_isWord_16 ?_
  refine j_lstore (lv' := [(0, .ref m), (1, .int (iZ (115))), (2, .int (iZ (111))), (3, .int (iZ (117))), (4, .int (iZ (114))), (5, .int (iZ (99))), (6, .int (iZ (101))), (7, .long (lZ ((((115 - 96) * 32) + 111) - 96)))]) hG dX12_isWord_17 (by decide) rfl ?_
  refine j_iload_n hG dX12_isWord_19 rfl rfl ?_
  refine j_if_ne (tgt := 28) hG dX12_isWord_20 (by decide) (by omega) (fun c1_ => ?_) (fun c1_ => ?_)
  · -- taken at 20
    refine j_lload hG dX12_isWord_28 rfl ?_
    refine j_ldc2 (z := 32) hG dX12_isWord_30 kX12_248 (by decide) ?_
    refine j_lmul hG dX12_isWord_33 ?_
    refine j_iload_n hG dX12_isWord_34 rfl rfl ?_
    refine j_i2l hG dX12_isWord_35 (by omega) ?_
    refine j_ladd hG dX12_isWord_36 ?_
    refine j_ldc2 (z := 96) hG dX12_isWord_37 kX12_250 (by decide) ?_
    refine j_lsub hG dX12_isWord_40 ?_
    refine j_lstore (lv' := [(0, .ref m), (1, .int (iZ (115))), (2, .int (iZ (111))), (3, .int (iZ (117))), (4, .int (iZ (114))), (5, .int (iZ (99))), (6, .int (iZ (101))), (7, .long (lZ (((((((115 - 96) * 32) + 111) - 96) * 32) + 117) - 96)))]) hG dX12_isWord_41 (by decide) rfl ?_
    refine j_iload hG dX12_isWord_43 rfl ?_
    refine j_if_ne (tgt := 53) hG dX12_isWord_45 (by decide) (by omega) (fun c2_ => ?_) (fun c2_ => ?_)
    · -- taken at 45
      refine j_lload hG dX12_isWord_53 rfl ?_
      refine j_ldc2 (z := 32) hG dX12_isWord_55 kX12_248 (by decide) ?_
      refine j_lmul hG dX12_isWord_58 ?_
      refine j_iload hG dX12_isWord_59 rfl ?_
      refine j_i2l hG dX12_isWord_61 (by omega) ?_
      refine j_ladd hG dX12_isWord_62 ?_
      refine j_ldc2 (z := 96) hG dX12_isWord_63 kX12_250 (by decide) ?_
      refine j_lsub hG dX12_isWord_66 ?_
      refine j_lstore (lv' := [(0, .ref m), (1, .int (iZ (115))), (2, .int (iZ (111))), (3, .int (iZ (117))), (4, .int (iZ (114))), (5, .int (iZ (99))), (6, .int (iZ (101))), (7, .long (lZ ((((((((((115 - 96) * 32) + 111) - 96) * 32) + 117) - 96) * 32) + 114) - 96)))]) hG dX12_isWord_67 (by decide) rfl ?_
      refine j_iload hG dX12_isWord_69 rfl ?_
      refine j_if_ne (tgt := 79) hG dX12_isWord_71 (by decide) (by omega) (fun c3_ => ?_) (fun c3_ => ?_)
      · -- taken at 71
        refine j_lload hG dX12_isWord_79 rfl ?_
        refine j_ldc2 (z := 32) hG dX12_isWord_81 kX12_248 (by decide) ?_
        refine j_lmul hG dX12_isWord_84 ?_
        refine j_iload hG dX12_isWord_85 rfl ?_
        refine j_i2l hG dX12_isWord_87 (by omega) ?_
        refine j_ladd hG dX12_isWord_88 ?_
        refine j_ldc2 (z := 96) hG dX12_isWord_89 kX12_250 (by decide) ?_
        refine j_lsub hG dX12_isWord_92 ?_
        refine j_lstore (lv' := [(0, .ref m), (1, .int (iZ (115))), (2, .int (iZ (111))), (3, .int (iZ (117))), (4, .int (iZ (114))), (5, .int (iZ (99))), (6, .int (iZ (101))), (7, .long (lZ (((((((((((((115 - 96) * 32) + 111) - 96) * 32) + 117) - 96) * 32) + 114) - 96) * 32) + 99) - 96)))]) hG dX12_isWord_93 (by decide) rfl ?_
        refine j_iload hG dX12_isWord_95 rfl ?_
        refine j_if_ne (tgt := 105) hG dX12_isWord_97 (by decide) (by omega) (fun c4_ => ?_) (fun c4_ => ?_)
        · -- taken at 97
          refine j_lload hG dX12_isWord_105 rfl ?_
          refine j_ldc2 (z := 32) hG dX12_isWord_107 kX12_248 (by decide) ?_
          refine j_lmul hG dX12_isWord_110 ?_
          refine j_iload hG dX12_isWord_111 rfl ?_
          refine j_i2l hG dX12_isWord_113 (by omega) ?_
          refine j_ladd hG dX12_isWord_114 ?_
          refine j_ldc2 (z := 96) hG dX12_isWord_115 kX12_250 (by decide) ?_
          refine j_lsub hG dX12_isWord_118 ?_
          refine j_lstore (lv' := [(0, .ref m), (1, .int (iZ (115))), (2, .int (iZ (111))), (3, .int (iZ (117))), (4, .int (iZ (114))), (5, .int (iZ (99))), (6, .int (iZ (101))), (7, .long (lZ ((((((((((((((((115 - 96) * 32) + 111) - 96) * 32) + 117) - 96) * 32) + 114) - 96) * 32) + 99) - 96) * 32) + 101) - 96)))]) hG dX12_isWord_119 (by decide) rfl ?_
          refine j_aload_n hG dX12_isWord_121 rfl rfl ?_
          refine j_get (v := .int (iZ (V 47))) hG fX12_245 dX12_isWord_122 hW.1 rfl ?_
          refine j_eq (show (V 47 : Int) = (soF g len s : Int) from h47) ?_
          refine j_iconst hG dX12_isWord_125 ?_
          refine j_icmp_ne (tgt := 143) hG dX12_isWord_126 (by decide) (by omega) (by omega) (fun c5_ => ?_) (fun c5_ => ?_)
          · -- taken at 126
            refine j_iconst hG dX12_isWord_143 ?_
            exact j_zret hG hZ dX12_isWord_144 (Nat.zero_le _) (Nat.zero_le _) (nar_zr (by omega)) (⟨⟨0, rfl, Or.inr ⟨rfl, Bool.eq_false_iff.mpr (fun q => by have q := (word_0 hs).mpr q; omega)⟩⟩, rfl⟩)
          · -- on at 126
            refine j_aload_n hG dX12_isWord_129 rfl rfl ?_
            refine j_get (v := .long (lZ (V 48))) hG fX12_235 dX12_isWord_130 hW.1 rfl ?_
            refine j_eqL (show (V 48 : Int) = (woF g len s : Int) from h48) ?_
            refine j_lload hG dX12_isWord_133 rfl ?_
            refine j_lcmp hG dX12_isWord_135 (by omega) (by omega) ?_
            refine j_if_ne (tgt := 143) hG dX12_isWord_136 (by decide) (by have h9 := cI_rng (woF g len s) ((((((((((((((((115 - 96) * 32) + 111) - 96) * 32) + 117) - 96) * 32) + 114) - 96) * 32) + 99) - 96) * 32) + 101) - 96); omega) (fun c6_ => ?_) (fun c6_ => ?_)
            · -- taken at 136
              have c6_ : ¬ _ := fun h9 => c6_ (cI_eq.mpr h9)
              refine j_iconst hG dX12_isWord_143 ?_
              exact j_zret hG hZ dX12_isWord_144 (Nat.zero_le _) (Nat.zero_le _) (nar_zr (by omega)) (⟨⟨0, rfl, Or.inr ⟨rfl, Bool.eq_false_iff.mpr (fun q => by have q := (word_0 hs).mpr q; omega)⟩⟩, rfl⟩)
            · -- on at 136
              have c6_ := cI_eq.mp c6_
              refine j_iconst hG dX12_isWord_139 ?_
              refine j_goto (tgt := 144) hG dX12_isWord_140 (by decide) ?_
              exact j_zret hG hZ dX12_isWord_144 (Nat.zero_le _) (Nat.zero_le _) (nar_zr (by omega)) (⟨⟨1, rfl, Or.inl ⟨rfl, (word_0 hs).mp ⟨by omega, by omega⟩⟩⟩, rfl⟩)
        · -- on at 97
          exfalso; omega
      · -- on at 71
        exfalso; omega
    · -- on at 45
      exfalso; omega
  · -- on at 20
    exfalso; omega
theorem c_X12_isWord_1 {l : Launch} {E : JE} {f : Hp} {rg : Nat → Nat} {f0 : Hp} {m : Nat} {A : Nat → Nat} {V : Nat → Int} {G : Nat → Int → Int} {g : Int → Int} {len s : Int} (hW : MF E rg f0 f m A V G) (h47 : V 47 = soF g len s) (h48 : V 48 = woF g len s) (hs : 0 ≤ s ∧ s ≤ len) (hg : bOk g) : KX12_isWord l E [.ref m, .int (iZ (119)), .int (iZ (104)), .int (iZ (101)), .int (iZ (114)), .int (iZ (101)), .int (iZ (0))] f (fun v f' => (∃ z : Int, v = some (.int (iZ z)) ∧ ((z = 1 ∧ wrdB g len s 1 = true) ∨ (z = 0 ∧ wrdB g len s 1 = false))) ∧ f = f') := by
  refine ct_of (own := RX12) (lv := [(0, .ref m), (1, .int (iZ (119))), (2, .int (iZ (104))), (3, .int (iZ (101))), (4, .int (iZ (114))), (5, .int (iZ (101))), (6, .int (iZ (0)))]) (by decide +kernel) rfl (Nat.le_of_ble_eq_true rfl) rfl ?_
  intro G9 hG hZ
  have wr := wo_rng hg hs
  have sr := so_rng (g := g) (len := len) (s := s)
  refine j_iload_n hG dX12_isWord_0 rfl rfl ?_
  refine j_i2l hG dX12_isWord_1 (by omega) ?_
  refine j_ldc2 (z := 96) hG dX12_isWord_2 kX12_250 (by decide) ?_
  refine j_lsub hG dX12_isWord_5 ?_
  refine j_ldc2 (z := 32) hG dX12_isWord_6 kX12_248 (by decide) ?_
  refine j_lmul hG dX12_isWord_9 ?_
  refine j_iload_n hG dX12_isWord_10 rfl rfl ?_
  refine j_i2l hG dX12_isWord_11 (by omega) ?_
  refine j_ladd hG dX12_isWord_12 ?_
  refine j_ldc2 (z := 96) hG dX12_isWord_13 kX12_250 (by decide) ?_
  refine j_lsub hG dX12_isWord_16 ?_
  refine j_lstore (lv' := [(0, .ref m), (1, .int (iZ (119))), (2, .int (iZ (104))), (3, .int (iZ (101))), (4, .int (iZ (114))), (5, .int (iZ (101))), (6, .int (iZ (0))), (7, .long (lZ ((((119 - 96) * 32) + 104) - 96)))]) hG dX12_isWord_17 (by decide) rfl ?_
  refine j_iload_n hG dX12_isWord_19 rfl rfl ?_
  refine j_if_ne (tgt := 28) hG dX12_isWord_20 (by decide) (by omega) (fun c1_ => ?_) (fun c1_ => ?_)
  · -- taken at 20
    refine j_lload hG dX12_isWord_28 rfl ?_
    refine j_ldc2 (z := 32) hG dX12_isWord_30 kX12_248 (by decide) ?_
    refine j_lmul hG dX12_isWord_33 ?_
    refine j_iload_n hG dX12_isWord_34 rfl rfl ?_
    refine j_i2l hG dX12_isWord_35 (by omega) ?_
    refine j_ladd hG dX12_isWord_36 ?_
    refine j_ldc2 (z := 96) hG dX12_isWord_37 kX12_250 (by decide) ?_
    refine j_lsub hG dX12_isWord_40 ?_
    refine j_lstore (lv' := [(0, .ref m), (1, .int (iZ (119))), (2, .int (iZ (104))), (3, .int (iZ (101))), (4, .int (iZ (114))), (5, .int (iZ (101))), (6, .int (iZ (0))), (7, .long (lZ (((((((119 - 96) * 32) + 104) - 96) * 32) + 101) - 96)))]) hG dX12_isWord_41 (by decide) rfl ?_
    refine j_iload hG dX12_isWord_43 rfl ?_
    refine j_if_ne (tgt := 53) hG dX12_isWord_45 (by decide) (by omega) (fun c2_ => ?_) (fun c2_ => ?_)
    · -- taken at 45
      refine j_lload hG dX12_isWord_53 rfl ?_
      refine j_ldc2 (z := 32) hG dX12_isWord_55 kX12_248 (by decide) ?_
      refine j_lmul hG dX12_isWord_58 ?_
      refine j_iload hG dX12_isWord_59 rfl ?_
      refine j_i2l hG dX12_isWord_61 (by omega) ?_
      refine j_ladd hG dX12_isWord_62 ?_
      refine j_ldc2 (z := 96) hG dX12_isWord_63 kX12_250 (by decide) ?_
      refine j_lsub hG dX12_isWord_66 ?_
      refine j_lstore (lv' := [(0, .ref m), (1, .int (iZ (119))), (2, .int (iZ (104))), (3, .int (iZ (101))), (4, .int (iZ (114))), (5, .int (iZ (101))), (6, .int (iZ (0))), (7, .long (lZ ((((((((((119 - 96) * 32) + 104) - 96) * 32) + 101) - 96) * 32) + 114) - 96)))]) hG dX12_isWord_67 (by decide) rfl ?_
      refine j_iload hG dX12_isWord_69 rfl ?_
      refine j_if_ne (tgt := 79) hG dX12_isWord_71 (by decide) (by omega) (fun c3_ => ?_) (fun c3_ => ?_)
      · -- taken at 71
        refine j_lload hG dX12_isWord_79 rfl ?_
        refine j_ldc2 (z := 32) hG dX12_isWord_81 kX12_248 (by decide) ?_
        refine j_lmul hG dX12_isWord_84 ?_
        refine j_iload hG dX12_isWord_85 rfl ?_
        refine j_i2l hG dX12_isWord_87 (by omega) ?_
        refine j_ladd hG dX12_isWord_88 ?_
        refine j_ldc2 (z := 96) hG dX12_isWord_89 kX12_250 (by decide) ?_
        refine j_lsub hG dX12_isWord_92 ?_
        refine j_lstore (lv' := [(0, .ref m), (1, .int (iZ (119))), (2, .int (iZ (104))), (3, .int (iZ (101))), (4, .int (iZ (114))), (5, .int (iZ (101))), (6, .int (iZ (0))), (7, .long (lZ (((((((((((((119 - 96) * 32) + 104) - 96) * 32) + 101) - 96) * 32) + 114) - 96) * 32) + 101) - 96)))]) hG dX12_isWord_93 (by decide) rfl ?_
        refine j_iload hG dX12_isWord_95 rfl ?_
        refine j_if_ne (tgt := 105) hG dX12_isWord_97 (by decide) (by omega) (fun c4_ => ?_) (fun c4_ => ?_)
        · -- taken at 97
          exfalso; omega
        · -- on at 97
          refine j_lload hG dX12_isWord_100 rfl ?_
          refine j_goto (tgt := 119) hG dX12_isWord_102 (by decide) ?_
          refine j_lstore (lv' := [(0, .ref m), (1, .int (iZ (119))), (2, .int (iZ (104))), (3, .int (iZ (101))), (4, .int (iZ (114))), (5, .int (iZ (101))), (6, .int (iZ (0))), (7, .long (lZ (((((((((((((119 - 96) * 32) + 104) - 96) * 32) + 101) - 96) * 32) + 114) - 96) * 32) + 101) - 96)))]) hG dX12_isWord_119 (by decide) rfl ?_
          refine j_aload_n hG dX12_isWord_121 rfl rfl ?_
          refine j_get (v := .int (iZ (V 47))) hG fX12_245 dX12_isWord_122 hW.1 rfl ?_
          refine j_eq (show (V 47 : Int) = (soF g len s : Int) from h47) ?_
          refine j_iconst hG dX12_isWord_125 ?_
          refine j_icmp_ne (tgt := 143) hG dX12_isWord_126 (by decide) (by omega) (by omega) (fun c5_ => ?_) (fun c5_ => ?_)
          · -- taken at 126
            refine j_iconst hG dX12_isWord_143 ?_
            exact j_zret hG hZ dX12_isWord_144 (Nat.zero_le _) (Nat.zero_le _) (nar_zr (by omega)) (⟨⟨0, rfl, Or.inr ⟨rfl, Bool.eq_false_iff.mpr (fun q => by have q := (word_1 hs).mpr q; omega)⟩⟩, rfl⟩)
          · -- on at 126
            refine j_aload_n hG dX12_isWord_129 rfl rfl ?_
            refine j_get (v := .long (lZ (V 48))) hG fX12_235 dX12_isWord_130 hW.1 rfl ?_
            refine j_eqL (show (V 48 : Int) = (woF g len s : Int) from h48) ?_
            refine j_lload hG dX12_isWord_133 rfl ?_
            refine j_lcmp hG dX12_isWord_135 (by omega) (by omega) ?_
            refine j_if_ne (tgt := 143) hG dX12_isWord_136 (by decide) (by have h9 := cI_rng (woF g len s) (((((((((((((119 - 96) * 32) + 104) - 96) * 32) + 101) - 96) * 32) + 114) - 96) * 32) + 101) - 96); omega) (fun c6_ => ?_) (fun c6_ => ?_)
            · -- taken at 136
              have c6_ : ¬ _ := fun h9 => c6_ (cI_eq.mpr h9)
              refine j_iconst hG dX12_isWord_143 ?_
              exact j_zret hG hZ dX12_isWord_144 (Nat.zero_le _) (Nat.zero_le _) (nar_zr (by omega)) (⟨⟨0, rfl, Or.inr ⟨rfl, Bool.eq_false_iff.mpr (fun q => by have q := (word_1 hs).mpr q; omega)⟩⟩, rfl⟩)
            · -- on at 136
              have c6_ := cI_eq.mp c6_
              refine j_iconst hG dX12_isWord_139 ?_
              refine j_goto (tgt := 144) hG dX12_isWord_140 (by decide) ?_
              exact j_zret hG hZ dX12_isWord_144 (Nat.zero_le _) (Nat.zero_le _) (nar_zr (by omega)) (⟨⟨1, rfl, Or.inl ⟨rfl, (word_1 hs).mp ⟨by omega, by omega⟩⟩⟩, rfl⟩)
      · -- on at 71
        exfalso; omega
    · -- on at 45
      exfalso; omega
  · -- on at 20
    exfalso; omega
theorem c_X12_isWord_2 {l : Launch} {E : JE} {f : Hp} {rg : Nat → Nat} {f0 : Hp} {m : Nat} {A : Nat → Nat} {V : Nat → Int} {G : Nat → Int → Int} {g : Int → Int} {len s : Int} (hW : MF E rg f0 f m A V G) (h47 : V 47 = soF g len s) (h48 : V 48 = woF g len s) (hs : 0 ≤ s ∧ s ≤ len) (hg : bOk g) : KX12_isWord l E [.ref m, .int (iZ (112)), .int (iZ (108)), .int (iZ (117)), .int (iZ (115)), .int (iZ (0)), .int (iZ (0))] f (fun v f' => (∃ z : Int, v = some (.int (iZ z)) ∧ ((z = 1 ∧ wrdB g len s 2 = true) ∨ (z = 0 ∧ wrdB g len s 2 = false))) ∧ f = f') := by
  refine ct_of (own := RX12) (lv := [(0, .ref m), (1, .int (iZ (112))), (2, .int (iZ (108))), (3, .int (iZ (117))), (4, .int (iZ (115))), (5, .int (iZ (0))), (6, .int (iZ (0)))]) (by decide +kernel) rfl (Nat.le_of_ble_eq_true rfl) rfl ?_
  intro G9 hG hZ
  have wr := wo_rng hg hs
  have sr := so_rng (g := g) (len := len) (s := s)
  refine j_iload_n hG dX12_isWord_0 rfl rfl ?_
  refine j_i2l hG dX12_isWord_1 (by omega) ?_
  refine j_ldc2 (z := 96) hG dX12_isWord_2 kX12_250 (by decide) ?_
  refine j_lsub hG dX12_isWord_5 ?_
  refine j_ldc2 (z := 32) hG dX12_isWord_6 kX12_248 (by decide) ?_
  refine j_lmul hG dX12_isWord_9 ?_
  refine j_iload_n hG dX12_isWord_10 rfl rfl ?_
  refine j_i2l hG dX12_isWord_11 (by omega) ?_
  refine j_ladd hG dX12_isWord_12 ?_
  refine j_ldc2 (z := 96) hG dX12_isWord_13 kX12_250 (by decide) ?_
  refine j_lsub hG dX12_isWord_16 ?_
  refine j_lstore (lv' := [(0, .ref m), (1, .int (iZ (112))), (2, .int (iZ (108))), (3, .int (iZ (117))), (4, .int (iZ (115))), (5, .int (iZ (0))), (6, .int (iZ (0))), (7, .long (lZ ((((112 - 96) * 32) + 108) - 96)))]) hG dX12_isWord_17 (by decide) rfl ?_
  refine j_iload_n hG dX12_isWord_19 rfl rfl ?_
  refine j_if_ne (tgt := 28) hG dX12_isWord_20 (by decide) (by omega) (fun c1_ => ?_) (fun c1_ => ?_)
  · -- taken at 20
    refine j_lload hG dX12_isWord_28 rfl ?_
    refine j_ldc2 (z := 32) hG dX12_isWord_30 kX12_248 (by decide) ?_
    refine j_lmul hG dX12_isWord_33 ?_
    refine j_iload_n hG dX12_isWord_34 rfl rfl ?_
    refine j_i2l hG dX12_isWord_35 (by omega) ?_
    refine j_ladd hG dX12_isWord_36 ?_
    refine j_ldc2 (z := 96) hG dX12_isWord_37 kX12_250 (by decide) ?_
    refine j_lsub hG dX12_isWord_40 ?_
    refine j_lstore (lv' := [(0, .ref m), (1, .int (iZ (112))), (2, .int (iZ (108))), (3, .int (iZ (117))), (4, .int (iZ (115))), (5, .int (iZ (0))), (6, .int (iZ (0))), (7, .long (lZ (((((((112 - 96) * 32) + 108) - 96) * 32) + 117) - 96)))]) hG dX12_isWord_41 (by decide) rfl ?_
    refine j_iload hG dX12_isWord_43 rfl ?_
    refine j_if_ne (tgt := 53) hG dX12_isWord_45 (by decide) (by omega) (fun c2_ => ?_) (fun c2_ => ?_)
    · -- taken at 45
      refine j_lload hG dX12_isWord_53 rfl ?_
      refine j_ldc2 (z := 32) hG dX12_isWord_55 kX12_248 (by decide) ?_
      refine j_lmul hG dX12_isWord_58 ?_
      refine j_iload hG dX12_isWord_59 rfl ?_
      refine j_i2l hG dX12_isWord_61 (by omega) ?_
      refine j_ladd hG dX12_isWord_62 ?_
      refine j_ldc2 (z := 96) hG dX12_isWord_63 kX12_250 (by decide) ?_
      refine j_lsub hG dX12_isWord_66 ?_
      refine j_lstore (lv' := [(0, .ref m), (1, .int (iZ (112))), (2, .int (iZ (108))), (3, .int (iZ (117))), (4, .int (iZ (115))), (5, .int (iZ (0))), (6, .int (iZ (0))), (7, .long (lZ ((((((((((112 - 96) * 32) + 108) - 96) * 32) + 117) - 96) * 32) + 115) - 96)))]) hG dX12_isWord_67 (by decide) rfl ?_
      refine j_iload hG dX12_isWord_69 rfl ?_
      refine j_if_ne (tgt := 79) hG dX12_isWord_71 (by decide) (by omega) (fun c3_ => ?_) (fun c3_ => ?_)
      · -- taken at 71
        exfalso; omega
      · -- on at 71
        refine j_lload hG dX12_isWord_74 rfl ?_
        refine j_goto (tgt := 93) hG dX12_isWord_76 (by decide) ?_
        refine j_lstore (lv' := [(0, .ref m), (1, .int (iZ (112))), (2, .int (iZ (108))), (3, .int (iZ (117))), (4, .int (iZ (115))), (5, .int (iZ (0))), (6, .int (iZ (0))), (7, .long (lZ ((((((((((112 - 96) * 32) + 108) - 96) * 32) + 117) - 96) * 32) + 115) - 96)))]) hG dX12_isWord_93 (by decide) rfl ?_
        refine j_iload hG dX12_isWord_95 rfl ?_
        refine j_if_ne (tgt := 105) hG dX12_isWord_97 (by decide) (by omega) (fun c4_ => ?_) (fun c4_ => ?_)
        · -- taken at 97
          exfalso; omega
        · -- on at 97
          refine j_lload hG dX12_isWord_100 rfl ?_
          refine j_goto (tgt := 119) hG dX12_isWord_102 (by decide) ?_
          refine j_lstore (lv' := [(0, .ref m), (1, .int (iZ (112))), (2, .int (iZ (108))), (3, .int (iZ (117))), (4, .int (iZ (115))), (5, .int (iZ (0))), (6, .int (iZ (0))), (7, .long (lZ ((((((((((112 - 96) * 32) + 108) - 96) * 32) + 117) - 96) * 32) + 115) - 96)))]) hG dX12_isWord_119 (by decide) rfl ?_
          refine j_aload_n hG dX12_isWord_121 rfl rfl ?_
          refine j_get (v := .int (iZ (V 47))) hG fX12_245 dX12_isWord_122 hW.1 rfl ?_
          refine j_eq (show (V 47 : Int) = (soF g len s : Int) from h47) ?_
          refine j_iconst hG dX12_isWord_125 ?_
          refine j_icmp_ne (tgt := 143) hG dX12_isWord_126 (by decide) (by omega) (by omega) (fun c5_ => ?_) (fun c5_ => ?_)
          · -- taken at 126
            refine j_iconst hG dX12_isWord_143 ?_
            exact j_zret hG hZ dX12_isWord_144 (Nat.zero_le _) (Nat.zero_le _) (nar_zr (by omega)) (⟨⟨0, rfl, Or.inr ⟨rfl, Bool.eq_false_iff.mpr (fun q => by have q := (word_2 hs).mpr q; omega)⟩⟩, rfl⟩)
          · -- on at 126
            refine j_aload_n hG dX12_isWord_129 rfl rfl ?_
            refine j_get (v := .long (lZ (V 48))) hG fX12_235 dX12_isWord_130 hW.1 rfl ?_
            refine j_eqL (show (V 48 : Int) = (woF g len s : Int) from h48) ?_
            refine j_lload hG dX12_isWord_133 rfl ?_
            refine j_lcmp hG dX12_isWord_135 (by omega) (by omega) ?_
            refine j_if_ne (tgt := 143) hG dX12_isWord_136 (by decide) (by have h9 := cI_rng (woF g len s) ((((((((((112 - 96) * 32) + 108) - 96) * 32) + 117) - 96) * 32) + 115) - 96); omega) (fun c6_ => ?_) (fun c6_ => ?_)
            · -- taken at 136
              have c6_ : ¬ _ := fun h9 => c6_ (cI_eq.mpr h9)
              refine j_iconst hG dX12_isWord_143 ?_
              exact j_zret hG hZ dX12_isWord_144 (Nat.zero_le _) (Nat.zero_le _) (nar_zr (by omega)) (⟨⟨0, rfl, Or.inr ⟨rfl, Bool.eq_false_iff.mpr (fun q => by have q := (word_2 hs).mpr q; omega)⟩⟩, rfl⟩)
            · -- on at 136
              have c6_ := cI_eq.mp c6_
              refine j_iconst hG dX12_isWord_139 ?_
              refine j_goto (tgt := 144) hG dX12_isWord_140 (by decide) ?_
              exact j_zret hG hZ dX12_isWord_144 (Nat.zero_le _) (Nat.zero_le _) (nar_zr (by omega)) (⟨⟨1, rfl, Or.inl ⟨rfl, (word_2 hs).mp ⟨by omega, by omega⟩⟩⟩, rfl⟩)
    · -- on at 45
      exfalso; omega
  · -- on at 20
    exfalso; omega
theorem c_X12_isWord_3 {l : Launch} {E : JE} {f : Hp} {rg : Nat → Nat} {f0 : Hp} {m : Nat} {A : Nat → Nat} {V : Nat → Int} {G : Nat → Int → Int} {g : Int → Int} {len s : Int} (hW : MF E rg f0 f m A V G) (h47 : V 47 = soF g len s) (h48 : V 48 = woF g len s) (hs : 0 ≤ s ∧ s ≤ len) (hg : bOk g) : KX12_isWord l E [.ref m, .int (iZ (116)), .int (iZ (105)), .int (iZ (109)), .int (iZ (101)), .int (iZ (115)), .int (iZ (0))] f (fun v f' => (∃ z : Int, v = some (.int (iZ z)) ∧ ((z = 1 ∧ wrdB g len s 3 = true) ∨ (z = 0 ∧ wrdB g len s 3 = false))) ∧ f = f') := by
  refine ct_of (own := RX12) (lv := [(0, .ref m), (1, .int (iZ (116))), (2, .int (iZ (105))), (3, .int (iZ (109))), (4, .int (iZ (101))), (5, .int (iZ (115))), (6, .int (iZ (0)))]) (by decide +kernel) rfl (Nat.le_of_ble_eq_true rfl) rfl ?_
  intro G9 hG hZ
  have wr := wo_rng hg hs
  have sr := so_rng (g := g) (len := len) (s := s)
  refine j_iload_n hG dX12_isWord_0 rfl rfl ?_
  refine j_i2l hG dX12_isWord_1 (by omega) ?_
  refine j_ldc2 (z := 96) hG dX12_isWord_2 kX12_250 (by decide) ?_
  refine j_lsub hG dX12_isWord_5 ?_
  refine j_ldc2 (z := 32) hG dX12_isWord_6 kX12_248 (by decide) ?_
  refine j_lmul hG dX12_isWord_9 ?_
  refine j_iload_n hG dX12_isWord_10 rfl rfl ?_
  refine j_i2l hG dX12_isWord_11 (by omega) ?_
  refine j_ladd hG dX12_isWord_12 ?_
  refine j_ldc2 (z := 96) hG dX12_isWord_13 kX12_250 (by decide) ?_
  refine j_lsub hG dX12_isWord_16 ?_
  refine j_lstore (lv' := [(0, .ref m), (1, .int (iZ (116))), (2, .int (iZ (105))), (3, .int (iZ (109))), (4, .int (iZ (101))), (5, .int (iZ (115))), (6, .int (iZ (0))), (7, .long (lZ ((((116 - 96) * 32) + 105) - 96)))]) hG dX12_isWord_17 (by decide) rfl ?_
  refine j_iload_n hG dX12_isWord_19 rfl rfl ?_
  refine j_if_ne (tgt := 28) hG dX12_isWord_20 (by decide) (by omega) (fun c1_ => ?_) (fun c1_ => ?_)
  · -- taken at 20
    refine j_lload hG dX12_isWord_28 rfl ?_
    refine j_ldc2 (z := 32) hG dX12_isWord_30 kX12_248 (by decide) ?_
    refine j_lmul hG dX12_isWord_33 ?_
    refine j_iload_n hG dX12_isWord_34 rfl rfl ?_
    refine j_i2l hG dX12_isWord_35 (by omega) ?_
    refine j_ladd hG dX12_isWord_36 ?_
    refine j_ldc2 (z := 96) hG dX12_isWord_37 kX12_250 (by decide) ?_
    refine j_lsub hG dX12_isWord_40 ?_
    refine j_lstore (lv' := [(0, .ref m), (1, .int (iZ (116))), (2, .int (iZ (105))), (3, .int (iZ (109))), (4, .int (iZ (101))), (5, .int (iZ (115))), (6, .int (iZ (0))), (7, .long (lZ (((((((116 - 96) * 32) + 105) - 96) * 32) + 109) - 96)))]) hG dX12_isWord_41 (by decide) rfl ?_
    refine j_iload hG dX12_isWord_43 rfl ?_
    refine j_if_ne (tgt := 53) hG dX12_isWord_45 (by decide) (by omega) (fun c2_ => ?_) (fun c2_ => ?_)
    · -- taken at 45
      refine j_lload hG dX12_isWord_53 rfl ?_
      refine j_ldc2 (z := 32) hG dX12_isWord_55 kX12_248 (by decide) ?_
      refine j_lmul hG dX12_isWord_58 ?_
      refine j_iload hG dX12_isWord_59 rfl ?_
      refine j_i2l hG dX12_isWord_61 (by omega) ?_
      refine j_ladd hG dX12_isWord_62 ?_
      refine j_ldc2 (z := 96) hG dX12_isWord_63 kX12_250 (by decide) ?_
      refine j_lsub hG dX12_isWord_66 ?_
      refine j_lstore (lv' := [(0, .ref m), (1, .int (iZ (116))), (2, .int (iZ (105))), (3, .int (iZ (109))), (4, .int (iZ (101))), (5, .int (iZ (115))), (6, .int (iZ (0))), (7, .long (lZ ((((((((((116 - 96) * 32) + 105) - 96) * 32) + 109) - 96) * 32) + 101) - 96)))]) hG dX12_isWord_67 (by decide) rfl ?_
      refine j_iload hG dX12_isWord_69 rfl ?_
      refine j_if_ne (tgt := 79) hG dX12_isWord_71 (by decide) (by omega) (fun c3_ => ?_) (fun c3_ => ?_)
      · -- taken at 71
        refine j_lload hG dX12_isWord_79 rfl ?_
        refine j_ldc2 (z := 32) hG dX12_isWord_81 kX12_248 (by decide) ?_
        refine j_lmul hG dX12_isWord_84 ?_
        refine j_iload hG dX12_isWord_85 rfl ?_
        refine j_i2l hG dX12_isWord_87 (by omega) ?_
        refine j_ladd hG dX12_isWord_88 ?_
        refine j_ldc2 (z := 96) hG dX12_isWord_89 kX12_250 (by decide) ?_
        refine j_lsub hG dX12_isWord_92 ?_
        refine j_lstore (lv' := [(0, .ref m), (1, .int (iZ (116))), (2, .int (iZ (105))), (3, .int (iZ (109))), (4, .int (iZ (101))), (5, .int (iZ (115))), (6, .int (iZ (0))), (7, .long (lZ (((((((((((((116 - 96) * 32) + 105) - 96) * 32) + 109) - 96) * 32) + 101) - 96) * 32) + 115) - 96)))]) hG dX12_isWord_93 (by decide) rfl ?_
        refine j_iload hG dX12_isWord_95 rfl ?_
        refine j_if_ne (tgt := 105) hG dX12_isWord_97 (by decide) (by omega) (fun c4_ => ?_) (fun c4_ => ?_)
        · -- taken at 97
          exfalso; omega
        · -- on at 97
          refine j_lload hG dX12_isWord_100 rfl ?_
          refine j_goto (tgt := 119) hG dX12_isWord_102 (by decide) ?_
          refine j_lstore (lv' := [(0, .ref m), (1, .int (iZ (116))), (2, .int (iZ (105))), (3, .int (iZ (109))), (4, .int (iZ (101))), (5, .int (iZ (115))), (6, .int (iZ (0))), (7, .long (lZ (((((((((((((116 - 96) * 32) + 105) - 96) * 32) + 109) - 96) * 32) + 101) - 96) * 32) + 115) - 96)))]) hG dX12_isWord_119 (by decide) rfl ?_
          refine j_aload_n hG dX12_isWord_121 rfl rfl ?_
          refine j_get (v := .int (iZ (V 47))) hG fX12_245 dX12_isWord_122 hW.1 rfl ?_
          refine j_eq (show (V 47 : Int) = (soF g len s : Int) from h47) ?_
          refine j_iconst hG dX12_isWord_125 ?_
          refine j_icmp_ne (tgt := 143) hG dX12_isWord_126 (by decide) (by omega) (by omega) (fun c5_ => ?_) (fun c5_ => ?_)
          · -- taken at 126
            refine j_iconst hG dX12_isWord_143 ?_
            exact j_zret hG hZ dX12_isWord_144 (Nat.zero_le _) (Nat.zero_le _) (nar_zr (by omega)) (⟨⟨0, rfl, Or.inr ⟨rfl, Bool.eq_false_iff.mpr (fun q => by have q := (word_3 hs).mpr q; omega)⟩⟩, rfl⟩)
          · -- on at 126
            refine j_aload_n hG dX12_isWord_129 rfl rfl ?_
            refine j_get (v := .long (lZ (V 48))) hG fX12_235 dX12_isWord_130 hW.1 rfl ?_
            refine j_eqL (show (V 48 : Int) = (woF g len s : Int) from h48) ?_
            refine j_lload hG dX12_isWord_133 rfl ?_
            refine j_lcmp hG dX12_isWord_135 (by omega) (by omega) ?_
            refine j_if_ne (tgt := 143) hG dX12_isWord_136 (by decide) (by have h9 := cI_rng (woF g len s) (((((((((((((116 - 96) * 32) + 105) - 96) * 32) + 109) - 96) * 32) + 101) - 96) * 32) + 115) - 96); omega) (fun c6_ => ?_) (fun c6_ => ?_)
            · -- taken at 136
              have c6_ : ¬ _ := fun h9 => c6_ (cI_eq.mpr h9)
              refine j_iconst hG dX12_isWord_143 ?_
              exact j_zret hG hZ dX12_isWord_144 (Nat.zero_le _) (Nat.zero_le _) (nar_zr (by omega)) (⟨⟨0, rfl, Or.inr ⟨rfl, Bool.eq_false_iff.mpr (fun q => by have q := (word_3 hs).mpr q; omega)⟩⟩, rfl⟩)
            · -- on at 136
              have c6_ := cI_eq.mp c6_
              refine j_iconst hG dX12_isWord_139 ?_
              refine j_goto (tgt := 144) hG dX12_isWord_140 (by decide) ?_
              exact j_zret hG hZ dX12_isWord_144 (Nat.zero_le _) (Nat.zero_le _) (nar_zr (by omega)) (⟨⟨1, rfl, Or.inl ⟨rfl, (word_3 hs).mp ⟨by omega, by omega⟩⟩⟩, rfl⟩)
      · -- on at 71
        exfalso; omega
    · -- on at 45
      exfalso; omega
  · -- on at 20
    exfalso; omega
theorem c_X12_isWord_4 {l : Launch} {E : JE} {f : Hp} {rg : Nat → Nat} {f0 : Hp} {m : Nat} {A : Nat → Nat} {V : Nat → Int} {G : Nat → Int → Int} {g : Int → Int} {len s : Int} (hW : MF E rg f0 f m A V G) (h47 : V 47 = soF g len s) (h48 : V 48 = woF g len s) (hs : 0 ≤ s ∧ s ≤ len) (hg : bOk g) : KX12_isWord l E [.ref m, .int (iZ (114)), .int (iZ (101)), .int (iZ (107)), .int (iZ (101)), .int (iZ (121)), .int (iZ (0))] f (fun v f' => (∃ z : Int, v = some (.int (iZ z)) ∧ ((z = 1 ∧ wrdB g len s 4 = true) ∨ (z = 0 ∧ wrdB g len s 4 = false))) ∧ f = f') := by
  refine ct_of (own := RX12) (lv := [(0, .ref m), (1, .int (iZ (114))), (2, .int (iZ (101))), (3, .int (iZ (107))), (4, .int (iZ (101))), (5, .int (iZ (121))), (6, .int (iZ (0)))]) (by decide +kernel) rfl (Nat.le_of_ble_eq_true rfl) rfl ?_
  intro G9 hG hZ
  have wr := wo_rng hg hs
  have sr := so_rng (g := g) (len := len) (s := s)
  refine j_iload_n hG dX12_isWord_0 rfl rfl ?_
  refine j_i2l hG dX12_isWord_1 (by omega) ?_
  refine j_ldc2 (z := 96) hG dX12_isWord_2 kX12_250 (by decide) ?_
  refine j_lsub hG dX12_isWord_5 ?_
  refine j_ldc2 (z := 32) hG dX12_isWord_6 kX12_248 (by decide) ?_
  refine j_lmul hG dX12_isWord_9 ?_
  refine j_iload_n hG dX12_isWord_10 rfl rfl ?_
  refine j_i2l hG dX12_isWord_11 (by omega) ?_
  refine j_ladd hG dX12_isWord_12 ?_
  refine j_ldc2 (z := 96) hG dX12_isWord_13 kX12_250 (by decide) ?_
  refine j_lsub hG dX12_isWord_16 ?_
  refine j_lstore (lv' := [(0, .ref m), (1, .int (iZ (114))), (2, .int (iZ (101))), (3, .int (iZ (107))), (4, .int (iZ (101))), (5, .int (iZ (121))), (6, .int (iZ (0))), (7, .long (lZ ((((114 - 96) * 32) + 101) - 96)))]) hG dX12_isWord_17 (by decide) rfl ?_
  refine j_iload_n hG dX12_isWord_19 rfl rfl ?_
  refine j_if_ne (tgt := 28) hG dX12_isWord_20 (by decide) (by omega) (fun c1_ => ?_) (fun c1_ => ?_)
  · -- taken at 20
    refine j_lload hG dX12_isWord_28 rfl ?_
    refine j_ldc2 (z := 32) hG dX12_isWord_30 kX12_248 (by decide) ?_
    refine j_lmul hG dX12_isWord_33 ?_
    refine j_iload_n hG dX12_isWord_34 rfl rfl ?_
    refine j_i2l hG dX12_isWord_35 (by omega) ?_
    refine j_ladd hG dX12_isWord_36 ?_
    refine j_ldc2 (z := 96) hG dX12_isWord_37 kX12_250 (by decide) ?_
    refine j_lsub hG dX12_isWord_40 ?_
    refine j_lstore (lv' := [(0, .ref m), (1, .int (iZ (114))), (2, .int (iZ (101))), (3, .int (iZ (107))), (4, .int (iZ (101))), (5, .int (iZ (121))), (6, .int (iZ (0))), (7, .long (lZ (((((((114 - 96) * 32) + 101) - 96) * 32) + 107) - 96)))]) hG dX12_isWord_41 (by decide) rfl ?_
    refine j_iload hG dX12_isWord_43 rfl ?_
    refine j_if_ne (tgt := 53) hG dX12_isWord_45 (by decide) (by omega) (fun c2_ => ?_) (fun c2_ => ?_)
    · -- taken at 45
      refine j_lload hG dX12_isWord_53 rfl ?_
      refine j_ldc2 (z := 32) hG dX12_isWord_55 kX12_248 (by decide) ?_
      refine j_lmul hG dX12_isWord_58 ?_
      refine j_iload hG dX12_isWord_59 rfl ?_
      refine j_i2l hG dX12_isWord_61 (by omega) ?_
      refine j_ladd hG dX12_isWord_62 ?_
      refine j_ldc2 (z := 96) hG dX12_isWord_63 kX12_250 (by decide) ?_
      refine j_lsub hG dX12_isWord_66 ?_
      refine j_lstore (lv' := [(0, .ref m), (1, .int (iZ (114))), (2, .int (iZ (101))), (3, .int (iZ (107))), (4, .int (iZ (101))), (5, .int (iZ (121))), (6, .int (iZ (0))), (7, .long (lZ ((((((((((114 - 96) * 32) + 101) - 96) * 32) + 107) - 96) * 32) + 101) - 96)))]) hG dX12_isWord_67 (by decide) rfl ?_
      refine j_iload hG dX12_isWord_69 rfl ?_
      refine j_if_ne (tgt := 79) hG dX12_isWord_71 (by decide) (by omega) (fun c3_ => ?_) (fun c3_ => ?_)
      · -- taken at 71
        refine j_lload hG dX12_isWord_79 rfl ?_
        refine j_ldc2 (z := 32) hG dX12_isWord_81 kX12_248 (by decide) ?_
        refine j_lmul hG dX12_isWord_84 ?_
        refine j_iload hG dX12_isWord_85 rfl ?_
        refine j_i2l hG dX12_isWord_87 (by omega) ?_
        refine j_ladd hG dX12_isWord_88 ?_
        refine j_ldc2 (z := 96) hG dX12_isWord_89 kX12_250 (by decide) ?_
        refine j_lsub hG dX12_isWord_92 ?_
        refine j_lstore (lv' := [(0, .ref m), (1, .int (iZ (114))), (2, .int (iZ (101))), (3, .int (iZ (107))), (4, .int (iZ (101))), (5, .int (iZ (121))), (6, .int (iZ (0))), (7, .long (lZ (((((((((((((114 - 96) * 32) + 101) - 96) * 32) + 107) - 96) * 32) + 101) - 96) * 32) + 121) - 96)))]) hG dX12_isWord_93 (by decide) rfl ?_
        refine j_iload hG dX12_isWord_95 rfl ?_
        refine j_if_ne (tgt := 105) hG dX12_isWord_97 (by decide) (by omega) (fun c4_ => ?_) (fun c4_ => ?_)
        · -- taken at 97
          exfalso; omega
        · -- on at 97
          refine j_lload hG dX12_isWord_100 rfl ?_
          refine j_goto (tgt := 119) hG dX12_isWord_102 (by decide) ?_
          refine j_lstore (lv' := [(0, .ref m), (1, .int (iZ (114))), (2, .int (iZ (101))), (3, .int (iZ (107))), (4, .int (iZ (101))), (5, .int (iZ (121))), (6, .int (iZ (0))), (7, .long (lZ (((((((((((((114 - 96) * 32) + 101) - 96) * 32) + 107) - 96) * 32) + 101) - 96) * 32) + 121) - 96)))]) hG dX12_isWord_119 (by decide) rfl ?_
          refine j_aload_n hG dX12_isWord_121 rfl rfl ?_
          refine j_get (v := .int (iZ (V 47))) hG fX12_245 dX12_isWord_122 hW.1 rfl ?_
          refine j_eq (show (V 47 : Int) = (soF g len s : Int) from h47) ?_
          refine j_iconst hG dX12_isWord_125 ?_
          refine j_icmp_ne (tgt := 143) hG dX12_isWord_126 (by decide) (by omega) (by omega) (fun c5_ => ?_) (fun c5_ => ?_)
          · -- taken at 126
            refine j_iconst hG dX12_isWord_143 ?_
            exact j_zret hG hZ dX12_isWord_144 (Nat.zero_le _) (Nat.zero_le _) (nar_zr (by omega)) (⟨⟨0, rfl, Or.inr ⟨rfl, Bool.eq_false_iff.mpr (fun q => by have q := (word_4 hs).mpr q; omega)⟩⟩, rfl⟩)
          · -- on at 126
            refine j_aload_n hG dX12_isWord_129 rfl rfl ?_
            refine j_get (v := .long (lZ (V 48))) hG fX12_235 dX12_isWord_130 hW.1 rfl ?_
            refine j_eqL (show (V 48 : Int) = (woF g len s : Int) from h48) ?_
            refine j_lload hG dX12_isWord_133 rfl ?_
            refine j_lcmp hG dX12_isWord_135 (by omega) (by omega) ?_
            refine j_if_ne (tgt := 143) hG dX12_isWord_136 (by decide) (by have h9 := cI_rng (woF g len s) (((((((((((((114 - 96) * 32) + 101) - 96) * 32) + 107) - 96) * 32) + 101) - 96) * 32) + 121) - 96); omega) (fun c6_ => ?_) (fun c6_ => ?_)
            · -- taken at 136
              have c6_ : ¬ _ := fun h9 => c6_ (cI_eq.mpr h9)
              refine j_iconst hG dX12_isWord_143 ?_
              exact j_zret hG hZ dX12_isWord_144 (Nat.zero_le _) (Nat.zero_le _) (nar_zr (by omega)) (⟨⟨0, rfl, Or.inr ⟨rfl, Bool.eq_false_iff.mpr (fun q => by have q := (word_4 hs).mpr q; omega)⟩⟩, rfl⟩)
            · -- on at 136
              have c6_ := cI_eq.mp c6_
              refine j_iconst hG dX12_isWord_139 ?_
              refine j_goto (tgt := 144) hG dX12_isWord_140 (by decide) ?_
              exact j_zret hG hZ dX12_isWord_144 (Nat.zero_le _) (Nat.zero_le _) (nar_zr (by omega)) (⟨⟨1, rfl, Or.inl ⟨rfl, (word_4 hs).mp ⟨by omega, by omega⟩⟩⟩, rfl⟩)
      · -- on at 71
        exfalso; omega
    · -- on at 45
      exfalso; omega
  · -- on at 20
    exfalso; omega
theorem c_X12_isWord_5 {l : Launch} {E : JE} {f : Hp} {rg : Nat → Nat} {f0 : Hp} {m : Nat} {A : Nat → Nat} {V : Nat → Int} {G : Nat → Int → Int} {g : Int → Int} {len s : Int} (hW : MF E rg f0 f m A V G) (h47 : V 47 = soF g len s) (h48 : V 48 = woF g len s) (hs : 0 ≤ s ∧ s ≤ len) (hg : bOk g) : KX12_isWord l E [.ref m, .int (iZ (119)), .int (iZ (105)), .int (iZ (110)), .int (iZ (100)), .int (iZ (111)), .int (iZ (119))] f (fun v f' => (∃ z : Int, v = some (.int (iZ z)) ∧ ((z = 1 ∧ wrdB g len s 5 = true) ∨ (z = 0 ∧ wrdB g len s 5 = false))) ∧ f = f') := by
  refine ct_of (own := RX12) (lv := [(0, .ref m), (1, .int (iZ (119))), (2, .int (iZ (105))), (3, .int (iZ (110))), (4, .int (iZ (100))), (5, .int (iZ (111))), (6, .int (iZ (119)))]) (by decide +kernel) rfl (Nat.le_of_ble_eq_true rfl) rfl ?_
  intro G9 hG hZ
  have wr := wo_rng hg hs
  have sr := so_rng (g := g) (len := len) (s := s)
  refine j_iload_n hG dX12_isWord_0 rfl rfl ?_
  refine j_i2l hG dX12_isWord_1 (by omega) ?_
  refine j_ldc2 (z := 96) hG dX12_isWord_2 kX12_250 (by decide) ?_
  refine j_lsub hG dX12_isWord_5 ?_
  refine j_ldc2 (z := 32) hG dX12_isWord_6 kX12_248 (by decide) ?_
  refine j_lmul hG dX12_isWord_9 ?_
  refine j_iload_n hG dX12_isWord_10 rfl rfl ?_
  refine j_i2l hG dX12_isWord_11 (by omega) ?_
  refine j_ladd hG dX12_isWord_12 ?_
  refine j_ldc2 (z := 96) hG dX12_isWord_13 kX12_250 (by decide) ?_
  refine j_lsub hG dX12_isWord_16 ?_
  refine j_lstore (lv' := [(0, .ref m), (1, .int (iZ (119))), (2, .int (iZ (105))), (3, .int (iZ (110))), (4, .int (iZ (100))), (5, .int (iZ (111))), (6, .int (iZ (119))), (7, .long (lZ ((((119 - 96) * 32) + 105) - 96)))]) hG dX12_isWord_17 (by decide) rfl ?_
  refine j_iload_n hG dX12_isWord_19 rfl rfl ?_
  refine j_if_ne (tgt := 28) hG dX12_isWord_20 (by decide) (by omega) (fun c1_ => ?_) (fun c1_ => ?_)
  · -- taken at 20
    refine j_lload hG dX12_isWord_28 rfl ?_
    refine j_ldc2 (z := 32) hG dX12_isWord_30 kX12_248 (by decide) ?_
    refine j_lmul hG dX12_isWord_33 ?_
    refine j_iload_n hG dX12_isWord_34 rfl rfl ?_
    refine j_i2l hG dX12_isWord_35 (by omega) ?_
    refine j_ladd hG dX12_isWord_36 ?_
    refine j_ldc2 (z := 96) hG dX12_isWord_37 kX12_250 (by decide) ?_
    refine j_lsub hG dX12_isWord_40 ?_
    refine j_lstore (lv' := [(0, .ref m), (1, .int (iZ (119))), (2, .int (iZ (105))), (3, .int (iZ (110))), (4, .int (iZ (100))), (5, .int (iZ (111))), (6, .int (iZ (119))), (7, .long (lZ (((((((119 - 96) * 32) + 105) - 96) * 32) + 110) - 96)))]) hG dX12_isWord_41 (by decide) rfl ?_
    refine j_iload hG dX12_isWord_43 rfl ?_
    refine j_if_ne (tgt := 53) hG dX12_isWord_45 (by decide) (by omega) (fun c2_ => ?_) (fun c2_ => ?_)
    · -- taken at 45
      refine j_lload hG dX12_isWord_53 rfl ?_
      refine j_ldc2 (z := 32) hG dX12_isWord_55 kX12_248 (by decide) ?_
      refine j_lmul hG dX12_isWord_58 ?_
      refine j_iload hG dX12_isWord_59 rfl ?_
      refine j_i2l hG dX12_isWord_61 (by omega) ?_
      refine j_ladd hG dX12_isWord_62 ?_
      refine j_ldc2 (z := 96) hG dX12_isWord_63 kX12_250 (by decide) ?_
      refine j_lsub hG dX12_isWord_66 ?_
      refine j_lstore (lv' := [(0, .ref m), (1, .int (iZ (119))), (2, .int (iZ (105))), (3, .int (iZ (110))), (4, .int (iZ (100))), (5, .int (iZ (111))), (6, .int (iZ (119))), (7, .long (lZ ((((((((((119 - 96) * 32) + 105) - 96) * 32) + 110) - 96) * 32) + 100) - 96)))]) hG dX12_isWord_67 (by decide) rfl ?_
      refine j_iload hG dX12_isWord_69 rfl ?_
      refine j_if_ne (tgt := 79) hG dX12_isWord_71 (by decide) (by omega) (fun c3_ => ?_) (fun c3_ => ?_)
      · -- taken at 71
        refine j_lload hG dX12_isWord_79 rfl ?_
        refine j_ldc2 (z := 32) hG dX12_isWord_81 kX12_248 (by decide) ?_
        refine j_lmul hG dX12_isWord_84 ?_
        refine j_iload hG dX12_isWord_85 rfl ?_
        refine j_i2l hG dX12_isWord_87 (by omega) ?_
        refine j_ladd hG dX12_isWord_88 ?_
        refine j_ldc2 (z := 96) hG dX12_isWord_89 kX12_250 (by decide) ?_
        refine j_lsub hG dX12_isWord_92 ?_
        refine j_lstore (lv' := [(0, .ref m), (1, .int (iZ (119))), (2, .int (iZ (105))), (3, .int (iZ (110))), (4, .int (iZ (100))), (5, .int (iZ (111))), (6, .int (iZ (119))), (7, .long (lZ (((((((((((((119 - 96) * 32) + 105) - 96) * 32) + 110) - 96) * 32) + 100) - 96) * 32) + 111) - 96)))]) hG dX12_isWord_93 (by decide) rfl ?_
        refine j_iload hG dX12_isWord_95 rfl ?_
        refine j_if_ne (tgt := 105) hG dX12_isWord_97 (by decide) (by omega) (fun c4_ => ?_) (fun c4_ => ?_)
        · -- taken at 97
          refine j_lload hG dX12_isWord_105 rfl ?_
          refine j_ldc2 (z := 32) hG dX12_isWord_107 kX12_248 (by decide) ?_
          refine j_lmul hG dX12_isWord_110 ?_
          refine j_iload hG dX12_isWord_111 rfl ?_
          refine j_i2l hG dX12_isWord_113 (by omega) ?_
          refine j_ladd hG dX12_isWord_114 ?_
          refine j_ldc2 (z := 96) hG dX12_isWord_115 kX12_250 (by decide) ?_
          refine j_lsub hG dX12_isWord_118 ?_
          refine j_lstore (lv' := [(0, .ref m), (1, .int (iZ (119))), (2, .int (iZ (105))), (3, .int (iZ (110))), (4, .int (iZ (100))), (5, .int (iZ (111))), (6, .int (iZ (119))), (7, .long (lZ ((((((((((((((((119 - 96) * 32) + 105) - 96) * 32) + 110) - 96) * 32) + 100) - 96) * 32) + 111) - 96) * 32) + 119) - 96)))]) hG dX12_isWord_119 (by decide) rfl ?_
          refine j_aload_n hG dX12_isWord_121 rfl rfl ?_
          refine j_get (v := .int (iZ (V 47))) hG fX12_245 dX12_isWord_122 hW.1 rfl ?_
          refine j_eq (show (V 47 : Int) = (soF g len s : Int) from h47) ?_
          refine j_iconst hG dX12_isWord_125 ?_
          refine j_icmp_ne (tgt := 143) hG dX12_isWord_126 (by decide) (by omega) (by omega) (fun c5_ => ?_) (fun c5_ => ?_)
          · -- taken at 126
            refine j_iconst hG dX12_isWord_143 ?_
            exact j_zret hG hZ dX12_isWord_144 (Nat.zero_le _) (Nat.zero_le _) (nar_zr (by omega)) (⟨⟨0, rfl, Or.inr ⟨rfl, Bool.eq_false_iff.mpr (fun q => by have q := (word_5 hs).mpr q; omega)⟩⟩, rfl⟩)
          · -- on at 126
            refine j_aload_n hG dX12_isWord_129 rfl rfl ?_
            refine j_get (v := .long (lZ (V 48))) hG fX12_235 dX12_isWord_130 hW.1 rfl ?_
            refine j_eqL (show (V 48 : Int) = (woF g len s : Int) from h48) ?_
            refine j_lload hG dX12_isWord_133 rfl ?_
            refine j_lcmp hG dX12_isWord_135 (by omega) (by omega) ?_
            refine j_if_ne (tgt := 143) hG dX12_isWord_136 (by decide) (by have h9 := cI_rng (woF g len s) ((((((((((((((((119 - 96) * 32) + 105) - 96) * 32) + 110) - 96) * 32) + 100) - 96) * 32) + 111) - 96) * 32) + 119) - 96); omega) (fun c6_ => ?_) (fun c6_ => ?_)
            · -- taken at 136
              have c6_ : ¬ _ := fun h9 => c6_ (cI_eq.mpr h9)
              refine j_iconst hG dX12_isWord_143 ?_
              exact j_zret hG hZ dX12_isWord_144 (Nat.zero_le _) (Nat.zero_le _) (nar_zr (by omega)) (⟨⟨0, rfl, Or.inr ⟨rfl, Bool.eq_false_iff.mpr (fun q => by have q := (word_5 hs).mpr q; omega)⟩⟩, rfl⟩)
            · -- on at 136
              have c6_ := cI_eq.mp c6_
              refine j_iconst hG dX12_isWord_139 ?_
              refine j_goto (tgt := 144) hG dX12_isWord_140 (by decide) ?_
              exact j_zret hG hZ dX12_isWord_144 (Nat.zero_le _) (Nat.zero_le _) (nar_zr (by omega)) (⟨⟨1, rfl, Or.inl ⟨rfl, (word_5 hs).mp ⟨by omega, by omega⟩⟩⟩, rfl⟩)
        · -- on at 97
          exfalso; omega
      · -- on at 71
        exfalso; omega
    · -- on at 45
      exfalso; omega
  · -- on at 20
    exfalso; omega
theorem c_X12_isWord_6 {l : Launch} {E : JE} {f : Hp} {rg : Nat → Nat} {f0 : Hp} {m : Nat} {A : Nat → Nat} {V : Nat → Int} {G : Nat → Int → Int} {g : Int → Int} {len s : Int} (hW : MF E rg f0 f m A V G) (h47 : V 47 = soF g len s) (h48 : V 48 = woF g len s) (hs : 0 ≤ s ∧ s ≤ len) (hg : bOk g) : KX12_isWord l E [.ref m, .int (iZ (101)), .int (iZ (118)), .int (iZ (101)), .int (iZ (114)), .int (iZ (0)), .int (iZ (0))] f (fun v f' => (∃ z : Int, v = some (.int (iZ z)) ∧ ((z = 1 ∧ wrdB g len s 6 = true) ∨ (z = 0 ∧ wrdB g len s 6 = false))) ∧ f = f') := by
  refine ct_of (own := RX12) (lv := [(0, .ref m), (1, .int (iZ (101))), (2, .int (iZ (118))), (3, .int (iZ (101))), (4, .int (iZ (114))), (5, .int (iZ (0))), (6, .int (iZ (0)))]) (by decide +kernel) rfl (Nat.le_of_ble_eq_true rfl) rfl ?_
  intro G9 hG hZ
  have wr := wo_rng hg hs
  have sr := so_rng (g := g) (len := len) (s := s)
  refine j_iload_n hG dX12_isWord_0 rfl rfl ?_
  refine j_i2l hG dX12_isWord_1 (by omega) ?_
  refine j_ldc2 (z := 96) hG dX12_isWord_2 kX12_250 (by decide) ?_
  refine j_lsub hG dX12_isWord_5 ?_
  refine j_ldc2 (z := 32) hG dX12_isWord_6 kX12_248 (by decide) ?_
  refine j_lmul hG dX12_isWord_9 ?_
  refine j_iload_n hG dX12_isWord_10 rfl rfl ?_
  refine j_i2l hG dX12_isWord_11 (by omega) ?_
  refine j_ladd hG dX12_isWord_12 ?_
  refine j_ldc2 (z := 96) hG dX12_isWord_13 kX12_250 (by decide) ?_
  refine j_lsub hG dX12_isWord_16 ?_
  refine j_lstore (lv' := [(0, .ref m), (1, .int (iZ (101))), (2, .int (iZ (118))), (3, .int (iZ (101))), (4, .int (iZ (114))), (5, .int (iZ (0))), (6, .int (iZ (0))), (7, .long (lZ ((((101 - 96) * 32) + 118) - 96)))]) hG dX12_isWord_17 (by decide) rfl ?_
  refine j_iload_n hG dX12_isWord_19 rfl rfl ?_
  refine j_if_ne (tgt := 28) hG dX12_isWord_20 (by decide) (by omega) (fun c1_ => ?_) (fun c1_ => ?_)
  · -- taken at 20
    refine j_lload hG dX12_isWord_28 rfl ?_
    refine j_ldc2 (z := 32) hG dX12_isWord_30 kX12_248 (by decide) ?_
    refine j_lmul hG dX12_isWord_33 ?_
    refine j_iload_n hG dX12_isWord_34 rfl rfl ?_
    refine j_i2l hG dX12_isWord_35 (by omega) ?_
    refine j_ladd hG dX12_isWord_36 ?_
    refine j_ldc2 (z := 96) hG dX12_isWord_37 kX12_250 (by decide) ?_
    refine j_lsub hG dX12_isWord_40 ?_
    refine j_lstore (lv' := [(0, .ref m), (1, .int (iZ (101))), (2, .int (iZ (118))), (3, .int (iZ (101))), (4, .int (iZ (114))), (5, .int (iZ (0))), (6, .int (iZ (0))), (7, .long (lZ (((((((101 - 96) * 32) + 118) - 96) * 32) + 101) - 96)))]) hG dX12_isWord_41 (by decide) rfl ?_
    refine j_iload hG dX12_isWord_43 rfl ?_
    refine j_if_ne (tgt := 53) hG dX12_isWord_45 (by decide) (by omega) (fun c2_ => ?_) (fun c2_ => ?_)
    · -- taken at 45
      refine j_lload hG dX12_isWord_53 rfl ?_
      refine j_ldc2 (z := 32) hG dX12_isWord_55 kX12_248 (by decide) ?_
      refine j_lmul hG dX12_isWord_58 ?_
      refine j_iload hG dX12_isWord_59 rfl ?_
      refine j_i2l hG dX12_isWord_61 (by omega) ?_
      refine j_ladd hG dX12_isWord_62 ?_
      refine j_ldc2 (z := 96) hG dX12_isWord_63 kX12_250 (by decide) ?_
      refine j_lsub hG dX12_isWord_66 ?_
      refine j_lstore (lv' := [(0, .ref m), (1, .int (iZ (101))), (2, .int (iZ (118))), (3, .int (iZ (101))), (4, .int (iZ (114))), (5, .int (iZ (0))), (6, .int (iZ (0))), (7, .long (lZ ((((((((((101 - 96) * 32) + 118) - 96) * 32) + 101) - 96) * 32) + 114) - 96)))]) hG dX12_isWord_67 (by decide) rfl ?_
      refine j_iload hG dX12_isWord_69 rfl ?_
      refine j_if_ne (tgt := 79) hG dX12_isWord_71 (by decide) (by omega) (fun c3_ => ?_) (fun c3_ => ?_)
      · -- taken at 71
        exfalso; omega
      · -- on at 71
        refine j_lload hG dX12_isWord_74 rfl ?_
        refine j_goto (tgt := 93) hG dX12_isWord_76 (by decide) ?_
        refine j_lstore (lv' := [(0, .ref m), (1, .int (iZ (101))), (2, .int (iZ (118))), (3, .int (iZ (101))), (4, .int (iZ (114))), (5, .int (iZ (0))), (6, .int (iZ (0))), (7, .long (lZ ((((((((((101 - 96) * 32) + 118) - 96) * 32) + 101) - 96) * 32) + 114) - 96)))]) hG dX12_isWord_93 (by decide) rfl ?_
        refine j_iload hG dX12_isWord_95 rfl ?_
        refine j_if_ne (tgt := 105) hG dX12_isWord_97 (by decide) (by omega) (fun c4_ => ?_) (fun c4_ => ?_)
        · -- taken at 97
          exfalso; omega
        · -- on at 97
          refine j_lload hG dX12_isWord_100 rfl ?_
          refine j_goto (tgt := 119) hG dX12_isWord_102 (by decide) ?_
          refine j_lstore (lv' := [(0, .ref m), (1, .int (iZ (101))), (2, .int (iZ (118))), (3, .int (iZ (101))), (4, .int (iZ (114))), (5, .int (iZ (0))), (6, .int (iZ (0))), (7, .long (lZ ((((((((((101 - 96) * 32) + 118) - 96) * 32) + 101) - 96) * 32) + 114) - 96)))]) hG dX12_isWord_119 (by decide) rfl ?_
          refine j_aload_n hG dX12_isWord_121 rfl rfl ?_
          refine j_get (v := .int (iZ (V 47))) hG fX12_245 dX12_isWord_122 hW.1 rfl ?_
          refine j_eq (show (V 47 : Int) = (soF g len s : Int) from h47) ?_
          refine j_iconst hG dX12_isWord_125 ?_
          refine j_icmp_ne (tgt := 143) hG dX12_isWord_126 (by decide) (by omega) (by omega) (fun c5_ => ?_) (fun c5_ => ?_)
          · -- taken at 126
            refine j_iconst hG dX12_isWord_143 ?_
            exact j_zret hG hZ dX12_isWord_144 (Nat.zero_le _) (Nat.zero_le _) (nar_zr (by omega)) (⟨⟨0, rfl, Or.inr ⟨rfl, Bool.eq_false_iff.mpr (fun q => by have q := (word_6 hs).mpr q; omega)⟩⟩, rfl⟩)
          · -- on at 126
            refine j_aload_n hG dX12_isWord_129 rfl rfl ?_
            refine j_get (v := .long (lZ (V 48))) hG fX12_235 dX12_isWord_130 hW.1 rfl ?_
            refine j_eqL (show (V 48 : Int) = (woF g len s : Int) from h48) ?_
            refine j_lload hG dX12_isWord_133 rfl ?_
            refine j_lcmp hG dX12_isWord_135 (by omega) (by omega) ?_
            refine j_if_ne (tgt := 143) hG dX12_isWord_136 (by decide) (by have h9 := cI_rng (woF g len s) ((((((((((101 - 96) * 32) + 118) - 96) * 32) + 101) - 96) * 32) + 114) - 96); omega) (fun c6_ => ?_) (fun c6_ => ?_)
            · -- taken at 136
              have c6_ : ¬ _ := fun h9 => c6_ (cI_eq.mpr h9)
              refine j_iconst hG dX12_isWord_143 ?_
              exact j_zret hG hZ dX12_isWord_144 (Nat.zero_le _) (Nat.zero_le _) (nar_zr (by omega)) (⟨⟨0, rfl, Or.inr ⟨rfl, Bool.eq_false_iff.mpr (fun q => by have q := (word_6 hs).mpr q; omega)⟩⟩, rfl⟩)
            · -- on at 136
              have c6_ := cI_eq.mp c6_
              refine j_iconst hG dX12_isWord_139 ?_
              refine j_goto (tgt := 144) hG dX12_isWord_140 (by decide) ?_
              exact j_zret hG hZ dX12_isWord_144 (Nat.zero_le _) (Nat.zero_le _) (nar_zr (by omega)) (⟨⟨1, rfl, Or.inl ⟨rfl, (word_6 hs).mp ⟨by omega, by omega⟩⟩⟩, rfl⟩)
    · -- on at 45
      exfalso; omega
  · -- on at 20
    exfalso; omega
theorem c_X12_isWord_7 {l : Launch} {E : JE} {f : Hp} {rg : Nat → Nat} {f0 : Hp} {m : Nat} {A : Nat → Nat} {V : Nat → Int} {G : Nat → Int → Int} {g : Int → Int} {len s : Int} (hW : MF E rg f0 f m A V G) (h47 : V 47 = soF g len s) (h48 : V 48 = woF g len s) (hs : 0 ≤ s ∧ s ≤ len) (hg : bOk g) : KX12_isWord l E [.ref m, .int (iZ (115)), .int (iZ (117)), .int (iZ (109)), .int (iZ (0)), .int (iZ (0)), .int (iZ (0))] f (fun v f' => (∃ z : Int, v = some (.int (iZ z)) ∧ ((z = 1 ∧ wrdB g len s 7 = true) ∨ (z = 0 ∧ wrdB g len s 7 = false))) ∧ f = f') := by
  refine ct_of (own := RX12) (lv := [(0, .ref m), (1, .int (iZ (115))), (2, .int (iZ (117))), (3, .int (iZ (109))), (4, .int (iZ (0))), (5, .int (iZ (0))), (6, .int (iZ (0)))]) (by decide +kernel) rfl (Nat.le_of_ble_eq_true rfl) rfl ?_
  intro G9 hG hZ
  have wr := wo_rng hg hs
  have sr := so_rng (g := g) (len := len) (s := s)
  refine j_iload_n hG dX12_isWord_0 rfl rfl ?_
  refine j_i2l hG dX12_isWord_1 (by omega) ?_
  refine j_ldc2 (z := 96) hG dX12_isWord_2 kX12_250 (by decide) ?_
  refine j_lsub hG dX12_isWord_5 ?_
  refine j_ldc2 (z := 32) hG dX12_isWord_6 kX12_248 (by decide) ?_
  refine j_lmul hG dX12_isWord_9 ?_
  refine j_iload_n hG dX12_isWord_10 rfl rfl ?_
  refine j_i2l hG dX12_isWord_11 (by omega) ?_
  refine j_ladd hG dX12_isWord_12 ?_
  refine j_ldc2 (z := 96) hG dX12_isWord_13 kX12_250 (by decide) ?_
  refine j_lsub hG dX12_isWord_16 ?_
  refine j_lstore (lv' := [(0, .ref m), (1, .int (iZ (115))), (2, .int (iZ (117))), (3, .int (iZ (109))), (4, .int (iZ (0))), (5, .int (iZ (0))), (6, .int (iZ (0))), (7, .long (lZ ((((115 - 96) * 32) + 117) - 96)))]) hG dX12_isWord_17 (by decide) rfl ?_
  refine j_iload_n hG dX12_isWord_19 rfl rfl ?_
  refine j_if_ne (tgt := 28) hG dX12_isWord_20 (by decide) (by omega) (fun c1_ => ?_) (fun c1_ => ?_)
  · -- taken at 20
    refine j_lload hG dX12_isWord_28 rfl ?_
    refine j_ldc2 (z := 32) hG dX12_isWord_30 kX12_248 (by decide) ?_
    refine j_lmul hG dX12_isWord_33 ?_
    refine j_iload_n hG dX12_isWord_34 rfl rfl ?_
    refine j_i2l hG dX12_isWord_35 (by omega) ?_
    refine j_ladd hG dX12_isWord_36 ?_
    refine j_ldc2 (z := 96) hG dX12_isWord_37 kX12_250 (by decide) ?_
    refine j_lsub hG dX12_isWord_40 ?_
    refine j_lstore (lv' := [(0, .ref m), (1, .int (iZ (115))), (2, .int (iZ (117))), (3, .int (iZ (109))), (4, .int (iZ (0))), (5, .int (iZ (0))), (6, .int (iZ (0))), (7, .long (lZ (((((((115 - 96) * 32) + 117) - 96) * 32) + 109) - 96)))]) hG dX12_isWord_41 (by decide) rfl ?_
    refine j_iload hG dX12_isWord_43 rfl ?_
    refine j_if_ne (tgt := 53) hG dX12_isWord_45 (by decide) (by omega) (fun c2_ => ?_) (fun c2_ => ?_)
    · -- taken at 45
      exfalso; omega
    · -- on at 45
      refine j_lload hG dX12_isWord_48 rfl ?_
      refine j_goto (tgt := 67) hG dX12_isWord_50 (by decide) ?_
      refine j_lstore (lv' := [(0, .ref m), (1, .int (iZ (115))), (2, .int (iZ (117))), (3, .int (iZ (109))), (4, .int (iZ (0))), (5, .int (iZ (0))), (6, .int (iZ (0))), (7, .long (lZ (((((((115 - 96) * 32) + 117) - 96) * 32) + 109) - 96)))]) hG dX12_isWord_67 (by decide) rfl ?_
      refine j_iload hG dX12_isWord_69 rfl ?_
      refine j_if_ne (tgt := 79) hG dX12_isWord_71 (by decide) (by omega) (fun c3_ => ?_) (fun c3_ => ?_)
      · -- taken at 71
        exfalso; omega
      · -- on at 71
        refine j_lload hG dX12_isWord_74 rfl ?_
        refine j_goto (tgt := 93) hG dX12_isWord_76 (by decide) ?_
        refine j_lstore (lv' := [(0, .ref m), (1, .int (iZ (115))), (2, .int (iZ (117))), (3, .int (iZ (109))), (4, .int (iZ (0))), (5, .int (iZ (0))), (6, .int (iZ (0))), (7, .long (lZ (((((((115 - 96) * 32) + 117) - 96) * 32) + 109) - 96)))]) hG dX12_isWord_93 (by decide) rfl ?_
        refine j_iload hG dX12_isWord_95 rfl ?_
        refine j_if_ne (tgt := 105) hG dX12_isWord_97 (by decide) (by omega) (fun c4_ => ?_) (fun c4_ => ?_)
        · -- taken at 97
          exfalso; omega
        · -- on at 97
          refine j_lload hG dX12_isWord_100 rfl ?_
          refine j_goto (tgt := 119) hG dX12_isWord_102 (by decide) ?_
          refine j_lstore (lv' := [(0, .ref m), (1, .int (iZ (115))), (2, .int (iZ (117))), (3, .int (iZ (109))), (4, .int (iZ (0))), (5, .int (iZ (0))), (6, .int (iZ (0))), (7, .long (lZ (((((((115 - 96) * 32) + 117) - 96) * 32) + 109) - 96)))]) hG dX12_isWord_119 (by decide) rfl ?_
          refine j_aload_n hG dX12_isWord_121 rfl rfl ?_
          refine j_get (v := .int (iZ (V 47))) hG fX12_245 dX12_isWord_122 hW.1 rfl ?_
          refine j_eq (show (V 47 : Int) = (soF g len s : Int) from h47) ?_
          refine j_iconst hG dX12_isWord_125 ?_
          refine j_icmp_ne (tgt := 143) hG dX12_isWord_126 (by decide) (by omega) (by omega) (fun c5_ => ?_) (fun c5_ => ?_)
          · -- taken at 126
            refine j_iconst hG dX12_isWord_143 ?_
            exact j_zret hG hZ dX12_isWord_144 (Nat.zero_le _) (Nat.zero_le _) (nar_zr (by omega)) (⟨⟨0, rfl, Or.inr ⟨rfl, Bool.eq_false_iff.mpr (fun q => by have q := (word_7 hs).mpr q; omega)⟩⟩, rfl⟩)
          · -- on at 126
            refine j_aload_n hG dX12_isWord_129 rfl rfl ?_
            refine j_get (v := .long (lZ (V 48))) hG fX12_235 dX12_isWord_130 hW.1 rfl ?_
            refine j_eqL (show (V 48 : Int) = (woF g len s : Int) from h48) ?_
            refine j_lload hG dX12_isWord_133 rfl ?_
            refine j_lcmp hG dX12_isWord_135 (by omega) (by omega) ?_
            refine j_if_ne (tgt := 143) hG dX12_isWord_136 (by decide) (by have h9 := cI_rng (woF g len s) (((((((115 - 96) * 32) + 117) - 96) * 32) + 109) - 96); omega) (fun c6_ => ?_) (fun c6_ => ?_)
            · -- taken at 136
              have c6_ : ¬ _ := fun h9 => c6_ (cI_eq.mpr h9)
              refine j_iconst hG dX12_isWord_143 ?_
              exact j_zret hG hZ dX12_isWord_144 (Nat.zero_le _) (Nat.zero_le _) (nar_zr (by omega)) (⟨⟨0, rfl, Or.inr ⟨rfl, Bool.eq_false_iff.mpr (fun q => by have q := (word_7 hs).mpr q; omega)⟩⟩, rfl⟩)
            · -- on at 136
              have c6_ := cI_eq.mp c6_
              refine j_iconst hG dX12_isWord_139 ?_
              refine j_goto (tgt := 144) hG dX12_isWord_140 (by decide) ?_
              exact j_zret hG hZ dX12_isWord_144 (Nat.zero_le _) (Nat.zero_le _) (nar_zr (by omega)) (⟨⟨1, rfl, Or.inl ⟨rfl, (word_7 hs).mp ⟨by omega, by omega⟩⟩⟩, rfl⟩)
  · -- on at 20
    exfalso; omega
theorem c_X12_isWord_8 {l : Launch} {E : JE} {f : Hp} {rg : Nat → Nat} {f0 : Hp} {m : Nat} {A : Nat → Nat} {V : Nat → Int} {G : Nat → Int → Int} {g : Int → Int} {len s : Int} (hW : MF E rg f0 f m A V G) (h47 : V 47 = soF g len s) (h48 : V 48 = woF g len s) (hs : 0 ≤ s ∧ s ≤ len) (hg : bOk g) : KX12_isWord l E [.ref m, .int (iZ (99)), .int (iZ (111)), .int (iZ (117)), .int (iZ (110)), .int (iZ (116)), .int (iZ (0))] f (fun v f' => (∃ z : Int, v = some (.int (iZ z)) ∧ ((z = 1 ∧ wrdB g len s 8 = true) ∨ (z = 0 ∧ wrdB g len s 8 = false))) ∧ f = f') := by
  refine ct_of (own := RX12) (lv := [(0, .ref m), (1, .int (iZ (99))), (2, .int (iZ (111))), (3, .int (iZ (117))), (4, .int (iZ (110))), (5, .int (iZ (116))), (6, .int (iZ (0)))]) (by decide +kernel) rfl (Nat.le_of_ble_eq_true rfl) rfl ?_
  intro G9 hG hZ
  have wr := wo_rng hg hs
  have sr := so_rng (g := g) (len := len) (s := s)
  refine j_iload_n hG dX12_isWord_0 rfl rfl ?_
  refine j_i2l hG dX12_isWord_1 (by omega) ?_
  refine j_ldc2 (z := 96) hG dX12_isWord_2 kX12_250 (by decide) ?_
  refine j_lsub hG dX12_isWord_5 ?_
  refine j_ldc2 (z := 32) hG dX12_isWord_6 kX12_248 (by decide) ?_
  refine j_lmul hG dX12_isWord_9 ?_
  refine j_iload_n hG dX12_isWord_10 rfl rfl ?_
  refine j_i2l hG dX12_isWord_11 (by omega) ?_
  refine j_ladd hG dX12_isWord_12 ?_
  refine j_ldc2 (z := 96) hG dX12_isWord_13 kX12_250 (by decide) ?_
  refine j_lsub hG dX12_isWord_16 ?_
  refine j_lstore (lv' := [(0, .ref m), (1, .int (iZ (99))), (2, .int (iZ (111))), (3, .int (iZ (117))), (4, .int (iZ (110))), (5, .int (iZ (116))), (6, .int (iZ (0))), (7, .long (lZ ((((99 - 96) * 32) + 111) - 96)))]) hG dX12_isWord_17 (by decide) rfl ?_
  refine j_iload_n hG dX12_isWord_19 rfl rfl ?_
  refine j_if_ne (tgt := 28) hG dX12_isWord_20 (by decide) (by omega) (fun c1_ => ?_) (fun c1_ => ?_)
  · -- taken at 20
    refine j_lload hG dX12_isWord_28 rfl ?_
    refine j_ldc2 (z := 32) hG dX12_isWord_30 kX12_248 (by decide) ?_
    refine j_lmul hG dX12_isWord_33 ?_
    refine j_iload_n hG dX12_isWord_34 rfl rfl ?_
    refine j_i2l hG dX12_isWord_35 (by omega) ?_
    refine j_ladd hG dX12_isWord_36 ?_
    refine j_ldc2 (z := 96) hG dX12_isWord_37 kX12_250 (by decide) ?_
    refine j_lsub hG dX12_isWord_40 ?_
    refine j_lstore (lv' := [(0, .ref m), (1, .int (iZ (99))), (2, .int (iZ (111))), (3, .int (iZ (117))), (4, .int (iZ (110))), (5, .int (iZ (116))), (6, .int (iZ (0))), (7, .long (lZ (((((((99 - 96) * 32) + 111) - 96) * 32) + 117) - 96)))]) hG dX12_isWord_41 (by decide) rfl ?_
    refine j_iload hG dX12_isWord_43 rfl ?_
    refine j_if_ne (tgt := 53) hG dX12_isWord_45 (by decide) (by omega) (fun c2_ => ?_) (fun c2_ => ?_)
    · -- taken at 45
      refine j_lload hG dX12_isWord_53 rfl ?_
      refine j_ldc2 (z := 32) hG dX12_isWord_55 kX12_248 (by decide) ?_
      refine j_lmul hG dX12_isWord_58 ?_
      refine j_iload hG dX12_isWord_59 rfl ?_
      refine j_i2l hG dX12_isWord_61 (by omega) ?_
      refine j_ladd hG dX12_isWord_62 ?_
      refine j_ldc2 (z := 96) hG dX12_isWord_63 kX12_250 (by decide) ?_
      refine j_lsub hG dX12_isWord_66 ?_
      refine j_lstore (lv' := [(0, .ref m), (1, .int (iZ (99))), (2, .int (iZ (111))), (3, .int (iZ (117))), (4, .int (iZ (110))), (5, .int (iZ (116))), (6, .int (iZ (0))), (7, .long (lZ ((((((((((99 - 96) * 32) + 111) - 96) * 32) + 117) - 96) * 32) + 110) - 96)))]) hG dX12_isWord_67 (by decide) rfl ?_
      refine j_iload hG dX12_isWord_69 rfl ?_
      refine j_if_ne (tgt := 79) hG dX12_isWord_71 (by decide) (by omega) (fun c3_ => ?_) (fun c3_ => ?_)
      · -- taken at 71
        refine j_lload hG dX12_isWord_79 rfl ?_
        refine j_ldc2 (z := 32) hG dX12_isWord_81 kX12_248 (by decide) ?_
        refine j_lmul hG dX12_isWord_84 ?_
        refine j_iload hG dX12_isWord_85 rfl ?_
        refine j_i2l hG dX12_isWord_87 (by omega) ?_
        refine j_ladd hG dX12_isWord_88 ?_
        refine j_ldc2 (z := 96) hG dX12_isWord_89 kX12_250 (by decide) ?_
        refine j_lsub hG dX12_isWord_92 ?_
        refine j_lstore (lv' := [(0, .ref m), (1, .int (iZ (99))), (2, .int (iZ (111))), (3, .int (iZ (117))), (4, .int (iZ (110))), (5, .int (iZ (116))), (6, .int (iZ (0))), (7, .long (lZ (((((((((((((99 - 96) * 32) + 111) - 96) * 32) + 117) - 96) * 32) + 110) - 96) * 32) + 116) - 96)))]) hG dX12_isWord_93 (by decide) rfl ?_
        refine j_iload hG dX12_isWord_95 rfl ?_
        refine j_if_ne (tgt := 105) hG dX12_isWord_97 (by decide) (by omega) (fun c4_ => ?_) (fun c4_ => ?_)
        · -- taken at 97
          exfalso; omega
        · -- on at 97
          refine j_lload hG dX12_isWord_100 rfl ?_
          refine j_goto (tgt := 119) hG dX12_isWord_102 (by decide) ?_
          refine j_lstore (lv' := [(0, .ref m), (1, .int (iZ (99))), (2, .int (iZ (111))), (3, .int (iZ (117))), (4, .int (iZ (110))), (5, .int (iZ (116))), (6, .int (iZ (0))), (7, .long (lZ (((((((((((((99 - 96) * 32) + 111) - 96) * 32) + 117) - 96) * 32) + 110) - 96) * 32) + 116) - 96)))]) hG dX12_isWord_119 (by decide) rfl ?_
          refine j_aload_n hG dX12_isWord_121 rfl rfl ?_
          refine j_get (v := .int (iZ (V 47))) hG fX12_245 dX12_isWord_122 hW.1 rfl ?_
          refine j_eq (show (V 47 : Int) = (soF g len s : Int) from h47) ?_
          refine j_iconst hG dX12_isWord_125 ?_
          refine j_icmp_ne (tgt := 143) hG dX12_isWord_126 (by decide) (by omega) (by omega) (fun c5_ => ?_) (fun c5_ => ?_)
          · -- taken at 126
            refine j_iconst hG dX12_isWord_143 ?_
            exact j_zret hG hZ dX12_isWord_144 (Nat.zero_le _) (Nat.zero_le _) (nar_zr (by omega)) (⟨⟨0, rfl, Or.inr ⟨rfl, Bool.eq_false_iff.mpr (fun q => by have q := (word_8 hs).mpr q; omega)⟩⟩, rfl⟩)
          · -- on at 126
            refine j_aload_n hG dX12_isWord_129 rfl rfl ?_
            refine j_get (v := .long (lZ (V 48))) hG fX12_235 dX12_isWord_130 hW.1 rfl ?_
            refine j_eqL (show (V 48 : Int) = (woF g len s : Int) from h48) ?_
            refine j_lload hG dX12_isWord_133 rfl ?_
            refine j_lcmp hG dX12_isWord_135 (by omega) (by omega) ?_
            refine j_if_ne (tgt := 143) hG dX12_isWord_136 (by decide) (by have h9 := cI_rng (woF g len s) (((((((((((((99 - 96) * 32) + 111) - 96) * 32) + 117) - 96) * 32) + 110) - 96) * 32) + 116) - 96); omega) (fun c6_ => ?_) (fun c6_ => ?_)
            · -- taken at 136
              have c6_ : ¬ _ := fun h9 => c6_ (cI_eq.mpr h9)
              refine j_iconst hG dX12_isWord_143 ?_
              exact j_zret hG hZ dX12_isWord_144 (Nat.zero_le _) (Nat.zero_le _) (nar_zr (by omega)) (⟨⟨0, rfl, Or.inr ⟨rfl, Bool.eq_false_iff.mpr (fun q => by have q := (word_8 hs).mpr q; omega)⟩⟩, rfl⟩)
            · -- on at 136
              have c6_ := cI_eq.mp c6_
              refine j_iconst hG dX12_isWord_139 ?_
              refine j_goto (tgt := 144) hG dX12_isWord_140 (by decide) ?_
              exact j_zret hG hZ dX12_isWord_144 (Nat.zero_le _) (Nat.zero_le _) (nar_zr (by omega)) (⟨⟨1, rfl, Or.inl ⟨rfl, (word_8 hs).mp ⟨by omega, by omega⟩⟩⟩, rfl⟩)
      · -- on at 71
        exfalso; omega
    · -- on at 45
      exfalso; omega
  · -- on at 20
    exfalso; omega
theorem c_X12_isWord_9 {l : Launch} {E : JE} {f : Hp} {rg : Nat → Nat} {f0 : Hp} {m : Nat} {A : Nat → Nat} {V : Nat → Int} {G : Nat → Int → Int} {g : Int → Int} {len s : Int} (hW : MF E rg f0 f m A V G) (h47 : V 47 = soF g len s) (h48 : V 48 = woF g len s) (hs : 0 ≤ s ∧ s ≤ len) (hg : bOk g) : KX12_isWord l E [.ref m, .int (iZ (109)), .int (iZ (97)), .int (iZ (120)), .int (iZ (0)), .int (iZ (0)), .int (iZ (0))] f (fun v f' => (∃ z : Int, v = some (.int (iZ z)) ∧ ((z = 1 ∧ wrdB g len s 9 = true) ∨ (z = 0 ∧ wrdB g len s 9 = false))) ∧ f = f') := by
  refine ct_of (own := RX12) (lv := [(0, .ref m), (1, .int (iZ (109))), (2, .int (iZ (97))), (3, .int (iZ (120))), (4, .int (iZ (0))), (5, .int (iZ (0))), (6, .int (iZ (0)))]) (by decide +kernel) rfl (Nat.le_of_ble_eq_true rfl) rfl ?_
  intro G9 hG hZ
  have wr := wo_rng hg hs
  have sr := so_rng (g := g) (len := len) (s := s)
  refine j_iload_n hG dX12_isWord_0 rfl rfl ?_
  refine j_i2l hG dX12_isWord_1 (by omega) ?_
  refine j_ldc2 (z := 96) hG dX12_isWord_2 kX12_250 (by decide) ?_
  refine j_lsub hG dX12_isWord_5 ?_
  refine j_ldc2 (z := 32) hG dX12_isWord_6 kX12_248 (by decide) ?_
  refine j_lmul hG dX12_isWord_9 ?_
  refine j_iload_n hG dX12_isWord_10 rfl rfl ?_
  refine j_i2l hG dX12_isWord_11 (by omega) ?_
  refine j_ladd hG dX12_isWord_12 ?_
  refine j_ldc2 (z := 96) hG dX12_isWord_13 kX12_250 (by decide) ?_
  refine j_lsub hG dX12_isWord_16 ?_
  refine j_lstore (lv' := [(0, .ref m), (1, .int (iZ (109))), (2, .int (iZ (97))), (3, .int (iZ (120))), (4, .int (iZ (0))), (5, .int (iZ (0))), (6, .int (iZ (0))), (7, .long (lZ ((((109 - 96) * 32) + 97) - 96)))]) hG dX12_isWord_17 (by decide) rfl ?_
  refine j_iload_n hG dX12_isWord_19 rfl rfl ?_
  refine j_if_ne (tgt := 28) hG dX12_isWord_20 (by decide) (by omega) (fun c1_ => ?_) (fun c1_ => ?_)
  · -- taken at 20
    refine j_lload hG dX12_isWord_28 rfl ?_
    refine j_ldc2 (z := 32) hG dX12_isWord_30 kX12_248 (by decide) ?_
    refine j_lmul hG dX12_isWord_33 ?_
    refine j_iload_n hG dX12_isWord_34 rfl rfl ?_
    refine j_i2l hG dX12_isWord_35 (by omega) ?_
    refine j_ladd hG dX12_isWord_36 ?_
    refine j_ldc2 (z := 96) hG dX12_isWord_37 kX12_250 (by decide) ?_
    refine j_lsub hG dX12_isWord_40 ?_
    refine j_lstore (lv' := [(0, .ref m), (1, .int (iZ (109))), (2, .int (iZ (97))), (3, .int (iZ (120))), (4, .int (iZ (0))), (5, .int (iZ (0))), (6, .int (iZ (0))), (7, .long (lZ (((((((109 - 96) * 32) + 97) - 96) * 32) + 120) - 96)))]) hG dX12_isWord_41 (by decide) rfl ?_
    refine j_iload hG dX12_isWord_43 rfl ?_
    refine j_if_ne (tgt := 53) hG dX12_isWord_45 (by decide) (by omega) (fun c2_ => ?_) (fun c2_ => ?_)
    · -- taken at 45
      exfalso; omega
    · -- on at 45
      refine j_lload hG dX12_isWord_48 rfl ?_
      refine j_goto (tgt := 67) hG dX12_isWord_50 (by decide) ?_
      refine j_lstore (lv' := [(0, .ref m), (1, .int (iZ (109))), (2, .int (iZ (97))), (3, .int (iZ (120))), (4, .int (iZ (0))), (5, .int (iZ (0))), (6, .int (iZ (0))), (7, .long (lZ (((((((109 - 96) * 32) + 97) - 96) * 32) + 120) - 96)))]) hG dX12_isWord_67 (by decide) rfl ?_
      refine j_iload hG dX12_isWord_69 rfl ?_
      refine j_if_ne (tgt := 79) hG dX12_isWord_71 (by decide) (by omega) (fun c3_ => ?_) (fun c3_ => ?_)
      · -- taken at 71
        exfalso; omega
      · -- on at 71
        refine j_lload hG dX12_isWord_74 rfl ?_
        refine j_goto (tgt := 93) hG dX12_isWord_76 (by decide) ?_
        refine j_lstore (lv' := [(0, .ref m), (1, .int (iZ (109))), (2, .int (iZ (97))), (3, .int (iZ (120))), (4, .int (iZ (0))), (5, .int (iZ (0))), (6, .int (iZ (0))), (7, .long (lZ (((((((109 - 96) * 32) + 97) - 96) * 32) + 120) - 96)))]) hG dX12_isWord_93 (by decide) rfl ?_
        refine j_iload hG dX12_isWord_95 rfl ?_
        refine j_if_ne (tgt := 105) hG dX12_isWord_97 (by decide) (by omega) (fun c4_ => ?_) (fun c4_ => ?_)
        · -- taken at 97
          exfalso; omega
        · -- on at 97
          refine j_lload hG dX12_isWord_100 rfl ?_
          refine j_goto (tgt := 119) hG dX12_isWord_102 (by decide) ?_
          refine j_lstore (lv' := [(0, .ref m), (1, .int (iZ (109))), (2, .int (iZ (97))), (3, .int (iZ (120))), (4, .int (iZ (0))), (5, .int (iZ (0))), (6, .int (iZ (0))), (7, .long (lZ (((((((109 - 96) * 32) + 97) - 96) * 32) + 120) - 96)))]) hG dX12_isWord_119 (by decide) rfl ?_
          refine j_aload_n hG dX12_isWord_121 rfl rfl ?_
          refine j_get (v := .int (iZ (V 47))) hG fX12_245 dX12_isWord_122 hW.1 rfl ?_
          refine j_eq (show (V 47 : Int) = (soF g len s : Int) from h47) ?_
          refine j_iconst hG dX12_isWord_125 ?_
          refine j_icmp_ne (tgt := 143) hG dX12_isWord_126 (by decide) (by omega) (by omega) (fun c5_ => ?_) (fun c5_ => ?_)
          · -- taken at 126
            refine j_iconst hG dX12_isWord_143 ?_
            exact j_zret hG hZ dX12_isWord_144 (Nat.zero_le _) (Nat.zero_le _) (nar_zr (by omega)) (⟨⟨0, rfl, Or.inr ⟨rfl, Bool.eq_false_iff.mpr (fun q => by have q := (word_9 hs).mpr q; omega)⟩⟩, rfl⟩)
          · -- on at 126
            refine j_aload_n hG dX12_isWord_129 rfl rfl ?_
            refine j_get (v := .long (lZ (V 48))) hG fX12_235 dX12_isWord_130 hW.1 rfl ?_
            refine j_eqL (show (V 48 : Int) = (woF g len s : Int) from h48) ?_
            refine j_lload hG dX12_isWord_133 rfl ?_
            refine j_lcmp hG dX12_isWord_135 (by omega) (by omega) ?_
            refine j_if_ne (tgt := 143) hG dX12_isWord_136 (by decide) (by have h9 := cI_rng (woF g len s) (((((((109 - 96) * 32) + 97) - 96) * 32) + 120) - 96); omega) (fun c6_ => ?_) (fun c6_ => ?_)
            · -- taken at 136
              have c6_ : ¬ _ := fun h9 => c6_ (cI_eq.mpr h9)
              refine j_iconst hG dX12_isWord_143 ?_
              exact j_zret hG hZ dX12_isWord_144 (Nat.zero_le _) (Nat.zero_le _) (nar_zr (by omega)) (⟨⟨0, rfl, Or.inr ⟨rfl, Bool.eq_false_iff.mpr (fun q => by have q := (word_9 hs).mpr q; omega)⟩⟩, rfl⟩)
            · -- on at 136
              have c6_ := cI_eq.mp c6_
              refine j_iconst hG dX12_isWord_139 ?_
              refine j_goto (tgt := 144) hG dX12_isWord_140 (by decide) ?_
              exact j_zret hG hZ dX12_isWord_144 (Nat.zero_le _) (Nat.zero_le _) (nar_zr (by omega)) (⟨⟨1, rfl, Or.inl ⟨rfl, (word_9 hs).mp ⟨by omega, by omega⟩⟩⟩, rfl⟩)
  · -- on at 20
    exfalso; omega
theorem c_X12_isWord_10 {l : Launch} {E : JE} {f : Hp} {rg : Nat → Nat} {f0 : Hp} {m : Nat} {A : Nat → Nat} {V : Nat → Int} {G : Nat → Int → Int} {g : Int → Int} {len s : Int} (hW : MF E rg f0 f m A V G) (h47 : V 47 = soF g len s) (h48 : V 48 = woF g len s) (hs : 0 ≤ s ∧ s ≤ len) (hg : bOk g) : KX12_isWord l E [.ref m, .int (iZ (108)), .int (iZ (97)), .int (iZ (115)), .int (iZ (116)), .int (iZ (0)), .int (iZ (0))] f (fun v f' => (∃ z : Int, v = some (.int (iZ z)) ∧ ((z = 1 ∧ wrdB g len s 10 = true) ∨ (z = 0 ∧ wrdB g len s 10 = false))) ∧ f = f') := by
  refine ct_of (own := RX12) (lv := [(0, .ref m), (1, .int (iZ (108))), (2, .int (iZ (97))), (3, .int (iZ (115))), (4, .int (iZ (116))), (5, .int (iZ (0))), (6, .int (iZ (0)))]) (by decide +kernel) rfl (Nat.le_of_ble_eq_true rfl) rfl ?_
  intro G9 hG hZ
  have wr := wo_rng hg hs
  have sr := so_rng (g := g) (len := len) (s := s)
  refine j_iload_n hG dX12_isWord_0 rfl rfl ?_
  refine j_i2l hG dX12_isWord_1 (by omega) ?_
  refine j_ldc2 (z := 96) hG dX12_isWord_2 kX12_250 (by decide) ?_
  refine j_lsub hG dX12_isWord_5 ?_
  refine j_ldc2 (z := 32) hG dX12_isWord_6 kX12_248 (by decide) ?_
  refine j_lmul hG dX12_isWord_9 ?_
  refine j_iload_n hG dX12_isWord_10 rfl rfl ?_
  refine j_i2l hG dX12_isWord_11 (by omega) ?_
  refine j_ladd hG dX12_isWord_12 ?_
  refine j_ldc2 (z := 96) hG dX12_isWord_13 kX12_250 (by decide) ?_
  refine j_lsub hG dX12_isWord_16 ?_
  refine j_lstore (lv' := [(0, .ref m), (1, .int (iZ (108))), (2, .int (iZ (97))), (3, .int (iZ (115))), (4, .int (iZ (116))), (5, .int (iZ (0))), (6, .int (iZ (0))), (7, .long (lZ ((((108 - 96) * 32) + 97) - 96)))]) hG dX12_isWord_17 (by decide) rfl ?_
  refine j_iload_n hG dX12_isWord_19 rfl rfl ?_
  refine j_if_ne (tgt := 28) hG dX12_isWord_20 (by decide) (by omega) (fun c1_ => ?_) (fun c1_ => ?_)
  · -- taken at 20
    refine j_lload hG dX12_isWord_28 rfl ?_
    refine j_ldc2 (z := 32) hG dX12_isWord_30 kX12_248 (by decide) ?_
    refine j_lmul hG dX12_isWord_33 ?_
    refine j_iload_n hG dX12_isWord_34 rfl rfl ?_
    refine j_i2l hG dX12_isWord_35 (by omega) ?_
    refine j_ladd hG dX12_isWord_36 ?_
    refine j_ldc2 (z := 96) hG dX12_isWord_37 kX12_250 (by decide) ?_
    refine j_lsub hG dX12_isWord_40 ?_
    refine j_lstore (lv' := [(0, .ref m), (1, .int (iZ (108))), (2, .int (iZ (97))), (3, .int (iZ (115))), (4, .int (iZ (116))), (5, .int (iZ (0))), (6, .int (iZ (0))), (7, .long (lZ (((((((108 - 96) * 32) + 97) - 96) * 32) + 115) - 96)))]) hG dX12_isWord_41 (by decide) rfl ?_
    refine j_iload hG dX12_isWord_43 rfl ?_
    refine j_if_ne (tgt := 53) hG dX12_isWord_45 (by decide) (by omega) (fun c2_ => ?_) (fun c2_ => ?_)
    · -- taken at 45
      refine j_lload hG dX12_isWord_53 rfl ?_
      refine j_ldc2 (z := 32) hG dX12_isWord_55 kX12_248 (by decide) ?_
      refine j_lmul hG dX12_isWord_58 ?_
      refine j_iload hG dX12_isWord_59 rfl ?_
      refine j_i2l hG dX12_isWord_61 (by omega) ?_
      refine j_ladd hG dX12_isWord_62 ?_
      refine j_ldc2 (z := 96) hG dX12_isWord_63 kX12_250 (by decide) ?_
      refine j_lsub hG dX12_isWord_66 ?_
      refine j_lstore (lv' := [(0, .ref m), (1, .int (iZ (108))), (2, .int (iZ (97))), (3, .int (iZ (115))), (4, .int (iZ (116))), (5, .int (iZ (0))), (6, .int (iZ (0))), (7, .long (lZ ((((((((((108 - 96) * 32) + 97) - 96) * 32) + 115) - 96) * 32) + 116) - 96)))]) hG dX12_isWord_67 (by decide) rfl ?_
      refine j_iload hG dX12_isWord_69 rfl ?_
      refine j_if_ne (tgt := 79) hG dX12_isWord_71 (by decide) (by omega) (fun c3_ => ?_) (fun c3_ => ?_)
      · -- taken at 71
        exfalso; omega
      · -- on at 71
        refine j_lload hG dX12_isWord_74 rfl ?_
        refine j_goto (tgt := 93) hG dX12_isWord_76 (by decide) ?_
        refine j_lstore (lv' := [(0, .ref m), (1, .int (iZ (108))), (2, .int (iZ (97))), (3, .int (iZ (115))), (4, .int (iZ (116))), (5, .int (iZ (0))), (6, .int (iZ (0))), (7, .long (lZ ((((((((((108 - 96) * 32) + 97) - 96) * 32) + 115) - 96) * 32) + 116) - 96)))]) hG dX12_isWord_93 (by decide) rfl ?_
        refine j_iload hG dX12_isWord_95 rfl ?_
        refine j_if_ne (tgt := 105) hG dX12_isWord_97 (by decide) (by omega) (fun c4_ => ?_) (fun c4_ => ?_)
        · -- taken at 97
          exfalso; omega
        · -- on at 97
          refine j_lload hG dX12_isWord_100 rfl ?_
          refine j_goto (tgt := 119) hG dX12_isWord_102 (by decide) ?_
          refine j_lstore (lv' := [(0, .ref m), (1, .int (iZ (108))), (2, .int (iZ (97))), (3, .int (iZ (115))), (4, .int (iZ (116))), (5, .int (iZ (0))), (6, .int (iZ (0))), (7, .long (lZ ((((((((((108 - 96) * 32) + 97) - 96) * 32) + 115) - 96) * 32) + 116) - 96)))]) hG dX12_isWord_119 (by decide) rfl ?_
          refine j_aload_n hG dX12_isWord_121 rfl rfl ?_
          refine j_get (v := .int (iZ (V 47))) hG fX12_245 dX12_isWord_122 hW.1 rfl ?_
          refine j_eq (show (V 47 : Int) = (soF g len s : Int) from h47) ?_
          refine j_iconst hG dX12_isWord_125 ?_
          refine j_icmp_ne (tgt := 143) hG dX12_isWord_126 (by decide) (by omega) (by omega) (fun c5_ => ?_) (fun c5_ => ?_)
          · -- taken at 126
            refine j_iconst hG dX12_isWord_143 ?_
            exact j_zret hG hZ dX12_isWord_144 (Nat.zero_le _) (Nat.zero_le _) (nar_zr (by omega)) (⟨⟨0, rfl, Or.inr ⟨rfl, Bool.eq_false_iff.mpr (fun q => by have q := (word_10 hs).mpr q; omega)⟩⟩, rfl⟩)
          · -- on at 126
            refine j_aload_n hG dX12_isWord_129 rfl rfl ?_
            refine j_get (v := .long (lZ (V 48))) hG fX12_235 dX12_isWord_130 hW.1 rfl ?_
            refine j_eqL (show (V 48 : Int) = (woF g len s : Int) from h48) ?_
            refine j_lload hG dX12_isWord_133 rfl ?_
            refine j_lcmp hG dX12_isWord_135 (by omega) (by omega) ?_
            refine j_if_ne (tgt := 143) hG dX12_isWord_136 (by decide) (by have h9 := cI_rng (woF g len s) ((((((((((108 - 96) * 32) + 97) - 96) * 32) + 115) - 96) * 32) + 116) - 96); omega) (fun c6_ => ?_) (fun c6_ => ?_)
            · -- taken at 136
              have c6_ : ¬ _ := fun h9 => c6_ (cI_eq.mpr h9)
              refine j_iconst hG dX12_isWord_143 ?_
              exact j_zret hG hZ dX12_isWord_144 (Nat.zero_le _) (Nat.zero_le _) (nar_zr (by omega)) (⟨⟨0, rfl, Or.inr ⟨rfl, Bool.eq_false_iff.mpr (fun q => by have q := (word_10 hs).mpr q; omega)⟩⟩, rfl⟩)
            · -- on at 136
              have c6_ := cI_eq.mp c6_
              refine j_iconst hG dX12_isWord_139 ?_
              refine j_goto (tgt := 144) hG dX12_isWord_140 (by decide) ?_
              exact j_zret hG hZ dX12_isWord_144 (Nat.zero_le _) (Nat.zero_le _) (nar_zr (by omega)) (⟨⟨1, rfl, Or.inl ⟨rfl, (word_10 hs).mp ⟨by omega, by omega⟩⟩⟩, rfl⟩)
    · -- on at 45
      exfalso; omega
  · -- on at 20
    exfalso; omega
theorem c_X12_isWord_11 {l : Launch} {E : JE} {f : Hp} {rg : Nat → Nat} {f0 : Hp} {m : Nat} {A : Nat → Nat} {V : Nat → Int} {G : Nat → Int → Int} {g : Int → Int} {len s : Int} (hW : MF E rg f0 f m A V G) (h47 : V 47 = soF g len s) (h48 : V 48 = woF g len s) (hs : 0 ≤ s ∧ s ≤ len) (hg : bOk g) : KX12_isWord l E [.ref m, .int (iZ (106)), .int (iZ (111)), .int (iZ (105)), .int (iZ (110)), .int (iZ (0)), .int (iZ (0))] f (fun v f' => (∃ z : Int, v = some (.int (iZ z)) ∧ ((z = 1 ∧ wrdB g len s 11 = true) ∨ (z = 0 ∧ wrdB g len s 11 = false))) ∧ f = f') := by
  refine ct_of (own := RX12) (lv := [(0, .ref m), (1, .int (iZ (106))), (2, .int (iZ (111))), (3, .int (iZ (105))), (4, .int (iZ (110))), (5, .int (iZ (0))), (6, .int (iZ (0)))]) (by decide +kernel) rfl (Nat.le_of_ble_eq_true rfl) rfl ?_
  intro G9 hG hZ
  have wr := wo_rng hg hs
  have sr := so_rng (g := g) (len := len) (s := s)
  refine j_iload_n hG dX12_isWord_0 rfl rfl ?_
  refine j_i2l hG dX12_isWord_1 (by omega) ?_
  refine j_ldc2 (z := 96) hG dX12_isWord_2 kX12_250 (by decide) ?_
  refine j_lsub hG dX12_isWord_5 ?_
  refine j_ldc2 (z := 32) hG dX12_isWord_6 kX12_248 (by decide) ?_
  refine j_lmul hG dX12_isWord_9 ?_
  refine j_iload_n hG dX12_isWord_10 rfl rfl ?_
  refine j_i2l hG dX12_isWord_11 (by omega) ?_
  refine j_ladd hG dX12_isWord_12 ?_
  refine j_ldc2 (z := 96) hG dX12_isWord_13 kX12_250 (by decide) ?_
  refine j_lsub hG dX12_isWord_16 ?_
  refine j_lstore (lv' := [(0, .ref m), (1, .int (iZ (106))), (2, .int (iZ (111))), (3, .int (iZ (105))), (4, .int (iZ (110))), (5, .int (iZ (0))), (6, .int (iZ (0))), (7, .long (lZ ((((106 - 96) * 32) + 111) - 96)))]) hG dX12_isWord_17 (by decide) rfl ?_
  refine j_iload_n hG dX12_isWord_19 rfl rfl ?_
  refine j_if_ne (tgt := 28) hG dX12_isWord_20 (by decide) (by omega) (fun c1_ => ?_) (fun c1_ => ?_)
  · -- taken at 20
    refine j_lload hG dX12_isWord_28 rfl ?_
    refine j_ldc2 (z := 32) hG dX12_isWord_30 kX12_248 (by decide) ?_
    refine j_lmul hG dX12_isWord_33 ?_
    refine j_iload_n hG dX12_isWord_34 rfl rfl ?_
    refine j_i2l hG dX12_isWord_35 (by omega) ?_
    refine j_ladd hG dX12_isWord_36 ?_
    refine j_ldc2 (z := 96) hG dX12_isWord_37 kX12_250 (by decide) ?_
    refine j_lsub hG dX12_isWord_40 ?_
    refine j_lstore (lv' := [(0, .ref m), (1, .int (iZ (106))), (2, .int (iZ (111))), (3, .int (iZ (105))), (4, .int (iZ (110))), (5, .int (iZ (0))), (6, .int (iZ (0))), (7, .long (lZ (((((((106 - 96) * 32) + 111) - 96) * 32) + 105) - 96)))]) hG dX12_isWord_41 (by decide) rfl ?_
    refine j_iload hG dX12_isWord_43 rfl ?_
    refine j_if_ne (tgt := 53) hG dX12_isWord_45 (by decide) (by omega) (fun c2_ => ?_) (fun c2_ => ?_)
    · -- taken at 45
      refine j_lload hG dX12_isWord_53 rfl ?_
      refine j_ldc2 (z := 32) hG dX12_isWord_55 kX12_248 (by decide) ?_
      refine j_lmul hG dX12_isWord_58 ?_
      refine j_iload hG dX12_isWord_59 rfl ?_
      refine j_i2l hG dX12_isWord_61 (by omega) ?_
      refine j_ladd hG dX12_isWord_62 ?_
      refine j_ldc2 (z := 96) hG dX12_isWord_63 kX12_250 (by decide) ?_
      refine j_lsub hG dX12_isWord_66 ?_
      refine j_lstore (lv' := [(0, .ref m), (1, .int (iZ (106))), (2, .int (iZ (111))), (3, .int (iZ (105))), (4, .int (iZ (110))), (5, .int (iZ (0))), (6, .int (iZ (0))), (7, .long (lZ ((((((((((106 - 96) * 32) + 111) - 96) * 32) + 105) - 96) * 32) + 110) - 96)))]) hG dX12_isWord_67 (by decide) rfl ?_
      refine j_iload hG dX12_isWord_69 rfl ?_
      refine j_if_ne (tgt := 79) hG dX12_isWord_71 (by decide) (by omega) (fun c3_ => ?_) (fun c3_ => ?_)
      · -- taken at 71
        exfalso; omega
      · -- on at 71
        refine j_lload hG dX12_isWord_74 rfl ?_
        refine j_goto (tgt := 93) hG dX12_isWord_76 (by decide) ?_
        refine j_lstore (lv' := [(0, .ref m), (1, .int (iZ (106))), (2, .int (iZ (111))), (3, .int (iZ (105))), (4, .int (iZ (110))), (5, .int (iZ (0))), (6, .int (iZ (0))), (7, .long (lZ ((((((((((106 - 96) * 32) + 111) - 96) * 32) + 105) - 96) * 32) + 110) - 96)))]) hG dX12_isWord_93 (by decide) rfl ?_
        refine j_iload hG dX12_isWord_95 rfl ?_
        refine j_if_ne (tgt := 105) hG dX12_isWord_97 (by decide) (by omega) (fun c4_ => ?_) (fun c4_ => ?_)
        · -- taken at 97
          exfalso; omega
        · -- on at 97
          refine j_lload hG dX12_isWord_100 rfl ?_
          refine j_goto (tgt := 119) hG dX12_isWord_102 (by decide) ?_
          refine j_lstore (lv' := [(0, .ref m), (1, .int (iZ (106))), (2, .int (iZ (111))), (3, .int (iZ (105))), (4, .int (iZ (110))), (5, .int (iZ (0))), (6, .int (iZ (0))), (7, .long (lZ ((((((((((106 - 96) * 32) + 111) - 96) * 32) + 105) - 96) * 32) + 110) - 96)))]) hG dX12_isWord_119 (by decide) rfl ?_
          refine j_aload_n hG dX12_isWord_121 rfl rfl ?_
          refine j_get (v := .int (iZ (V 47))) hG fX12_245 dX12_isWord_122 hW.1 rfl ?_
          refine j_eq (show (V 47 : Int) = (soF g len s : Int) from h47) ?_
          refine j_iconst hG dX12_isWord_125 ?_
          refine j_icmp_ne (tgt := 143) hG dX12_isWord_126 (by decide) (by omega) (by omega) (fun c5_ => ?_) (fun c5_ => ?_)
          · -- taken at 126
            refine j_iconst hG dX12_isWord_143 ?_
            exact j_zret hG hZ dX12_isWord_144 (Nat.zero_le _) (Nat.zero_le _) (nar_zr (by omega)) (⟨⟨0, rfl, Or.inr ⟨rfl, Bool.eq_false_iff.mpr (fun q => by have q := (word_11 hs).mpr q; omega)⟩⟩, rfl⟩)
          · -- on at 126
            refine j_aload_n hG dX12_isWord_129 rfl rfl ?_
            refine j_get (v := .long (lZ (V 48))) hG fX12_235 dX12_isWord_130 hW.1 rfl ?_
            refine j_eqL (show (V 48 : Int) = (woF g len s : Int) from h48) ?_
            refine j_lload hG dX12_isWord_133 rfl ?_
            refine j_lcmp hG dX12_isWord_135 (by omega) (by omega) ?_
            refine j_if_ne (tgt := 143) hG dX12_isWord_136 (by decide) (by have h9 := cI_rng (woF g len s) ((((((((((106 - 96) * 32) + 111) - 96) * 32) + 105) - 96) * 32) + 110) - 96); omega) (fun c6_ => ?_) (fun c6_ => ?_)
            · -- taken at 136
              have c6_ : ¬ _ := fun h9 => c6_ (cI_eq.mpr h9)
              refine j_iconst hG dX12_isWord_143 ?_
              exact j_zret hG hZ dX12_isWord_144 (Nat.zero_le _) (Nat.zero_le _) (nar_zr (by omega)) (⟨⟨0, rfl, Or.inr ⟨rfl, Bool.eq_false_iff.mpr (fun q => by have q := (word_11 hs).mpr q; omega)⟩⟩, rfl⟩)
            · -- on at 136
              have c6_ := cI_eq.mp c6_
              refine j_iconst hG dX12_isWord_139 ?_
              refine j_goto (tgt := 144) hG dX12_isWord_140 (by decide) ?_
              exact j_zret hG hZ dX12_isWord_144 (Nat.zero_le _) (Nat.zero_le _) (nar_zr (by omega)) (⟨⟨1, rfl, Or.inl ⟨rfl, (word_11 hs).mp ⟨by omega, by omega⟩⟩⟩, rfl⟩)
    · -- on at 45
      exfalso; omega
  · -- on at 20
    exfalso; omega
theorem c_X12_isWord_12 {l : Launch} {E : JE} {f : Hp} {rg : Nat → Nat} {f0 : Hp} {m : Nat} {A : Nat → Nat} {V : Nat → Int} {G : Nat → Int → Int} {g : Int → Int} {len s : Int} (hW : MF E rg f0 f m A V G) (h47 : V 47 = soF g len s) (h48 : V 48 = woF g len s) (hs : 0 ≤ s ∧ s ≤ len) (hg : bOk g) : KX12_isWord l E [.ref m, .int (iZ (108)), .int (iZ (101)), .int (iZ (115)), .int (iZ (115)), .int (iZ (0)), .int (iZ (0))] f (fun v f' => (∃ z : Int, v = some (.int (iZ z)) ∧ ((z = 1 ∧ wrdB g len s 12 = true) ∨ (z = 0 ∧ wrdB g len s 12 = false))) ∧ f = f') := by
  refine ct_of (own := RX12) (lv := [(0, .ref m), (1, .int (iZ (108))), (2, .int (iZ (101))), (3, .int (iZ (115))), (4, .int (iZ (115))), (5, .int (iZ (0))), (6, .int (iZ (0)))]) (by decide +kernel) rfl (Nat.le_of_ble_eq_true rfl) rfl ?_
  intro G9 hG hZ
  have wr := wo_rng hg hs
  have sr := so_rng (g := g) (len := len) (s := s)
  refine j_iload_n hG dX12_isWord_0 rfl rfl ?_
  refine j_i2l hG dX12_isWord_1 (by omega) ?_
  refine j_ldc2 (z := 96) hG dX12_isWord_2 kX12_250 (by decide) ?_
  refine j_lsub hG dX12_isWord_5 ?_
  refine j_ldc2 (z := 32) hG dX12_isWord_6 kX12_248 (by decide) ?_
  refine j_lmul hG dX12_isWord_9 ?_
  refine j_iload_n hG dX12_isWord_10 rfl rfl ?_
  refine j_i2l hG dX12_isWord_11 (by omega) ?_
  refine j_ladd hG dX12_isWord_12 ?_
  refine j_ldc2 (z := 96) hG dX12_isWord_13 kX12_250 (by decide) ?_
  refine j_lsub hG dX12_isWord_16 ?_
  refine j_lstore (lv' := [(0, .ref m), (1, .int (iZ (108))), (2, .int (iZ (101))), (3, .int (iZ (115))), (4, .int (iZ (115))), (5, .int (iZ (0))), (6, .int (iZ (0))), (7, .long (lZ ((((108 - 96) * 32) + 101) - 96)))]) hG dX12_isWord_17 (by decide) rfl ?_
  refine j_iload_n hG dX12_isWord_19 rfl rfl ?_
  refine j_if_ne (tgt := 28) hG dX12_isWord_20 (by decide) (by omega) (fun c1_ => ?_) (fun c1_ => ?_)
  · -- taken at 20
    refine j_lload hG dX12_isWord_28 rfl ?_
    refine j_ldc2 (z := 32) hG dX12_isWord_30 kX12_248 (by decide) ?_
    refine j_lmul hG dX12_isWord_33 ?_
    refine j_iload_n hG dX12_isWord_34 rfl rfl ?_
    refine j_i2l hG dX12_isWord_35 (by omega) ?_
    refine j_ladd hG dX12_isWord_36 ?_
    refine j_ldc2 (z := 96) hG dX12_isWord_37 kX12_250 (by decide) ?_
    refine j_lsub hG dX12_isWord_40 ?_
    refine j_lstore (lv' := [(0, .ref m), (1, .int (iZ (108))), (2, .int (iZ (101))), (3, .int (iZ (115))), (4, .int (iZ (115))), (5, .int (iZ (0))), (6, .int (iZ (0))), (7, .long (lZ (((((((108 - 96) * 32) + 101) - 96) * 32) + 115) - 96)))]) hG dX12_isWord_41 (by decide) rfl ?_
    refine j_iload hG dX12_isWord_43 rfl ?_
    refine j_if_ne (tgt := 53) hG dX12_isWord_45 (by decide) (by omega) (fun c2_ => ?_) (fun c2_ => ?_)
    · -- taken at 45
      refine j_lload hG dX12_isWord_53 rfl ?_
      refine j_ldc2 (z := 32) hG dX12_isWord_55 kX12_248 (by decide) ?_
      refine j_lmul hG dX12_isWord_58 ?_
      refine j_iload hG dX12_isWord_59 rfl ?_
      refine j_i2l hG dX12_isWord_61 (by omega) ?_
      refine j_ladd hG dX12_isWord_62 ?_
      refine j_ldc2 (z := 96) hG dX12_isWord_63 kX12_250 (by decide) ?_
      refine j_lsub hG dX12_isWord_66 ?_
      refine j_lstore (lv' := [(0, .ref m), (1, .int (iZ (108))), (2, .int (iZ (101))), (3, .int (iZ (115))), (4, .int (iZ (115))), (5, .int (iZ (0))), (6, .int (iZ (0))), (7, .long (lZ ((((((((((108 - 96) * 32) + 101) - 96) * 32) + 115) - 96) * 32) + 115) - 96)))]) hG dX12_isWord_67 (by decide) rfl ?_
      refine j_iload hG dX12_isWord_69 rfl ?_
      refine j_if_ne (tgt := 79) hG dX12_isWord_71 (by decide) (by omega) (fun c3_ => ?_) (fun c3_ => ?_)
      · -- taken at 71
        exfalso; omega
      · -- on at 71
        refine j_lload hG dX12_isWord_74 rfl ?_
        refine j_goto (tgt := 93) hG dX12_isWord_76 (by decide) ?_
        refine j_lstore (lv' := [(0, .ref m), (1, .int (iZ (108))), (2, .int (iZ (101))), (3, .int (iZ (115))), (4, .int (iZ (115))), (5, .int (iZ (0))), (6, .int (iZ (0))), (7, .long (lZ ((((((((((108 - 96) * 32) + 101) - 96) * 32) + 115) - 96) * 32) + 115) - 96)))]) hG dX12_isWord_93 (by decide) rfl ?_
        refine j_iload hG dX12_isWord_95 rfl ?_
        refine j_if_ne (tgt := 105) hG dX12_isWord_97 (by decide) (by omega) (fun c4_ => ?_) (fun c4_ => ?_)
        · -- taken at 97
          exfalso; omega
        · -- on at 97
          refine j_lload hG dX12_isWord_100 rfl ?_
          refine j_goto (tgt := 119) hG dX12_isWord_102 (by decide) ?_
          refine j_lstore (lv' := [(0, .ref m), (1, .int (iZ (108))), (2, .int (iZ (101))), (3, .int (iZ (115))), (4, .int (iZ (115))), (5, .int (iZ (0))), (6, .int (iZ (0))), (7, .long (lZ ((((((((((108 - 96) * 32) + 101) - 96) * 32) + 115) - 96) * 32) + 115) - 96)))]) hG dX12_isWord_119 (by decide) rfl ?_
          refine j_aload_n hG dX12_isWord_121 rfl rfl ?_
          refine j_get (v := .int (iZ (V 47))) hG fX12_245 dX12_isWord_122 hW.1 rfl ?_
          refine j_eq (show (V 47 : Int) = (soF g len s : Int) from h47) ?_
          refine j_iconst hG dX12_isWord_125 ?_
          refine j_icmp_ne (tgt := 143) hG dX12_isWord_126 (by decide) (by omega) (by omega) (fun c5_ => ?_) (fun c5_ => ?_)
          · -- taken at 126
            refine j_iconst hG dX12_isWord_143 ?_
            exact j_zret hG hZ dX12_isWord_144 (Nat.zero_le _) (Nat.zero_le _) (nar_zr (by omega)) (⟨⟨0, rfl, Or.inr ⟨rfl, Bool.eq_false_iff.mpr (fun q => by have q := (word_12 hs).mpr q; omega)⟩⟩, rfl⟩)
          · -- on at 126
            refine j_aload_n hG dX12_isWord_129 rfl rfl ?_
            refine j_get (v := .long (lZ (V 48))) hG fX12_235 dX12_isWord_130 hW.1 rfl ?_
            refine j_eqL (show (V 48 : Int) = (woF g len s : Int) from h48) ?_
            refine j_lload hG dX12_isWord_133 rfl ?_
            refine j_lcmp hG dX12_isWord_135 (by omega) (by omega) ?_
            refine j_if_ne (tgt := 143) hG dX12_isWord_136 (by decide) (by have h9 := cI_rng (woF g len s) ((((((((((108 - 96) * 32) + 101) - 96) * 32) + 115) - 96) * 32) + 115) - 96); omega) (fun c6_ => ?_) (fun c6_ => ?_)
            · -- taken at 136
              have c6_ : ¬ _ := fun h9 => c6_ (cI_eq.mpr h9)
              refine j_iconst hG dX12_isWord_143 ?_
              exact j_zret hG hZ dX12_isWord_144 (Nat.zero_le _) (Nat.zero_le _) (nar_zr (by omega)) (⟨⟨0, rfl, Or.inr ⟨rfl, Bool.eq_false_iff.mpr (fun q => by have q := (word_12 hs).mpr q; omega)⟩⟩, rfl⟩)
            · -- on at 136
              have c6_ := cI_eq.mp c6_
              refine j_iconst hG dX12_isWord_139 ?_
              refine j_goto (tgt := 144) hG dX12_isWord_140 (by decide) ?_
              exact j_zret hG hZ dX12_isWord_144 (Nat.zero_le _) (Nat.zero_le _) (nar_zr (by omega)) (⟨⟨1, rfl, Or.inl ⟨rfl, (word_12 hs).mp ⟨by omega, by omega⟩⟩⟩, rfl⟩)
    · -- on at 45
      exfalso; omega
  · -- on at 20
    exfalso; omega
theorem c_X12_isWord_13 {l : Launch} {E : JE} {f : Hp} {rg : Nat → Nat} {f0 : Hp} {m : Nat} {A : Nat → Nat} {V : Nat → Int} {G : Nat → Int → Int} {g : Int → Int} {len s : Int} (hW : MF E rg f0 f m A V G) (h47 : V 47 = soF g len s) (h48 : V 48 = woF g len s) (hs : 0 ≤ s ∧ s ≤ len) (hg : bOk g) : KX12_isWord l E [.ref m, .int (iZ (107)), .int (iZ (101)), .int (iZ (121)), .int (iZ (0)), .int (iZ (0)), .int (iZ (0))] f (fun v f' => (∃ z : Int, v = some (.int (iZ z)) ∧ ((z = 1 ∧ wrdB g len s 13 = true) ∨ (z = 0 ∧ wrdB g len s 13 = false))) ∧ f = f') := by
  refine ct_of (own := RX12) (lv := [(0, .ref m), (1, .int (iZ (107))), (2, .int (iZ (101))), (3, .int (iZ (121))), (4, .int (iZ (0))), (5, .int (iZ (0))), (6, .int (iZ (0)))]) (by decide +kernel) rfl (Nat.le_of_ble_eq_true rfl) rfl ?_
  intro G9 hG hZ
  have wr := wo_rng hg hs
  have sr := so_rng (g := g) (len := len) (s := s)
  refine j_iload_n hG dX12_isWord_0 rfl rfl ?_
  refine j_i2l hG dX12_isWord_1 (by omega) ?_
  refine j_ldc2 (z := 96) hG dX12_isWord_2 kX12_250 (by decide) ?_
  refine j_lsub hG dX12_isWord_5 ?_
  refine j_ldc2 (z := 32) hG dX12_isWord_6 kX12_248 (by decide) ?_
  refine j_lmul hG dX12_isWord_9 ?_
  refine j_iload_n hG dX12_isWord_10 rfl rfl ?_
  refine j_i2l hG dX12_isWord_11 (by omega) ?_
  refine j_ladd hG dX12_isWord_12 ?_
  refine j_ldc2 (z := 96) hG dX12_isWord_13 kX12_250 (by decide) ?_
  refine j_lsub hG dX12_isWord_16 ?_
  refine j_lstore (lv' := [(0, .ref m), (1, .int (iZ (107))), (2, .int (iZ (101))), (3, .int (iZ (121))), (4, .int (iZ (0))), (5, .int (iZ (0))), (6, .int (iZ (0))), (7, .long (lZ ((((107 - 96) * 32) + 101) - 96)))]) hG dX12_isWord_17 (by decide) rfl ?_
  refine j_iload_n hG dX12_isWord_19 rfl rfl ?_
  refine j_if_ne (tgt := 28) hG dX12_isWord_20 (by decide) (by omega) (fun c1_ => ?_) (fun c1_ => ?_)
  · -- taken at 20
    refine j_lload hG dX12_isWord_28 rfl ?_
    refine j_ldc2 (z := 32) hG dX12_isWord_30 kX12_248 (by decide) ?_
    refine j_lmul hG dX12_isWord_33 ?_
    refine j_iload_n hG dX12_isWord_34 rfl rfl ?_
    refine j_i2l hG dX12_isWord_35 (by omega) ?_
    refine j_ladd hG dX12_isWord_36 ?_
    refine j_ldc2 (z := 96) hG dX12_isWord_37 kX12_250 (by decide) ?_
    refine j_lsub hG dX12_isWord_40 ?_
    refine j_lstore (lv' := [(0, .ref m), (1, .int (iZ (107))), (2, .int (iZ (101))), (3, .int (iZ (121))), (4, .int (iZ (0))), (5, .int (iZ (0))), (6, .int (iZ (0))), (7, .long (lZ (((((((107 - 96) * 32) + 101) - 96) * 32) + 121) - 96)))]) hG dX12_isWord_41 (by decide) rfl ?_
    refine j_iload hG dX12_isWord_43 rfl ?_
    refine j_if_ne (tgt := 53) hG dX12_isWord_45 (by decide) (by omega) (fun c2_ => ?_) (fun c2_ => ?_)
    · -- taken at 45
      exfalso; omega
    · -- on at 45
      refine j_lload hG dX12_isWord_48 rfl ?_
      refine j_goto (tgt := 67) hG dX12_isWord_50 (by decide) ?_
      refine j_lstore (lv' := [(0, .ref m), (1, .int (iZ (107))), (2, .int (iZ (101))), (3, .int (iZ (121))), (4, .int (iZ (0))), (5, .int (iZ (0))), (6, .int (iZ (0))), (7, .long (lZ (((((((107 - 96) * 32) + 101) - 96) * 32) + 121) - 96)))]) hG dX12_isWord_67 (by decide) rfl ?_
      refine j_iload hG dX12_isWord_69 rfl ?_
      refine j_if_ne (tgt := 79) hG dX12_isWord_71 (by decide) (by omega) (fun c3_ => ?_) (fun c3_ => ?_)
      · -- taken at 71
        exfalso; omega
      · -- on at 71
        refine j_lload hG dX12_isWord_74 rfl ?_
        refine j_goto (tgt := 93) hG dX12_isWord_76 (by decide) ?_
        refine j_lstore (lv' := [(0, .ref m), (1, .int (iZ (107))), (2, .int (iZ (101))), (3, .int (iZ (121))), (4, .int (iZ (0))), (5, .int (iZ (0))), (6, .int (iZ (0))), (7, .long (lZ (((((((107 - 96) * 32) + 101) - 96) * 32) + 121) - 96)))]) hG dX12_isWord_93 (by decide) rfl ?_
        refine j_iload hG dX12_isWord_95 rfl ?_
        refine j_if_ne (tgt := 105) hG dX12_isWord_97 (by decide) (by omega) (fun c4_ => ?_) (fun c4_ => ?_)
        · -- taken at 97
          exfalso; omega
        · -- on at 97
          refine j_lload hG dX12_isWord_100 rfl ?_
          refine j_goto (tgt := 119) hG dX12_isWord_102 (by decide) ?_
          refine j_lstore (lv' := [(0, .ref m), (1, .int (iZ (107))), (2, .int (iZ (101))), (3, .int (iZ (121))), (4, .int (iZ (0))), (5, .int (iZ (0))), (6, .int (iZ (0))), (7, .long (lZ (((((((107 - 96) * 32) + 101) - 96) * 32) + 121) - 96)))]) hG dX12_isWord_119 (by decide) rfl ?_
          refine j_aload_n hG dX12_isWord_121 rfl rfl ?_
          refine j_get (v := .int (iZ (V 47))) hG fX12_245 dX12_isWord_122 hW.1 rfl ?_
          refine j_eq (show (V 47 : Int) = (soF g len s : Int) from h47) ?_
          refine j_iconst hG dX12_isWord_125 ?_
          refine j_icmp_ne (tgt := 143) hG dX12_isWord_126 (by decide) (by omega) (by omega) (fun c5_ => ?_) (fun c5_ => ?_)
          · -- taken at 126
            refine j_iconst hG dX12_isWord_143 ?_
            exact j_zret hG hZ dX12_isWord_144 (Nat.zero_le _) (Nat.zero_le _) (nar_zr (by omega)) (⟨⟨0, rfl, Or.inr ⟨rfl, Bool.eq_false_iff.mpr (fun q => by have q := (word_13 hs).mpr q; omega)⟩⟩, rfl⟩)
          · -- on at 126
            refine j_aload_n hG dX12_isWord_129 rfl rfl ?_
            refine j_get (v := .long (lZ (V 48))) hG fX12_235 dX12_isWord_130 hW.1 rfl ?_
            refine j_eqL (show (V 48 : Int) = (woF g len s : Int) from h48) ?_
            refine j_lload hG dX12_isWord_133 rfl ?_
            refine j_lcmp hG dX12_isWord_135 (by omega) (by omega) ?_
            refine j_if_ne (tgt := 143) hG dX12_isWord_136 (by decide) (by have h9 := cI_rng (woF g len s) (((((((107 - 96) * 32) + 101) - 96) * 32) + 121) - 96); omega) (fun c6_ => ?_) (fun c6_ => ?_)
            · -- taken at 136
              have c6_ : ¬ _ := fun h9 => c6_ (cI_eq.mpr h9)
              refine j_iconst hG dX12_isWord_143 ?_
              exact j_zret hG hZ dX12_isWord_144 (Nat.zero_le _) (Nat.zero_le _) (nar_zr (by omega)) (⟨⟨0, rfl, Or.inr ⟨rfl, Bool.eq_false_iff.mpr (fun q => by have q := (word_13 hs).mpr q; omega)⟩⟩, rfl⟩)
            · -- on at 136
              have c6_ := cI_eq.mp c6_
              refine j_iconst hG dX12_isWord_139 ?_
              refine j_goto (tgt := 144) hG dX12_isWord_140 (by decide) ?_
              exact j_zret hG hZ dX12_isWord_144 (Nat.zero_le _) (Nat.zero_le _) (nar_zr (by omega)) (⟨⟨1, rfl, Or.inl ⟨rfl, (word_13 hs).mp ⟨by omega, by omega⟩⟩⟩, rfl⟩)
  · -- on at 20
    exfalso; omega
theorem c_X12_isWord_14 {l : Launch} {E : JE} {f : Hp} {rg : Nat → Nat} {f0 : Hp} {m : Nat} {A : Nat → Nat} {V : Nat → Int} {G : Nat → Int → Int} {g : Int → Int} {len s : Int} (hW : MF E rg f0 f m A V G) (h47 : V 47 = soF g len s) (h48 : V 48 = woF g len s) (hs : 0 ≤ s ∧ s ≤ len) (hg : bOk g) : KX12_isWord l E [.ref m, .int (iZ (118)), .int (iZ (97)), .int (iZ (108)), .int (iZ (117)), .int (iZ (101)), .int (iZ (0))] f (fun v f' => (∃ z : Int, v = some (.int (iZ z)) ∧ ((z = 1 ∧ wrdB g len s 14 = true) ∨ (z = 0 ∧ wrdB g len s 14 = false))) ∧ f = f') := by
  refine ct_of (own := RX12) (lv := [(0, .ref m), (1, .int (iZ (118))), (2, .int (iZ (97))), (3, .int (iZ (108))), (4, .int (iZ (117))), (5, .int (iZ (101))), (6, .int (iZ (0)))]) (by decide +kernel) rfl (Nat.le_of_ble_eq_true rfl) rfl ?_
  intro G9 hG hZ
  have wr := wo_rng hg hs
  have sr := so_rng (g := g) (len := len) (s := s)
  refine j_iload_n hG dX12_isWord_0 rfl rfl ?_
  refine j_i2l hG dX12_isWord_1 (by omega) ?_
  refine j_ldc2 (z := 96) hG dX12_isWord_2 kX12_250 (by decide) ?_
  refine j_lsub hG dX12_isWord_5 ?_
  refine j_ldc2 (z := 32) hG dX12_isWord_6 kX12_248 (by decide) ?_
  refine j_lmul hG dX12_isWord_9 ?_
  refine j_iload_n hG dX12_isWord_10 rfl rfl ?_
  refine j_i2l hG dX12_isWord_11 (by omega) ?_
  refine j_ladd hG dX12_isWord_12 ?_
  refine j_ldc2 (z := 96) hG dX12_isWord_13 kX12_250 (by decide) ?_
  refine j_lsub hG dX12_isWord_16 ?_
  refine j_lstore (lv' := [(0, .ref m), (1, .int (iZ (118))), (2, .int (iZ (97))), (3, .int (iZ (108))), (4, .int (iZ (117))), (5, .int (iZ (101))), (6, .int (iZ (0))), (7, .long (lZ ((((118 - 96) * 32) + 97) - 96)))]) hG dX12_isWord_17 (by decide) rfl ?_
  refine j_iload_n hG dX12_isWord_19 rfl rfl ?_
  refine j_if_ne (tgt := 28) hG dX12_isWord_20 (by decide) (by omega) (fun c1_ => ?_) (fun c1_ => ?_)
  · -- taken at 20
    refine j_lload hG dX12_isWord_28 rfl ?_
    refine j_ldc2 (z := 32) hG dX12_isWord_30 kX12_248 (by decide) ?_
    refine j_lmul hG dX12_isWord_33 ?_
    refine j_iload_n hG dX12_isWord_34 rfl rfl ?_
    refine j_i2l hG dX12_isWord_35 (by omega) ?_
    refine j_ladd hG dX12_isWord_36 ?_
    refine j_ldc2 (z := 96) hG dX12_isWord_37 kX12_250 (by decide) ?_
    refine j_lsub hG dX12_isWord_40 ?_
    refine j_lstore (lv' := [(0, .ref m), (1, .int (iZ (118))), (2, .int (iZ (97))), (3, .int (iZ (108))), (4, .int (iZ (117))), (5, .int (iZ (101))), (6, .int (iZ (0))), (7, .long (lZ (((((((118 - 96) * 32) + 97) - 96) * 32) + 108) - 96)))]) hG dX12_isWord_41 (by decide) rfl ?_
    refine j_iload hG dX12_isWord_43 rfl ?_
    refine j_if_ne (tgt := 53) hG dX12_isWord_45 (by decide) (by omega) (fun c2_ => ?_) (fun c2_ => ?_)
    · -- taken at 45
      refine j_lload hG dX12_isWord_53 rfl ?_
      refine j_ldc2 (z := 32) hG dX12_isWord_55 kX12_248 (by decide) ?_
      refine j_lmul hG dX12_isWord_58 ?_
      refine j_iload hG dX12_isWord_59 rfl ?_
      refine j_i2l hG dX12_isWord_61 (by omega) ?_
      refine j_ladd hG dX12_isWord_62 ?_
      refine j_ldc2 (z := 96) hG dX12_isWord_63 kX12_250 (by decide) ?_
      refine j_lsub hG dX12_isWord_66 ?_
      refine j_lstore (lv' := [(0, .ref m), (1, .int (iZ (118))), (2, .int (iZ (97))), (3, .int (iZ (108))), (4, .int (iZ (117))), (5, .int (iZ (101))), (6, .int (iZ (0))), (7, .long (lZ ((((((((((118 - 96) * 32) + 97) - 96) * 32) + 108) - 96) * 32) + 117) - 96)))]) hG dX12_isWord_67 (by decide) rfl ?_
      refine j_iload hG dX12_isWord_69 rfl ?_
      refine j_if_ne (tgt := 79) hG dX12_isWord_71 (by decide) (by omega) (fun c3_ => ?_) (fun c3_ => ?_)
      · -- taken at 71
        refine j_lload hG dX12_isWord_79 rfl ?_
        refine j_ldc2 (z := 32) hG dX12_isWord_81 kX12_248 (by decide) ?_
        refine j_lmul hG dX12_isWord_84 ?_
        refine j_iload hG dX12_isWord_85 rfl ?_
        refine j_i2l hG dX12_isWord_87 (by omega) ?_
        refine j_ladd hG dX12_isWord_88 ?_
        refine j_ldc2 (z := 96) hG dX12_isWord_89 kX12_250 (by decide) ?_
        refine j_lsub hG dX12_isWord_92 ?_
        refine j_lstore (lv' := [(0, .ref m), (1, .int (iZ (118))), (2, .int (iZ (97))), (3, .int (iZ (108))), (4, .int (iZ (117))), (5, .int (iZ (101))), (6, .int (iZ (0))), (7, .long (lZ (((((((((((((118 - 96) * 32) + 97) - 96) * 32) + 108) - 96) * 32) + 117) - 96) * 32) + 101) - 96)))]) hG dX12_isWord_93 (by decide) rfl ?_
        refine j_iload hG dX12_isWord_95 rfl ?_
        refine j_if_ne (tgt := 105) hG dX12_isWord_97 (by decide) (by omega) (fun c4_ => ?_) (fun c4_ => ?_)
        · -- taken at 97
          exfalso; omega
        · -- on at 97
          refine j_lload hG dX12_isWord_100 rfl ?_
          refine j_goto (tgt := 119) hG dX12_isWord_102 (by decide) ?_
          refine j_lstore (lv' := [(0, .ref m), (1, .int (iZ (118))), (2, .int (iZ (97))), (3, .int (iZ (108))), (4, .int (iZ (117))), (5, .int (iZ (101))), (6, .int (iZ (0))), (7, .long (lZ (((((((((((((118 - 96) * 32) + 97) - 96) * 32) + 108) - 96) * 32) + 117) - 96) * 32) + 101) - 96)))]) hG dX12_isWord_119 (by decide) rfl ?_
          refine j_aload_n hG dX12_isWord_121 rfl rfl ?_
          refine j_get (v := .int (iZ (V 47))) hG fX12_245 dX12_isWord_122 hW.1 rfl ?_
          refine j_eq (show (V 47 : Int) = (soF g len s : Int) from h47) ?_
          refine j_iconst hG dX12_isWord_125 ?_
          refine j_icmp_ne (tgt := 143) hG dX12_isWord_126 (by decide) (by omega) (by omega) (fun c5_ => ?_) (fun c5_ => ?_)
          · -- taken at 126
            refine j_iconst hG dX12_isWord_143 ?_
            exact j_zret hG hZ dX12_isWord_144 (Nat.zero_le _) (Nat.zero_le _) (nar_zr (by omega)) (⟨⟨0, rfl, Or.inr ⟨rfl, Bool.eq_false_iff.mpr (fun q => by have q := (word_14 hs).mpr q; omega)⟩⟩, rfl⟩)
          · -- on at 126
            refine j_aload_n hG dX12_isWord_129 rfl rfl ?_
            refine j_get (v := .long (lZ (V 48))) hG fX12_235 dX12_isWord_130 hW.1 rfl ?_
            refine j_eqL (show (V 48 : Int) = (woF g len s : Int) from h48) ?_
            refine j_lload hG dX12_isWord_133 rfl ?_
            refine j_lcmp hG dX12_isWord_135 (by omega) (by omega) ?_
            refine j_if_ne (tgt := 143) hG dX12_isWord_136 (by decide) (by have h9 := cI_rng (woF g len s) (((((((((((((118 - 96) * 32) + 97) - 96) * 32) + 108) - 96) * 32) + 117) - 96) * 32) + 101) - 96); omega) (fun c6_ => ?_) (fun c6_ => ?_)
            · -- taken at 136
              have c6_ : ¬ _ := fun h9 => c6_ (cI_eq.mpr h9)
              refine j_iconst hG dX12_isWord_143 ?_
              exact j_zret hG hZ dX12_isWord_144 (Nat.zero_le _) (Nat.zero_le _) (nar_zr (by omega)) (⟨⟨0, rfl, Or.inr ⟨rfl, Bool.eq_false_iff.mpr (fun q => by have q := (word_14 hs).mpr q; omega)⟩⟩, rfl⟩)
            · -- on at 136
              have c6_ := cI_eq.mp c6_
              refine j_iconst hG dX12_isWord_139 ?_
              refine j_goto (tgt := 144) hG dX12_isWord_140 (by decide) ?_
              exact j_zret hG hZ dX12_isWord_144 (Nat.zero_le _) (Nat.zero_le _) (nar_zr (by omega)) (⟨⟨1, rfl, Or.inl ⟨rfl, (word_14 hs).mp ⟨by omega, by omega⟩⟩⟩, rfl⟩)
      · -- on at 71
        exfalso; omega
    · -- on at 45
      exfalso; omega
  · -- on at 20
    exfalso; omega
theorem c_X12_isWord_15 {l : Launch} {E : JE} {f : Hp} {rg : Nat → Nat} {f0 : Hp} {m : Nat} {A : Nat → Nat} {V : Nat → Int} {G : Nat → Int → Int} {g : Int → Int} {len s : Int} (hW : MF E rg f0 f m A V G) (h47 : V 47 = soF g len s) (h48 : V 48 = woF g len s) (hs : 0 ≤ s ∧ s ≤ len) (hg : bOk g) : KX12_isWord l E [.ref m, .int (iZ (116)), .int (iZ (105)), .int (iZ (109)), .int (iZ (101)), .int (iZ (0)), .int (iZ (0))] f (fun v f' => (∃ z : Int, v = some (.int (iZ z)) ∧ ((z = 1 ∧ wrdB g len s 15 = true) ∨ (z = 0 ∧ wrdB g len s 15 = false))) ∧ f = f') := by
  refine ct_of (own := RX12) (lv := [(0, .ref m), (1, .int (iZ (116))), (2, .int (iZ (105))), (3, .int (iZ (109))), (4, .int (iZ (101))), (5, .int (iZ (0))), (6, .int (iZ (0)))]) (by decide +kernel) rfl (Nat.le_of_ble_eq_true rfl) rfl ?_
  intro G9 hG hZ
  have wr := wo_rng hg hs
  have sr := so_rng (g := g) (len := len) (s := s)
  refine j_iload_n hG dX12_isWord_0 rfl rfl ?_
  refine j_i2l hG dX12_isWord_1 (by omega) ?_
  refine j_ldc2 (z := 96) hG dX12_isWord_2 kX12_250 (by decide) ?_
  refine j_lsub hG dX12_isWord_5 ?_
  refine j_ldc2 (z := 32) hG dX12_isWord_6 kX12_248 (by decide) ?_
  refine j_lmul hG dX12_isWord_9 ?_
  refine j_iload_n hG dX12_isWord_10 rfl rfl ?_
  refine j_i2l hG dX12_isWord_11 (by omega) ?_
  refine j_ladd hG dX12_isWord_12 ?_
  refine j_ldc2 (z := 96) hG dX12_isWord_13 kX12_250 (by decide) ?_
  refine j_lsub hG dX12_isWord_16 ?_
  refine j_lstore (lv' := [(0, .ref m), (1, .int (iZ (116))), (2, .int (iZ (105))), (3, .int (iZ (109))), (4, .int (iZ (101))), (5, .int (iZ (0))), (6, .int (iZ (0))), (7, .long (lZ ((((116 - 96) * 32) + 105) - 96)))]) hG dX12_isWord_17 (by decide) rfl ?_
  refine j_iload_n hG dX12_isWord_19 rfl rfl ?_
  refine j_if_ne (tgt := 28) hG dX12_isWord_20 (by decide) (by omega) (fun c1_ => ?_) (fun c1_ => ?_)
  · -- taken at 20
    refine j_lload hG dX12_isWord_28 rfl ?_
    refine j_ldc2 (z := 32) hG dX12_isWord_30 kX12_248 (by decide) ?_
    refine j_lmul hG dX12_isWord_33 ?_
    refine j_iload_n hG dX12_isWord_34 rfl rfl ?_
    refine j_i2l hG dX12_isWord_35 (by omega) ?_
    refine j_ladd hG dX12_isWord_36 ?_
    refine j_ldc2 (z := 96) hG dX12_isWord_37 kX12_250 (by decide) ?_
    refine j_lsub hG dX12_isWord_40 ?_
    refine j_lstore (lv' := [(0, .ref m), (1, .int (iZ (116))), (2, .int (iZ (105))), (3, .int (iZ (109))), (4, .int (iZ (101))), (5, .int (iZ (0))), (6, .int (iZ (0))), (7, .long (lZ (((((((116 - 96) * 32) + 105) - 96) * 32) + 109) - 96)))]) hG dX12_isWord_41 (by decide) rfl ?_
    refine j_iload hG dX12_isWord_43 rfl ?_
    refine j_if_ne (tgt := 53) hG dX12_isWord_45 (by decide) (by omega) (fun c2_ => ?_) (fun c2_ => ?_)
    · -- taken at 45
      refine j_lload hG dX12_isWord_53 rfl ?_
      refine j_ldc2 (z := 32) hG dX12_isWord_55 kX12_248 (by decide) ?_
      refine j_lmul hG dX12_isWord_58 ?_
      refine j_iload hG dX12_isWord_59 rfl ?_
      refine j_i2l hG dX12_isWord_61 (by omega) ?_
      refine j_ladd hG dX12_isWord_62 ?_
      refine j_ldc2 (z := 96) hG dX12_isWord_63 kX12_250 (by decide) ?_
      refine j_lsub hG dX12_isWord_66 ?_
      refine j_lstore (lv' := [(0, .ref m), (1, .int (iZ (116))), (2, .int (iZ (105))), (3, .int (iZ (109))), (4, .int (iZ (101))), (5, .int (iZ (0))), (6, .int (iZ (0))), (7, .long (lZ ((((((((((116 - 96) * 32) + 105) - 96) * 32) + 109) - 96) * 32) + 101) - 96)))]) hG dX12_isWord_67 (by decide) rfl ?_
      refine j_iload hG dX12_isWord_69 rfl ?_
      refine j_if_ne (tgt := 79) hG dX12_isWord_71 (by decide) (by omega) (fun c3_ => ?_) (fun c3_ => ?_)
      · -- taken at 71
        exfalso; omega
      · -- on at 71
        refine j_lload hG dX12_isWord_74 rfl ?_
        refine j_goto (tgt := 93) hG dX12_isWord_76 (by decide) ?_
        refine j_lstore (lv' := [(0, .ref m), (1, .int (iZ (116))), (2, .int (iZ (105))), (3, .int (iZ (109))), (4, .int (iZ (101))), (5, .int (iZ (0))), (6, .int (iZ (0))), (7, .long (lZ ((((((((((116 - 96) * 32) + 105) - 96) * 32) + 109) - 96) * 32) + 101) - 96)))]) hG dX12_isWord_93 (by decide) rfl ?_
        refine j_iload hG dX12_isWord_95 rfl ?_
        refine j_if_ne (tgt := 105) hG dX12_isWord_97 (by decide) (by omega) (fun c4_ => ?_) (fun c4_ => ?_)
        · -- taken at 97
          exfalso; omega
        · -- on at 97
          refine j_lload hG dX12_isWord_100 rfl ?_
          refine j_goto (tgt := 119) hG dX12_isWord_102 (by decide) ?_
          refine j_lstore (lv' := [(0, .ref m), (1, .int (iZ (116))), (2, .int (iZ (105))), (3, .int (iZ (109))), (4, .int (iZ (101))), (5, .int (iZ (0))), (6, .int (iZ (0))), (7, .long (lZ ((((((((((116 - 96) * 32) + 105) - 96) * 32) + 109) - 96) * 32) + 101) - 96)))]) hG dX12_isWord_119 (by decide) rfl ?_
          refine j_aload_n hG dX12_isWord_121 rfl rfl ?_
          refine j_get (v := .int (iZ (V 47))) hG fX12_245 dX12_isWord_122 hW.1 rfl ?_
          refine j_eq (show (V 47 : Int) = (soF g len s : Int) from h47) ?_
          refine j_iconst hG dX12_isWord_125 ?_
          refine j_icmp_ne (tgt := 143) hG dX12_isWord_126 (by decide) (by omega) (by omega) (fun c5_ => ?_) (fun c5_ => ?_)
          · -- taken at 126
            refine j_iconst hG dX12_isWord_143 ?_
            exact j_zret hG hZ dX12_isWord_144 (Nat.zero_le _) (Nat.zero_le _) (nar_zr (by omega)) (⟨⟨0, rfl, Or.inr ⟨rfl, Bool.eq_false_iff.mpr (fun q => by have q := (word_15 hs).mpr q; omega)⟩⟩, rfl⟩)
          · -- on at 126
            refine j_aload_n hG dX12_isWord_129 rfl rfl ?_
            refine j_get (v := .long (lZ (V 48))) hG fX12_235 dX12_isWord_130 hW.1 rfl ?_
            refine j_eqL (show (V 48 : Int) = (woF g len s : Int) from h48) ?_
            refine j_lload hG dX12_isWord_133 rfl ?_
            refine j_lcmp hG dX12_isWord_135 (by omega) (by omega) ?_
            refine j_if_ne (tgt := 143) hG dX12_isWord_136 (by decide) (by have h9 := cI_rng (woF g len s) ((((((((((116 - 96) * 32) + 105) - 96) * 32) + 109) - 96) * 32) + 101) - 96); omega) (fun c6_ => ?_) (fun c6_ => ?_)
            · -- taken at 136
              have c6_ : ¬ _ := fun h9 => c6_ (cI_eq.mpr h9)
              refine j_iconst hG dX12_isWord_143 ?_
              exact j_zret hG hZ dX12_isWord_144 (Nat.zero_le _) (Nat.zero_le _) (nar_zr (by omega)) (⟨⟨0, rfl, Or.inr ⟨rfl, Bool.eq_false_iff.mpr (fun q => by have q := (word_15 hs).mpr q; omega)⟩⟩, rfl⟩)
            · -- on at 136
              have c6_ := cI_eq.mp c6_
              refine j_iconst hG dX12_isWord_139 ?_
              refine j_goto (tgt := 144) hG dX12_isWord_140 (by decide) ?_
              exact j_zret hG hZ dX12_isWord_144 (Nat.zero_le _) (Nat.zero_le _) (nar_zr (by omega)) (⟨⟨1, rfl, Or.inl ⟨rfl, (word_15 hs).mp ⟨by omega, by omega⟩⟩⟩, rfl⟩)
    · -- on at 45
      exfalso; omega
  · -- on at 20
    exfalso; omega
theorem kd_at {g : Int → Int} {len s : Int} : ∀ (n i k : Nat), k < n → (∀ j : Nat, j < k → wrdB g len s (i + j) = false) → wrdB g len s (i + k) = true → kdFrom g len s n i = ((i + k : Nat) : Int)
  | 0, _, _, h, _, _ => absurd h (Nat.not_lt_zero _)
  | n + 1, i, 0, _, _, h => by
    have h2 : wrdB g len s i = true := h
    unfold kdFrom; rw [if_pos h2]; rfl
  | n + 1, i, k + 1, hk, h1, h => by
    unfold kdFrom
    rw [if_neg (by rw [show i = i + 0 from rfl, h1 0 (by omega)]; decide)]
    have := kd_at n (i + 1) k (by omega) (fun j hj => by rw [show i + 1 + j = i + (j + 1) by omega]; exact h1 (j + 1) (by omega)) (by rw [show i + 1 + k = i + (k + 1) by omega]; exact h)
    rw [this, show i + 1 + k = i + (k + 1) by omega]
theorem kd_no {g : Int → Int} {len s : Int} : ∀ (n i : Nat), (∀ j : Nat, j < n → wrdB g len s (i + j) = false) → kdFrom g len s n i = -1
  | 0, _, _ => rfl
  | n + 1, i, h => by
    unfold kdFrom
    rw [if_neg (by rw [show i = i + 0 from rfl, h 0 (by omega)]; decide)]
    exact kd_no n (i + 1) (fun j hj => by rw [show i + 1 + j = i + (j + 1) by omega]; exact h (j + 1) (by omega))
theorem c_X12_kindAt {l : Launch} {E : JE} {f : Hp} {rg : Nat → Nat} {f0 : Hp} {m : Nat} {A : Nat → Nat} {V : Nat → Int} {G : Nat → Int → Int} {g : Int → Int} {len : Int} {S : T3} (hW : MF E rg f0 f m A V G) (hg : bOk g) (ht : tk V g len S) : KX12_kindAt l E [.ref m] f (fun v f' => v = some (.int (iZ (kdF g len S.1))) ∧ f = f') := by
  refine ct_of (own := RX12) (lv := [(0, .ref m)]) (by decide +kernel) rfl (Nat.le_of_ble_eq_true rfl) rfl ?_
  intro G9 hG hZ
  refine j_aload_n hG dX12_kindAt_0 rfl rfl ?_
  refine j_bipush hG dX12_kindAt_1 (by decide) ?_
  refine j_bipush hG dX12_kindAt_3 (by decide) ?_
  refine j_bipush hG dX12_kindAt_5 (by decide) ?_
  refine j_bipush hG dX12_kindAt_7 (by decide) ?_
  refine j_bipush hG dX12_kindAt_9 (by decide) ?_
  refine j_bipush hG dX12_kindAt_11 (by decide) ?_
  refine j_callV (rest := []) hG vX12_276 dX12_kindAt_13 (c_X12_isWord_0 (g := g) (len := len) (s := S.1) hW ht.1.2.2.1 ht.1.2.2.2 ht.2.2.2.2 hg) hW.1 rfl rfl (by decide) (by decide) (Nat.le_of_ble_eq_true rfl) rfl rfl (Nat.zero_le _) (Nat.zero_le _) ?_
  rintro _ _ ⟨⟨z1_, rfl, hz2_⟩, rfl⟩
  refine j_st (st' := [.int (iZ (z1_))]) rfl ?_
  refine j_if_ne (tgt := 54) hG dX12_kindAt_16 (by decide) (by omega) (fun c5_ => ?_) (fun c5_ => ?_)
  · -- taken at 16
    obtain ⟨-, e3_⟩ := hz2_.resolve_right (fun h => absurd h.1 (by omega))
    refine j_aload_n hG dX12_kindAt_54 rfl rfl ?_
    refine j_bipush hG dX12_kindAt_55 (by decide) ?_
    refine j_bipush hG dX12_kindAt_57 (by decide) ?_
    refine j_bipush hG dX12_kindAt_59 (by decide) ?_
    refine j_bipush hG dX12_kindAt_61 (by decide) ?_
    refine j_bipush hG dX12_kindAt_63 (by decide) ?_
    refine j_bipush hG dX12_kindAt_65 (by decide) ?_
    refine j_callV (rest := []) hG vX12_276 dX12_kindAt_67 (c_X12_isWord_0 (g := g) (len := len) (s := S.1) hW ht.1.2.2.1 ht.1.2.2.2 ht.2.2.2.2 hg) hW.1 rfl rfl (by decide) (by decide) (Nat.le_of_ble_eq_true rfl) rfl rfl (Nat.zero_le _) (Nat.zero_le _) ?_
    rintro _ _ ⟨⟨z6_, rfl, hz7_⟩, rfl⟩
    obtain rfl : z6_ = 1 := by rcases hz7_ with q | q; exact q.1; exact absurd (q.2.symm.trans e3_) (by decide)
    refine j_st (st' := [.int (iZ (1))]) rfl ?_
    refine j_if_eq (tgt := 77) hG dX12_kindAt_70 (by decide) (by omega) (fun c10_ => ?_) (fun c10_ => ?_)
    · -- taken at 70
      exfalso; omega
    · -- on at 70
      refine j_iconst hG dX12_kindAt_73 ?_
      refine j_goto (tgt := 100) hG dX12_kindAt_74 (by decide) ?_
      have e9 : kdF g len S.1 = 0 := kd_at 13 0 0 (by decide) (fun j hj => absurd hj (Nat.not_lt_zero j)) e3_
      exact j_iret hG hZ dX12_kindAt_100 (Nat.zero_le _) (Nat.zero_le _) (⟨by rw [e9], rfl⟩)
  · -- on at 16
    obtain ⟨-, e4_⟩ := hz2_.resolve_left (fun h => absurd h.1 (by omega))
    refine j_aload_n hG dX12_kindAt_19 rfl rfl ?_
    refine j_bipush hG dX12_kindAt_20 (by decide) ?_
    refine j_bipush hG dX12_kindAt_22 (by decide) ?_
    refine j_bipush hG dX12_kindAt_24 (by decide) ?_
    refine j_bipush hG dX12_kindAt_26 (by decide) ?_
    refine j_bipush hG dX12_kindAt_28 (by decide) ?_
    refine j_iconst hG dX12_kindAt_30 ?_
    refine j_callV (rest := []) hG vX12_276 dX12_kindAt_31 (c_X12_isWord_1 (g := g) (len := len) (s := S.1) hW ht.1.2.2.1 ht.1.2.2.2 ht.2.2.2.2 hg) hW.1 rfl rfl (by decide) (by decide) (Nat.le_of_ble_eq_true rfl) rfl rfl (Nat.zero_le _) (Nat.zero_le _) ?_
    rintro _ _ ⟨⟨z11_, rfl, hz12_⟩, rfl⟩
    refine j_st (st' := [.int (iZ (z11_))]) rfl ?_
    refine j_if_ne (tgt := 54) hG dX12_kindAt_34 (by decide) (by omega) (fun c15_ => ?_) (fun c15_ => ?_)
    · -- taken at 34
      obtain ⟨-, e13_⟩ := hz12_.resolve_right (fun h => absurd h.1 (by omega))
      refine j_aload_n hG dX12_kindAt_54 rfl rfl ?_
      refine j_bipush hG dX12_kindAt_55 (by decide) ?_
      refine j_bipush hG dX12_kindAt_57 (by decide) ?_
      refine j_bipush hG dX12_kindAt_59 (by decide) ?_
      refine j_bipush hG dX12_kindAt_61 (by decide) ?_
      refine j_bipush hG dX12_kindAt_63 (by decide) ?_
      refine j_bipush hG dX12_kindAt_65 (by decide) ?_
      refine j_callV (rest := []) hG vX12_276 dX12_kindAt_67 (c_X12_isWord_0 (g := g) (len := len) (s := S.1) hW ht.1.2.2.1 ht.1.2.2.2 ht.2.2.2.2 hg) hW.1 rfl rfl (by decide) (by decide) (Nat.le_of_ble_eq_true rfl) rfl rfl (Nat.zero_le _) (Nat.zero_le _) ?_
      rintro _ _ ⟨⟨z16_, rfl, hz17_⟩, rfl⟩
      obtain rfl : z16_ = 0 := by rcases hz17_ with q | q; exact absurd (q.2.symm.trans e4_) (by decide); exact q.1
      refine j_st (st' := [.int (iZ (0))]) rfl ?_
      refine j_if_eq (tgt := 77) hG dX12_kindAt_70 (by decide) (by omega) (fun c20_ => ?_) (fun c20_ => ?_)
      · -- taken at 70
        refine j_aload_n hG dX12_kindAt_77 rfl rfl ?_
        refine j_bipush hG dX12_kindAt_78 (by decide) ?_
        refine j_bipush hG dX12_kindAt_80 (by decide) ?_
        refine j_bipush hG dX12_kindAt_82 (by decide) ?_
        refine j_bipush hG dX12_kindAt_84 (by decide) ?_
        refine j_bipush hG dX12_kindAt_86 (by decide) ?_
        refine j_iconst hG dX12_kindAt_88 ?_
        refine j_callV (rest := []) hG vX12_276 dX12_kindAt_89 (c_X12_isWord_1 (g := g) (len := len) (s := S.1) hW ht.1.2.2.1 ht.1.2.2.2 ht.2.2.2.2 hg) hW.1 rfl rfl (by decide) (by decide) (Nat.le_of_ble_eq_true rfl) rfl rfl (Nat.zero_le _) (Nat.zero_le _) ?_
        rintro _ _ ⟨⟨z21_, rfl, hz22_⟩, rfl⟩
        obtain rfl : z21_ = 1 := by rcases hz22_ with q | q; exact q.1; exact absurd (q.2.symm.trans e13_) (by decide)
        refine j_st (st' := [.int (iZ (1))]) rfl ?_
        refine j_if_eq (tgt := 99) hG dX12_kindAt_92 (by decide) (by omega) (fun c25_ => ?_) (fun c25_ => ?_)
        · -- taken at 92
          exfalso; omega
        · -- on at 92
          refine j_iconst hG dX12_kindAt_95 ?_
          refine j_goto (tgt := 100) hG dX12_kindAt_96 (by decide) ?_
          have e9 : kdF g len S.1 = 1 := kd_at 13 0 1 (by decide) (fun j hj => by rcases (show j = 0 by omega) with rfl; exact e4_) e13_
          exact j_iret hG hZ dX12_kindAt_100 (Nat.zero_le _) (Nat.zero_le _) (⟨by rw [e9], rfl⟩)
      · -- on at 70
        exfalso; omega
    · -- on at 34
      obtain ⟨-, e14_⟩ := hz12_.resolve_left (fun h => absurd h.1 (by omega))
      refine j_aload_n hG dX12_kindAt_37 rfl rfl ?_
      refine j_bipush hG dX12_kindAt_38 (by decide) ?_
      refine j_bipush hG dX12_kindAt_40 (by decide) ?_
      refine j_bipush hG dX12_kindAt_42 (by decide) ?_
      refine j_bipush hG dX12_kindAt_44 (by decide) ?_
      refine j_iconst hG dX12_kindAt_46 ?_
      refine j_iconst hG dX12_kindAt_47 ?_
      refine j_callV (rest := []) hG vX12_276 dX12_kindAt_48 (c_X12_isWord_2 (g := g) (len := len) (s := S.1) hW ht.1.2.2.1 ht.1.2.2.2 ht.2.2.2.2 hg) hW.1 rfl rfl (by decide) (by decide) (Nat.le_of_ble_eq_true rfl) rfl rfl (Nat.zero_le _) (Nat.zero_le _) ?_
      rintro _ _ ⟨⟨z26_, rfl, hz27_⟩, rfl⟩
      refine j_st (st' := [.int (iZ (z26_))]) rfl ?_
      refine j_if_eq (tgt := 101) hG dX12_kindAt_51 (by decide) (by omega) (fun c30_ => ?_) (fun c30_ => ?_)
      · -- taken at 51
        obtain ⟨-, e29_⟩ := hz27_.resolve_left (fun h => absurd h.1 (by omega))
        refine j_aload_n hG dX12_kindAt_101 rfl rfl ?_
        refine j_bipush hG dX12_kindAt_102 (by decide) ?_
        refine j_bipush hG dX12_kindAt_104 (by decide) ?_
        refine j_bipush hG dX12_kindAt_106 (by decide) ?_
        refine j_bipush hG dX12_kindAt_108 (by decide) ?_
        refine j_bipush hG dX12_kindAt_110 (by decide) ?_
        refine j_iconst hG dX12_kindAt_112 ?_
        refine j_callV (rest := []) hG vX12_276 dX12_kindAt_113 (c_X12_isWord_3 (g := g) (len := len) (s := S.1) hW ht.1.2.2.1 ht.1.2.2.2 ht.2.2.2.2 hg) hW.1 rfl rfl (by decide) (by decide) (Nat.le_of_ble_eq_true rfl) rfl rfl (Nat.zero_le _) (Nat.zero_le _) ?_
        rintro _ _ ⟨⟨z31_, rfl, hz32_⟩, rfl⟩
        refine j_st (st' := [.int (iZ (z31_))]) rfl ?_
        refine j_if_ne (tgt := 156) hG dX12_kindAt_116 (by decide) (by omega) (fun c35_ => ?_) (fun c35_ => ?_)
        · -- taken at 116
          obtain ⟨-, e33_⟩ := hz32_.resolve_right (fun h => absurd h.1 (by omega))
          refine j_aload_n hG dX12_kindAt_156 rfl rfl ?_
          refine j_bipush hG dX12_kindAt_157 (by decide) ?_
          refine j_bipush hG dX12_kindAt_159 (by decide) ?_
          refine j_bipush hG dX12_kindAt_161 (by decide) ?_
          refine j_bipush hG dX12_kindAt_163 (by decide) ?_
          refine j_bipush hG dX12_kindAt_165 (by decide) ?_
          refine j_iconst hG dX12_kindAt_167 ?_
          refine j_callV (rest := []) hG vX12_276 dX12_kindAt_168 (c_X12_isWord_3 (g := g) (len := len) (s := S.1) hW ht.1.2.2.1 ht.1.2.2.2 ht.2.2.2.2 hg) hW.1 rfl rfl (by decide) (by decide) (Nat.le_of_ble_eq_true rfl) rfl rfl (Nat.zero_le _) (Nat.zero_le _) ?_
          rintro _ _ ⟨⟨z36_, rfl, hz37_⟩, rfl⟩
          obtain rfl : z36_ = 1 := by rcases hz37_ with q | q; exact q.1; exact absurd (q.2.symm.trans e33_) (by decide)
          refine j_st (st' := [.int (iZ (1))]) rfl ?_
          refine j_if_eq (tgt := 178) hG dX12_kindAt_171 (by decide) (by omega) (fun c40_ => ?_) (fun c40_ => ?_)
          · -- taken at 171
            exfalso; omega
          · -- on at 171
            refine j_iconst hG dX12_kindAt_174 ?_
            refine j_goto (tgt := 201) hG dX12_kindAt_175 (by decide) ?_
            have e9 : kdF g len S.1 = 3 := kd_at 13 0 3 (by decide) (fun j hj => by rcases (show j = 0 ∨ j = 1 ∨ j = 2 by omega) with rfl | rfl | rfl; exact e4_; exact e14_; exact e29_) e33_
            exact j_iret hG hZ dX12_kindAt_201 (Nat.zero_le _) (Nat.zero_le _) (⟨by rw [e9], rfl⟩)
        · -- on at 116
          obtain ⟨-, e34_⟩ := hz32_.resolve_left (fun h => absurd h.1 (by omega))
          refine j_aload_n hG dX12_kindAt_119 rfl rfl ?_
          refine j_bipush hG dX12_kindAt_120 (by decide) ?_
          refine j_bipush hG dX12_kindAt_122 (by decide) ?_
          refine j_bipush hG dX12_kindAt_124 (by decide) ?_
          refine j_bipush hG dX12_kindAt_126 (by decide) ?_
          refine j_bipush hG dX12_kindAt_128 (by decide) ?_
          refine j_iconst hG dX12_kindAt_130 ?_
          refine j_callV (rest := []) hG vX12_276 dX12_kindAt_131 (c_X12_isWord_4 (g := g) (len := len) (s := S.1) hW ht.1.2.2.1 ht.1.2.2.2 ht.2.2.2.2 hg) hW.1 rfl rfl (by decide) (by decide) (Nat.le_of_ble_eq_true rfl) rfl rfl (Nat.zero_le _) (Nat.zero_le _) ?_
          rintro _ _ ⟨⟨z41_, rfl, hz42_⟩, rfl⟩
          refine j_st (st' := [.int (iZ (z41_))]) rfl ?_
          refine j_if_ne (tgt := 156) hG dX12_kindAt_134 (by decide) (by omega) (fun c45_ => ?_) (fun c45_ => ?_)
          · -- taken at 134
            obtain ⟨-, e43_⟩ := hz42_.resolve_right (fun h => absurd h.1 (by omega))
            refine j_aload_n hG dX12_kindAt_156 rfl rfl ?_
            refine j_bipush hG dX12_kindAt_157 (by decide) ?_
            refine j_bipush hG dX12_kindAt_159 (by decide) ?_
            refine j_bipush hG dX12_kindAt_161 (by decide) ?_
            refine j_bipush hG dX12_kindAt_163 (by decide) ?_
            refine j_bipush hG dX12_kindAt_165 (by decide) ?_
            refine j_iconst hG dX12_kindAt_167 ?_
            refine j_callV (rest := []) hG vX12_276 dX12_kindAt_168 (c_X12_isWord_3 (g := g) (len := len) (s := S.1) hW ht.1.2.2.1 ht.1.2.2.2 ht.2.2.2.2 hg) hW.1 rfl rfl (by decide) (by decide) (Nat.le_of_ble_eq_true rfl) rfl rfl (Nat.zero_le _) (Nat.zero_le _) ?_
            rintro _ _ ⟨⟨z46_, rfl, hz47_⟩, rfl⟩
            obtain rfl : z46_ = 0 := by rcases hz47_ with q | q; exact absurd (q.2.symm.trans e34_) (by decide); exact q.1
            refine j_st (st' := [.int (iZ (0))]) rfl ?_
            refine j_if_eq (tgt := 178) hG dX12_kindAt_171 (by decide) (by omega) (fun c50_ => ?_) (fun c50_ => ?_)
            · -- taken at 171
              refine j_aload_n hG dX12_kindAt_178 rfl rfl ?_
              refine j_bipush hG dX12_kindAt_179 (by decide) ?_
              refine j_bipush hG dX12_kindAt_181 (by decide) ?_
              refine j_bipush hG dX12_kindAt_183 (by decide) ?_
              refine j_bipush hG dX12_kindAt_185 (by decide) ?_
              refine j_bipush hG dX12_kindAt_187 (by decide) ?_
              refine j_iconst hG dX12_kindAt_189 ?_
              refine j_callV (rest := []) hG vX12_276 dX12_kindAt_190 (c_X12_isWord_4 (g := g) (len := len) (s := S.1) hW ht.1.2.2.1 ht.1.2.2.2 ht.2.2.2.2 hg) hW.1 rfl rfl (by decide) (by decide) (Nat.le_of_ble_eq_true rfl) rfl rfl (Nat.zero_le _) (Nat.zero_le _) ?_
              rintro _ _ ⟨⟨z51_, rfl, hz52_⟩, rfl⟩
              obtain rfl : z51_ = 1 := by rcases hz52_ with q | q; exact q.1; exact absurd (q.2.symm.trans e43_) (by decide)
              refine j_st (st' := [.int (iZ (1))]) rfl ?_
              refine j_if_eq (tgt := 200) hG dX12_kindAt_193 (by decide) (by omega) (fun c55_ => ?_) (fun c55_ => ?_)
              · -- taken at 193
                exfalso; omega
              · -- on at 193
                refine j_iconst hG dX12_kindAt_196 ?_
                refine j_goto (tgt := 201) hG dX12_kindAt_197 (by decide) ?_
                have e9 : kdF g len S.1 = 4 := kd_at 13 0 4 (by decide) (fun j hj => by rcases (show j = 0 ∨ j = 1 ∨ j = 2 ∨ j = 3 by omega) with rfl | rfl | rfl | rfl; exact e4_; exact e14_; exact e29_; exact e34_) e43_
                exact j_iret hG hZ dX12_kindAt_201 (Nat.zero_le _) (Nat.zero_le _) (⟨by rw [e9], rfl⟩)
            · -- on at 171
              exfalso; omega
          · -- on at 134
            obtain ⟨-, e44_⟩ := hz42_.resolve_left (fun h => absurd h.1 (by omega))
            refine j_aload_n hG dX12_kindAt_137 rfl rfl ?_
            refine j_bipush hG dX12_kindAt_138 (by decide) ?_
            refine j_bipush hG dX12_kindAt_140 (by decide) ?_
            refine j_bipush hG dX12_kindAt_142 (by decide) ?_
            refine j_bipush hG dX12_kindAt_144 (by decide) ?_
            refine j_bipush hG dX12_kindAt_146 (by decide) ?_
            refine j_bipush hG dX12_kindAt_148 (by decide) ?_
            refine j_callV (rest := []) hG vX12_276 dX12_kindAt_150 (c_X12_isWord_5 (g := g) (len := len) (s := S.1) hW ht.1.2.2.1 ht.1.2.2.2 ht.2.2.2.2 hg) hW.1 rfl rfl (by decide) (by decide) (Nat.le_of_ble_eq_true rfl) rfl rfl (Nat.zero_le _) (Nat.zero_le _) ?_
            rintro _ _ ⟨⟨z56_, rfl, hz57_⟩, rfl⟩
            refine j_st (st' := [.int (iZ (z56_))]) rfl ?_
            refine j_if_eq (tgt := 202) hG dX12_kindAt_153 (by decide) (by omega) (fun c60_ => ?_) (fun c60_ => ?_)
            · -- taken at 153
              obtain ⟨-, e59_⟩ := hz57_.resolve_left (fun h => absurd h.1 (by omega))
              refine j_aload_n hG dX12_kindAt_202 rfl rfl ?_
              refine j_bipush hG dX12_kindAt_203 (by decide) ?_
              refine j_bipush hG dX12_kindAt_205 (by decide) ?_
              refine j_bipush hG dX12_kindAt_207 (by decide) ?_
              refine j_bipush hG dX12_kindAt_209 (by decide) ?_
              refine j_iconst hG dX12_kindAt_211 ?_
              refine j_iconst hG dX12_kindAt_212 ?_
              refine j_callV (rest := []) hG vX12_276 dX12_kindAt_213 (c_X12_isWord_6 (g := g) (len := len) (s := S.1) hW ht.1.2.2.1 ht.1.2.2.2 ht.2.2.2.2 hg) hW.1 rfl rfl (by decide) (by decide) (Nat.le_of_ble_eq_true rfl) rfl rfl (Nat.zero_le _) (Nat.zero_le _) ?_
              rintro _ _ ⟨⟨z61_, rfl, hz62_⟩, rfl⟩
              refine j_st (st' := [.int (iZ (z61_))]) rfl ?_
              refine j_if_ne (tgt := 253) hG dX12_kindAt_216 (by decide) (by omega) (fun c65_ => ?_) (fun c65_ => ?_)
              · -- taken at 216
                obtain ⟨-, e63_⟩ := hz62_.resolve_right (fun h => absurd h.1 (by omega))
                refine j_aload_n hG dX12_kindAt_253 rfl rfl ?_
                refine j_bipush hG dX12_kindAt_254 (by decide) ?_
                refine j_bipush hG dX12_kindAt_256 (by decide) ?_
                refine j_bipush hG dX12_kindAt_258 (by decide) ?_
                refine j_bipush hG dX12_kindAt_260 (by decide) ?_
                refine j_iconst hG dX12_kindAt_262 ?_
                refine j_iconst hG dX12_kindAt_263 ?_
                refine j_callV (rest := []) hG vX12_276 dX12_kindAt_264 (c_X12_isWord_6 (g := g) (len := len) (s := S.1) hW ht.1.2.2.1 ht.1.2.2.2 ht.2.2.2.2 hg) hW.1 rfl rfl (by decide) (by decide) (Nat.le_of_ble_eq_true rfl) rfl rfl (Nat.zero_le _) (Nat.zero_le _) ?_
                rintro _ _ ⟨⟨z66_, rfl, hz67_⟩, rfl⟩
                obtain rfl : z66_ = 1 := by rcases hz67_ with q | q; exact q.1; exact absurd (q.2.symm.trans e63_) (by decide)
                refine j_st (st' := [.int (iZ (1))]) rfl ?_
                refine j_if_eq (tgt := 275) hG dX12_kindAt_267 (by decide) (by omega) (fun c70_ => ?_) (fun c70_ => ?_)
                · -- taken at 267
                  exfalso; omega
                · -- on at 267
                  refine j_bipush hG dX12_kindAt_270 (by decide) ?_
                  refine j_goto (tgt := 298) hG dX12_kindAt_272 (by decide) ?_
                  have e9 : kdF g len S.1 = 6 := kd_at 13 0 6 (by decide) (fun j hj => by rcases (show j = 0 ∨ j = 1 ∨ j = 2 ∨ j = 3 ∨ j = 4 ∨ j = 5 by omega) with rfl | rfl | rfl | rfl | rfl | rfl; exact e4_; exact e14_; exact e29_; exact e34_; exact e44_; exact e59_) e63_
                  exact j_iret hG hZ dX12_kindAt_298 (Nat.zero_le _) (Nat.zero_le _) (⟨by rw [e9], rfl⟩)
              · -- on at 216
                obtain ⟨-, e64_⟩ := hz62_.resolve_left (fun h => absurd h.1 (by omega))
                refine j_aload_n hG dX12_kindAt_219 rfl rfl ?_
                refine j_bipush hG dX12_kindAt_220 (by decide) ?_
                refine j_bipush hG dX12_kindAt_222 (by decide) ?_
                refine j_bipush hG dX12_kindAt_224 (by decide) ?_
                refine j_iconst hG dX12_kindAt_226 ?_
                refine j_iconst hG dX12_kindAt_227 ?_
                refine j_iconst hG dX12_kindAt_228 ?_
                refine j_callV (rest := []) hG vX12_276 dX12_kindAt_229 (c_X12_isWord_7 (g := g) (len := len) (s := S.1) hW ht.1.2.2.1 ht.1.2.2.2 ht.2.2.2.2 hg) hW.1 rfl rfl (by decide) (by decide) (Nat.le_of_ble_eq_true rfl) rfl rfl (Nat.zero_le _) (Nat.zero_le _) ?_
                rintro _ _ ⟨⟨z71_, rfl, hz72_⟩, rfl⟩
                refine j_st (st' := [.int (iZ (z71_))]) rfl ?_
                refine j_if_ne (tgt := 253) hG dX12_kindAt_232 (by decide) (by omega) (fun c75_ => ?_) (fun c75_ => ?_)
                · -- taken at 232
                  obtain ⟨-, e73_⟩ := hz72_.resolve_right (fun h => absurd h.1 (by omega))
                  refine j_aload_n hG dX12_kindAt_253 rfl rfl ?_
                  refine j_bipush hG dX12_kindAt_254 (by decide) ?_
                  refine j_bipush hG dX12_kindAt_256 (by decide) ?_
                  refine j_bipush hG dX12_kindAt_258 (by decide) ?_
                  refine j_bipush hG dX12_kindAt_260 (by decide) ?_
                  refine j_iconst hG dX12_kindAt_262 ?_
                  refine j_iconst hG dX12_kindAt_263 ?_
                  refine j_callV (rest := []) hG vX12_276 dX12_kindAt_264 (c_X12_isWord_6 (g := g) (len := len) (s := S.1) hW ht.1.2.2.1 ht.1.2.2.2 ht.2.2.2.2 hg) hW.1 rfl rfl (by decide) (by decide) (Nat.le_of_ble_eq_true rfl) rfl rfl (Nat.zero_le _) (Nat.zero_le _) ?_
                  rintro _ _ ⟨⟨z76_, rfl, hz77_⟩, rfl⟩
                  obtain rfl : z76_ = 0 := by rcases hz77_ with q | q; exact absurd (q.2.symm.trans e64_) (by decide); exact q.1
                  refine j_st (st' := [.int (iZ (0))]) rfl ?_
                  refine j_if_eq (tgt := 275) hG dX12_kindAt_267 (by decide) (by omega) (fun c80_ => ?_) (fun c80_ => ?_)
                  · -- taken at 267
                    refine j_aload_n hG dX12_kindAt_275 rfl rfl ?_
                    refine j_bipush hG dX12_kindAt_276 (by decide) ?_
                    refine j_bipush hG dX12_kindAt_278 (by decide) ?_
                    refine j_bipush hG dX12_kindAt_280 (by decide) ?_
                    refine j_iconst hG dX12_kindAt_282 ?_
                    refine j_iconst hG dX12_kindAt_283 ?_
                    refine j_iconst hG dX12_kindAt_284 ?_
                    refine j_callV (rest := []) hG vX12_276 dX12_kindAt_285 (c_X12_isWord_7 (g := g) (len := len) (s := S.1) hW ht.1.2.2.1 ht.1.2.2.2 ht.2.2.2.2 hg) hW.1 rfl rfl (by decide) (by decide) (Nat.le_of_ble_eq_true rfl) rfl rfl (Nat.zero_le _) (Nat.zero_le _) ?_
                    rintro _ _ ⟨⟨z81_, rfl, hz82_⟩, rfl⟩
                    obtain rfl : z81_ = 1 := by rcases hz82_ with q | q; exact q.1; exact absurd (q.2.symm.trans e73_) (by decide)
                    refine j_st (st' := [.int (iZ (1))]) rfl ?_
                    refine j_if_eq (tgt := 296) hG dX12_kindAt_288 (by decide) (by omega) (fun c85_ => ?_) (fun c85_ => ?_)
                    · -- taken at 288
                      exfalso; omega
                    · -- on at 288
                      refine j_bipush hG dX12_kindAt_291 (by decide) ?_
                      refine j_goto (tgt := 298) hG dX12_kindAt_293 (by decide) ?_
                      have e9 : kdF g len S.1 = 7 := kd_at 13 0 7 (by decide) (fun j hj => by rcases (show j = 0 ∨ j = 1 ∨ j = 2 ∨ j = 3 ∨ j = 4 ∨ j = 5 ∨ j = 6 by omega) with rfl | rfl | rfl | rfl | rfl | rfl | rfl; exact e4_; exact e14_; exact e29_; exact e34_; exact e44_; exact e59_; exact e64_) e73_
                      exact j_iret hG hZ dX12_kindAt_298 (Nat.zero_le _) (Nat.zero_le _) (⟨by rw [e9], rfl⟩)
                  · -- on at 267
                    exfalso; omega
                · -- on at 232
                  obtain ⟨-, e74_⟩ := hz72_.resolve_left (fun h => absurd h.1 (by omega))
                  refine j_aload_n hG dX12_kindAt_235 rfl rfl ?_
                  refine j_bipush hG dX12_kindAt_236 (by decide) ?_
                  refine j_bipush hG dX12_kindAt_238 (by decide) ?_
                  refine j_bipush hG dX12_kindAt_240 (by decide) ?_
                  refine j_bipush hG dX12_kindAt_242 (by decide) ?_
                  refine j_bipush hG dX12_kindAt_244 (by decide) ?_
                  refine j_iconst hG dX12_kindAt_246 ?_
                  refine j_callV (rest := []) hG vX12_276 dX12_kindAt_247 (c_X12_isWord_8 (g := g) (len := len) (s := S.1) hW ht.1.2.2.1 ht.1.2.2.2 ht.2.2.2.2 hg) hW.1 rfl rfl (by decide) (by decide) (Nat.le_of_ble_eq_true rfl) rfl rfl (Nat.zero_le _) (Nat.zero_le _) ?_
                  rintro _ _ ⟨⟨z86_, rfl, hz87_⟩, rfl⟩
                  refine j_st (st' := [.int (iZ (z86_))]) rfl ?_
                  refine j_if_eq (tgt := 299) hG dX12_kindAt_250 (by decide) (by omega) (fun c90_ => ?_) (fun c90_ => ?_)
                  · -- taken at 250
                    obtain ⟨-, e89_⟩ := hz87_.resolve_left (fun h => absurd h.1 (by omega))
                    refine j_aload_n hG dX12_kindAt_299 rfl rfl ?_
                    refine j_bipush hG dX12_kindAt_300 (by decide) ?_
                    refine j_bipush hG dX12_kindAt_302 (by decide) ?_
                    refine j_bipush hG dX12_kindAt_304 (by decide) ?_
                    refine j_iconst hG dX12_kindAt_306 ?_
                    refine j_iconst hG dX12_kindAt_307 ?_
                    refine j_iconst hG dX12_kindAt_308 ?_
                    refine j_callV (rest := []) hG vX12_276 dX12_kindAt_309 (c_X12_isWord_9 (g := g) (len := len) (s := S.1) hW ht.1.2.2.1 ht.1.2.2.2 ht.2.2.2.2 hg) hW.1 rfl rfl (by decide) (by decide) (Nat.le_of_ble_eq_true rfl) rfl rfl (Nat.zero_le _) (Nat.zero_le _) ?_
                    rintro _ _ ⟨⟨z91_, rfl, hz92_⟩, rfl⟩
                    refine j_st (st' := [.int (iZ (z91_))]) rfl ?_
                    refine j_if_ne (tgt := 332) hG dX12_kindAt_312 (by decide) (by omega) (fun c95_ => ?_) (fun c95_ => ?_)
                    · -- taken at 312
                      obtain ⟨-, e93_⟩ := hz92_.resolve_right (fun h => absurd h.1 (by omega))
                      refine j_aload_n hG dX12_kindAt_332 rfl rfl ?_
                      refine j_bipush hG dX12_kindAt_333 (by decide) ?_
                      refine j_bipush hG dX12_kindAt_335 (by decide) ?_
                      refine j_bipush hG dX12_kindAt_337 (by decide) ?_
                      refine j_iconst hG dX12_kindAt_339 ?_
                      refine j_iconst hG dX12_kindAt_340 ?_
                      refine j_iconst hG dX12_kindAt_341 ?_
                      refine j_callV (rest := []) hG vX12_276 dX12_kindAt_342 (c_X12_isWord_9 (g := g) (len := len) (s := S.1) hW ht.1.2.2.1 ht.1.2.2.2 ht.2.2.2.2 hg) hW.1 rfl rfl (by decide) (by decide) (Nat.le_of_ble_eq_true rfl) rfl rfl (Nat.zero_le _) (Nat.zero_le _) ?_
                      rintro _ _ ⟨⟨z96_, rfl, hz97_⟩, rfl⟩
                      obtain rfl : z96_ = 1 := by rcases hz97_ with q | q; exact q.1; exact absurd (q.2.symm.trans e93_) (by decide)
                      refine j_st (st' := [.int (iZ (1))]) rfl ?_
                      refine j_if_eq (tgt := 353) hG dX12_kindAt_345 (by decide) (by omega) (fun c100_ => ?_) (fun c100_ => ?_)
                      · -- taken at 345
                        exfalso; omega
                      · -- on at 345
                        refine j_bipush hG dX12_kindAt_348 (by decide) ?_
                        refine j_goto (tgt := 355) hG dX12_kindAt_350 (by decide) ?_
                        have e9 : kdF g len S.1 = 9 := kd_at 13 0 9 (by decide) (fun j hj => by rcases (show j = 0 ∨ j = 1 ∨ j = 2 ∨ j = 3 ∨ j = 4 ∨ j = 5 ∨ j = 6 ∨ j = 7 ∨ j = 8 by omega) with rfl | rfl | rfl | rfl | rfl | rfl | rfl | rfl | rfl; exact e4_; exact e14_; exact e29_; exact e34_; exact e44_; exact e59_; exact e64_; exact e74_; exact e89_) e93_
                        exact j_iret hG hZ dX12_kindAt_355 (Nat.zero_le _) (Nat.zero_le _) (⟨by rw [e9], rfl⟩)
                    · -- on at 312
                      obtain ⟨-, e94_⟩ := hz92_.resolve_left (fun h => absurd h.1 (by omega))
                      refine j_aload_n hG dX12_kindAt_315 rfl rfl ?_
                      refine j_bipush hG dX12_kindAt_316 (by decide) ?_
                      refine j_bipush hG dX12_kindAt_318 (by decide) ?_
                      refine j_bipush hG dX12_kindAt_320 (by decide) ?_
                      refine j_bipush hG dX12_kindAt_322 (by decide) ?_
                      refine j_iconst hG dX12_kindAt_324 ?_
                      refine j_iconst hG dX12_kindAt_325 ?_
                      refine j_callV (rest := []) hG vX12_276 dX12_kindAt_326 (c_X12_isWord_10 (g := g) (len := len) (s := S.1) hW ht.1.2.2.1 ht.1.2.2.2 ht.2.2.2.2 hg) hW.1 rfl rfl (by decide) (by decide) (Nat.le_of_ble_eq_true rfl) rfl rfl (Nat.zero_le _) (Nat.zero_le _) ?_
                      rintro _ _ ⟨⟨z101_, rfl, hz102_⟩, rfl⟩
                      refine j_st (st' := [.int (iZ (z101_))]) rfl ?_
                      refine j_if_eq (tgt := 356) hG dX12_kindAt_329 (by decide) (by omega) (fun c105_ => ?_) (fun c105_ => ?_)
                      · -- taken at 329
                        obtain ⟨-, e104_⟩ := hz102_.resolve_left (fun h => absurd h.1 (by omega))
                        refine j_aload_n hG dX12_kindAt_356 rfl rfl ?_
                        refine j_bipush hG dX12_kindAt_357 (by decide) ?_
                        refine j_bipush hG dX12_kindAt_359 (by decide) ?_
                        refine j_bipush hG dX12_kindAt_361 (by decide) ?_
                        refine j_bipush hG dX12_kindAt_363 (by decide) ?_
                        refine j_iconst hG dX12_kindAt_365 ?_
                        refine j_iconst hG dX12_kindAt_366 ?_
                        refine j_callV (rest := []) hG vX12_276 dX12_kindAt_367 (c_X12_isWord_11 (g := g) (len := len) (s := S.1) hW ht.1.2.2.1 ht.1.2.2.2 ht.2.2.2.2 hg) hW.1 rfl rfl (by decide) (by decide) (Nat.le_of_ble_eq_true rfl) rfl rfl (Nat.zero_le _) (Nat.zero_le _) ?_
                        rintro _ _ ⟨⟨z106_, rfl, hz107_⟩, rfl⟩
                        refine j_st (st' := [.int (iZ (z106_))]) rfl ?_
                        refine j_if_eq (tgt := 378) hG dX12_kindAt_370 (by decide) (by omega) (fun c110_ => ?_) (fun c110_ => ?_)
                        · -- taken at 370
                          obtain ⟨-, e109_⟩ := hz107_.resolve_left (fun h => absurd h.1 (by omega))
                          refine j_aload_n hG dX12_kindAt_378 rfl rfl ?_
                          refine j_bipush hG dX12_kindAt_379 (by decide) ?_
                          refine j_bipush hG dX12_kindAt_381 (by decide) ?_
                          refine j_bipush hG dX12_kindAt_383 (by decide) ?_
                          refine j_bipush hG dX12_kindAt_385 (by decide) ?_
                          refine j_iconst hG dX12_kindAt_387 ?_
                          refine j_iconst hG dX12_kindAt_388 ?_
                          refine j_callV (rest := []) hG vX12_276 dX12_kindAt_389 (c_X12_isWord_12 (g := g) (len := len) (s := S.1) hW ht.1.2.2.1 ht.1.2.2.2 ht.2.2.2.2 hg) hW.1 rfl rfl (by decide) (by decide) (Nat.le_of_ble_eq_true rfl) rfl rfl (Nat.zero_le _) (Nat.zero_le _) ?_
                          rintro _ _ ⟨⟨z111_, rfl, hz112_⟩, rfl⟩
                          refine j_st (st' := [.int (iZ (z111_))]) rfl ?_
                          refine j_if_eq (tgt := 400) hG dX12_kindAt_392 (by decide) (by omega) (fun c115_ => ?_) (fun c115_ => ?_)
                          · -- taken at 392
                            obtain ⟨-, e114_⟩ := hz112_.resolve_left (fun h => absurd h.1 (by omega))
                            refine j_iconst hG dX12_kindAt_400 ?_
                            have e9 : kdF g len S.1 = -1 := kd_no 13 0 (fun j hj => by rcases (show j = 0 ∨ j = 1 ∨ j = 2 ∨ j = 3 ∨ j = 4 ∨ j = 5 ∨ j = 6 ∨ j = 7 ∨ j = 8 ∨ j = 9 ∨ j = 10 ∨ j = 11 ∨ j = 12 by omega) with rfl | rfl | rfl | rfl | rfl | rfl | rfl | rfl | rfl | rfl | rfl | rfl | rfl; exact e4_; exact e14_; exact e29_; exact e34_; exact e44_; exact e59_; exact e64_; exact e74_; exact e89_; exact e94_; exact e104_; exact e109_; exact e114_)
                            exact j_iret hG hZ dX12_kindAt_401 (Nat.zero_le _) (Nat.zero_le _) (⟨by rw [e9], rfl⟩)
                          · -- on at 392
                            obtain ⟨-, e113_⟩ := hz112_.resolve_right (fun h => absurd h.1 (by omega))
                            refine j_bipush hG dX12_kindAt_395 (by decide) ?_
                            refine j_goto (tgt := 401) hG dX12_kindAt_397 (by decide) ?_
                            have e9 : kdF g len S.1 = 12 := kd_at 13 0 12 (by decide) (fun j hj => by rcases (show j = 0 ∨ j = 1 ∨ j = 2 ∨ j = 3 ∨ j = 4 ∨ j = 5 ∨ j = 6 ∨ j = 7 ∨ j = 8 ∨ j = 9 ∨ j = 10 ∨ j = 11 by omega) with rfl | rfl | rfl | rfl | rfl | rfl | rfl | rfl | rfl | rfl | rfl | rfl; exact e4_; exact e14_; exact e29_; exact e34_; exact e44_; exact e59_; exact e64_; exact e74_; exact e89_; exact e94_; exact e104_; exact e109_) e113_
                            exact j_iret hG hZ dX12_kindAt_401 (Nat.zero_le _) (Nat.zero_le _) (⟨by rw [e9], rfl⟩)
                        · -- on at 370
                          obtain ⟨-, e108_⟩ := hz107_.resolve_right (fun h => absurd h.1 (by omega))
                          refine j_bipush hG dX12_kindAt_373 (by decide) ?_
                          refine j_goto (tgt := 401) hG dX12_kindAt_375 (by decide) ?_
                          have e9 : kdF g len S.1 = 11 := kd_at 13 0 11 (by decide) (fun j hj => by rcases (show j = 0 ∨ j = 1 ∨ j = 2 ∨ j = 3 ∨ j = 4 ∨ j = 5 ∨ j = 6 ∨ j = 7 ∨ j = 8 ∨ j = 9 ∨ j = 10 by omega) with rfl | rfl | rfl | rfl | rfl | rfl | rfl | rfl | rfl | rfl | rfl; exact e4_; exact e14_; exact e29_; exact e34_; exact e44_; exact e59_; exact e64_; exact e74_; exact e89_; exact e94_; exact e104_) e108_
                          exact j_iret hG hZ dX12_kindAt_401 (Nat.zero_le _) (Nat.zero_le _) (⟨by rw [e9], rfl⟩)
                      · -- on at 329
                        obtain ⟨-, e103_⟩ := hz102_.resolve_right (fun h => absurd h.1 (by omega))
                        refine j_aload_n hG dX12_kindAt_332 rfl rfl ?_
                        refine j_bipush hG dX12_kindAt_333 (by decide) ?_
                        refine j_bipush hG dX12_kindAt_335 (by decide) ?_
                        refine j_bipush hG dX12_kindAt_337 (by decide) ?_
                        refine j_iconst hG dX12_kindAt_339 ?_
                        refine j_iconst hG dX12_kindAt_340 ?_
                        refine j_iconst hG dX12_kindAt_341 ?_
                        refine j_callV (rest := []) hG vX12_276 dX12_kindAt_342 (c_X12_isWord_9 (g := g) (len := len) (s := S.1) hW ht.1.2.2.1 ht.1.2.2.2 ht.2.2.2.2 hg) hW.1 rfl rfl (by decide) (by decide) (Nat.le_of_ble_eq_true rfl) rfl rfl (Nat.zero_le _) (Nat.zero_le _) ?_
                        rintro _ _ ⟨⟨z116_, rfl, hz117_⟩, rfl⟩
                        obtain rfl : z116_ = 0 := by rcases hz117_ with q | q; exact absurd (q.2.symm.trans e94_) (by decide); exact q.1
                        refine j_st (st' := [.int (iZ (0))]) rfl ?_
                        refine j_if_eq (tgt := 353) hG dX12_kindAt_345 (by decide) (by omega) (fun c120_ => ?_) (fun c120_ => ?_)
                        · -- taken at 345
                          refine j_bipush hG dX12_kindAt_353 (by decide) ?_
                          have e9 : kdF g len S.1 = 10 := kd_at 13 0 10 (by decide) (fun j hj => by rcases (show j = 0 ∨ j = 1 ∨ j = 2 ∨ j = 3 ∨ j = 4 ∨ j = 5 ∨ j = 6 ∨ j = 7 ∨ j = 8 ∨ j = 9 by omega) with rfl | rfl | rfl | rfl | rfl | rfl | rfl | rfl | rfl | rfl; exact e4_; exact e14_; exact e29_; exact e34_; exact e44_; exact e59_; exact e64_; exact e74_; exact e89_; exact e94_) e103_
                          exact j_iret hG hZ dX12_kindAt_355 (Nat.zero_le _) (Nat.zero_le _) (⟨by rw [e9], rfl⟩)
                        · -- on at 345
                          exfalso; omega
                  · -- on at 250
                    obtain ⟨-, e88_⟩ := hz87_.resolve_right (fun h => absurd h.1 (by omega))
                    refine j_aload_n hG dX12_kindAt_253 rfl rfl ?_
                    refine j_bipush hG dX12_kindAt_254 (by decide) ?_
                    refine j_bipush hG dX12_kindAt_256 (by decide) ?_
                    refine j_bipush hG dX12_kindAt_258 (by decide) ?_
                    refine j_bipush hG dX12_kindAt_260 (by decide) ?_
                    refine j_iconst hG dX12_kindAt_262 ?_
                    refine j_iconst hG dX12_kindAt_263 ?_
                    refine j_callV (rest := []) hG vX12_276 dX12_kindAt_264 (c_X12_isWord_6 (g := g) (len := len) (s := S.1) hW ht.1.2.2.1 ht.1.2.2.2 ht.2.2.2.2 hg) hW.1 rfl rfl (by decide) (by decide) (Nat.le_of_ble_eq_true rfl) rfl rfl (Nat.zero_le _) (Nat.zero_le _) ?_
                    rintro _ _ ⟨⟨z121_, rfl, hz122_⟩, rfl⟩
                    obtain rfl : z121_ = 0 := by rcases hz122_ with q | q; exact absurd (q.2.symm.trans e64_) (by decide); exact q.1
                    refine j_st (st' := [.int (iZ (0))]) rfl ?_
                    refine j_if_eq (tgt := 275) hG dX12_kindAt_267 (by decide) (by omega) (fun c125_ => ?_) (fun c125_ => ?_)
                    · -- taken at 267
                      refine j_aload_n hG dX12_kindAt_275 rfl rfl ?_
                      refine j_bipush hG dX12_kindAt_276 (by decide) ?_
                      refine j_bipush hG dX12_kindAt_278 (by decide) ?_
                      refine j_bipush hG dX12_kindAt_280 (by decide) ?_
                      refine j_iconst hG dX12_kindAt_282 ?_
                      refine j_iconst hG dX12_kindAt_283 ?_
                      refine j_iconst hG dX12_kindAt_284 ?_
                      refine j_callV (rest := []) hG vX12_276 dX12_kindAt_285 (c_X12_isWord_7 (g := g) (len := len) (s := S.1) hW ht.1.2.2.1 ht.1.2.2.2 ht.2.2.2.2 hg) hW.1 rfl rfl (by decide) (by decide) (Nat.le_of_ble_eq_true rfl) rfl rfl (Nat.zero_le _) (Nat.zero_le _) ?_
                      rintro _ _ ⟨⟨z126_, rfl, hz127_⟩, rfl⟩
                      obtain rfl : z126_ = 0 := by rcases hz127_ with q | q; exact absurd (q.2.symm.trans e74_) (by decide); exact q.1
                      refine j_st (st' := [.int (iZ (0))]) rfl ?_
                      refine j_if_eq (tgt := 296) hG dX12_kindAt_288 (by decide) (by omega) (fun c130_ => ?_) (fun c130_ => ?_)
                      · -- taken at 288
                        refine j_bipush hG dX12_kindAt_296 (by decide) ?_
                        have e9 : kdF g len S.1 = 8 := kd_at 13 0 8 (by decide) (fun j hj => by rcases (show j = 0 ∨ j = 1 ∨ j = 2 ∨ j = 3 ∨ j = 4 ∨ j = 5 ∨ j = 6 ∨ j = 7 by omega) with rfl | rfl | rfl | rfl | rfl | rfl | rfl | rfl; exact e4_; exact e14_; exact e29_; exact e34_; exact e44_; exact e59_; exact e64_; exact e74_) e88_
                        exact j_iret hG hZ dX12_kindAt_298 (Nat.zero_le _) (Nat.zero_le _) (⟨by rw [e9], rfl⟩)
                      · -- on at 288
                        exfalso; omega
                    · -- on at 267
                      exfalso; omega
            · -- on at 153
              obtain ⟨-, e58_⟩ := hz57_.resolve_right (fun h => absurd h.1 (by omega))
              refine j_aload_n hG dX12_kindAt_156 rfl rfl ?_
              refine j_bipush hG dX12_kindAt_157 (by decide) ?_
              refine j_bipush hG dX12_kindAt_159 (by decide) ?_
              refine j_bipush hG dX12_kindAt_161 (by decide) ?_
              refine j_bipush hG dX12_kindAt_163 (by decide) ?_
              refine j_bipush hG dX12_kindAt_165 (by decide) ?_
              refine j_iconst hG dX12_kindAt_167 ?_
              refine j_callV (rest := []) hG vX12_276 dX12_kindAt_168 (c_X12_isWord_3 (g := g) (len := len) (s := S.1) hW ht.1.2.2.1 ht.1.2.2.2 ht.2.2.2.2 hg) hW.1 rfl rfl (by decide) (by decide) (Nat.le_of_ble_eq_true rfl) rfl rfl (Nat.zero_le _) (Nat.zero_le _) ?_
              rintro _ _ ⟨⟨z131_, rfl, hz132_⟩, rfl⟩
              obtain rfl : z131_ = 0 := by rcases hz132_ with q | q; exact absurd (q.2.symm.trans e34_) (by decide); exact q.1
              refine j_st (st' := [.int (iZ (0))]) rfl ?_
              refine j_if_eq (tgt := 178) hG dX12_kindAt_171 (by decide) (by omega) (fun c135_ => ?_) (fun c135_ => ?_)
              · -- taken at 171
                refine j_aload_n hG dX12_kindAt_178 rfl rfl ?_
                refine j_bipush hG dX12_kindAt_179 (by decide) ?_
                refine j_bipush hG dX12_kindAt_181 (by decide) ?_
                refine j_bipush hG dX12_kindAt_183 (by decide) ?_
                refine j_bipush hG dX12_kindAt_185 (by decide) ?_
                refine j_bipush hG dX12_kindAt_187 (by decide) ?_
                refine j_iconst hG dX12_kindAt_189 ?_
                refine j_callV (rest := []) hG vX12_276 dX12_kindAt_190 (c_X12_isWord_4 (g := g) (len := len) (s := S.1) hW ht.1.2.2.1 ht.1.2.2.2 ht.2.2.2.2 hg) hW.1 rfl rfl (by decide) (by decide) (Nat.le_of_ble_eq_true rfl) rfl rfl (Nat.zero_le _) (Nat.zero_le _) ?_
                rintro _ _ ⟨⟨z136_, rfl, hz137_⟩, rfl⟩
                obtain rfl : z136_ = 0 := by rcases hz137_ with q | q; exact absurd (q.2.symm.trans e44_) (by decide); exact q.1
                refine j_st (st' := [.int (iZ (0))]) rfl ?_
                refine j_if_eq (tgt := 200) hG dX12_kindAt_193 (by decide) (by omega) (fun c140_ => ?_) (fun c140_ => ?_)
                · -- taken at 193
                  refine j_iconst hG dX12_kindAt_200 ?_
                  have e9 : kdF g len S.1 = 5 := kd_at 13 0 5 (by decide) (fun j hj => by rcases (show j = 0 ∨ j = 1 ∨ j = 2 ∨ j = 3 ∨ j = 4 by omega) with rfl | rfl | rfl | rfl | rfl; exact e4_; exact e14_; exact e29_; exact e34_; exact e44_) e58_
                  exact j_iret hG hZ dX12_kindAt_201 (Nat.zero_le _) (Nat.zero_le _) (⟨by rw [e9], rfl⟩)
                · -- on at 193
                  exfalso; omega
              · -- on at 171
                exfalso; omega
      · -- on at 51
        obtain ⟨-, e28_⟩ := hz27_.resolve_right (fun h => absurd h.1 (by omega))
        refine j_aload_n hG dX12_kindAt_54 rfl rfl ?_
        refine j_bipush hG dX12_kindAt_55 (by decide) ?_
        refine j_bipush hG dX12_kindAt_57 (by decide) ?_
        refine j_bipush hG dX12_kindAt_59 (by decide) ?_
        refine j_bipush hG dX12_kindAt_61 (by decide) ?_
        refine j_bipush hG dX12_kindAt_63 (by decide) ?_
        refine j_bipush hG dX12_kindAt_65 (by decide) ?_
        refine j_callV (rest := []) hG vX12_276 dX12_kindAt_67 (c_X12_isWord_0 (g := g) (len := len) (s := S.1) hW ht.1.2.2.1 ht.1.2.2.2 ht.2.2.2.2 hg) hW.1 rfl rfl (by decide) (by decide) (Nat.le_of_ble_eq_true rfl) rfl rfl (Nat.zero_le _) (Nat.zero_le _) ?_
        rintro _ _ ⟨⟨z141_, rfl, hz142_⟩, rfl⟩
        obtain rfl : z141_ = 0 := by rcases hz142_ with q | q; exact absurd (q.2.symm.trans e4_) (by decide); exact q.1
        refine j_st (st' := [.int (iZ (0))]) rfl ?_
        refine j_if_eq (tgt := 77) hG dX12_kindAt_70 (by decide) (by omega) (fun c145_ => ?_) (fun c145_ => ?_)
        · -- taken at 70
          refine j_aload_n hG dX12_kindAt_77 rfl rfl ?_
          refine j_bipush hG dX12_kindAt_78 (by decide) ?_
          refine j_bipush hG dX12_kindAt_80 (by decide) ?_
          refine j_bipush hG dX12_kindAt_82 (by decide) ?_
          refine j_bipush hG dX12_kindAt_84 (by decide) ?_
          refine j_bipush hG dX12_kindAt_86 (by decide) ?_
          refine j_iconst hG dX12_kindAt_88 ?_
          refine j_callV (rest := []) hG vX12_276 dX12_kindAt_89 (c_X12_isWord_1 (g := g) (len := len) (s := S.1) hW ht.1.2.2.1 ht.1.2.2.2 ht.2.2.2.2 hg) hW.1 rfl rfl (by decide) (by decide) (Nat.le_of_ble_eq_true rfl) rfl rfl (Nat.zero_le _) (Nat.zero_le _) ?_
          rintro _ _ ⟨⟨z146_, rfl, hz147_⟩, rfl⟩
          obtain rfl : z146_ = 0 := by rcases hz147_ with q | q; exact absurd (q.2.symm.trans e14_) (by decide); exact q.1
          refine j_st (st' := [.int (iZ (0))]) rfl ?_
          refine j_if_eq (tgt := 99) hG dX12_kindAt_92 (by decide) (by omega) (fun c150_ => ?_) (fun c150_ => ?_)
          · -- taken at 92
            refine j_iconst hG dX12_kindAt_99 ?_
            have e9 : kdF g len S.1 = 2 := kd_at 13 0 2 (by decide) (fun j hj => by rcases (show j = 0 ∨ j = 1 by omega) with rfl | rfl; exact e4_; exact e14_) e28_
            exact j_iret hG hZ dX12_kindAt_100 (Nat.zero_le _) (Nat.zero_le _) (⟨by rw [e9], rfl⟩)
          · -- on at 92
            exfalso; omega
        · -- on at 70
          exfalso; omega
theorem c_X12_isName {l : Launch} {E : JE} {f : Hp} {rg : Nat → Nat} {f0 : Hp} {m : Nat} {A : Nat → Nat} {V : Nat → Int} {G : Nat → Int → Int} {g : Int → Int} {len s : Int} (hW : MF E rg f0 f m A V G) (h45 : V 45 = s) (h46 : V 46 = tE g len s) (h47 : V 47 = soF g len s) (hs : 0 ≤ s ∧ s ≤ len) (hl : 0 ≤ len ∧ len ≤ 300) : KX12_isName l E [.ref m] f (fun v f' => (∃ z : Int, v = some (.int (iZ z)) ∧ ((z = 1 ∧ soF g len s = 1 ∧ tE g len s - s = 1) ∨ (z = 0 ∧ ¬ (soF g len s = 1 ∧ tE g len s - s = 1)))) ∧ f = f') := by
  refine ct_of (own := RX12) (lv := [(0, .ref m)]) (by decide +kernel) rfl (Nat.le_of_ble_eq_true rfl) rfl ?_
  intro G9 hG hZ
  have sr := so_rng (g := g) (len := len) (s := s)
  have tr := tE_rng (g := g) hs
  refine j_aload_n hG dX12_isName_0 rfl rfl ?_
  refine j_get (v := .int (iZ (V 47))) hG fX12_245 dX12_isName_1 hW.1 rfl ?_
  refine j_eq (show (V 47 : Int) = (soF g len s : Int) from h47) ?_
  refine j_iconst hG dX12_isName_4 ?_
  refine j_icmp_ne (tgt := 25) hG dX12_isName_5 (by decide) (by omega) (by omega) (fun c1_ => ?_) (fun c1_ => ?_)
  · -- taken at 5
    refine j_iconst hG dX12_isName_25 ?_
    exact j_zret hG hZ dX12_isName_26 (Nat.zero_le _) (Nat.zero_le _) (nar_zr (by omega)) (⟨⟨0, rfl, Or.inr ⟨rfl, by omega⟩⟩, rfl⟩)
  · -- on at 5
    refine j_aload_n hG dX12_isName_8 rfl rfl ?_
    refine j_get (v := .int (iZ (V 46))) hG fX12_229 dX12_isName_9 hW.1 rfl ?_
    refine j_eq (show (V 46 : Int) = (tE g len s : Int) from h46) ?_
    refine j_aload_n hG dX12_isName_12 rfl rfl ?_
    refine j_get (v := .int (iZ (V 45))) hG fX12_232 dX12_isName_13 hW.1 rfl ?_
    refine j_eq (show (V 45 : Int) = (s : Int) from h45) ?_
    refine j_isub hG dX12_isName_16 ?_
    refine j_iconst hG dX12_isName_17 ?_
    refine j_icmp_ne (tgt := 25) hG dX12_isName_18 (by decide) (by omega) (by omega) (fun c2_ => ?_) (fun c2_ => ?_)
    · -- taken at 18
      refine j_iconst hG dX12_isName_25 ?_
      exact j_zret hG hZ dX12_isName_26 (Nat.zero_le _) (Nat.zero_le _) (nar_zr (by omega)) (⟨⟨0, rfl, Or.inr ⟨rfl, by omega⟩⟩, rfl⟩)
    · -- on at 18
      refine j_iconst hG dX12_isName_21 ?_
      refine j_goto (tgt := 26) hG dX12_isName_22 (by decide) ?_
      exact j_zret hG hZ dX12_isName_26 (Nat.zero_le _) (Nat.zero_le _) (nar_zr (by omega)) (⟨⟨1, rfl, Or.inl ⟨rfl, by omega⟩⟩, rfl⟩)
theorem c_X12_name {l : Launch} {E : JE} {f : Hp} {rg : Nat → Nat} {f0 : Hp} {m : Nat} {A : Nat → Nat} {V : Nat → Int} {G : Nat → Int → Int} {g tl : Int → Int} {len : Int} {S : T3} (hW : MF E rg f0 f m A V G) (h44 : V 44 = len) (h43 : G 43 = g) (hl : 0 ≤ len ∧ len ≤ 300) (hg : bOk g) (ht : tk V g len S) (h42 : G 42 = tl) (htr : ∀ j, 0 ≤ j → j < 26 → -1 ≤ tl j ∧ tl j < 12) : KX12_name l E [.ref m] f (fun v f' => v = some (.int (iZ (nameT g tl len S.1))) ∧ ∃ V' : Nat → Int, MF E rg f0 f' m A V' G ∧ tk V' g len (mustF g len (if nameT g tl len S.1 ≠ -1 then 1 else 0) S) ∧ othM V V') := by
  refine ct_of (own := RX12) (lv := [(0, .ref m)]) (by decide +kernel) rfl (Nat.le_of_ble_eq_true rfl) rfl ?_
  intro G9 hG hZ
  have sr := ht.2.2.2.2
  have hj1_ : ∀ (t9 : Int) , t9 = nameT g tl len S.1 → J G9 0 0 f 28 [(0, .ref m)] [.int (iZ (t9))] := by
    intro t9  ht9
    refine j_istore_n (lv' := [(0, .ref m), (1, .int (iZ (t9)))]) hG dX12_name_28 rfl (by decide) rfl ?_
    have r9 : -1 ≤ nameT g tl len S.1 ∧ nameT g tl len S.1 < 12 := by
      have := letr_rng (g := g) (len := len) (s := S.1)
      unfold nameT; split
      · omega
      · exact htr _ (by omega) (by omega)
    refine j_aload_n hG dX12_name_29 rfl rfl ?_
    have hj2_ : ∀ (z9 : Int) , z9 = (if nameT g tl len S.1 ≠ -1 then 1 else 0) → J G9 0 0 f 40 [(0, .ref m), (1, .int (iZ (t9)))] [.int (iZ (z9)), .ref m] := by
      intro z9  hz9
      have z8 : z9 = 0 ∨ z9 = 1 := by rw [hz9]; split; exact Or.inr rfl; exact Or.inl rfl
      refine j_callV (rest := []) hG vX12_262 dX12_name_40 (c_X12_must (z := z9) (S := S) hW h44 h43 hl hg ht (by omega)) hW.1 rfl rfl (by decide) (by decide) (Nat.le_of_ble_eq_true rfl) rfl rfl (Nat.zero_le _) (Nat.zero_le _) ?_
      rintro _ f7_ ⟨rfl, V3_, hW4_, ht5_, ho6_⟩
      refine j_st (st' := []) rfl ?_
      have h448_ : V3_ 44 = len := (ho6_ 44 (by decide) (by decide) (by decide) (by decide) (by decide) (by decide)).trans h44
      refine j_iload_n hG dX12_name_43 rfl rfl ?_
      rw [ht9]
      exact j_iret hG hZ dX12_name_44 (Nat.zero_le _) (Nat.zero_le _) (⟨rfl, V3_, hW4_, by rw [← hz9]; exact ht5_, ho6_⟩)
    refine j_iload_n hG dX12_name_30 rfl rfl ?_
    refine j_iconst hG dX12_name_31 ?_
    refine j_icmp_eq (tgt := 39) hG dX12_name_32 (by decide) (by omega) (by omega) (fun c9_ => ?_) (fun c9_ => ?_)
    · -- taken at 32
      refine j_iconst hG dX12_name_39 ?_
      exact hj2_ (0) (by rw [if_neg (by omega)])
    · -- on at 32
      refine j_iconst hG dX12_name_35 ?_
      refine j_goto (tgt := 40) hG dX12_name_36 (by decide) ?_
      exact hj2_ (1) (by rw [if_pos (by omega)])
  refine j_aload_n hG dX12_name_0 rfl rfl ?_
  refine j_callV (rest := []) hG vX12_273 dX12_name_1 (c_X12_isName (g := g) (len := len) (s := S.1) hW ht.1.1 ht.1.2.1 ht.1.2.2.1 ht.2.2.2.2 hl) hW.1 rfl rfl (by decide) (by decide) (Nat.le_of_ble_eq_true rfl) rfl rfl (Nat.zero_le _) (Nat.zero_le _) ?_
  rintro _ _ ⟨⟨z10_, rfl, hz11_⟩, rfl⟩
  refine j_st (st' := [.int (iZ (z10_))]) rfl ?_
  refine j_if_eq (tgt := 27) hG dX12_name_4 (by decide) (by omega) (fun c14_ => ?_) (fun c14_ => ?_)
  · -- taken at 4
    obtain ⟨-, e13_⟩ := hz11_.resolve_left (fun h => absurd h.1 (by omega))
    refine j_iconst hG dX12_name_27 ?_
    exact hj1_ (-1) (by unfold nameT; rw [if_pos (letr_0 e13_)])
  · -- on at 4
    obtain ⟨-, e12_⟩ := hz11_.resolve_right (fun h => absurd h.1 (by omega))
    have q9 := letr_1 e12_.1 e12_.2
    have m9 := so_1m e12_.1
    refine j_aload_n hG dX12_name_7 rfl rfl ?_
    refine j_get (v := .ref (A 42)) hG fX12_108 dX12_name_8 hW.1 rfl ?_
    refine j_aload_n hG dX12_name_11 rfl rfl ?_
    refine j_get (v := .ref (A 43)) hG fX12_111 dX12_name_12 hW.1 rfl ?_
    refine j_aload_n hG dX12_name_15 rfl rfl ?_
    refine j_get (v := .int (iZ (V 45))) hG fX12_232 dX12_name_16 hW.1 rfl ?_
    refine j_eq (show (V 45 : Int) = (S.1 : Int) from ht.1.1) ?_
    refine j_iald hG dX12_name_19 (MF_a43 hW) (by omega) (by decide) ?_
    refine j_eq (show ((G 43) S.1 : Int) = (g S.1 : Int) from (by rw [h43])) ?_
    refine j_bipush hG dX12_name_20 (by decide) ?_
    refine j_isub hG dX12_name_22 ?_
    refine j_iald hG dX12_name_23 (MF_a42 hW) (by omega) (by decide) ?_
    refine j_eq (show ((G 42) ((g S.1) - 97) : Int) = (tl (g S.1 - 97) : Int) from (by rw [h42])) ?_
    refine j_goto (tgt := 28) hG dX12_name_24 (by decide) ?_
    exact hj1_ (tl (g S.1 - 97)) (by have q := letr_1 e12_.1 e12_.2; unfold nameT; rw [if_neg (by omega), q.1])
theorem c_X12_number {l : Launch} {E : JE} {f : Hp} {rg : Nat → Nat} {f0 : Hp} {m : Nat} {A : Nat → Nat} {V : Nat → Int} {G : Nat → Int → Int} {g : Int → Int} {len lo hi : Int} {S : T3} (hW : MF E rg f0 f m A V G) (h44 : V 44 = len) (h43 : G 43 = g) (hl : 0 ≤ len ∧ len ≤ 300) (hg : bOk g) (ht : tk V g len S) (hlo : 0 ≤ lo ∧ lo ≤ 1000) (hhi : 0 ≤ hi ∧ hi ≤ 1000) : KX12_number l E [.ref m, .long (lZ (lo)), .long (lZ (hi))] f (fun v f' => v = some (.int (iZ (woF g len S.1))) ∧ ∃ V' : Nat → Int, MF E rg f0 f' m A V' G ∧ tk V' g len (mustF g len (if lo ≤ dgt g len S.1 ∧ dgt g len S.1 ≤ hi then 1 else 0) S) ∧ othM V V') := by
  refine ct_of (own := RX12) (lv := [(0, .ref m), (1, .long (lZ (lo))), (3, .long (lZ (hi)))]) (by decide +kernel) rfl (Nat.le_of_ble_eq_true rfl) rfl ?_
  intro G9 hG hZ
  have wr := wo_rng hg ht.2.2.2.2
  have sr := so_rng (g := g) (len := len) (s := S.1)
  refine j_aload_n hG dX12_number_0 rfl rfl ?_
  refine j_get (v := .long (lZ (V 48))) hG fX12_235 dX12_number_1 hW.1 rfl ?_
  refine j_eqL (show (V 48 : Int) = (woF g len S.1 : Int) from ht.1.2.2.2) ?_
  refine j_l2i hG dX12_number_4 ?_
  refine j_istore (lv' := [(0, .ref m), (1, .long (lZ (lo))), (3, .long (lZ (hi))), (5, .int (iZ (woF g len S.1)))]) hG dX12_number_5 (by decide) rfl ?_
  refine j_aload_n hG dX12_number_7 rfl rfl ?_
  have hj1_ : ∀ (z9 : Int) , z9 = (if lo ≤ dgt g len S.1 ∧ dgt g len S.1 ≤ hi then 1 else 0) → J G9 0 0 f 33 [(0, .ref m), (1, .long (lZ (lo))), (3, .long (lZ (hi))), (5, .int (iZ (woF g len S.1)))] [.int (iZ (z9)), .ref m] := by
    intro z9  hz9
    have z8 : z9 = 0 ∨ z9 = 1 := by rw [hz9]; split; exact Or.inr rfl; exact Or.inl rfl
    refine j_callV (rest := []) hG vX12_262 dX12_number_33 (c_X12_must (z := z9) (S := S) hW h44 h43 hl hg ht (by omega)) hW.1 rfl rfl (by decide) (by decide) (Nat.le_of_ble_eq_true rfl) rfl rfl (Nat.zero_le _) (Nat.zero_le _) ?_
    rintro _ f6_ ⟨rfl, V2_, hW3_, ht4_, ho5_⟩
    refine j_st (st' := []) rfl ?_
    have h447_ : V2_ 44 = len := (ho5_ 44 (by decide) (by decide) (by decide) (by decide) (by decide) (by decide)).trans h44
    refine j_iload hG dX12_number_36 rfl ?_
    exact j_iret hG hZ dX12_number_38 (Nat.zero_le _) (Nat.zero_le _) (⟨rfl, V2_, hW3_, by rw [← hz9]; exact ht4_, ho5_⟩)
  refine j_aload_n hG dX12_number_8 rfl rfl ?_
  refine j_get (v := .int (iZ (V 47))) hG fX12_245 dX12_number_9 hW.1 rfl ?_
  refine j_eq (show (V 47 : Int) = (soF g len S.1 : Int) from ht.1.2.2.1) ?_
  refine j_iconst hG dX12_number_12 ?_
  refine j_icmp_ne (tgt := 32) hG dX12_number_13 (by decide) (by omega) (by omega) (fun c8_ => ?_) (fun c8_ => ?_)
  · -- taken at 13
    refine j_iconst hG dX12_number_32 ?_
    exact hj1_ (0) (by rw [if_neg (fun q => by have q := (num_iff ht.2.2.2.2 hlo.1 hhi.2).mpr q; omega)])
  · -- on at 13
    refine j_aload_n hG dX12_number_16 rfl rfl ?_
    refine j_get (v := .long (lZ (V 48))) hG fX12_235 dX12_number_17 hW.1 rfl ?_
    refine j_eqL (show (V 48 : Int) = (woF g len S.1 : Int) from ht.1.2.2.2) ?_
    refine j_lload_n hG dX12_number_20 rfl rfl ?_
    refine j_lload_n hG dX12_number_21 rfl rfl ?_
    refine j_callS (rest := [.ref m]) hG vX12_128 dX12_number_22 (c_X12_in (a := woF g len S.1) (lo := lo) (hi := hi) (by omega) (by omega) (by omega)) rfl rfl (by decide) (by decide) (Nat.le_of_ble_eq_true rfl) rfl rfl (Nat.zero_le _) (Nat.zero_le _) ?_
    rintro _ _ ⟨⟨z9_, rfl, hz10_⟩, rfl⟩
    refine j_st (st' := [.int (iZ (z9_)), .ref m]) rfl ?_
    refine j_if_eq (tgt := 32) hG dX12_number_25 (by decide) (by omega) (fun c13_ => ?_) (fun c13_ => ?_)
    · -- taken at 25
      obtain ⟨-, e12_⟩ := hz10_.resolve_left (fun h => absurd h.1 (by omega))
      refine j_iconst hG dX12_number_32 ?_
      exact hj1_ (0) (by rw [if_neg (fun q => by have q := (num_iff ht.2.2.2.2 hlo.1 hhi.2).mpr q; omega)])
    · -- on at 25
      obtain ⟨-, e11_⟩ := hz10_.resolve_right (fun h => absurd h.1 (by omega))
      refine j_iconst hG dX12_number_28 ?_
      refine j_goto (tgt := 33) hG dX12_number_29 (by decide) ?_
      exact hj1_ (1) (by rw [if_pos ((num_iff ht.2.2.2.2 hlo.1 hhi.2).mp ⟨by omega, by omega⟩)])
theorem c_X12_signed {l : Launch} {E : JE} {f : Hp} {rg : Nat → Nat} {f0 : Hp} {m : Nat} {A : Nat → Nat} {V : Nat → Int} {G : Nat → Int → Int} {g : Int → Int} {len : Int} {S : T3} (hW : MF E rg f0 f m A V G) (h44 : V 44 = len) (h43 : G 43 = g) (hl : 0 ≤ len ∧ len ≤ 300) (hg : bOk g) (ht : tk V g len S) : KX12_signed l E [.ref m] f (fun v f' => v = some (.int (iZ (sgV g len S))) ∧ ∃ V' : Nat → Int, MF E rg f0 f' m A V' G ∧ tk V' g len (mustF g len (if 0 ≤ dgt g len (sgS g len S).1 ∧ dgt g len (sgS g len S).1 ≤ 1000 then 1 else 0) (sgS g len S)) ∧ othM V V') := by
  refine ct_of (own := RX12) (lv := [(0, .ref m)]) (by decide +kernel) rfl (Nat.le_of_ble_eq_true rfl) rfl ?_
  intro G9 hG hZ
  have hb := ht.2.2.2.1
  have hj1_ : ∀ (b9 : Int) , (b9 = 1 ∧ (S.2.1 = 0 ∧ sgn g len S.1 45 = true)) ∨ (b9 = 0 ∧ ¬ (S.2.1 = 0 ∧ sgn g len S.1 45 = true)) → J G9 0 0 f 21 [(0, .ref m)] [.int (iZ (b9))] := by
    intro b9  hq9
    refine j_istore_n (lv' := [(0, .ref m), (1, .int (iZ (b9)))]) hG dX12_signed_21 rfl (by decide) rfl ?_
    refine j_iload_n hG dX12_signed_22 rfl rfl ?_
    refine j_if_eq (tgt := 30) hG dX12_signed_23 (by decide) (by omega) (fun c2_ => ?_) (fun c2_ => ?_)
    · -- taken at 23
      have hb9 := (hq9.resolve_left (fun q => by have := q.1; omega)).2
      have e8 : sgS g len S = S := by unfold sgS; rw [if_neg hb9]
      have ht8 : tk V g len (sgS g len S) := by rw [e8]; exact ht
      have om8 : othM V V := fun _ _ _ _ _ _ _ => rfl
      refine j_aload_n hG dX12_signed_30 rfl rfl ?_
      refine j_lconst (y := 0) hG dX12_signed_31 (by decide) ?_
      refine j_ldc2 (z := 1000) hG dX12_signed_32 kX12_136 (by decide) ?_
      refine j_callV (rest := []) hG vX12_269 dX12_signed_35 (c_X12_number (g := g) (len := len) (S := (sgS g len S)) (lo := 0) (hi := 1000) hW h44 h43 hl hg ht8 (by omega) (by omega)) hW.1 rfl rfl (by decide) (by decide) (Nat.le_of_ble_eq_true rfl) rfl rfl (Nat.zero_le _) (Nat.zero_le _) ?_
      rintro _ f7_ ⟨rfl, V3_, hW4_, ht5_, ho6_⟩
      refine j_st (st' := [.int (iZ (woF g len (sgS g len S).1))]) rfl ?_
      have ho8_ := othM_tr om8 ho6_
      have h449_ : V3_ 44 = len := (ho6_ 44 (by decide) (by decide) (by decide) (by decide) (by decide) (by decide)).trans h44
      refine j_istore_n (lv' := [(0, .ref m), (1, .int (iZ (b9))), (2, .int (iZ (woF g len (sgS g len S).1)))]) hG dX12_signed_38 rfl (by decide) rfl ?_
      refine j_iload_n hG dX12_signed_39 rfl rfl ?_
      refine j_if_eq (tgt := 48) hG dX12_signed_40 (by decide) (by omega) (fun c10_ => ?_) (fun c10_ => ?_)
      · -- taken at 40
        refine j_iload_n hG dX12_signed_48 rfl rfl ?_
        have e7 : sgV g len S = woF g len (sgS g len S).1 := by unfold sgV; rw [if_neg hb9]
        rw [← e7]
        exact j_iret hG hZ dX12_signed_49 (Nat.zero_le _) (Nat.zero_le _) (⟨rfl, V3_, hW4_, ht5_, ho8_⟩)
      · -- on at 40
        exfalso; omega
    · -- on at 23
      have hb9 := (hq9.resolve_right (fun q => by have := q.1; omega)).2
      refine j_aload_n hG dX12_signed_26 rfl rfl ?_
      refine j_callV (rest := []) hG vX12_259 dX12_signed_27 (c_X12_next (g := g) (len := len) (p := tE g len S.1) hW h44 h43 hl hg ht.1.2.1 (te_r ht.2.2.2.2)) hW.1 rfl rfl (by decide) (by decide) (Nat.le_of_ble_eq_true rfl) rfl rfl (Nat.zero_le _) (Nat.zero_le _) ?_
      rintro _ f15_ ⟨rfl, V11_, hW12_, ht13_, ho14_⟩
      refine j_st (st' := []) rfl ?_
      have e8 : sgS g len S = (nx g len S.1, S.2.1, S.2.2) := by unfold sgS; rw [if_pos hb9]
      have r8 := nx_rng (g := g) ht.2.2.2.2
      have ht8 : tk V11_ g len (sgS g len S) := by rw [e8]; exact ⟨ht13_, (ho14_ 50 (by decide) (by decide) (by decide) (by decide)).trans ht.2.1, (ho14_ 49 (by decide) (by decide) (by decide) (by decide)).trans ht.2.2.1, ht.2.2.2.1, r8⟩
      have h448 : V11_ 44 = len := (ho14_ 44 (by decide) (by decide) (by decide) (by decide)).trans h44
      have om8 : othM V V11_ := fun i a b c d e f => ho14_ i a b c d
      refine j_aload_n hG dX12_signed_30 rfl rfl ?_
      refine j_lconst (y := 0) hG dX12_signed_31 (by decide) ?_
      refine j_ldc2 (z := 1000) hG dX12_signed_32 kX12_136 (by decide) ?_
      refine j_callV (rest := []) hG vX12_269 dX12_signed_35 (c_X12_number (g := g) (len := len) (S := (sgS g len S)) (lo := 0) (hi := 1000) hW12_ h448 h43 hl hg ht8 (by omega) (by omega)) hW12_.1 rfl rfl (by decide) (by decide) (Nat.le_of_ble_eq_true rfl) rfl rfl (Nat.zero_le _) (Nat.zero_le _) ?_
      rintro _ f20_ ⟨rfl, V16_, hW17_, ht18_, ho19_⟩
      refine j_st (st' := [.int (iZ (woF g len (sgS g len S).1))]) rfl ?_
      have ho21_ := othM_tr om8 ho19_
      have h4422_ : V16_ 44 = len := (ho19_ 44 (by decide) (by decide) (by decide) (by decide) (by decide) (by decide)).trans h448
      refine j_istore_n (lv' := [(0, .ref m), (1, .int (iZ (b9))), (2, .int (iZ (woF g len (sgS g len S).1)))]) hG dX12_signed_38 rfl (by decide) rfl ?_
      refine j_iload_n hG dX12_signed_39 rfl rfl ?_
      refine j_if_eq (tgt := 48) hG dX12_signed_40 (by decide) (by omega) (fun c23_ => ?_) (fun c23_ => ?_)
      · -- taken at 40
        exfalso; omega
      · -- on at 40
        refine j_iload_n hG dX12_signed_43 rfl rfl ?_
        refine j_ineg hG dX12_signed_44 ?_
        refine j_goto (tgt := 49) hG dX12_signed_45 (by decide) ?_
        have e7 : sgV g len S = -(woF g len (sgS g len S).1) := by unfold sgV; rw [if_pos hb9]
        rw [← e7]
        exact j_iret hG hZ dX12_signed_49 (Nat.zero_le _) (Nat.zero_le _) (⟨rfl, V16_, hW17_, ht18_, ho21_⟩)
  refine j_aload_n hG dX12_signed_0 rfl rfl ?_
  refine j_get (v := .int (iZ (V 50))) hG fX12_256 dX12_signed_1 hW.1 rfl ?_
  refine j_eq (show (V 50 : Int) = (S.2.1 : Int) from ht.2.1) ?_
  refine j_if_ne (tgt := 20) hG dX12_signed_4 (by decide) (by omega) (fun c24_ => ?_) (fun c24_ => ?_)
  · -- taken at 4
    refine j_iconst hG dX12_signed_20 ?_
    exact hj1_ (0) (Or.inr ⟨rfl, fun q => by omega⟩)
  · -- on at 4
    refine j_aload_n hG dX12_signed_7 rfl rfl ?_
    refine j_bipush hG dX12_signed_8 (by decide) ?_
    refine j_callV (rest := []) hG vX12_266 dX12_signed_10 (c_X12_isSign (g := g) (len := len) (s := S.1) (c := 45) hW ht.1.2.2.1 ht.1.2.2.2 ht.2.2.2.2 hg (by omega)) hW.1 rfl rfl (by decide) (by decide) (Nat.le_of_ble_eq_true rfl) rfl rfl (Nat.zero_le _) (Nat.zero_le _) ?_
    rintro _ _ ⟨⟨z25_, rfl, hz26_⟩, rfl⟩
    refine j_st (st' := [.int (iZ (z25_))]) rfl ?_
    refine j_if_eq (tgt := 20) hG dX12_signed_13 (by decide) (by omega) (fun c29_ => ?_) (fun c29_ => ?_)
    · -- taken at 13
      obtain ⟨-, e28_⟩ := hz26_.resolve_left (fun h => absurd h.1 (by omega))
      refine j_iconst hG dX12_signed_20 ?_
      exact hj1_ (0) (Or.inr ⟨rfl, fun q => by rw [e28_] at q; exact absurd q.2 (by decide)⟩)
    · -- on at 13
      obtain ⟨-, e27_⟩ := hz26_.resolve_right (fun h => absurd h.1 (by omega))
      refine j_iconst hG dX12_signed_16 ?_
      refine j_goto (tgt := 21) hG dX12_signed_17 (by decide) ?_
      exact hj1_ (1) (Or.inl ⟨rfl, by omega, e27_⟩)
