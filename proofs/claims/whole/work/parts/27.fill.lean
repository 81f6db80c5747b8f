theorem l_X3_fillByGroup {G : JG} {l : Launch} {E : JE} {P : Option Value → Hp → Prop} (hG : jX G l E cX3_fillByGroup RX3 12 rmX3_fillByGroup) (hZ : jZ G none P) {m a ca t c : Nat} {kd lf rg col rel num : Int} {na ba : Int} {ga : Int → Int} {R : List Tr} {f0 : Hp} (hna : 0 ≤ na ∧ na ≤ 400) (hoa : gOk ga) (hne : a ≠ t) (hne2 : ca ≠ c)  (hkd : 0 ≤ kd ∧ kd ≤ 12) (hP : ∀ (n' b' : Int) (g' : Int → Int) (f' : Hp), f' t = oB 7 [.ref c, .int (iZ n'), .int (iZ b')] → f' c = aJ (E.2.1 1) 400 g' → acc g' n' b' R → (∀ q, q ≠ t → q ≠ c → f' q = f0 q) → P none f') :
    ∀ (d : Nat) (i sm mm n b0 : Int) (g : Int → Int) (done : List Tr) (f1 : Hp), (hm : f1 m = oB 3 [.int (iZ (kd)), .int (iZ (lf)), .int (iZ (rg)), .int (iZ (col)), .int (iZ (rel)), .int (iZ (num))]) → (ha : f1 a = oB 7 [.ref ca, .int (iZ (na)), .int (iZ (ba))]) → (hca : f1 ca = aJ (E.2.1 1) 400 (ga)) → (ht : f1 t = oB 7 [.ref c, .int (iZ (n)), .int (iZ (b0))]) → (hc : f1 c = aJ (E.2.1 1) 400 (g)) → (hi : 0 ≤ i ∧ i ≤ na) → (hac : acc g n b0 done) → (hD : done ++ grp kd sm mm (seg ga i na) = R) → (hsm : -(i * 2000000000) ≤ sm ∧ sm ≤ i * 2000000000) → (hmm : 0 ≤ mm ∧ mm ≤ i) → (hfr : ∀ q, q ≠ t → q ≠ c → f1 q = f0 q) → ((na - i).toNat) < d → J G 0 0 f1 8 [(0, .ref m), (1, .ref a), (2, .ref t), (3, .long (lZ (sm))), (5, .int (iZ (mm))), (6, .int (iZ (i)))] [] := by
  intro d
  induction d with
  | zero => intro i sm mm n b0 g done f1 hm ha hca ht hc hi hac hD hsm hmm hfr hd9; exfalso; omega
  | succ d ih =>
    intro i sm mm n b0 g done f1 hm ha hca ht hc hi hac hD hsm hmm hfr hd9
    refine j_iload hG dX3_fillByGroup_8 rfl ?_
    refine j_aload_n hG dX3_fillByGroup_10 rfl rfl ?_
    refine j_callV (rest := [.int (iZ (i))]) hG vX3_55 dX3_fillByGroup_11 (c_X8_size ha) ha rfl rfl (by decide) (by decide) (Nat.le_of_ble_eq_true rfl) rfl rfl (Nat.zero_le _) (Nat.zero_le _) ?_
    rintro _ _ ⟨rfl, rfl⟩
    refine j_st (st' := [.int (iZ (na)), .int (iZ (i))]) rfl ?_
    refine j_icmp_ge (tgt := 135) hG dX3_fillByGroup_14 (by decide) (by omega) (by omega) (fun c1 => ?_) (fun c1 => ?_)
    · -- taken at 14
      have e9 : i = na := by omega
      subst e9
      rw [seg_nil (Int.le_refl _)] at hD
      have e8 : done = R := by rw [← hD]; exact (List.append_nil _).symm
      subst e8
      exact j_vret hG hZ dX3_fillByGroup_135 (Nat.zero_le _) (Nat.zero_le _) (hP n b0 g f1 ht hc hac hfr)
    · -- on at 14
      refine j_aload_n hG dX3_fillByGroup_17 rfl rfl ?_
      refine j_iload hG dX3_fillByGroup_18 rfl ?_
      refine j_callV (rest := []) hG vX3_58 dX3_fillByGroup_20 (c_X8_at (i := i) ha hca (by omega) (by omega)) ha rfl rfl (by decide) (by decide) (Nat.le_of_ble_eq_true rfl) rfl rfl (Nat.zero_le _) (Nat.zero_le _) ?_
      rintro _ _ ⟨rfl, rfl⟩
      refine j_st (st' := [.long (lZ (ga i))]) rfl ?_
      refine j_lstore (lv' := [(0, .ref m), (1, .ref a), (2, .ref t), (3, .long (lZ (sm))), (5, .int (iZ (mm))), (6, .int (iZ (i))), (7, .long (lZ (ga i)))]) hG dX3_fillByGroup_23 (by decide) rfl ?_
      refine j_lload hG dX3_fillByGroup_25 rfl ?_
      have q1 := rK_rng (hoa i)
      have q2 := rT_rng (hoa i)
      have q3 := rV_rng (hoa i)
      have q4 := acc_n hac
      refine j_callS (rest := []) hG vX3_75 dX3_fillByGroup_27 (c_X7_valueOf (x := ga i) (hoa i)) rfl rfl (by decide) (by decide) (Nat.le_of_ble_eq_true rfl) rfl rfl (Nat.zero_le _) (Nat.zero_le _) ?_
      rintro _ _ ⟨rfl, rfl⟩
      refine j_st (st' := [.int (iZ (rV (ga i)))]) rfl ?_
      refine j_istore (lv' := [(0, .ref m), (1, .ref a), (2, .ref t), (3, .long (lZ (sm))), (5, .int (iZ (mm))), (6, .int (iZ (i))), (7, .long (lZ (ga i))), (9, .int (iZ (rV (ga i))))]) hG dX3_fillByGroup_30 (by decide) rfl ?_
      refine j_lload_n hG dX3_fillByGroup_32 rfl rfl ?_
      refine j_iload hG dX3_fillByGroup_33 rfl ?_
      refine j_i2l hG dX3_fillByGroup_35 (by omega) ?_
      refine j_ladd hG dX3_fillByGroup_36 ?_
      refine j_lstore_n (lv' := [(0, .ref m), (1, .ref a), (2, .ref t), (3, .long (lZ (sm + (rV (ga i))))), (5, .int (iZ (mm))), (6, .int (iZ (i))), (7, .long (lZ (ga i))), (9, .int (iZ (rV (ga i))))]) hG dX3_fillByGroup_37 rfl (by decide) rfl ?_
      refine j_iinc (a := mm) (lv' := [(0, .ref m), (1, .ref a), (2, .ref t), (3, .long (lZ (sm + (rV (ga i))))), (5, .int (iZ (mm + 1))), (6, .int (iZ (i))), (7, .long (lZ (ga i))), (9, .int (iZ (rV (ga i))))]) hG dX3_fillByGroup_38 rfl (by decide) rfl ?_
      refine j_iload hG dX3_fillByGroup_41 rfl ?_
      refine j_iconst hG dX3_fillByGroup_43 ?_
      refine j_iadd hG dX3_fillByGroup_44 ?_
      refine j_aload_n hG dX3_fillByGroup_45 rfl rfl ?_
      refine j_callV (rest := [.int (iZ (i + 1))]) hG vX3_55 dX3_fillByGroup_46 (c_X8_size ha) ha rfl rfl (by decide) (by decide) (Nat.le_of_ble_eq_true rfl) rfl rfl (Nat.zero_le _) (Nat.zero_le _) ?_
      rintro _ _ ⟨rfl, rfl⟩
      refine j_st (st' := [.int (iZ (na)), .int (iZ (i + 1))]) rfl ?_
      refine j_icmp_ge (tgt := 75) hG dX3_fillByGroup_49 (by decide) (by omega) (by omega) (fun c2 => ?_) (fun c2 => ?_)
      · -- taken at 49
        refine j_aload_n hG dX3_fillByGroup_75 rfl rfl ?_
        refine j_get hG fX3_9 dX3_fillByGroup_76 hm rfl ?_
        refine j_bipush hG dX3_fillByGroup_79 (by decide) ?_
        refine j_icmp_ne (tgt := 88) hG dX3_fillByGroup_81 (by decide) (by omega) (by omega) (fun c3 => ?_) (fun c3 => ?_)
        · -- taken at 81
          refine j_aload_n hG dX3_fillByGroup_88 rfl rfl ?_
          refine j_get hG fX3_9 dX3_fillByGroup_89 hm rfl ?_
          refine j_bipush hG dX3_fillByGroup_92 (by decide) ?_
          refine j_icmp_ne (tgt := 103) hG dX3_fillByGroup_94 (by decide) (by omega) (by omega) (fun c4 => ?_) (fun c4 => ?_)
          · -- taken at 94
            refine j_iload hG dX3_fillByGroup_103 rfl ?_
            refine j_i2l hG dX3_fillByGroup_105 (by omega) ?_
            refine j_lstore (lv' := [(0, .ref m), (1, .ref a), (2, .ref t), (3, .long (lZ (sm + (rV (ga i))))), (5, .int (iZ (mm + 1))), (6, .int (iZ (i))), (7, .long (lZ (ga i))), (9, .int (iZ (rV (ga i)))), (10, .long (lZ (rV (ga i))))]) hG dX3_fillByGroup_106 (by decide) rfl ?_
            refine j_aload_n hG dX3_fillByGroup_108 rfl rfl ?_
            refine j_lload hG dX3_fillByGroup_109 rfl ?_
            refine j_callS (rest := [.ref t]) hG vX3_66 dX3_fillByGroup_111 (c_X7_keyOf (x := ga i) (hoa i)) rfl rfl (by decide) (by decide) (Nat.le_of_ble_eq_true rfl) rfl rfl (Nat.zero_le _) (Nat.zero_le _) ?_
            rintro _ _ ⟨rfl, rfl⟩
            refine j_st (st' := [.int (iZ (rK (ga i))), .ref t]) rfl ?_
            refine j_lload hG dX3_fillByGroup_114 rfl ?_
            refine j_callS (rest := [.int (iZ (rK (ga i))), .ref t]) hG vX3_72 dX3_fillByGroup_116 (c_X7_timeOf (x := ga i) (hoa i)) rfl rfl (by decide) (by decide) (Nat.le_of_ble_eq_true rfl) rfl rfl (Nat.zero_le _) (Nat.zero_le _) ?_
            rintro _ _ ⟨rfl, rfl⟩
            refine j_st (st' := [.int (iZ (rT (ga i))), .int (iZ (rK (ga i))), .ref t]) rfl ?_
            refine j_lload hG dX3_fillByGroup_119 rfl ?_
            refine j_callV (rest := []) hG vX3_90 dX3_fillByGroup_121 (c_X8_add_ (k := rK (ga i)) (t := rT (ga i)) (u := rV (ga i)) ht hc (by omega) (by omega) (by omega) (by omega)) ht rfl rfl (by decide) (by decide) (Nat.le_of_ble_eq_true rfl) rfl rfl (Nat.zero_le _) (Nat.zero_le _) ?_
            rintro _ f12 ⟨rfl, n5, b6, g7, ha8, h9, h10, fr11⟩
            refine j_st (st' := []) rfl ?_
            have h13 := (fr11 m (h_ne hm ht (oo_n (by decide))) (h_ne hm hc oa_J)).trans hm
            have h14 := (fr11 a hne (h_ne ha hc oa_J)).trans ha
            have h15 := (fr11 ca (h_ne hca ht (Ne.symm oa_J)) hne2).trans hca
            refine j_lconst (y := 0) hG dX3_fillByGroup_124 (by decide) ?_
            refine j_lstore_n (lv' := [(0, .ref m), (1, .ref a), (2, .ref t), (3, .long (lZ (0))), (5, .int (iZ (mm + 1))), (6, .int (iZ (i))), (7, .long (lZ (ga i))), (9, .int (iZ (rV (ga i)))), (10, .long (lZ (rV (ga i))))]) hG dX3_fillByGroup_125 rfl (by decide) rfl ?_
            refine j_iconst hG dX3_fillByGroup_126 ?_
            refine j_istore (lv' := [(0, .ref m), (1, .ref a), (2, .ref t), (3, .long (lZ (0))), (5, .int (iZ (0))), (6, .int (iZ (i))), (7, .long (lZ (ga i))), (9, .int (iZ (rV (ga i)))), (10, .long (lZ (rV (ga i))))]) hG dX3_fillByGroup_127 (by decide) rfl ?_
            refine j_iinc (a := i) (lv' := [(0, .ref m), (1, .ref a), (2, .ref t), (3, .long (lZ (0))), (5, .int (iZ (0))), (6, .int (iZ (i + 1))), (7, .long (lZ (ga i))), (9, .int (iZ (rV (ga i)))), (10, .long (lZ (rV (ga i))))]) hG dX3_fillByGroup_129 rfl (by decide) rfl ?_
            refine j_goto (tgt := 8) hG dX3_fillByGroup_132 (by decide) ?_
            refine j_lv (lv' := [(0, .ref m), (1, .ref a), (2, .ref t), (3, .long (lZ (0))), (5, .int (iZ (0))), (6, .int (iZ (i + 1)))]) (by simp) ?_
            have e4 : grp kd sm mm (seg ga i na) = (rK (ga i), rT (ga i), rV (ga i)) :: grp kd 0 0 (seg ga (i + 1) na) := by
              rw [seg_cons (show i < na by omega)]
              refine (if_neg (by rw [sameG_seg]; simp only [Bool.and_eq_true, decide_eq_true_eq]; omega)).trans ?_
              first | rw [if_pos (by omega)] | rw [if_neg (by omega), if_pos (by omega)] | rw [if_neg (by omega), if_neg (by omega)]
            refine ih (i + 1) 0 0 n5 b6 g7 (done ++ [(rK (ga i), rT (ga i), rV (ga i))]) f12 h13 h14 h15 h9 h10 (by omega) (acc_add hac (by omega) (by omega) ha8) ?_ (by omega) (by omega) (fun q q1 q2 => (fr11 q q1 q2).trans (hfr q q1 q2)) (by omega)
            rw [List.append_assoc, List.singleton_append, ← e4]; exact hD
          · -- on at 94
            refine j_iload hG dX3_fillByGroup_97 rfl ?_
            refine j_i2l hG dX3_fillByGroup_99 (by omega) ?_
            refine j_goto (tgt := 106) hG dX3_fillByGroup_100 (by decide) ?_
            refine j_lstore (lv' := [(0, .ref m), (1, .ref a), (2, .ref t), (3, .long (lZ (sm + (rV (ga i))))), (5, .int (iZ (mm + 1))), (6, .int (iZ (i))), (7, .long (lZ (ga i))), (9, .int (iZ (rV (ga i)))), (10, .long (lZ (mm + 1)))]) hG dX3_fillByGroup_106 (by decide) rfl ?_
            refine j_aload_n hG dX3_fillByGroup_108 rfl rfl ?_
            refine j_lload hG dX3_fillByGroup_109 rfl ?_
            refine j_callS (rest := [.ref t]) hG vX3_66 dX3_fillByGroup_111 (c_X7_keyOf (x := ga i) (hoa i)) rfl rfl (by decide) (by decide) (Nat.le_of_ble_eq_true rfl) rfl rfl (Nat.zero_le _) (Nat.zero_le _) ?_
            rintro _ _ ⟨rfl, rfl⟩
            refine j_st (st' := [.int (iZ (rK (ga i))), .ref t]) rfl ?_
            refine j_lload hG dX3_fillByGroup_114 rfl ?_
            refine j_callS (rest := [.int (iZ (rK (ga i))), .ref t]) hG vX3_72 dX3_fillByGroup_116 (c_X7_timeOf (x := ga i) (hoa i)) rfl rfl (by decide) (by decide) (Nat.le_of_ble_eq_true rfl) rfl rfl (Nat.zero_le _) (Nat.zero_le _) ?_
            rintro _ _ ⟨rfl, rfl⟩
            refine j_st (st' := [.int (iZ (rT (ga i))), .int (iZ (rK (ga i))), .ref t]) rfl ?_
            refine j_lload hG dX3_fillByGroup_119 rfl ?_
            refine j_callV (rest := []) hG vX3_90 dX3_fillByGroup_121 (c_X8_add_ (k := rK (ga i)) (t := rT (ga i)) (u := mm + 1) ht hc (by omega) (by omega) (by omega) (by omega)) ht rfl rfl (by decide) (by decide) (Nat.le_of_ble_eq_true rfl) rfl rfl (Nat.zero_le _) (Nat.zero_le _) ?_
            rintro _ f23 ⟨rfl, n16, b17, g18, ha19, h20, h21, fr22⟩
            refine j_st (st' := []) rfl ?_
            have h24 := (fr22 m (h_ne hm ht (oo_n (by decide))) (h_ne hm hc oa_J)).trans hm
            have h25 := (fr22 a hne (h_ne ha hc oa_J)).trans ha
            have h26 := (fr22 ca (h_ne hca ht (Ne.symm oa_J)) hne2).trans hca
            refine j_lconst (y := 0) hG dX3_fillByGroup_124 (by decide) ?_
            refine j_lstore_n (lv' := [(0, .ref m), (1, .ref a), (2, .ref t), (3, .long (lZ (0))), (5, .int (iZ (mm + 1))), (6, .int (iZ (i))), (7, .long (lZ (ga i))), (9, .int (iZ (rV (ga i)))), (10, .long (lZ (mm + 1)))]) hG dX3_fillByGroup_125 rfl (by decide) rfl ?_
            refine j_iconst hG dX3_fillByGroup_126 ?_
            refine j_istore (lv' := [(0, .ref m), (1, .ref a), (2, .ref t), (3, .long (lZ (0))), (5, .int (iZ (0))), (6, .int (iZ (i))), (7, .long (lZ (ga i))), (9, .int (iZ (rV (ga i)))), (10, .long (lZ (mm + 1)))]) hG dX3_fillByGroup_127 (by decide) rfl ?_
            refine j_iinc (a := i) (lv' := [(0, .ref m), (1, .ref a), (2, .ref t), (3, .long (lZ (0))), (5, .int (iZ (0))), (6, .int (iZ (i + 1))), (7, .long (lZ (ga i))), (9, .int (iZ (rV (ga i)))), (10, .long (lZ (mm + 1)))]) hG dX3_fillByGroup_129 rfl (by decide) rfl ?_
            refine j_goto (tgt := 8) hG dX3_fillByGroup_132 (by decide) ?_
            refine j_lv (lv' := [(0, .ref m), (1, .ref a), (2, .ref t), (3, .long (lZ (0))), (5, .int (iZ (0))), (6, .int (iZ (i + 1)))]) (by simp) ?_
            have e4 : grp kd sm mm (seg ga i na) = (rK (ga i), rT (ga i), mm + 1) :: grp kd 0 0 (seg ga (i + 1) na) := by
              rw [seg_cons (show i < na by omega)]
              refine (if_neg (by rw [sameG_seg]; simp only [Bool.and_eq_true, decide_eq_true_eq]; omega)).trans ?_
              first | rw [if_pos (by omega)] | rw [if_neg (by omega), if_pos (by omega)] | rw [if_neg (by omega), if_neg (by omega)]
            refine ih (i + 1) 0 0 n16 b17 g18 (done ++ [(rK (ga i), rT (ga i), mm + 1)]) f23 h24 h25 h26 h20 h21 (by omega) (acc_add hac (by omega) (by omega) ha19) ?_ (by omega) (by omega) (fun q q1 q2 => (fr22 q q1 q2).trans (hfr q q1 q2)) (by omega)
            rw [List.append_assoc, List.singleton_append, ← e4]; exact hD
        · -- on at 81
          refine j_lload_n hG dX3_fillByGroup_84 rfl rfl ?_
          refine j_goto (tgt := 106) hG dX3_fillByGroup_85 (by decide) ?_
          refine j_lstore (lv' := [(0, .ref m), (1, .ref a), (2, .ref t), (3, .long (lZ (sm + (rV (ga i))))), (5, .int (iZ (mm + 1))), (6, .int (iZ (i))), (7, .long (lZ (ga i))), (9, .int (iZ (rV (ga i)))), (10, .long (lZ (sm + (rV (ga i)))))]) hG dX3_fillByGroup_106 (by decide) rfl ?_
          refine j_aload_n hG dX3_fillByGroup_108 rfl rfl ?_
          refine j_lload hG dX3_fillByGroup_109 rfl ?_
          refine j_callS (rest := [.ref t]) hG vX3_66 dX3_fillByGroup_111 (c_X7_keyOf (x := ga i) (hoa i)) rfl rfl (by decide) (by decide) (Nat.le_of_ble_eq_true rfl) rfl rfl (Nat.zero_le _) (Nat.zero_le _) ?_
          rintro _ _ ⟨rfl, rfl⟩
          refine j_st (st' := [.int (iZ (rK (ga i))), .ref t]) rfl ?_
          refine j_lload hG dX3_fillByGroup_114 rfl ?_
          refine j_callS (rest := [.int (iZ (rK (ga i))), .ref t]) hG vX3_72 dX3_fillByGroup_116 (c_X7_timeOf (x := ga i) (hoa i)) rfl rfl (by decide) (by decide) (Nat.le_of_ble_eq_true rfl) rfl rfl (Nat.zero_le _) (Nat.zero_le _) ?_
          rintro _ _ ⟨rfl, rfl⟩
          refine j_st (st' := [.int (iZ (rT (ga i))), .int (iZ (rK (ga i))), .ref t]) rfl ?_
          refine j_lload hG dX3_fillByGroup_119 rfl ?_
          refine j_callV (rest := []) hG vX3_90 dX3_fillByGroup_121 (c_X8_add_ (k := rK (ga i)) (t := rT (ga i)) (u := sm + (rV (ga i))) ht hc (by omega) (by omega) (by omega) (by omega)) ht rfl rfl (by decide) (by decide) (Nat.le_of_ble_eq_true rfl) rfl rfl (Nat.zero_le _) (Nat.zero_le _) ?_
          rintro _ f34 ⟨rfl, n27, b28, g29, ha30, h31, h32, fr33⟩
          refine j_st (st' := []) rfl ?_
          have h35 := (fr33 m (h_ne hm ht (oo_n (by decide))) (h_ne hm hc oa_J)).trans hm
          have h36 := (fr33 a hne (h_ne ha hc oa_J)).trans ha
          have h37 := (fr33 ca (h_ne hca ht (Ne.symm oa_J)) hne2).trans hca
          refine j_lconst (y := 0) hG dX3_fillByGroup_124 (by decide) ?_
          refine j_lstore_n (lv' := [(0, .ref m), (1, .ref a), (2, .ref t), (3, .long (lZ (0))), (5, .int (iZ (mm + 1))), (6, .int (iZ (i))), (7, .long (lZ (ga i))), (9, .int (iZ (rV (ga i)))), (10, .long (lZ (sm + (rV (ga i)))))]) hG dX3_fillByGroup_125 rfl (by decide) rfl ?_
          refine j_iconst hG dX3_fillByGroup_126 ?_
          refine j_istore (lv' := [(0, .ref m), (1, .ref a), (2, .ref t), (3, .long (lZ (0))), (5, .int (iZ (0))), (6, .int (iZ (i))), (7, .long (lZ (ga i))), (9, .int (iZ (rV (ga i)))), (10, .long (lZ (sm + (rV (ga i)))))]) hG dX3_fillByGroup_127 (by decide) rfl ?_
          refine j_iinc (a := i) (lv' := [(0, .ref m), (1, .ref a), (2, .ref t), (3, .long (lZ (0))), (5, .int (iZ (0))), (6, .int (iZ (i + 1))), (7, .long (lZ (ga i))), (9, .int (iZ (rV (ga i)))), (10, .long (lZ (sm + (rV (ga i)))))]) hG dX3_fillByGroup_129 rfl (by decide) rfl ?_
          refine j_goto (tgt := 8) hG dX3_fillByGroup_132 (by decide) ?_
          refine j_lv (lv' := [(0, .ref m), (1, .ref a), (2, .ref t), (3, .long (lZ (0))), (5, .int (iZ (0))), (6, .int (iZ (i + 1)))]) (by simp) ?_
          have e4 : grp kd sm mm (seg ga i na) = (rK (ga i), rT (ga i), sm + (rV (ga i))) :: grp kd 0 0 (seg ga (i + 1) na) := by
            rw [seg_cons (show i < na by omega)]
            refine (if_neg (by rw [sameG_seg]; simp only [Bool.and_eq_true, decide_eq_true_eq]; omega)).trans ?_
            first | rw [if_pos (by omega)] | rw [if_neg (by omega), if_pos (by omega)] | rw [if_neg (by omega), if_neg (by omega)]
          refine ih (i + 1) 0 0 n27 b28 g29 (done ++ [(rK (ga i), rT (ga i), sm + (rV (ga i)))]) f34 h35 h36 h37 h31 h32 (by omega) (acc_add hac (by omega) (by omega) ha30) ?_ (by omega) (by omega) (fun q q1 q2 => (fr33 q q1 q2).trans (hfr q q1 q2)) (by omega)
          rw [List.append_assoc, List.singleton_append, ← e4]; exact hD
      · -- on at 49
        refine j_aload_n hG dX3_fillByGroup_52 rfl rfl ?_
        refine j_iload hG dX3_fillByGroup_53 rfl ?_
        refine j_iconst hG dX3_fillByGroup_55 ?_
        refine j_iadd hG dX3_fillByGroup_56 ?_
        refine j_callV (rest := []) hG vX3_58 dX3_fillByGroup_57 (c_X8_at (i := i + 1) ha hca (by omega) (by omega)) ha rfl rfl (by decide) (by decide) (Nat.le_of_ble_eq_true rfl) rfl rfl (Nat.zero_le _) (Nat.zero_le _) ?_
        rintro _ _ ⟨rfl, rfl⟩
        refine j_st (st' := [.long (lZ (ga (i + 1)))]) rfl ?_
        refine j_callS (rest := []) hG vX3_93 dX3_fillByGroup_60 (c_X7_groupOf (x := ga (i + 1)) (hoa (i + 1))) rfl rfl (by decide) (by decide) (Nat.le_of_ble_eq_true rfl) rfl rfl (Nat.zero_le _) (Nat.zero_le _) ?_
        rintro _ _ ⟨rfl, rfl⟩
        refine j_st (st' := [.long (lZ (rG (ga (i + 1))))]) rfl ?_
        refine j_lload hG dX3_fillByGroup_63 rfl ?_
        refine j_callS (rest := [.long (lZ (rG (ga (i + 1))))]) hG vX3_93 dX3_fillByGroup_65 (c_X7_groupOf (x := ga i) (hoa i)) rfl rfl (by decide) (by decide) (Nat.le_of_ble_eq_true rfl) rfl rfl (Nat.zero_le _) (Nat.zero_le _) ?_
        rintro _ _ ⟨rfl, rfl⟩
        refine j_st (st' := [.long (lZ (rG (ga i))), .long (lZ (rG (ga (i + 1))))]) rfl ?_
        refine j_lcmp hG dX3_fillByGroup_68 (by have := hoa (i + 1); unfold rOk at this; unfold rG; omega) (by have := hoa i; unfold rOk at this; unfold rG; omega) ?_
        refine j_if_ne (tgt := 75) hG dX3_fillByGroup_69 (by decide) (by have h9 := cI_rng (rG (ga (i + 1))) (rG (ga i)); omega) (fun c38 => ?_) (fun c38 => ?_)
        · -- taken at 69
          have c38 : ¬ _ := fun h9 => c38 (cI_eq.mpr h9)
          refine j_aload_n hG dX3_fillByGroup_75 rfl rfl ?_
          refine j_get hG fX3_9 dX3_fillByGroup_76 hm rfl ?_
          refine j_bipush hG dX3_fillByGroup_79 (by decide) ?_
          refine j_icmp_ne (tgt := 88) hG dX3_fillByGroup_81 (by decide) (by omega) (by omega) (fun c39 => ?_) (fun c39 => ?_)
          · -- taken at 81
            refine j_aload_n hG dX3_fillByGroup_88 rfl rfl ?_
            refine j_get hG fX3_9 dX3_fillByGroup_89 hm rfl ?_
            refine j_bipush hG dX3_fillByGroup_92 (by decide) ?_
            refine j_icmp_ne (tgt := 103) hG dX3_fillByGroup_94 (by decide) (by omega) (by omega) (fun c40 => ?_) (fun c40 => ?_)
            · -- taken at 94
              refine j_iload hG dX3_fillByGroup_103 rfl ?_
              refine j_i2l hG dX3_fillByGroup_105 (by omega) ?_
              refine j_lstore (lv' := [(0, .ref m), (1, .ref a), (2, .ref t), (3, .long (lZ (sm + (rV (ga i))))), (5, .int (iZ (mm + 1))), (6, .int (iZ (i))), (7, .long (lZ (ga i))), (9, .int (iZ (rV (ga i)))), (10, .long (lZ (rV (ga i))))]) hG dX3_fillByGroup_106 (by decide) rfl ?_
              refine j_aload_n hG dX3_fillByGroup_108 rfl rfl ?_
              refine j_lload hG dX3_fillByGroup_109 rfl ?_
              refine j_callS (rest := [.ref t]) hG vX3_66 dX3_fillByGroup_111 (c_X7_keyOf (x := ga i) (hoa i)) rfl rfl (by decide) (by decide) (Nat.le_of_ble_eq_true rfl) rfl rfl (Nat.zero_le _) (Nat.zero_le _) ?_
              rintro _ _ ⟨rfl, rfl⟩
              refine j_st (st' := [.int (iZ (rK (ga i))), .ref t]) rfl ?_
              refine j_lload hG dX3_fillByGroup_114 rfl ?_
              refine j_callS (rest := [.int (iZ (rK (ga i))), .ref t]) hG vX3_72 dX3_fillByGroup_116 (c_X7_timeOf (x := ga i) (hoa i)) rfl rfl (by decide) (by decide) (Nat.le_of_ble_eq_true rfl) rfl rfl (Nat.zero_le _) (Nat.zero_le _) ?_
              rintro _ _ ⟨rfl, rfl⟩
              refine j_st (st' := [.int (iZ (rT (ga i))), .int (iZ (rK (ga i))), .ref t]) rfl ?_
              refine j_lload hG dX3_fillByGroup_119 rfl ?_
              refine j_callV (rest := []) hG vX3_90 dX3_fillByGroup_121 (c_X8_add_ (k := rK (ga i)) (t := rT (ga i)) (u := rV (ga i)) ht hc (by omega) (by omega) (by omega) (by omega)) ht rfl rfl (by decide) (by decide) (Nat.le_of_ble_eq_true rfl) rfl rfl (Nat.zero_le _) (Nat.zero_le _) ?_
              rintro _ f48 ⟨rfl, n41, b42, g43, ha44, h45, h46, fr47⟩
              refine j_st (st' := []) rfl ?_
              have h49 := (fr47 m (h_ne hm ht (oo_n (by decide))) (h_ne hm hc oa_J)).trans hm
              have h50 := (fr47 a hne (h_ne ha hc oa_J)).trans ha
              have h51 := (fr47 ca (h_ne hca ht (Ne.symm oa_J)) hne2).trans hca
              refine j_lconst (y := 0) hG dX3_fillByGroup_124 (by decide) ?_
              refine j_lstore_n (lv' := [(0, .ref m), (1, .ref a), (2, .ref t), (3, .long (lZ (0))), (5, .int (iZ (mm + 1))), (6, .int (iZ (i))), (7, .long (lZ (ga i))), (9, .int (iZ (rV (ga i)))), (10, .long (lZ (rV (ga i))))]) hG dX3_fillByGroup_125 rfl (by decide) rfl ?_
              refine j_iconst hG dX3_fillByGroup_126 ?_
              refine j_istore (lv' := [(0, .ref m), (1, .ref a), (2, .ref t), (3, .long (lZ (0))), (5, .int (iZ (0))), (6, .int (iZ (i))), (7, .long (lZ (ga i))), (9, .int (iZ (rV (ga i)))), (10, .long (lZ (rV (ga i))))]) hG dX3_fillByGroup_127 (by decide) rfl ?_
              refine j_iinc (a := i) (lv' := [(0, .ref m), (1, .ref a), (2, .ref t), (3, .long (lZ (0))), (5, .int (iZ (0))), (6, .int (iZ (i + 1))), (7, .long (lZ (ga i))), (9, .int (iZ (rV (ga i)))), (10, .long (lZ (rV (ga i))))]) hG dX3_fillByGroup_129 rfl (by decide) rfl ?_
              refine j_goto (tgt := 8) hG dX3_fillByGroup_132 (by decide) ?_
              refine j_lv (lv' := [(0, .ref m), (1, .ref a), (2, .ref t), (3, .long (lZ (0))), (5, .int (iZ (0))), (6, .int (iZ (i + 1)))]) (by simp) ?_
              have e4 : grp kd sm mm (seg ga i na) = (rK (ga i), rT (ga i), rV (ga i)) :: grp kd 0 0 (seg ga (i + 1) na) := by
                rw [seg_cons (show i < na by omega)]
                refine (if_neg (by rw [sameG_seg]; simp only [Bool.and_eq_true, decide_eq_true_eq]; omega)).trans ?_
                first | rw [if_pos (by omega)] | rw [if_neg (by omega), if_pos (by omega)] | rw [if_neg (by omega), if_neg (by omega)]
              refine ih (i + 1) 0 0 n41 b42 g43 (done ++ [(rK (ga i), rT (ga i), rV (ga i))]) f48 h49 h50 h51 h45 h46 (by omega) (acc_add hac (by omega) (by omega) ha44) ?_ (by omega) (by omega) (fun q q1 q2 => (fr47 q q1 q2).trans (hfr q q1 q2)) (by omega)
              rw [List.append_assoc, List.singleton_append, ← e4]; exact hD
            · -- on at 94
              refine j_iload hG dX3_fillByGroup_97 rfl ?_
              refine j_i2l hG dX3_fillByGroup_99 (by omega) ?_
              refine j_goto (tgt := 106) hG dX3_fillByGroup_100 (by decide) ?_
              refine j_lstore (lv' := [(0, .ref m), (1, .ref a), (2, .ref t), (3, .long (lZ (sm + (rV (ga i))))), (5, .int (iZ (mm + 1))), (6, .int (iZ (i))), (7, .long (lZ (ga i))), (9, .int (iZ (rV (ga i)))), (10, .long (lZ (mm + 1)))]) hG dX3_fillByGroup_106 (by decide) rfl ?_
              refine j_aload_n hG dX3_fillByGroup_108 rfl rfl ?_
              refine j_lload hG dX3_fillByGroup_109 rfl ?_
              refine j_callS (rest := [.ref t]) hG vX3_66 dX3_fillByGroup_111 (c_X7_keyOf (x := ga i) (hoa i)) rfl rfl (by decide) (by decide) (Nat.le_of_ble_eq_true rfl) rfl rfl (Nat.zero_le _) (Nat.zero_le _) ?_
              rintro _ _ ⟨rfl, rfl⟩
              refine j_st (st' := [.int (iZ (rK (ga i))), .ref t]) rfl ?_
              refine j_lload hG dX3_fillByGroup_114 rfl ?_
              refine j_callS (rest := [.int (iZ (rK (ga i))), .ref t]) hG vX3_72 dX3_fillByGroup_116 (c_X7_timeOf (x := ga i) (hoa i)) rfl rfl (by decide) (by decide) (Nat.le_of_ble_eq_true rfl) rfl rfl (Nat.zero_le _) (Nat.zero_le _) ?_
              rintro _ _ ⟨rfl, rfl⟩
              refine j_st (st' := [.int (iZ (rT (ga i))), .int (iZ (rK (ga i))), .ref t]) rfl ?_
              refine j_lload hG dX3_fillByGroup_119 rfl ?_
              refine j_callV (rest := []) hG vX3_90 dX3_fillByGroup_121 (c_X8_add_ (k := rK (ga i)) (t := rT (ga i)) (u := mm + 1) ht hc (by omega) (by omega) (by omega) (by omega)) ht rfl rfl (by decide) (by decide) (Nat.le_of_ble_eq_true rfl) rfl rfl (Nat.zero_le _) (Nat.zero_le _) ?_
              rintro _ f59 ⟨rfl, n52, b53, g54, ha55, h56, h57, fr58⟩
              refine j_st (st' := []) rfl ?_
              have h60 := (fr58 m (h_ne hm ht (oo_n (by decide))) (h_ne hm hc oa_J)).trans hm
              have h61 := (fr58 a hne (h_ne ha hc oa_J)).trans ha
              have h62 := (fr58 ca (h_ne hca ht (Ne.symm oa_J)) hne2).trans hca
              refine j_lconst (y := 0) hG dX3_fillByGroup_124 (by decide) ?_
              refine j_lstore_n (lv' := [(0, .ref m), (1, .ref a), (2, .ref t), (3, .long (lZ (0))), (5, .int (iZ (mm + 1))), (6, .int (iZ (i))), (7, .long (lZ (ga i))), (9, .int (iZ (rV (ga i)))), (10, .long (lZ (mm + 1)))]) hG dX3_fillByGroup_125 rfl (by decide) rfl ?_
              refine j_iconst hG dX3_fillByGroup_126 ?_
              refine j_istore (lv' := [(0, .ref m), (1, .ref a), (2, .ref t), (3, .long (lZ (0))), (5, .int (iZ (0))), (6, .int (iZ (i))), (7, .long (lZ (ga i))), (9, .int (iZ (rV (ga i)))), (10, .long (lZ (mm + 1)))]) hG dX3_fillByGroup_127 (by decide) rfl ?_
              refine j_iinc (a := i) (lv' := [(0, .ref m), (1, .ref a), (2, .ref t), (3, .long (lZ (0))), (5, .int (iZ (0))), (6, .int (iZ (i + 1))), (7, .long (lZ (ga i))), (9, .int (iZ (rV (ga i)))), (10, .long (lZ (mm + 1)))]) hG dX3_fillByGroup_129 rfl (by decide) rfl ?_
              refine j_goto (tgt := 8) hG dX3_fillByGroup_132 (by decide) ?_
              refine j_lv (lv' := [(0, .ref m), (1, .ref a), (2, .ref t), (3, .long (lZ (0))), (5, .int (iZ (0))), (6, .int (iZ (i + 1)))]) (by simp) ?_
              have e4 : grp kd sm mm (seg ga i na) = (rK (ga i), rT (ga i), mm + 1) :: grp kd 0 0 (seg ga (i + 1) na) := by
                rw [seg_cons (show i < na by omega)]
                refine (if_neg (by rw [sameG_seg]; simp only [Bool.and_eq_true, decide_eq_true_eq]; omega)).trans ?_
                first | rw [if_pos (by omega)] | rw [if_neg (by omega), if_pos (by omega)] | rw [if_neg (by omega), if_neg (by omega)]
              refine ih (i + 1) 0 0 n52 b53 g54 (done ++ [(rK (ga i), rT (ga i), mm + 1)]) f59 h60 h61 h62 h56 h57 (by omega) (acc_add hac (by omega) (by omega) ha55) ?_ (by omega) (by omega) (fun q q1 q2 => (fr58 q q1 q2).trans (hfr q q1 q2)) (by omega)
              rw [List.append_assoc, List.singleton_append, ← e4]; exact hD
          · -- on at 81
            refine j_lload_n hG dX3_fillByGroup_84 rfl rfl ?_
            refine j_goto (tgt := 106) hG dX3_fillByGroup_85 (by decide) ?_
            refine j_lstore (lv' := [(0, .ref m), (1, .ref a), (2, .ref t), (3, .long (lZ (sm + (rV (ga i))))), (5, .int (iZ (mm + 1))), (6, .int (iZ (i))), (7, .long (lZ (ga i))), (9, .int (iZ (rV (ga i)))), (10, .long (lZ (sm + (rV (ga i)))))]) hG dX3_fillByGroup_106 (by decide) rfl ?_
            refine j_aload_n hG dX3_fillByGroup_108 rfl rfl ?_
            refine j_lload hG dX3_fillByGroup_109 rfl ?_
            refine j_callS (rest := [.ref t]) hG vX3_66 dX3_fillByGroup_111 (c_X7_keyOf (x := ga i) (hoa i)) rfl rfl (by decide) (by decide) (Nat.le_of_ble_eq_true rfl) rfl rfl (Nat.zero_le _) (Nat.zero_le _) ?_
            rintro _ _ ⟨rfl, rfl⟩
            refine j_st (st' := [.int (iZ (rK (ga i))), .ref t]) rfl ?_
            refine j_lload hG dX3_fillByGroup_114 rfl ?_
            refine j_callS (rest := [.int (iZ (rK (ga i))), .ref t]) hG vX3_72 dX3_fillByGroup_116 (c_X7_timeOf (x := ga i) (hoa i)) rfl rfl (by decide) (by decide) (Nat.le_of_ble_eq_true rfl) rfl rfl (Nat.zero_le _) (Nat.zero_le _) ?_
            rintro _ _ ⟨rfl, rfl⟩
            refine j_st (st' := [.int (iZ (rT (ga i))), .int (iZ (rK (ga i))), .ref t]) rfl ?_
            refine j_lload hG dX3_fillByGroup_119 rfl ?_
            refine j_callV (rest := []) hG vX3_90 dX3_fillByGroup_121 (c_X8_add_ (k := rK (ga i)) (t := rT (ga i)) (u := sm + (rV (ga i))) ht hc (by omega) (by omega) (by omega) (by omega)) ht rfl rfl (by decide) (by decide) (Nat.le_of_ble_eq_true rfl) rfl rfl (Nat.zero_le _) (Nat.zero_le _) ?_
            rintro _ f70 ⟨rfl, n63, b64, g65, ha66, h67, h68, fr69⟩
            refine j_st (st' := []) rfl ?_
            have h71 := (fr69 m (h_ne hm ht (oo_n (by decide))) (h_ne hm hc oa_J)).trans hm
            have h72 := (fr69 a hne (h_ne ha hc oa_J)).trans ha
            have h73 := (fr69 ca (h_ne hca ht (Ne.symm oa_J)) hne2).trans hca
            refine j_lconst (y := 0) hG dX3_fillByGroup_124 (by decide) ?_
            refine j_lstore_n (lv' := [(0, .ref m), (1, .ref a), (2, .ref t), (3, .long (lZ (0))), (5, .int (iZ (mm + 1))), (6, .int (iZ (i))), (7, .long (lZ (ga i))), (9, .int (iZ (rV (ga i)))), (10, .long (lZ (sm + (rV (ga i)))))]) hG dX3_fillByGroup_125 rfl (by decide) rfl ?_
            refine j_iconst hG dX3_fillByGroup_126 ?_
            refine j_istore (lv' := [(0, .ref m), (1, .ref a), (2, .ref t), (3, .long (lZ (0))), (5, .int (iZ (0))), (6, .int (iZ (i))), (7, .long (lZ (ga i))), (9, .int (iZ (rV (ga i)))), (10, .long (lZ (sm + (rV (ga i)))))]) hG dX3_fillByGroup_127 (by decide) rfl ?_
            refine j_iinc (a := i) (lv' := [(0, .ref m), (1, .ref a), (2, .ref t), (3, .long (lZ (0))), (5, .int (iZ (0))), (6, .int (iZ (i + 1))), (7, .long (lZ (ga i))), (9, .int (iZ (rV (ga i)))), (10, .long (lZ (sm + (rV (ga i)))))]) hG dX3_fillByGroup_129 rfl (by decide) rfl ?_
            refine j_goto (tgt := 8) hG dX3_fillByGroup_132 (by decide) ?_
            refine j_lv (lv' := [(0, .ref m), (1, .ref a), (2, .ref t), (3, .long (lZ (0))), (5, .int (iZ (0))), (6, .int (iZ (i + 1)))]) (by simp) ?_
            have e4 : grp kd sm mm (seg ga i na) = (rK (ga i), rT (ga i), sm + (rV (ga i))) :: grp kd 0 0 (seg ga (i + 1) na) := by
              rw [seg_cons (show i < na by omega)]
              refine (if_neg (by rw [sameG_seg]; simp only [Bool.and_eq_true, decide_eq_true_eq]; omega)).trans ?_
              first | rw [if_pos (by omega)] | rw [if_neg (by omega), if_pos (by omega)] | rw [if_neg (by omega), if_neg (by omega)]
            refine ih (i + 1) 0 0 n63 b64 g65 (done ++ [(rK (ga i), rT (ga i), sm + (rV (ga i)))]) f70 h71 h72 h73 h67 h68 (by omega) (acc_add hac (by omega) (by omega) ha66) ?_ (by omega) (by omega) (fun q q1 q2 => (fr69 q q1 q2).trans (hfr q q1 q2)) (by omega)
            rw [List.append_assoc, List.singleton_append, ← e4]; exact hD
        · -- on at 69
          have c38 := cI_eq.mp c38
          refine j_goto (tgt := 129) hG dX3_fillByGroup_72 (by decide) ?_
          refine j_iinc (a := i) (lv' := [(0, .ref m), (1, .ref a), (2, .ref t), (3, .long (lZ (sm + (rV (ga i))))), (5, .int (iZ (mm + 1))), (6, .int (iZ (i + 1))), (7, .long (lZ (ga i))), (9, .int (iZ (rV (ga i))))]) hG dX3_fillByGroup_129 rfl (by decide) rfl ?_
          refine j_goto (tgt := 8) hG dX3_fillByGroup_132 (by decide) ?_
          refine j_lv (lv' := [(0, .ref m), (1, .ref a), (2, .ref t), (3, .long (lZ (sm + (rV (ga i))))), (5, .int (iZ (mm + 1))), (6, .int (iZ (i + 1)))]) (by simp) ?_
          refine ih (i + 1) (sm + rV (ga i)) (mm + 1) n b0 g done f1 hm ha hca ht hc (by omega) hac ?_ (by omega) (by omega) hfr (by omega)
          rw [seg_cons (show i < na by omega)] at hD
          rw [show grp kd sm mm (ga i :: seg ga (i + 1) na) = grp kd (sm + rV (ga i)) (mm + 1) (seg ga (i + 1) na) from if_pos (by rw [sameG_seg]; simp only [Bool.and_eq_true, decide_eq_true_eq]; omega)] at hD
          exact hD
theorem c_X3_fillByGroup {l : Launch} {E : JE} {f : Hp} {m a ca t c : Nat} {kd lf rg col rel num : Int} {na ba n b0 : Int} {ga g : Int → Int} (hm : f m = oB 3 [.int (iZ (kd)), .int (iZ (lf)), .int (iZ (rg)), .int (iZ (col)), .int (iZ (rel)), .int (iZ (num))]) (ha : f a = oB 7 [.ref ca, .int (iZ (na)), .int (iZ (ba))]) (hca : f ca = aJ (E.2.1 1) 400 (ga)) (ht : f t = oB 7 [.ref c, .int (iZ (n)), .int (iZ (b0))]) (hc : f c = aJ (E.2.1 1) 400 (g)) (hna : 0 ≤ na ∧ na ≤ 400) (hoa : gOk ga) (hne : a ≠ t) (hne2 : ca ≠ c) (hac : acc g n b0 []) (hkd : 0 ≤ kd ∧ kd ≤ 12) : KX3_fillByGroup l E [.ref m, .ref a, .ref t] f (fun v f' => v = none ∧ ∃ (n' b' : Int) (g' : Int → Int), f' t = oB 7 [.ref c, .int (iZ n'), .int (iZ b')] ∧ f' c = aJ (E.2.1 1) 400 g' ∧ acc g' n' b' (grp kd 0 0 (seg ga 0 na)) ∧ ∀ q, q ≠ t → q ≠ c → f' q = f q) := by
  refine ct_of (own := RX3) (lv := [(0, .ref m), (1, .ref a), (2, .ref t)]) (by decide +kernel) rfl (Nat.le_of_ble_eq_true rfl) rfl ?_
  intro G hG hZ
  refine j_lconst (y := 0) hG dX3_fillByGroup_0 (by decide) ?_
  refine j_lstore_n (lv' := [(0, .ref m), (1, .ref a), (2, .ref t), (3, .long (lZ (0)))]) hG dX3_fillByGroup_1 rfl (by decide) rfl ?_
  refine j_iconst hG dX3_fillByGroup_2 ?_
  refine j_istore (lv' := [(0, .ref m), (1, .ref a), (2, .ref t), (3, .long (lZ (0))), (5, .int (iZ (0)))]) hG dX3_fillByGroup_3 (by decide) rfl ?_
  refine j_iconst hG dX3_fillByGroup_5 ?_
  refine j_istore (lv' := [(0, .ref m), (1, .ref a), (2, .ref t), (3, .long (lZ (0))), (5, .int (iZ (0))), (6, .int (iZ (0)))]) hG dX3_fillByGroup_6 (by decide) rfl ?_
  exact l_X3_fillByGroup (f0 := f) (R := grp kd 0 0 (seg ga 0 na)) hG hZ hna hoa hne hne2 hkd (fun n' b' g' f' a1 a2 a3 a4 => ⟨rfl, n', b', g', a1, a2, a3, a4⟩) ((na - 0).toNat + 1) 0 0 0 n b0 g [] f hm ha hca ht hc (by omega) hac (List.nil_append _) (by omega) (by omega) (fun _ _ _ => rfl) (by omega)
theorem l_X3_fillByKey {G : JG} {l : Launch} {E : JE} {P : Option Value → Hp → Prop} (hG : jX G l E cX3_fillByKey RX3 6 rmX3_fillByKey) (hZ : jZ G none P) {m a ca t c : Nat}  {na ba : Int} {ga : Int → Int} {R : List Tr} {f0 : Hp} (hna : 0 ≤ na ∧ na ≤ 400) (hoa : gOk ga) (hne : a ≠ t) (hne2 : ca ≠ c) (hva : ∀ j, 0 ≤ j → j < na → rV (ga j) ≤ 1000000000) (hP : ∀ (n' b' : Int) (g' : Int → Int) (f' : Hp), f' t = oB 7 [.ref c, .int (iZ n'), .int (iZ b')] → f' c = aJ (E.2.1 1) 400 g' → acc g' n' b' R → (∀ q, q ≠ t → q ≠ c → f' q = f0 q) → P none f') :
    ∀ (d : Nat) (i n b0 : Int) (g : Int → Int) (done : List Tr) (f1 : Hp), (ha : f1 a = oB 7 [.ref ca, .int (iZ (na)), .int (iZ (ba))]) → (hca : f1 ca = aJ (E.2.1 1) 400 (ga)) → (ht : f1 t = oB 7 [.ref c, .int (iZ (n)), .int (iZ (b0))]) → (hc : f1 c = aJ (E.2.1 1) 400 (g)) → (hi : 0 ≤ i ∧ i ≤ na) → (hac : acc g n b0 done) → (hD : done ++ lstK (seg ga i na) = R) → (hfr : ∀ q, q ≠ t → q ≠ c → f1 q = f0 q) → ((na - i).toNat) < d → J G 0 0 f1 2 [(0, .ref m), (1, .ref a), (2, .ref t), (3, .int (iZ (i)))] [] := by
  intro d
  induction d with
  | zero => intro i n b0 g done f1 ha hca ht hc hi hac hD hfr hd9; exfalso; omega
  | succ d ih =>
    intro i n b0 g done f1 ha hca ht hc hi hac hD hfr hd9
    refine j_iload_n hG dX3_fillByKey_2 rfl rfl ?_
    refine j_aload_n hG dX3_fillByKey_3 rfl rfl ?_
    refine j_callV (rest := [.int (iZ (i))]) hG vX3_55 dX3_fillByKey_4 (c_X8_size ha) ha rfl rfl (by decide) (by decide) (Nat.le_of_ble_eq_true rfl) rfl rfl (Nat.zero_le _) (Nat.zero_le _) ?_
    rintro _ _ ⟨rfl, rfl⟩
    refine j_st (st' := [.int (iZ (na)), .int (iZ (i))]) rfl ?_
    refine j_icmp_ge (tgt := 57) hG dX3_fillByKey_7 (by decide) (by omega) (by omega) (fun c1 => ?_) (fun c1 => ?_)
    · -- taken at 7
      have e9 : i = na := by omega
      subst e9
      rw [seg_nil (Int.le_refl _)] at hD
      have e8 : done = R := by rw [← hD]; exact (List.append_nil _).symm
      subst e8
      exact j_vret hG hZ dX3_fillByKey_57 (Nat.zero_le _) (Nat.zero_le _) (hP n b0 g f1 ht hc hac hfr)
    · -- on at 7
      refine j_aload_n hG dX3_fillByKey_10 rfl rfl ?_
      refine j_iload_n hG dX3_fillByKey_11 rfl rfl ?_
      have q1 := rK_rng (hoa i)
      have q5 := rK_rng (hoa (i + 1))
      have q4 := acc_n hac
      refine j_callV (rest := []) hG vX3_58 dX3_fillByKey_12 (c_X8_at (i := i) ha hca (by omega) (by omega)) ha rfl rfl (by decide) (by decide) (Nat.le_of_ble_eq_true rfl) rfl rfl (Nat.zero_le _) (Nat.zero_le _) ?_
      rintro _ _ ⟨rfl, rfl⟩
      refine j_st (st' := [.long (lZ (ga i))]) rfl ?_
      refine j_lstore (lv' := [(0, .ref m), (1, .ref a), (2, .ref t), (3, .int (iZ (i))), (4, .long (lZ (ga i)))]) hG dX3_fillByKey_15 (by decide) rfl ?_
      refine j_iload_n hG dX3_fillByKey_17 rfl rfl ?_
      refine j_iconst hG dX3_fillByKey_18 ?_
      refine j_iadd hG dX3_fillByKey_19 ?_
      refine j_aload_n hG dX3_fillByKey_20 rfl rfl ?_
      refine j_callV (rest := [.int (iZ (i + 1))]) hG vX3_55 dX3_fillByKey_21 (c_X8_size ha) ha rfl rfl (by decide) (by decide) (Nat.le_of_ble_eq_true rfl) rfl rfl (Nat.zero_le _) (Nat.zero_le _) ?_
      rintro _ _ ⟨rfl, rfl⟩
      refine j_st (st' := [.int (iZ (na)), .int (iZ (i + 1))]) rfl ?_
      refine j_icmp_eq (tgt := 45) hG dX3_fillByKey_24 (by decide) (by omega) (by omega) (fun c2 => ?_) (fun c2 => ?_)
      · -- taken at 24
        refine j_aload_n hG dX3_fillByKey_45 rfl rfl ?_
        refine j_lload hG dX3_fillByKey_46 rfl ?_
        refine j_callV (rest := []) hG vX3_86 dX3_fillByKey_48 (c_X8_addL (x := ga i) ht hc (by omega)) ht rfl rfl (by decide) (by decide) (Nat.le_of_ble_eq_true rfl) rfl rfl (Nat.zero_le _) (Nat.zero_le _) ?_
        rintro _ f10 ⟨rfl, n3, b4, g5, ha6, h7, h8, fr9⟩
        refine j_st (st' := []) rfl ?_
        have h11 := (fr9 a hne (h_ne ha hc oa_J)).trans ha
        have h12 := (fr9 ca (h_ne hca ht (Ne.symm oa_J)) hne2).trans hca
        refine j_iinc (a := i) (lv' := [(0, .ref m), (1, .ref a), (2, .ref t), (3, .int (iZ (i + 1))), (4, .long (lZ (ga i)))]) hG dX3_fillByKey_51 rfl (by decide) rfl ?_
        refine j_goto (tgt := 2) hG dX3_fillByKey_54 (by decide) ?_
        refine j_lv (lv' := [(0, .ref m), (1, .ref a), (2, .ref t), (3, .int (iZ (i + 1)))]) (by simp) ?_
        have e4 : lstK (seg ga i na) = (rK (ga i), rT (ga i), rV (ga i)) :: lstK (seg ga (i + 1) na) := by
          rw [seg_cons (show i < na by omega)]
          exact if_neg (by rw [sameK_seg]; simp only [Bool.and_eq_true, decide_eq_true_eq]; omega)
        refine ih (i + 1) n3 b4 g5 (done ++ [(rK (ga i), rT (ga i), rV (ga i))]) f10 h11 h12 h7 h8 (by omega) (acc_row hac (hoa i) (hva i (by omega) (by omega)) ha6) ?_ (fun q q1 q2 => (fr9 q q1 q2).trans (hfr q q1 q2)) (by omega)
        rw [List.append_assoc, List.singleton_append, ← e4]; exact hD
      · -- on at 24
        refine j_aload_n hG dX3_fillByKey_27 rfl rfl ?_
        refine j_iload_n hG dX3_fillByKey_28 rfl rfl ?_
        refine j_iconst hG dX3_fillByKey_29 ?_
        refine j_iadd hG dX3_fillByKey_30 ?_
        refine j_callV (rest := []) hG vX3_58 dX3_fillByKey_31 (c_X8_at (i := i + 1) ha hca (by omega) (by omega)) ha rfl rfl (by decide) (by decide) (Nat.le_of_ble_eq_true rfl) rfl rfl (Nat.zero_le _) (Nat.zero_le _) ?_
        rintro _ _ ⟨rfl, rfl⟩
        refine j_st (st' := [.long (lZ (ga (i + 1)))]) rfl ?_
        refine j_callS (rest := []) hG vX3_66 dX3_fillByKey_34 (c_X7_keyOf (x := ga (i + 1)) (hoa (i + 1))) rfl rfl (by decide) (by decide) (Nat.le_of_ble_eq_true rfl) rfl rfl (Nat.zero_le _) (Nat.zero_le _) ?_
        rintro _ _ ⟨rfl, rfl⟩
        refine j_st (st' := [.int (iZ (rK (ga (i + 1))))]) rfl ?_
        refine j_lload hG dX3_fillByKey_37 rfl ?_
        refine j_callS (rest := [.int (iZ (rK (ga (i + 1))))]) hG vX3_66 dX3_fillByKey_39 (c_X7_keyOf (x := ga i) (hoa i)) rfl rfl (by decide) (by decide) (Nat.le_of_ble_eq_true rfl) rfl rfl (Nat.zero_le _) (Nat.zero_le _) ?_
        rintro _ _ ⟨rfl, rfl⟩
        refine j_st (st' := [.int (iZ (rK (ga i))), .int (iZ (rK (ga (i + 1))))]) rfl ?_
        refine j_icmp_eq (tgt := 51) hG dX3_fillByKey_42 (by decide) (by omega) (by omega) (fun c13 => ?_) (fun c13 => ?_)
        · -- taken at 42
          refine j_iinc (a := i) (lv' := [(0, .ref m), (1, .ref a), (2, .ref t), (3, .int (iZ (i + 1))), (4, .long (lZ (ga i)))]) hG dX3_fillByKey_51 rfl (by decide) rfl ?_
          refine j_goto (tgt := 2) hG dX3_fillByKey_54 (by decide) ?_
          refine j_lv (lv' := [(0, .ref m), (1, .ref a), (2, .ref t), (3, .int (iZ (i + 1)))]) (by simp) ?_
          refine ih (i + 1) n b0 g done f1 ha hca ht hc (by omega) hac ?_ hfr (by omega)
          rw [seg_cons (show i < na by omega)] at hD
          rw [show lstK (ga i :: seg ga (i + 1) na) = lstK (seg ga (i + 1) na) from if_pos (by rw [sameK_seg]; simp only [Bool.and_eq_true, decide_eq_true_eq]; omega)] at hD
          exact hD
        · -- on at 42
          refine j_aload_n hG dX3_fillByKey_45 rfl rfl ?_
          refine j_lload hG dX3_fillByKey_46 rfl ?_
          refine j_callV (rest := []) hG vX3_86 dX3_fillByKey_48 (c_X8_addL (x := ga i) ht hc (by omega)) ht rfl rfl (by decide) (by decide) (Nat.le_of_ble_eq_true rfl) rfl rfl (Nat.zero_le _) (Nat.zero_le _) ?_
          rintro _ f21 ⟨rfl, n14, b15, g16, ha17, h18, h19, fr20⟩
          refine j_st (st' := []) rfl ?_
          have h22 := (fr20 a hne (h_ne ha hc oa_J)).trans ha
          have h23 := (fr20 ca (h_ne hca ht (Ne.symm oa_J)) hne2).trans hca
          refine j_iinc (a := i) (lv' := [(0, .ref m), (1, .ref a), (2, .ref t), (3, .int (iZ (i + 1))), (4, .long (lZ (ga i)))]) hG dX3_fillByKey_51 rfl (by decide) rfl ?_
          refine j_goto (tgt := 2) hG dX3_fillByKey_54 (by decide) ?_
          refine j_lv (lv' := [(0, .ref m), (1, .ref a), (2, .ref t), (3, .int (iZ (i + 1)))]) (by simp) ?_
          have e4 : lstK (seg ga i na) = (rK (ga i), rT (ga i), rV (ga i)) :: lstK (seg ga (i + 1) na) := by
            rw [seg_cons (show i < na by omega)]
            exact if_neg (by rw [sameK_seg]; simp only [Bool.and_eq_true, decide_eq_true_eq]; omega)
          refine ih (i + 1) n14 b15 g16 (done ++ [(rK (ga i), rT (ga i), rV (ga i))]) f21 h22 h23 h18 h19 (by omega) (acc_row hac (hoa i) (hva i (by omega) (by omega)) ha17) ?_ (fun q q1 q2 => (fr20 q q1 q2).trans (hfr q q1 q2)) (by omega)
          rw [List.append_assoc, List.singleton_append, ← e4]; exact hD
theorem c_X3_fillByKey {l : Launch} {E : JE} {f : Hp} {m a ca t c : Nat}  {na ba n b0 : Int} {ga g : Int → Int} (ha : f a = oB 7 [.ref ca, .int (iZ (na)), .int (iZ (ba))]) (hca : f ca = aJ (E.2.1 1) 400 (ga)) (ht : f t = oB 7 [.ref c, .int (iZ (n)), .int (iZ (b0))]) (hc : f c = aJ (E.2.1 1) 400 (g)) (hna : 0 ≤ na ∧ na ≤ 400) (hoa : gOk ga) (hne : a ≠ t) (hne2 : ca ≠ c) (hac : acc g n b0 []) (hva : ∀ j, 0 ≤ j → j < na → rV (ga j) ≤ 1000000000) : KX3_fillByKey l E [.ref m, .ref a, .ref t] f (fun v f' => v = none ∧ ∃ (n' b' : Int) (g' : Int → Int), f' t = oB 7 [.ref c, .int (iZ n'), .int (iZ b')] ∧ f' c = aJ (E.2.1 1) 400 g' ∧ acc g' n' b' (lstK (seg ga 0 na)) ∧ ∀ q, q ≠ t → q ≠ c → f' q = f q) := by
  refine ct_of (own := RX3) (lv := [(0, .ref m), (1, .ref a), (2, .ref t)]) (by decide +kernel) rfl (Nat.le_of_ble_eq_true rfl) rfl ?_
  intro G hG hZ
  refine j_iconst hG dX3_fillByKey_0 ?_
  refine j_istore_n (lv' := [(0, .ref m), (1, .ref a), (2, .ref t), (3, .int (iZ (0)))]) hG dX3_fillByKey_1 rfl (by decide) rfl ?_
  exact l_X3_fillByKey (f0 := f) (R := lstK (seg ga 0 na)) hG hZ hna hoa hne hne2 hva (fun n' b' g' f' a1 a2 a3 a4 => ⟨rfl, n', b', g', a1, a2, a3, a4⟩) ((na - 0).toNat + 1) 0 n b0 g [] f ha hca ht hc (by omega) hac (List.nil_append _) (fun _ _ _ => rfl) (by omega)
theorem l_X3_fillWithout {G : JG} {l : Launch} {E : JE} {P : Option Value → Hp → Prop} (hG : jX G l E cX3_fillWithout RX3 7 rmX3_fillWithout) (hZ : jZ G none P) {m a ca t c : Nat}  {na ba : Int} {ga : Int → Int} {R : List Tr} {f0 : Hp} (hna : 0 ≤ na ∧ na ≤ 400) (hoa : gOk ga) (hne : a ≠ t) (hne2 : ca ≠ c) (hva : ∀ j, 0 ≤ j → j < na → rV (ga j) ≤ 1000000000) {x : Int32} {B : List Int} (hmx : ∀ k, 0 ≤ k → k < 32 → bt x k.toNat = hasK B k) (hP : ∀ (n' b' : Int) (g' : Int → Int) (f' : Hp), f' t = oB 7 [.ref c, .int (iZ n'), .int (iZ b')] → f' c = aJ (E.2.1 1) 400 g' → acc g' n' b' R → (∀ q, q ≠ t → q ≠ c → f' q = f0 q) → P none f') :
    ∀ (d : Nat) (i n b0 : Int) (g : Int → Int) (done : List Tr) (f1 : Hp), (ha : f1 a = oB 7 [.ref ca, .int (iZ (na)), .int (iZ (ba))]) → (hca : f1 ca = aJ (E.2.1 1) 400 (ga)) → (ht : f1 t = oB 7 [.ref c, .int (iZ (n)), .int (iZ (b0))]) → (hc : f1 c = aJ (E.2.1 1) 400 (g)) → (hi : 0 ≤ i ∧ i ≤ na) → (hac : acc g n b0 done) → (hD : done ++ wout (seg ga i na) B = R) → (hfr : ∀ q, q ≠ t → q ≠ c → f1 q = f0 q) → ((na - i).toNat) < d → J G 0 0 f1 3 [(0, .ref m), (1, .ref a), (2, .int (x)), (3, .ref t), (4, .int (iZ (i)))] [] := by
  intro d
  induction d with
  | zero => intro i n b0 g done f1 ha hca ht hc hi hac hD hfr hd9; exfalso; omega
  | succ d ih =>
    intro i n b0 g done f1 ha hca ht hc hi hac hD hfr hd9
    refine j_iload hG dX3_fillWithout_3 rfl ?_
    refine j_aload_n hG dX3_fillWithout_5 rfl rfl ?_
    refine j_callV (rest := [.int (iZ (i))]) hG vX3_55 dX3_fillWithout_6 (c_X8_size ha) ha rfl rfl (by decide) (by decide) (Nat.le_of_ble_eq_true rfl) rfl rfl (Nat.zero_le _) (Nat.zero_le _) ?_
    rintro _ _ ⟨rfl, rfl⟩
    refine j_st (st' := [.int (iZ (na)), .int (iZ (i))]) rfl ?_
    refine j_icmp_ge (tgt := 44) hG dX3_fillWithout_9 (by decide) (by omega) (by omega) (fun c1 => ?_) (fun c1 => ?_)
    · -- taken at 9
      have e9 : i = na := by omega
      subst e9
      rw [seg_nil (Int.le_refl _)] at hD
      have e8 : done = R := by rw [← hD]; exact (List.append_nil _).symm
      subst e8
      exact j_vret hG hZ dX3_fillWithout_44 (Nat.zero_le _) (Nat.zero_le _) (hP n b0 g f1 ht hc hac hfr)
    · -- on at 9
      refine j_aload_n hG dX3_fillWithout_12 rfl rfl ?_
      refine j_iload hG dX3_fillWithout_13 rfl ?_
      have q1 := rK_rng (hoa i)
      have q4 := acc_n hac
      refine j_callV (rest := []) hG vX3_58 dX3_fillWithout_15 (c_X8_at (i := i) ha hca (by omega) (by omega)) ha rfl rfl (by decide) (by decide) (Nat.le_of_ble_eq_true rfl) rfl rfl (Nat.zero_le _) (Nat.zero_le _) ?_
      rintro _ _ ⟨rfl, rfl⟩
      refine j_st (st' := [.long (lZ (ga i))]) rfl ?_
      refine j_lstore (lv' := [(0, .ref m), (1, .ref a), (2, .int (x)), (3, .ref t), (4, .int (iZ (i))), (5, .long (lZ (ga i)))]) hG dX3_fillWithout_18 (by decide) rfl ?_
      refine j_iload_n hG dX3_fillWithout_20 rfl rfl ?_
      refine j_lload hG dX3_fillWithout_21 rfl ?_
      refine j_callS (rest := [.int (x)]) hG vX3_66 dX3_fillWithout_23 (c_X7_keyOf (x := ga i) (hoa i)) rfl rfl (by decide) (by decide) (Nat.le_of_ble_eq_true rfl) rfl rfl (Nat.zero_le _) (Nat.zero_le _) ?_
      rintro _ _ ⟨rfl, rfl⟩
      refine j_st (st' := [.int (iZ (rK (ga i))), .int (x)]) rfl ?_
      refine j_iushr hG dX3_fillWithout_26 ?_
      refine j_iconst hG dX3_fillWithout_27 ?_
      refine j_iand hG dX3_fillWithout_28 ?_
      refine j_eqi (show ((((x).toUInt32 >>> ((iZ (rK (ga i))).toUInt32 &&& Int32.toUInt32 31)).toInt32) &&& (iZ (1)) : Int32) = iZ (if bt x (rK (ga i)).toNat then 1 else 0) from (bt_get x q1)) ?_
      refine j_if_ne (tgt := 38) hG dX3_fillWithout_29 (by decide) (by split <;> omega) (fun c2 => ?_) (fun c2 => ?_)
      · -- taken at 29
        refine j_iinc (a := i) (lv' := [(0, .ref m), (1, .ref a), (2, .int (x)), (3, .ref t), (4, .int (iZ (i + 1))), (5, .long (lZ (ga i)))]) hG dX3_fillWithout_38 rfl (by decide) rfl ?_
        refine j_goto (tgt := 3) hG dX3_fillWithout_41 (by decide) ?_
        refine j_lv (lv' := [(0, .ref m), (1, .ref a), (2, .int (x)), (3, .ref t), (4, .int (iZ (i + 1)))]) (by simp) ?_
        have e6 := hmx (rK (ga i)) q1.1 q1.2
        have e5 : hasK B (rK (ga i)) = true := by
          rw [← e6]; apply Decidable.byContradiction; intro q; rw [if_neg q] at *; omega
        refine ih (i + 1) n b0 g done f1 ha hca ht hc (by omega) hac ?_ hfr (by omega)
        rw [seg_cons (show i < na by omega)] at hD
        unfold wout at hD ⊢
        rw [List.filter_cons_of_neg (by simp [e5])] at hD
        exact hD
      · -- on at 29
        refine j_aload_n hG dX3_fillWithout_32 rfl rfl ?_
        refine j_lload hG dX3_fillWithout_33 rfl ?_
        refine j_callV (rest := []) hG vX3_86 dX3_fillWithout_35 (c_X8_addL (x := ga i) ht hc (by omega)) ht rfl rfl (by decide) (by decide) (Nat.le_of_ble_eq_true rfl) rfl rfl (Nat.zero_le _) (Nat.zero_le _) ?_
        rintro _ f10 ⟨rfl, n3, b4, g5, ha6, h7, h8, fr9⟩
        refine j_st (st' := []) rfl ?_
        have h11 := (fr9 a hne (h_ne ha hc oa_J)).trans ha
        have h12 := (fr9 ca (h_ne hca ht (Ne.symm oa_J)) hne2).trans hca
        refine j_iinc (a := i) (lv' := [(0, .ref m), (1, .ref a), (2, .int (x)), (3, .ref t), (4, .int (iZ (i + 1))), (5, .long (lZ (ga i)))]) hG dX3_fillWithout_38 rfl (by decide) rfl ?_
        refine j_goto (tgt := 3) hG dX3_fillWithout_41 (by decide) ?_
        refine j_lv (lv' := [(0, .ref m), (1, .ref a), (2, .int (x)), (3, .ref t), (4, .int (iZ (i + 1)))]) (by simp) ?_
        have e6 := hmx (rK (ga i)) q1.1 q1.2
        have e5 : hasK B (rK (ga i)) = false := by
          rw [← e6]; apply Bool.eq_false_iff.mpr; intro q; rw [if_pos q] at *; omega
        have e4 : wout (seg ga i na) B = (rK (ga i), rT (ga i), rV (ga i)) :: wout (seg ga (i + 1) na) B := by
          unfold wout
          rw [seg_cons (show i < na by omega), List.filter_cons_of_pos (by simp [e5]), List.map_cons]
        refine ih (i + 1) n3 b4 g5 (done ++ [(rK (ga i), rT (ga i), rV (ga i))]) f10 h11 h12 h7 h8 (by omega) (acc_row hac (hoa i) (hva i (by omega) (by omega)) ha6) ?_ (fun q q1 q2 => (fr9 q q1 q2).trans (hfr q q1 q2)) (by omega)
        rw [List.append_assoc, List.singleton_append, ← e4]; exact hD
theorem c_X3_fillWithout {l : Launch} {E : JE} {f : Hp} {m a ca t c : Nat}  {na ba n b0 : Int} {ga g : Int → Int} {x : Int32} {B : List Int} (ha : f a = oB 7 [.ref ca, .int (iZ (na)), .int (iZ (ba))]) (hca : f ca = aJ (E.2.1 1) 400 (ga)) (ht : f t = oB 7 [.ref c, .int (iZ (n)), .int (iZ (b0))]) (hc : f c = aJ (E.2.1 1) 400 (g)) (hna : 0 ≤ na ∧ na ≤ 400) (hoa : gOk ga) (hne : a ≠ t) (hne2 : ca ≠ c) (hac : acc g n b0 []) (hva : ∀ j, 0 ≤ j → j < na → rV (ga j) ≤ 1000000000) (hmx : ∀ k, 0 ≤ k → k < 32 → bt x k.toNat = hasK B k) : KX3_fillWithout l E [.ref m, .ref a, .int (x), .ref t] f (fun v f' => v = none ∧ ∃ (n' b' : Int) (g' : Int → Int), f' t = oB 7 [.ref c, .int (iZ n'), .int (iZ b')] ∧ f' c = aJ (E.2.1 1) 400 g' ∧ acc g' n' b' (wout (seg ga 0 na) B) ∧ ∀ q, q ≠ t → q ≠ c → f' q = f q) := by
  refine ct_of (own := RX3) (lv := [(0, .ref m), (1, .ref a), (2, .int (x)), (3, .ref t)]) (by decide +kernel) rfl (Nat.le_of_ble_eq_true rfl) rfl ?_
  intro G hG hZ
  refine j_iconst hG dX3_fillWithout_0 ?_
  refine j_istore (lv' := [(0, .ref m), (1, .ref a), (2, .int (x)), (3, .ref t), (4, .int (iZ (0)))]) hG dX3_fillWithout_1 (by decide) rfl ?_
  exact l_X3_fillWithout (f0 := f) (R := wout (seg ga 0 na) B) hG hZ hna hoa hne hne2 hva hmx (fun n' b' g' f' a1 a2 a3 a4 => ⟨rfl, n', b', g', a1, a2, a3, a4⟩) ((na - 0).toNat + 1) 0 n b0 g [] f ha hca ht hc (by omega) hac (List.nil_append _) (fun _ _ _ => rfl) (by omega)
