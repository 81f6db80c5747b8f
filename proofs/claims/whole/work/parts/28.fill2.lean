theorem rK_mono {x y : Int} (h : x ≤ y) : rK x ≤ rK y := by unfold rK; omega
theorem filter_none {g : Int → Int} {a b k : Int} (h : ∀ j, a ≤ j → j < b → rK (g j) ≠ k) : (seg g a b).filter (fun y => decide (rK y = k)) = [] := by
  apply List.filter_eq_nil_iff.mpr
  intro y hy
  obtain ⟨j, h1, h2, rfl⟩ := seg_mem.mp hy
  simpa using h j h1 h2
theorem l_X3_pairs_37 {G : JG} {l : Launch} {E : JE} {P : Option Value → Hp → Prop} (hG : jX G l E cX3_fillByPairs RX3 14 rmX3_fillByPairs) (hZ : jZ G none P) {m a ca b cb t c : Nat} {na ba nb bb : Int} {ga gb : Int → Int} (hna : 0 ≤ na ∧ na ≤ 400) (hnb : 0 ≤ nb ∧ nb ≤ 400) (hoa : gOk ga) (hob : gOk gb) (hne : a ≠ t) (hne2 : ca ≠ c) (hne3 : b ≠ t) (hne4 : cb ≠ c) (hsa : ∀ i j, 0 ≤ i → i ≤ j → j < na → rK (ga i) ≤ rK (ga j)) (hsb : ∀ i j, 0 ≤ i → i ≤ j → j < nb → rK (gb i) ≤ rK (gb j))  {i n b0 : Int} {g : Int → Int} {f0 : Hp} (hi : 0 ≤ i ∧ i < na) (kk : ∀ (fm : Int) (f1 : Hp), f1 a = oB 7 [.ref ca, .int (iZ (na)), .int (iZ (ba))] → f1 ca = aJ (E.2.1 1) 400 (ga) → f1 b = oB 7 [.ref cb, .int (iZ (nb)), .int (iZ (bb))] → f1 cb = aJ (E.2.1 1) 400 (gb) → f1 t = oB 7 [.ref c, .int (iZ (n)), .int (iZ (b0))] → f1 c = aJ (E.2.1 1) 400 (g) → f1 = f0 → 0 ≤ fm ∧ fm ≤ nb → (∀ j, 0 ≤ j → j < fm → rK (gb j) < rK (ga i)) → (fm < nb → rK (ga i) ≤ rK (gb fm)) → J G 0 0 f1 66 [(0, .ref m), (1, .ref a), (2, .ref b), (3, .ref t), (4, .int (iZ (fm))), (5, .int (iZ (i))), (6, .long (lZ (ga i))), (8, .int (iZ (rK (ga i))))] []) :
    ∀ (d : Nat) (fm : Int) (f1 : Hp), (ha : f1 a = oB 7 [.ref ca, .int (iZ (na)), .int (iZ (ba))]) → (hca : f1 ca = aJ (E.2.1 1) 400 (ga)) → (hb : f1 b = oB 7 [.ref cb, .int (iZ (nb)), .int (iZ (bb))]) → (hcb : f1 cb = aJ (E.2.1 1) 400 (gb)) → (ht : f1 t = oB 7 [.ref c, .int (iZ (n)), .int (iZ (b0))]) → (hc : f1 c = aJ (E.2.1 1) 400 (g)) → (hf : f1 = f0) → (hfm : 0 ≤ fm ∧ fm ≤ nb) → (hlt : ∀ j, 0 ≤ j → j < fm → rK (gb j) < rK (ga i)) → ((nb - fm).toNat) < d → J G 0 0 f1 37 [(0, .ref m), (1, .ref a), (2, .ref b), (3, .ref t), (4, .int (iZ (fm))), (5, .int (iZ (i))), (6, .long (lZ (ga i))), (8, .int (iZ (rK (ga i))))] [] := by
  intro d
  induction d with
  | zero => intro fm f1 ha hca hb hcb ht hc hf hfm hlt hd9; exfalso; omega
  | succ d ih =>
    intro fm f1 ha hca hb hcb ht hc hf hfm hlt hd9
    refine j_iload hG dX3_fillByPairs_37 rfl ?_
    refine j_aload_n hG dX3_fillByPairs_39 rfl rfl ?_
    refine j_callV (rest := [.int (iZ (fm))]) hG vX3_55 dX3_fillByPairs_40 (c_X8_size hb) hb rfl rfl (by decide) (by decide) (Nat.le_of_ble_eq_true rfl) rfl rfl (Nat.zero_le _) (Nat.zero_le _) ?_
    rintro _ _ ⟨rfl, rfl⟩
    refine j_st (st' := [.int (iZ (nb)), .int (iZ (fm))]) rfl ?_
    refine j_icmp_ge (tgt := 66) hG dX3_fillByPairs_43 (by decide) (by omega) (by omega) (fun c1 => ?_) (fun c1 => ?_)
    · -- taken at 43
      exact kk fm f1 ha hca hb hcb ht hc hf hfm hlt (by omega)
    · -- on at 43
      refine j_aload_n hG dX3_fillByPairs_46 rfl rfl ?_
      refine j_iload hG dX3_fillByPairs_47 rfl ?_
      refine j_callV (rest := []) hG vX3_58 dX3_fillByPairs_49 (c_X8_at (i := fm) hb hcb (by omega) (by omega)) hb rfl rfl (by decide) (by decide) (Nat.le_of_ble_eq_true rfl) rfl rfl (Nat.zero_le _) (Nat.zero_le _) ?_
      rintro _ _ ⟨rfl, rfl⟩
      refine j_st (st' := [.long (lZ (gb fm))]) rfl ?_
      refine j_callS (rest := []) hG vX3_66 dX3_fillByPairs_52 (c_X7_keyOf (x := gb fm) (hob fm)) rfl rfl (by decide) (by decide) (Nat.le_of_ble_eq_true rfl) rfl rfl (Nat.zero_le _) (Nat.zero_le _) ?_
      rintro _ _ ⟨rfl, rfl⟩
      refine j_st (st' := [.int (iZ (rK (gb fm)))]) rfl ?_
      refine j_iload hG dX3_fillByPairs_55 rfl ?_
      have q1 := rK_rng (hoa i)
      have q2 := rK_rng (hob fm)
      refine j_icmp_ge (tgt := 66) hG dX3_fillByPairs_57 (by decide) (by omega) (by omega) (fun c2 => ?_) (fun c2 => ?_)
      · -- taken at 57
        exact kk fm f1 ha hca hb hcb ht hc hf hfm hlt (by omega)
      · -- on at 57
        refine j_iinc (a := fm) (lv' := [(0, .ref m), (1, .ref a), (2, .ref b), (3, .ref t), (4, .int (iZ (fm + 1))), (5, .int (iZ (i))), (6, .long (lZ (ga i))), (8, .int (iZ (rK (ga i))))]) hG dX3_fillByPairs_60 rfl (by decide) rfl ?_
        refine j_goto (tgt := 37) hG dX3_fillByPairs_63 (by decide) ?_
        exact ih (fm + 1) f1 ha hca hb hcb ht hc hf (by omega) (fun j j1 j2 => by by_cases e : j = fm; (subst e; omega); exact hlt j j1 (by omega)) (by omega)
theorem l_X3_pairs_70 {G : JG} {l : Launch} {E : JE} {P : Option Value → Hp → Prop} (hG : jX G l E cX3_fillByPairs RX3 14 rmX3_fillByPairs) (hZ : jZ G none P) {m a ca b cb t c : Nat} {na ba nb bb : Int} {ga gb : Int → Int} (hna : 0 ≤ na ∧ na ≤ 400) (hnb : 0 ≤ nb ∧ nb ≤ 400) (hoa : gOk ga) (hob : gOk gb) (hne : a ≠ t) (hne2 : ca ≠ c) (hne3 : b ≠ t) (hne4 : cb ≠ c) (hsa : ∀ i j, 0 ≤ i → i ≤ j → j < na → rK (ga i) ≤ rK (ga j)) (hsb : ∀ i j, 0 ≤ i → i ≤ j → j < nb → rK (gb i) ≤ rK (gb j))  {i fm : Int} {M : List Tr} {f0 : Hp} (hi : 0 ≤ i ∧ i < na) (hfm : 0 ≤ fm ∧ fm ≤ nb) (hge : fm < nb → rK (ga i) ≤ rK (gb fm)) (kk : ∀ (n b0 : Int) (g : Int → Int) (f1 : Hp), f1 a = oB 7 [.ref ca, .int (iZ (na)), .int (iZ (ba))] → f1 ca = aJ (E.2.1 1) 400 (ga) → f1 b = oB 7 [.ref cb, .int (iZ (nb)), .int (iZ (bb))] → f1 cb = aJ (E.2.1 1) 400 (gb) → f1 t = oB 7 [.ref c, .int (iZ (n)), .int (iZ (b0))] → f1 c = aJ (E.2.1 1) 400 (g) → acc g n b0 M → (∀ q, q ≠ t → q ≠ c → f1 q = f0 q) → J G 0 0 f1 150 [(0, .ref m), (1, .ref a), (2, .ref b), (3, .ref t), (4, .int (iZ (fm))), (5, .int (iZ (i)))] []) :
    ∀ (d : Nat) (j n b0 : Int) (g : Int → Int) (done : List Tr) (f1 : Hp), (ha : f1 a = oB 7 [.ref ca, .int (iZ (na)), .int (iZ (ba))]) → (hca : f1 ca = aJ (E.2.1 1) 400 (ga)) → (hb : f1 b = oB 7 [.ref cb, .int (iZ (nb)), .int (iZ (bb))]) → (hcb : f1 cb = aJ (E.2.1 1) 400 (gb)) → (ht : f1 t = oB 7 [.ref c, .int (iZ (n)), .int (iZ (b0))]) → (hc : f1 c = aJ (E.2.1 1) 400 (g)) → (hj : fm ≤ j ∧ j ≤ nb) → (hac : acc g n b0 done) → (hD : done ++ ((seg gb j nb).filter (fun y => decide (rK y = rK (ga i)))).map (fun y => (rK (ga i), max (rT (ga i)) (rT y), rV (ga i) + rV y)) = M) → (hfr : ∀ q, q ≠ t → q ≠ c → f1 q = f0 q) → ((nb - j).toNat) < d → J G 0 0 f1 70 [(0, .ref m), (1, .ref a), (2, .ref b), (3, .ref t), (4, .int (iZ (fm))), (5, .int (iZ (i))), (6, .long (lZ (ga i))), (8, .int (iZ (rK (ga i)))), (9, .int (iZ (j)))] [] := by
  intro d
  induction d with
  | zero => intro j n b0 g done f1 ha hca hb hcb ht hc hj hac hD hfr hd9; exfalso; omega
  | succ d ih =>
    intro j n b0 g done f1 ha hca hb hcb ht hc hj hac hD hfr hd9
    refine j_iload hG dX3_fillByPairs_70 rfl ?_
    refine j_aload_n hG dX3_fillByPairs_72 rfl rfl ?_
    refine j_callV (rest := [.int (iZ (j))]) hG vX3_55 dX3_fillByPairs_73 (c_X8_size hb) hb rfl rfl (by decide) (by decide) (Nat.le_of_ble_eq_true rfl) rfl rfl (Nat.zero_le _) (Nat.zero_le _) ?_
    rintro _ _ ⟨rfl, rfl⟩
    refine j_st (st' := [.int (iZ (nb)), .int (iZ (j))]) rfl ?_
    refine j_icmp_ge (tgt := 150) hG dX3_fillByPairs_76 (by decide) (by omega) (by omega) (fun c1 => ?_) (fun c1 => ?_)
    · -- taken at 76
      have e9 : acc g n b0 M := by
        by_cases w1 : b0 = 1
        · rw [← hD]; exact acc_bad hac w1
        · have w2 : (seg gb j nb).filter (fun y => decide (rK y = rK (ga i))) = [] := by
            refine filter_none (fun j' j1 j2 => ?_)
            have z1 := hsb fm j (by omega) (by omega) (by omega)
            have z2 := hge (by omega)
            have z3 := hsb j j' (by omega) j1 j2
            have z4 := acc_b hac
            omega
          rw [w2, List.map_nil, List.append_nil] at hD
          rw [← hD]; exact hac
      refine j_lv (lv' := [(0, .ref m), (1, .ref a), (2, .ref b), (3, .ref t), (4, .int (iZ (fm))), (5, .int (iZ (i)))]) (by simp) ?_
      exact kk n b0 g f1 ha hca hb hcb ht hc e9 hfr
    · -- on at 76
      refine j_aload_n hG dX3_fillByPairs_79 rfl rfl ?_
      refine j_iload hG dX3_fillByPairs_80 rfl ?_
      refine j_callV (rest := []) hG vX3_58 dX3_fillByPairs_82 (c_X8_at (i := j) hb hcb (by omega) (by omega)) hb rfl rfl (by decide) (by decide) (Nat.le_of_ble_eq_true rfl) rfl rfl (Nat.zero_le _) (Nat.zero_le _) ?_
      rintro _ _ ⟨rfl, rfl⟩
      refine j_st (st' := [.long (lZ (gb j))]) rfl ?_
      refine j_callS (rest := []) hG vX3_66 dX3_fillByPairs_85 (c_X7_keyOf (x := gb j) (hob j)) rfl rfl (by decide) (by decide) (Nat.le_of_ble_eq_true rfl) rfl rfl (Nat.zero_le _) (Nat.zero_le _) ?_
      rintro _ _ ⟨rfl, rfl⟩
      refine j_st (st' := [.int (iZ (rK (gb j)))]) rfl ?_
      refine j_iload hG dX3_fillByPairs_88 rfl ?_
      have q1 := rK_rng (hoa i)
      have q2 := rK_rng (hob j)
      refine j_icmp_ne (tgt := 150) hG dX3_fillByPairs_90 (by decide) (by omega) (by omega) (fun c2 => ?_) (fun c2 => ?_)
      · -- taken at 90
        have e9 : acc g n b0 M := by
          by_cases w1 : b0 = 1
          · rw [← hD]; exact acc_bad hac w1
          · have w2 : (seg gb j nb).filter (fun y => decide (rK y = rK (ga i))) = [] := by
              refine filter_none (fun j' j1 j2 => ?_)
              have z1 := hsb fm j (by omega) (by omega) (by omega)
              have z2 := hge (by omega)
              have z3 := hsb j j' (by omega) j1 j2
              have z4 := acc_b hac
              omega
            rw [w2, List.map_nil, List.append_nil] at hD
            rw [← hD]; exact hac
        refine j_lv (lv' := [(0, .ref m), (1, .ref a), (2, .ref b), (3, .ref t), (4, .int (iZ (fm))), (5, .int (iZ (i)))]) (by simp) ?_
        exact kk n b0 g f1 ha hca hb hcb ht hc e9 hfr
      · -- on at 90
        refine j_aload_n hG dX3_fillByPairs_93 rfl rfl ?_
        have q5 := acc_b hac
        refine j_callV (rest := []) hG vX3_97 dX3_fillByPairs_94 (c_X8_isFull ht (by omega)) ht rfl rfl (by decide) (by decide) (Nat.le_of_ble_eq_true rfl) rfl rfl (Nat.zero_le _) (Nat.zero_le _) ?_
        rintro _ _ ⟨rfl, rfl⟩
        refine j_st (st' := [.int (iZ (b0))]) rfl ?_
        refine j_if_ne (tgt := 150) hG dX3_fillByPairs_97 (by decide) (by omega) (fun c3 => ?_) (fun c3 => ?_)
        · -- taken at 97
          have e9 : acc g n b0 M := by
            by_cases w1 : b0 = 1
            · rw [← hD]; exact acc_bad hac w1
            · have w2 : (seg gb j nb).filter (fun y => decide (rK y = rK (ga i))) = [] := by
                refine filter_none (fun j' j1 j2 => ?_)
                have z1 := hsb fm j (by omega) (by omega) (by omega)
                have z2 := hge (by omega)
                have z3 := hsb j j' (by omega) j1 j2
                have z4 := acc_b hac
                omega
              rw [w2, List.map_nil, List.append_nil] at hD
              rw [← hD]; exact hac
          refine j_lv (lv' := [(0, .ref m), (1, .ref a), (2, .ref b), (3, .ref t), (4, .int (iZ (fm))), (5, .int (iZ (i)))]) (by simp) ?_
          exact kk n b0 g f1 ha hca hb hcb ht hc e9 hfr
        · -- on at 97
          have q3 := rV_rng (hoa i)
          have q4 := rV_rng (hob j)
          have q6 := rT_rng (hoa i)
          have q7 := rT_rng (hob j)
          have q8 := acc_n hac
          refine j_aload_n hG dX3_fillByPairs_100 rfl rfl ?_
          refine j_iload hG dX3_fillByPairs_101 rfl ?_
          refine j_callV (rest := []) hG vX3_58 dX3_fillByPairs_103 (c_X8_at (i := j) hb hcb (by omega) (by omega)) hb rfl rfl (by decide) (by decide) (Nat.le_of_ble_eq_true rfl) rfl rfl (Nat.zero_le _) (Nat.zero_le _) ?_
          rintro _ _ ⟨rfl, rfl⟩
          refine j_st (st' := [.long (lZ (gb j))]) rfl ?_
          refine j_lstore (lv' := [(0, .ref m), (1, .ref a), (2, .ref b), (3, .ref t), (4, .int (iZ (fm))), (5, .int (iZ (i))), (6, .long (lZ (ga i))), (8, .int (iZ (rK (ga i)))), (9, .int (iZ (j))), (10, .long (lZ (gb j)))]) hG dX3_fillByPairs_106 (by decide) rfl ?_
          refine j_lload hG dX3_fillByPairs_108 rfl ?_
          refine j_callS (rest := []) hG vX3_75 dX3_fillByPairs_110 (c_X7_valueOf (x := ga i) (hoa i)) rfl rfl (by decide) (by decide) (Nat.le_of_ble_eq_true rfl) rfl rfl (Nat.zero_le _) (Nat.zero_le _) ?_
          rintro _ _ ⟨rfl, rfl⟩
          refine j_st (st' := [.int (iZ (rV (ga i)))]) rfl ?_
          refine j_i2l hG dX3_fillByPairs_113 (by omega) ?_
          refine j_lload hG dX3_fillByPairs_114 rfl ?_
          refine j_callS (rest := [.long (lZ (rV (ga i)))]) hG vX3_75 dX3_fillByPairs_116 (c_X7_valueOf (x := gb j) (hob j)) rfl rfl (by decide) (by decide) (Nat.le_of_ble_eq_true rfl) rfl rfl (Nat.zero_le _) (Nat.zero_le _) ?_
          rintro _ _ ⟨rfl, rfl⟩
          refine j_st (st' := [.int (iZ (rV (gb j))), .long (lZ (rV (ga i)))]) rfl ?_
          refine j_i2l hG dX3_fillByPairs_119 (by omega) ?_
          refine j_ladd hG dX3_fillByPairs_120 ?_
          refine j_lstore (lv' := [(0, .ref m), (1, .ref a), (2, .ref b), (3, .ref t), (4, .int (iZ (fm))), (5, .int (iZ (i))), (6, .long (lZ (ga i))), (8, .int (iZ (rK (ga i)))), (9, .int (iZ (j))), (10, .long (lZ (gb j))), (12, .long (lZ ((rV (ga i)) + (rV (gb j)))))]) hG dX3_fillByPairs_121 (by decide) rfl ?_
          refine j_aload_n hG dX3_fillByPairs_123 rfl rfl ?_
          refine j_iload hG dX3_fillByPairs_124 rfl ?_
          refine j_lload hG dX3_fillByPairs_126 rfl ?_
          refine j_callS (rest := [.int (iZ (rK (ga i))), .ref t]) hG vX3_72 dX3_fillByPairs_128 (c_X7_timeOf (x := ga i) (hoa i)) rfl rfl (by decide) (by decide) (Nat.le_of_ble_eq_true rfl) rfl rfl (Nat.zero_le _) (Nat.zero_le _) ?_
          rintro _ _ ⟨rfl, rfl⟩
          refine j_st (st' := [.int (iZ (rT (ga i))), .int (iZ (rK (ga i))), .ref t]) rfl ?_
          refine j_lload hG dX3_fillByPairs_131 rfl ?_
          refine j_callS (rest := [.int (iZ (rT (ga i))), .int (iZ (rK (ga i))), .ref t]) hG vX3_72 dX3_fillByPairs_133 (c_X7_timeOf (x := gb j) (hob j)) rfl rfl (by decide) (by decide) (Nat.le_of_ble_eq_true rfl) rfl rfl (Nat.zero_le _) (Nat.zero_le _) ?_
          rintro _ _ ⟨rfl, rfl⟩
          refine j_st (st' := [.int (iZ (rT (gb j))), .int (iZ (rT (ga i))), .int (iZ (rK (ga i))), .ref t]) rfl ?_
          refine j_max hG vX3_101 dX3_fillByPairs_136 (by omega) (by omega) (by decide) (by decide) (Nat.le_of_ble_eq_true rfl) (Nat.zero_le _) (Nat.zero_le _) ?_
          refine j_lload hG dX3_fillByPairs_139 rfl ?_
          refine j_callV (rest := []) hG vX3_90 dX3_fillByPairs_141 (c_X8_add_ (k := rK (ga i)) (t := max (rT (ga i)) (rT (gb j))) (u := (rV (ga i)) + (rV (gb j))) ht hc (by omega) (by omega) (by omega) (by omega)) ht rfl rfl (by decide) (by decide) (Nat.le_of_ble_eq_true rfl) rfl rfl (Nat.zero_le _) (Nat.zero_le _) ?_
          rintro _ f11 ⟨rfl, n4, b5, g6, ha7, h8, h9, fr10⟩
          refine j_st (st' := []) rfl ?_
          have h12 := (fr10 a hne (h_ne ha hc oa_J)).trans ha
          have h13 := (fr10 ca (h_ne hca ht (Ne.symm oa_J)) hne2).trans hca
          have h14 := (fr10 b hne3 (h_ne hb hc oa_J)).trans hb
          have h15 := (fr10 cb (h_ne hcb ht (Ne.symm oa_J)) hne4).trans hcb
          refine j_iinc (a := j) (lv' := [(0, .ref m), (1, .ref a), (2, .ref b), (3, .ref t), (4, .int (iZ (fm))), (5, .int (iZ (i))), (6, .long (lZ (ga i))), (8, .int (iZ (rK (ga i)))), (9, .int (iZ (j + 1))), (10, .long (lZ (gb j))), (12, .long (lZ ((rV (ga i)) + (rV (gb j)))))]) hG dX3_fillByPairs_144 rfl (by decide) rfl ?_
          refine j_goto (tgt := 70) hG dX3_fillByPairs_147 (by decide) ?_
          refine j_lv (lv' := [(0, .ref m), (1, .ref a), (2, .ref b), (3, .ref t), (4, .int (iZ (fm))), (5, .int (iZ (i))), (6, .long (lZ (ga i))), (8, .int (iZ (rK (ga i)))), (9, .int (iZ (j + 1)))]) (by simp) ?_
          refine ih (j + 1) n4 b5 g6 (done ++ [(rK (ga i), max (rT (ga i)) (rT (gb j)), (rV (ga i)) + (rV (gb j)))]) f11 h12 h13 h14 h15 h8 h9 (by omega) (acc_add hac (by omega) (by omega) ha7) ?_ (fun q q1 q2 => (fr10 q q1 q2).trans (hfr q q1 q2)) (by omega)
          rw [seg_cons (show j < nb by omega), List.filter_cons_of_pos (by simp; omega), List.map_cons] at hD
          rw [List.append_assoc, List.singleton_append]; exact hD
theorem l_X3_pairs_6 {G : JG} {l : Launch} {E : JE} {P : Option Value → Hp → Prop} (hG : jX G l E cX3_fillByPairs RX3 14 rmX3_fillByPairs) (hZ : jZ G none P) {m a ca b cb t c : Nat} {na ba nb bb : Int} {ga gb : Int → Int} (hna : 0 ≤ na ∧ na ≤ 400) (hnb : 0 ≤ nb ∧ nb ≤ 400) (hoa : gOk ga) (hob : gOk gb) (hne : a ≠ t) (hne2 : ca ≠ c) (hne3 : b ≠ t) (hne4 : cb ≠ c) (hsa : ∀ i j, 0 ≤ i → i ≤ j → j < na → rK (ga i) ≤ rK (ga j)) (hsb : ∀ i j, 0 ≤ i → i ≤ j → j < nb → rK (gb i) ≤ rK (gb j))  {R : List Tr} {f0 : Hp} (hP : ∀ (n' b' : Int) (g' : Int → Int) (f' : Hp), f' t = oB 7 [.ref c, .int (iZ n'), .int (iZ b')] → f' c = aJ (E.2.1 1) 400 g' → acc g' n' b' R → (∀ q, q ≠ t → q ≠ c → f' q = f0 q) → P none f') :
    ∀ (d : Nat) (i fm n b0 : Int) (g : Int → Int) (done : List Tr) (f1 : Hp), (ha : f1 a = oB 7 [.ref ca, .int (iZ (na)), .int (iZ (ba))]) → (hca : f1 ca = aJ (E.2.1 1) 400 (ga)) → (hb : f1 b = oB 7 [.ref cb, .int (iZ (nb)), .int (iZ (bb))]) → (hcb : f1 cb = aJ (E.2.1 1) 400 (gb)) → (ht : f1 t = oB 7 [.ref c, .int (iZ (n)), .int (iZ (b0))]) → (hc : f1 c = aJ (E.2.1 1) 400 (g)) → (hi : 0 ≤ i ∧ i ≤ na) → (hfm : 0 ≤ fm ∧ fm ≤ nb) → (hlt : ∀ j, 0 ≤ j → j < fm → ∀ i2, i ≤ i2 → 0 ≤ i2 → i2 < na → rK (gb j) < rK (ga i2)) → (hac : acc g n b0 done) → (hD : done ++ (seg ga i na).flatMap (pr1 (seg gb 0 nb)) = R) → (hfr : ∀ q, q ≠ t → q ≠ c → f1 q = f0 q) → ((na - i).toNat) < d → J G 0 0 f1 6 [(0, .ref m), (1, .ref a), (2, .ref b), (3, .ref t), (4, .int (iZ (fm))), (5, .int (iZ (i)))] [] := by
  intro d
  induction d with
  | zero => intro i fm n b0 g done f1 ha hca hb hcb ht hc hi hfm hlt hac hD hfr hd9; exfalso; omega
  | succ d ih =>
    intro i fm n b0 g done f1 ha hca hb hcb ht hc hi hfm hlt hac hD hfr hd9
    refine j_iload hG dX3_fillByPairs_6 rfl ?_
    refine j_aload_n hG dX3_fillByPairs_8 rfl rfl ?_
    refine j_callV (rest := [.int (iZ (i))]) hG vX3_55 dX3_fillByPairs_9 (c_X8_size ha) ha rfl rfl (by decide) (by decide) (Nat.le_of_ble_eq_true rfl) rfl rfl (Nat.zero_le _) (Nat.zero_le _) ?_
    rintro _ _ ⟨rfl, rfl⟩
    refine j_st (st' := [.int (iZ (na)), .int (iZ (i))]) rfl ?_
    refine j_icmp_ge (tgt := 156) hG dX3_fillByPairs_12 (by decide) (by omega) (by omega) (fun c1 => ?_) (fun c1 => ?_)
    · -- taken at 12
      have e9 : acc g n b0 R := by
        by_cases w1 : b0 = 1
        · rw [← hD]; exact acc_bad hac w1
        · have w3 := acc_b hac
          have w2 : na ≤ i := by omega
          rw [seg_nil w2] at hD
          rw [← hD, List.flatMap_nil, List.append_nil]; exact hac
      exact j_vret hG hZ dX3_fillByPairs_156 (Nat.zero_le _) (Nat.zero_le _) (hP n b0 g f1 ht hc e9 hfr)
    · -- on at 12
      refine j_aload_n hG dX3_fillByPairs_15 rfl rfl ?_
      have q5 := acc_b hac
      refine j_callV (rest := []) hG vX3_97 dX3_fillByPairs_16 (c_X8_isFull ht (by omega)) ht rfl rfl (by decide) (by decide) (Nat.le_of_ble_eq_true rfl) rfl rfl (Nat.zero_le _) (Nat.zero_le _) ?_
      rintro _ _ ⟨rfl, rfl⟩
      refine j_st (st' := [.int (iZ (b0))]) rfl ?_
      refine j_if_ne (tgt := 156) hG dX3_fillByPairs_19 (by decide) (by omega) (fun c2 => ?_) (fun c2 => ?_)
      · -- taken at 19
        have e9 : acc g n b0 R := by
          by_cases w1 : b0 = 1
          · rw [← hD]; exact acc_bad hac w1
          · have w3 := acc_b hac
            have w2 : na ≤ i := by omega
            rw [seg_nil w2] at hD
            rw [← hD, List.flatMap_nil, List.append_nil]; exact hac
        exact j_vret hG hZ dX3_fillByPairs_156 (Nat.zero_le _) (Nat.zero_le _) (hP n b0 g f1 ht hc e9 hfr)
      · -- on at 19
        refine j_aload_n hG dX3_fillByPairs_22 rfl rfl ?_
        refine j_iload hG dX3_fillByPairs_23 rfl ?_
        refine j_callV (rest := []) hG vX3_58 dX3_fillByPairs_25 (c_X8_at (i := i) ha hca (by omega) (by omega)) ha rfl rfl (by decide) (by decide) (Nat.le_of_ble_eq_true rfl) rfl rfl (Nat.zero_le _) (Nat.zero_le _) ?_
        rintro _ _ ⟨rfl, rfl⟩
        refine j_st (st' := [.long (lZ (ga i))]) rfl ?_
        refine j_lstore (lv' := [(0, .ref m), (1, .ref a), (2, .ref b), (3, .ref t), (4, .int (iZ (fm))), (5, .int (iZ (i))), (6, .long (lZ (ga i)))]) hG dX3_fillByPairs_28 (by decide) rfl ?_
        refine j_lload hG dX3_fillByPairs_30 rfl ?_
        refine j_callS (rest := []) hG vX3_66 dX3_fillByPairs_32 (c_X7_keyOf (x := ga i) (hoa i)) rfl rfl (by decide) (by decide) (Nat.le_of_ble_eq_true rfl) rfl rfl (Nat.zero_le _) (Nat.zero_le _) ?_
        rintro _ _ ⟨rfl, rfl⟩
        refine j_st (st' := [.int (iZ (rK (ga i)))]) rfl ?_
        refine j_istore (lv' := [(0, .ref m), (1, .ref a), (2, .ref b), (3, .ref t), (4, .int (iZ (fm))), (5, .int (iZ (i))), (6, .long (lZ (ga i))), (8, .int (iZ (rK (ga i))))]) hG dX3_fillByPairs_35 (by decide) rfl ?_
        refine l_X3_pairs_37 (f0 := f1) hG hZ hna hnb hoa hob hne hne2 hne3 hne4 hsa hsb (by omega) ?_ ((nb - fm).toNat + 1) fm f1 ha hca hb hcb ht hc rfl hfm (fun j j1 j2 => hlt j j1 j2 i (by omega) (by omega) (by omega)) (by omega)
        intro fm1 f2 k0 k1 k2 k3 k4 k5 b1 b2 b3 b4
        refine j_iload hG dX3_fillByPairs_66 rfl ?_
        refine j_istore (lv' := [(0, .ref m), (1, .ref a), (2, .ref b), (3, .ref t), (4, .int (iZ (fm1))), (5, .int (iZ (i))), (6, .long (lZ (ga i))), (8, .int (iZ (rK (ga i)))), (9, .int (iZ (fm1)))]) hG dX3_fillByPairs_68 (by decide) rfl ?_
        have z1 : (seg gb 0 nb).filter (fun y => decide (rK y = rK (ga i))) = (seg gb fm1 nb).filter (fun y => decide (rK y = rK (ga i))) := by
          rw [seg_app fm1 (by omega) (by omega), List.filter_append, filter_none (fun j j1 j2 => by have := b3 j j1 j2; omega), List.nil_append]
        refine l_X3_pairs_70 (f0 := f0) (M := done ++ pr1 (seg gb 0 nb) (ga i)) hG hZ hna hnb hoa hob hne hne2 hne3 hne4 hsa hsb (by omega) b2 b4 ?_ ((nb - fm1).toNat + 1) fm1 n b0 g done f2 k0 k1 k2 k3 k4 k5 (by omega) hac (by unfold pr1; rw [z1]) (fun q q1 q2 => by rw [b1]; exact hfr q q1 q2) (by omega)
        intro n1 bb1 g1 f3 u1 u2 u3 u4 u5 u6 u7 u8
        refine j_iinc (a := i) (lv' := [(0, .ref m), (1, .ref a), (2, .ref b), (3, .ref t), (4, .int (iZ (fm1))), (5, .int (iZ (i + 1)))]) hG dX3_fillByPairs_150 rfl (by decide) rfl ?_
        refine j_goto (tgt := 6) hG dX3_fillByPairs_153 (by decide) ?_
        refine ih (i + 1) fm1 n1 bb1 g1 (done ++ pr1 (seg gb 0 nb) (ga i)) f3 u1 u2 u3 u4 u5 u6 (by omega) b2 (fun j j1 j2 i2 i3 i4 i5 => by have := b3 j j1 j2; have := hsa i i2 (by omega) (by omega) i5; omega) u7 ?_ u8 (by omega)
        rw [List.append_assoc]
        rw [seg_cons (show i < na by omega), List.flatMap_cons] at hD
        exact hD
theorem c_X3_fillByPairs {l : Launch} {E : JE} {f : Hp} {m a ca b cb t c : Nat} {na ba nb bb n b0 : Int} {ga gb g : Int → Int} (ha : f a = oB 7 [.ref ca, .int (iZ (na)), .int (iZ (ba))]) (hca : f ca = aJ (E.2.1 1) 400 (ga)) (hb : f b = oB 7 [.ref cb, .int (iZ (nb)), .int (iZ (bb))]) (hcb : f cb = aJ (E.2.1 1) 400 (gb)) (ht : f t = oB 7 [.ref c, .int (iZ (n)), .int (iZ (b0))]) (hc : f c = aJ (E.2.1 1) 400 (g)) (hna : 0 ≤ na ∧ na ≤ 400) (hnb : 0 ≤ nb ∧ nb ≤ 400) (hoa : gOk ga) (hob : gOk gb) (hne : a ≠ t) (hne2 : ca ≠ c) (hne3 : b ≠ t) (hne4 : cb ≠ c) (hsa : ∀ i j, 0 ≤ i → i ≤ j → j < na → rK (ga i) ≤ rK (ga j)) (hsb : ∀ i j, 0 ≤ i → i ≤ j → j < nb → rK (gb i) ≤ rK (gb j)) (hac : acc g n b0 []) : KX3_fillByPairs l E [.ref m, .ref a, .ref b, .ref t] f (fun v f' => v = none ∧ ∃ (n' b' : Int) (g' : Int → Int), f' t = oB 7 [.ref c, .int (iZ n'), .int (iZ b')] ∧ f' c = aJ (E.2.1 1) 400 g' ∧ acc g' n' b' ((seg ga 0 na).flatMap (pr1 (seg gb 0 nb))) ∧ ∀ q, q ≠ t → q ≠ c → f' q = f q) := by
  refine ct_of (own := RX3) (lv := [(0, .ref m), (1, .ref a), (2, .ref b), (3, .ref t)]) (by decide +kernel) rfl (Nat.le_of_ble_eq_true rfl) rfl ?_
  intro G hG hZ
  refine j_iconst hG dX3_fillByPairs_0 ?_
  refine j_istore (lv' := [(0, .ref m), (1, .ref a), (2, .ref b), (3, .ref t), (4, .int (iZ (0)))]) hG dX3_fillByPairs_1 (by decide) rfl ?_
  refine j_iconst hG dX3_fillByPairs_3 ?_
  refine j_istore (lv' := [(0, .ref m), (1, .ref a), (2, .ref b), (3, .ref t), (4, .int (iZ (0))), (5, .int (iZ (0)))]) hG dX3_fillByPairs_4 (by decide) rfl ?_
  exact l_X3_pairs_6 (f0 := f) (R := (seg ga 0 na).flatMap (pr1 (seg gb 0 nb))) hG hZ hna hnb hoa hob hne hne2 hne3 hne4 hsa hsb (fun n' b' g' f' a1 a2 a3 a4 => ⟨rfl, n', b', g', a1, a2, a3, a4⟩) ((na - 0).toNat + 1) 0 0 n b0 g [] f ha hca hb hcb ht hc (by omega) (by omega) (fun j j1 j2 => absurd j2 (by omega)) hac (List.nil_append _) (fun _ _ _ => rfl) (by omega)
theorem l_X3_fill {G : JG} {l : Launch} {E : JE} {P : Option Value → Hp → Prop} (hG : jX G l E cX3_fill RX3 5 rmX3_fill) (hZ : jZ G none P) {m a ca b cb t c : Nat} {kd lf rg col rel num : Int} {na ba nb bb : Int} {ga gb : Int → Int} {R : List Tr} {f0 : Hp} (hna : 0 ≤ na ∧ na ≤ 400) (hoa : gOk ga) (hne : a ≠ t) (hne2 : ca ≠ c) (hne3 : b ≠ t) (hne4 : cb ≠ c) (hva : ∀ j, 0 ≤ j → j < na → rV (ga j) ≤ 1000000000) (hmk : (0 ≤ kd ∧ kd ≤ 12) ∧ (0 ≤ col ∧ col ≤ 2) ∧ (0 ≤ rel ∧ rel < 65536) ∧ (-1000 ≤ num ∧ num ≤ 1000) ∧ (kd = 4 → 0 ≤ num) ∧ (kd = 5 → 1 ≤ num)) (hP : ∀ (n' b' : Int) (g' : Int → Int) (f' : Hp), f' t = oB 7 [.ref c, .int (iZ n'), .int (iZ b')] → f' c = aJ (E.2.1 1) 400 g' → acc g' n' b' R → (∀ q, q ≠ t → q ≠ c → f' q = f0 q) → P none f') :
    ∀ (d : Nat) (i n b0 : Int) (g : Int → Int) (done : List Tr) (f1 : Hp), (hm : f1 m = oB 3 [.int (iZ (kd)), .int (iZ (lf)), .int (iZ (rg)), .int (iZ (col)), .int (iZ (rel)), .int (iZ (num))]) → (ha : f1 a = oB 7 [.ref ca, .int (iZ (na)), .int (iZ (ba))]) → (hca : f1 ca = aJ (E.2.1 1) 400 (ga)) → (hb : f1 b = oB 7 [.ref cb, .int (iZ (nb)), .int (iZ (bb))]) → (hcb : f1 cb = aJ (E.2.1 1) 400 (gb)) → (ht : f1 t = oB 7 [.ref c, .int (iZ (n)), .int (iZ (b0))]) → (hc : f1 c = aJ (E.2.1 1) 400 (g)) → (hi : 0 ≤ i ∧ i ≤ na) → (hac : acc g n b0 done) → (hD : done ++ (seg ga i na).flatMap (each1 kd col rel num) = R) → (hfr : ∀ q, q ≠ t → q ≠ c → f1 q = f0 q) → ((na - i).toNat) < d → J G 0 0 f1 92 [(0, .ref m), (1, .ref a), (2, .ref b), (3, .ref t), (4, .int (iZ (i)))] [] := by
  intro d
  induction d with
  | zero => intro i n b0 g done f1 hm ha hca hb hcb ht hc hi hac hD hfr hd9; exfalso; omega
  | succ d ih =>
    intro i n b0 g done f1 hm ha hca hb hcb ht hc hi hac hD hfr hd9
    refine j_iload hG dX3_fill_92 rfl ?_
    refine j_aload_n hG dX3_fill_94 rfl rfl ?_
    refine j_callV (rest := [.int (iZ (i))]) hG vX3_55 dX3_fill_95 (c_X8_size ha) ha rfl rfl (by decide) (by decide) (Nat.le_of_ble_eq_true rfl) rfl rfl (Nat.zero_le _) (Nat.zero_le _) ?_
    rintro _ _ ⟨rfl, rfl⟩
    refine j_st (st' := [.int (iZ (na)), .int (iZ (i))]) rfl ?_
    refine j_icmp_ge (tgt := 118) hG dX3_fill_98 (by decide) (by omega) (by omega) (fun c1 => ?_) (fun c1 => ?_)
    · -- taken at 98
      have e9 : i = na := by omega
      subst e9
      rw [seg_nil (Int.le_refl _), List.flatMap_nil, List.append_nil] at hD
      subst hD
      exact j_vret hG hZ dX3_fill_118 (Nat.zero_le _) (Nat.zero_le _) (hP n b0 g f1 ht hc hac hfr)
    · -- on at 98
      refine j_aload_n hG dX3_fill_101 rfl rfl ?_
      refine j_aload_n hG dX3_fill_102 rfl rfl ?_
      refine j_iload hG dX3_fill_103 rfl ?_
      refine j_callV (rest := [.ref m]) hG vX3_58 dX3_fill_105 (c_X8_at (i := i) ha hca (by omega) (by omega)) ha rfl rfl (by decide) (by decide) (Nat.le_of_ble_eq_true rfl) rfl rfl (Nat.zero_le _) (Nat.zero_le _) ?_
      rintro _ _ ⟨rfl, rfl⟩
      refine j_st (st' := [.long (lZ (ga i)), .ref m]) rfl ?_
      refine j_aload_n hG dX3_fill_108 rfl rfl ?_
      refine j_callV (rest := []) hG vX3_62 dX3_fill_109 (c_X3_addOne (D := done) (x := ga i) hm ht hc hmk (hoa _) (hva _ (by omega) (by omega)) hac) hm rfl rfl (by decide) (by decide) (Nat.le_of_ble_eq_true rfl) rfl rfl (Nat.zero_le _) (Nat.zero_le _) ?_
      rintro _ f9 ⟨rfl, n2, b3, g4, k5, k6, k7, fr8⟩
      refine j_st (st' := []) rfl ?_
      have h10 := (fr8 m (h_ne hm ht (oo_n (by decide))) (h_ne hm hc oa_J)).trans hm
      have h11 := (fr8 a hne (h_ne ha hc oa_J)).trans ha
      have h12 := (fr8 ca (h_ne hca ht (Ne.symm oa_J)) hne2).trans hca
      have h13 := (fr8 b hne3 (h_ne hb hc oa_J)).trans hb
      have h14 := (fr8 cb (h_ne hcb ht (Ne.symm oa_J)) hne4).trans hcb
      refine j_iinc (a := i) (lv' := [(0, .ref m), (1, .ref a), (2, .ref b), (3, .ref t), (4, .int (iZ (i + 1)))]) hG dX3_fill_112 rfl (by decide) rfl ?_
      refine j_goto (tgt := 92) hG dX3_fill_115 (by decide) ?_
      refine ih (i + 1) n2 b3 g4 (done ++ each1 kd col rel num (ga i)) f9 h10 h11 h12 h13 h14 k5 k6 (by omega) k7 ?_ (fun q q1 q2 => (fr8 q q1 q2).trans (hfr q q1 q2)) (by omega)
      rw [seg_cons (show i < na by omega), List.flatMap_cons] at hD
      rw [List.append_assoc]; exact hD
theorem c_X3_fill {l : Launch} {E : JE} {f : Hp} {m a ca b cb t c : Nat} {kd lf rg col rel num : Int} {na ba nb bb n b0 : Int} {ga gb g : Int → Int} (hm : f m = oB 3 [.int (iZ (kd)), .int (iZ (lf)), .int (iZ (rg)), .int (iZ (col)), .int (iZ (rel)), .int (iZ (num))]) (ha : f a = oB 7 [.ref ca, .int (iZ (na)), .int (iZ (ba))]) (hca : f ca = aJ (E.2.1 1) 400 (ga)) (hb : f b = oB 7 [.ref cb, .int (iZ (nb)), .int (iZ (bb))]) (hcb : f cb = aJ (E.2.1 1) 400 (gb)) (ht : f t = oB 7 [.ref c, .int (iZ (n)), .int (iZ (b0))]) (hc : f c = aJ (E.2.1 1) 400 (g)) (hna : 0 ≤ na ∧ na ≤ 400) (hnb : 0 ≤ nb ∧ nb ≤ 400) (hoa : gOk ga) (hob : gOk gb) (hok : gOk g) (hne : a ≠ t) (hne2 : ca ≠ c) (hne3 : b ≠ t) (hne4 : cb ≠ c) (hva : ∀ j, 0 ≤ j → j < na → rV (ga j) ≤ 1000000000) (hsa : ∀ i j, 0 ≤ i → i ≤ j → j < na → rK (ga i) ≤ rK (ga j)) (hsb : ∀ i j, 0 ≤ i → i ≤ j → j < nb → rK (gb i) ≤ rK (gb j)) (hmk : (0 ≤ kd ∧ kd ≤ 12) ∧ (0 ≤ col ∧ col ≤ 2) ∧ (0 ≤ rel ∧ rel < 65536) ∧ (-1000 ≤ num ∧ num ≤ 1000) ∧ (kd = 4 → 0 ≤ num) ∧ (kd = 5 → 1 ≤ num)) : KX3_fill l E [.ref m, .ref a, .ref b, .ref t] f (fun v f' => v = none ∧ ∃ (n' b' : Int) (g' : Int → Int), f' t = oB 7 [.ref c, .int (iZ n'), .int (iZ b')] ∧ f' c = aJ (E.2.1 1) 400 g' ∧ acc g' n' b' (rawOf kd col rel num (seg ga 0 na) (seg gb 0 nb)) ∧ ∀ q, q ≠ t → q ≠ c → f' q = f q) := by
  refine ct_of (own := RX3) (lv := [(0, .ref m), (1, .ref a), (2, .ref b), (3, .ref t)]) (by decide +kernel) rfl (Nat.le_of_ble_eq_true rfl) rfl ?_
  intro G hG hZ
  refine j_aload_n hG dX3_fill_0 rfl rfl ?_
  refine j_callV (rest := []) hG vX3_31 dX3_fill_1 (c_X8_clear ht ) ht rfl rfl (by decide) (by decide) (Nat.le_of_ble_eq_true rfl) rfl rfl (Nat.zero_le _) (Nat.zero_le _) ?_
  rintro _ f3 ⟨rfl, h1, fr2⟩
  refine j_st (st' := []) rfl ?_
  have h1 : f3 t = oB 7 [.ref c, .int (iZ (0)), .int (iZ (0))] := h1
  have h4 := (fr2 m (h_ne hm ht (oo_n (by decide)))).trans hm
  have h5 := (fr2 a hne).trans ha
  have h6 := (fr2 ca (h_ne hca ht (Ne.symm oa_J))).trans hca
  have h7 := (fr2 b hne3).trans hb
  have h8 := (fr2 cb (h_ne hcb ht (Ne.symm oa_J))).trans hcb
  have h9 := (fr2 c (h_ne hc ht (Ne.symm oa_J))).trans hc
  refine j_aload_n hG dX3_fill_4 rfl rfl ?_
  refine j_get hG fX3_9 dX3_fill_5 h4 rfl ?_
  rcases (show (kd < 7 ∨ 12 < kd) ∨ kd = 7 ∨ kd = 8 ∨ kd = 9 ∨ kd = 10 ∨ kd = 11 ∨ kd = 12 by omega) with c10 | c10 | c10 | c10 | c10 | c10 | c10
  · -- case None at 8
    refine j_tswOut (tgt := 89) hG dX3_fill_8 c10 (by omega) (by decide) ?_
    refine j_iconst hG dX3_fill_89 ?_
    refine j_istore (lv' := [(0, .ref m), (1, .ref a), (2, .ref b), (3, .ref t), (4, .int (iZ (0)))]) hG dX3_fill_90 (by decide) rfl ?_
    have e8 : rawOf kd col rel num (seg ga 0 na) (seg gb 0 nb) = (seg ga 0 na).flatMap (each1 kd col rel num) := by
      unfold rawOf
      rw [if_neg (by omega), if_neg (by omega), if_neg (by omega), if_neg (by omega)]
    exact l_X3_fill (f0 := f3) (R := (seg ga 0 na).flatMap (each1 kd col rel num)) hG hZ hna hoa hne hne2 hne3 hne4 hva hmk (fun n' b' g' f' a1 a2 a3 a4 => ⟨rfl, n', b', g', a1, a2, by rw [e8]; exact a3, fun q q1 q2 => (a4 q q1 q2).trans (fr2 q q1)⟩) ((na - 0).toNat + 1) 0 0 0 g [] f3 h4 h5 h6 h7 h8 h1 h9 (by omega) (acc_nil hok) (List.nil_append _) (fun _ _ _ => rfl) (by omega)
  · -- case 7 at 8
    refine j_tswIn (tgt := 48) (off := 40) hG (7) dX3_fill_8 c10 (by decide) (by decide) rfl (by decide) ?_
    refine j_aload_n hG dX3_fill_48 rfl rfl ?_
    refine j_aload_n hG dX3_fill_49 rfl rfl ?_
    refine j_aload_n hG dX3_fill_50 rfl rfl ?_
    refine j_callV (rest := []) hG vX3_36 dX3_fill_51 (c_X3_fillByGroup h4 h5 h6 h1 h9 hna hoa hne hne2 (acc_nil hok) (by omega)) h4 rfl rfl (by decide) (by decide) (Nat.le_of_ble_eq_true rfl) rfl rfl (Nat.zero_le _) (Nat.zero_le _) ?_
    rintro _ f18 ⟨rfl, n11, b12, g13, k14, k15, k16, fr17⟩
    refine j_st (st' := []) rfl ?_
    have h19 := (fr17 m (h_ne h4 h1 (oo_n (by decide))) (h_ne h4 h9 oa_J)).trans h4
    have h20 := (fr17 a hne (h_ne h5 h9 oa_J)).trans h5
    have h21 := (fr17 ca (h_ne h6 h1 (Ne.symm oa_J)) hne2).trans h6
    have h22 := (fr17 b hne3 (h_ne h7 h9 oa_J)).trans h7
    have h23 := (fr17 cb (h_ne h8 h1 (Ne.symm oa_J)) hne4).trans h8
    refine j_goto (tgt := 118) hG dX3_fill_54 (by decide) ?_
    have e9 : acc g13 n11 b12 (rawOf kd col rel num (seg ga 0 na) (seg gb 0 nb)) := by
      unfold rawOf
      first | (rw [if_pos (by omega)]; exact k16) | (rw [if_neg (by omega), if_pos (by omega)]; exact k16) | (rw [if_neg (by omega), if_neg (by omega), if_pos (by omega)]; exact k16) | (rw [if_neg (by omega), if_neg (by omega), if_neg (by omega), if_pos (by omega)]; exact k16)
    exact j_vret hG hZ dX3_fill_118 (Nat.zero_le _) (Nat.zero_le _) (⟨rfl, _, _, _, k14, k15, e9, fun q q1 q2 => (Eq.trans (fr17 q q1 q2) (fr2 q q1))⟩)
  · -- case 8 at 8
    refine j_tswIn (tgt := 48) (off := 40) hG (8) dX3_fill_8 c10 (by decide) (by decide) rfl (by decide) ?_
    refine j_aload_n hG dX3_fill_48 rfl rfl ?_
    refine j_aload_n hG dX3_fill_49 rfl rfl ?_
    refine j_aload_n hG dX3_fill_50 rfl rfl ?_
    refine j_callV (rest := []) hG vX3_36 dX3_fill_51 (c_X3_fillByGroup h4 h5 h6 h1 h9 hna hoa hne hne2 (acc_nil hok) (by omega)) h4 rfl rfl (by decide) (by decide) (Nat.le_of_ble_eq_true rfl) rfl rfl (Nat.zero_le _) (Nat.zero_le _) ?_
    rintro _ f31 ⟨rfl, n24, b25, g26, k27, k28, k29, fr30⟩
    refine j_st (st' := []) rfl ?_
    have h32 := (fr30 m (h_ne h4 h1 (oo_n (by decide))) (h_ne h4 h9 oa_J)).trans h4
    have h33 := (fr30 a hne (h_ne h5 h9 oa_J)).trans h5
    have h34 := (fr30 ca (h_ne h6 h1 (Ne.symm oa_J)) hne2).trans h6
    have h35 := (fr30 b hne3 (h_ne h7 h9 oa_J)).trans h7
    have h36 := (fr30 cb (h_ne h8 h1 (Ne.symm oa_J)) hne4).trans h8
    refine j_goto (tgt := 118) hG dX3_fill_54 (by decide) ?_
    have e9 : acc g26 n24 b25 (rawOf kd col rel num (seg ga 0 na) (seg gb 0 nb)) := by
      unfold rawOf
      first | (rw [if_pos (by omega)]; exact k29) | (rw [if_neg (by omega), if_pos (by omega)]; exact k29) | (rw [if_neg (by omega), if_neg (by omega), if_pos (by omega)]; exact k29) | (rw [if_neg (by omega), if_neg (by omega), if_neg (by omega), if_pos (by omega)]; exact k29)
    exact j_vret hG hZ dX3_fill_118 (Nat.zero_le _) (Nat.zero_le _) (⟨rfl, _, _, _, k27, k28, e9, fun q q1 q2 => (Eq.trans (fr30 q q1 q2) (fr2 q q1))⟩)
  · -- case 9 at 8
    refine j_tswIn (tgt := 48) (off := 40) hG (9) dX3_fill_8 c10 (by decide) (by decide) rfl (by decide) ?_
    refine j_aload_n hG dX3_fill_48 rfl rfl ?_
    refine j_aload_n hG dX3_fill_49 rfl rfl ?_
    refine j_aload_n hG dX3_fill_50 rfl rfl ?_
    refine j_callV (rest := []) hG vX3_36 dX3_fill_51 (c_X3_fillByGroup h4 h5 h6 h1 h9 hna hoa hne hne2 (acc_nil hok) (by omega)) h4 rfl rfl (by decide) (by decide) (Nat.le_of_ble_eq_true rfl) rfl rfl (Nat.zero_le _) (Nat.zero_le _) ?_
    rintro _ f44 ⟨rfl, n37, b38, g39, k40, k41, k42, fr43⟩
    refine j_st (st' := []) rfl ?_
    have h45 := (fr43 m (h_ne h4 h1 (oo_n (by decide))) (h_ne h4 h9 oa_J)).trans h4
    have h46 := (fr43 a hne (h_ne h5 h9 oa_J)).trans h5
    have h47 := (fr43 ca (h_ne h6 h1 (Ne.symm oa_J)) hne2).trans h6
    have h48 := (fr43 b hne3 (h_ne h7 h9 oa_J)).trans h7
    have h49 := (fr43 cb (h_ne h8 h1 (Ne.symm oa_J)) hne4).trans h8
    refine j_goto (tgt := 118) hG dX3_fill_54 (by decide) ?_
    have e9 : acc g39 n37 b38 (rawOf kd col rel num (seg ga 0 na) (seg gb 0 nb)) := by
      unfold rawOf
      first | (rw [if_pos (by omega)]; exact k42) | (rw [if_neg (by omega), if_pos (by omega)]; exact k42) | (rw [if_neg (by omega), if_neg (by omega), if_pos (by omega)]; exact k42) | (rw [if_neg (by omega), if_neg (by omega), if_neg (by omega), if_pos (by omega)]; exact k42)
    exact j_vret hG hZ dX3_fill_118 (Nat.zero_le _) (Nat.zero_le _) (⟨rfl, _, _, _, k40, k41, e9, fun q q1 q2 => (Eq.trans (fr43 q q1 q2) (fr2 q q1))⟩)
  · -- case 10 at 8
    refine j_tswIn (tgt := 57) (off := 49) hG (10) dX3_fill_8 c10 (by decide) (by decide) rfl (by decide) ?_
    refine j_aload_n hG dX3_fill_57 rfl rfl ?_
    refine j_aload_n hG dX3_fill_58 rfl rfl ?_
    refine j_aload_n hG dX3_fill_59 rfl rfl ?_
    refine j_callV (rest := []) hG vX3_40 dX3_fill_60 (c_X3_fillByKey h5 h6 h1 h9 hna hoa hne hne2 (acc_nil hok) hva) h4 rfl rfl (by decide) (by decide) (Nat.le_of_ble_eq_true rfl) rfl rfl (Nat.zero_le _) (Nat.zero_le _) ?_
    rintro _ f57 ⟨rfl, n50, b51, g52, k53, k54, k55, fr56⟩
    refine j_st (st' := []) rfl ?_
    have h58 := (fr56 m (h_ne h4 h1 (oo_n (by decide))) (h_ne h4 h9 oa_J)).trans h4
    have h59 := (fr56 a hne (h_ne h5 h9 oa_J)).trans h5
    have h60 := (fr56 ca (h_ne h6 h1 (Ne.symm oa_J)) hne2).trans h6
    have h61 := (fr56 b hne3 (h_ne h7 h9 oa_J)).trans h7
    have h62 := (fr56 cb (h_ne h8 h1 (Ne.symm oa_J)) hne4).trans h8
    refine j_goto (tgt := 118) hG dX3_fill_63 (by decide) ?_
    have e9 : acc g52 n50 b51 (rawOf kd col rel num (seg ga 0 na) (seg gb 0 nb)) := by
      unfold rawOf
      first | (rw [if_pos (by omega)]; exact k55) | (rw [if_neg (by omega), if_pos (by omega)]; exact k55) | (rw [if_neg (by omega), if_neg (by omega), if_pos (by omega)]; exact k55) | (rw [if_neg (by omega), if_neg (by omega), if_neg (by omega), if_pos (by omega)]; exact k55)
    exact j_vret hG hZ dX3_fill_118 (Nat.zero_le _) (Nat.zero_le _) (⟨rfl, _, _, _, k53, k54, e9, fun q q1 q2 => (Eq.trans (fr56 q q1 q2) (fr2 q q1))⟩)
  · -- case 11 at 8
    refine j_tswIn (tgt := 66) (off := 58) hG (11) dX3_fill_8 c10 (by decide) (by decide) rfl (by decide) ?_
    refine j_aload_n hG dX3_fill_66 rfl rfl ?_
    refine j_aload_n hG dX3_fill_67 rfl rfl ?_
    refine j_aload_n hG dX3_fill_68 rfl rfl ?_
    refine j_aload_n hG dX3_fill_69 rfl rfl ?_
    refine j_callV (rest := []) hG vX3_43 dX3_fill_70 (c_X3_fillByPairs h5 h6 h7 h8 h1 h9 hna hnb hoa hob hne hne2 hne3 hne4 hsa hsb (acc_nil hok)) h4 rfl rfl (by decide) (by decide) (Nat.le_of_ble_eq_true rfl) rfl rfl (Nat.zero_le _) (Nat.zero_le _) ?_
    rintro _ f70 ⟨rfl, n63, b64, g65, k66, k67, k68, fr69⟩
    refine j_st (st' := []) rfl ?_
    have h71 := (fr69 m (h_ne h4 h1 (oo_n (by decide))) (h_ne h4 h9 oa_J)).trans h4
    have h72 := (fr69 a hne (h_ne h5 h9 oa_J)).trans h5
    have h73 := (fr69 ca (h_ne h6 h1 (Ne.symm oa_J)) hne2).trans h6
    have h74 := (fr69 b hne3 (h_ne h7 h9 oa_J)).trans h7
    have h75 := (fr69 cb (h_ne h8 h1 (Ne.symm oa_J)) hne4).trans h8
    refine j_goto (tgt := 118) hG dX3_fill_73 (by decide) ?_
    have e9 : acc g65 n63 b64 (rawOf kd col rel num (seg ga 0 na) (seg gb 0 nb)) := by
      unfold rawOf
      first | (rw [if_pos (by omega)]; exact k68) | (rw [if_neg (by omega), if_pos (by omega)]; exact k68) | (rw [if_neg (by omega), if_neg (by omega), if_pos (by omega)]; exact k68) | (rw [if_neg (by omega), if_neg (by omega), if_neg (by omega), if_pos (by omega)]; exact k68)
    exact j_vret hG hZ dX3_fill_118 (Nat.zero_le _) (Nat.zero_le _) (⟨rfl, _, _, _, k66, k67, e9, fun q q1 q2 => (Eq.trans (fr69 q q1 q2) (fr2 q q1))⟩)
  · -- case 12 at 8
    refine j_tswIn (tgt := 76) (off := 68) hG (12) dX3_fill_8 c10 (by decide) (by decide) rfl (by decide) ?_
    refine j_aload_n hG dX3_fill_76 rfl rfl ?_
    refine j_aload_n hG dX3_fill_77 rfl rfl ?_
    refine j_aload_n hG dX3_fill_78 rfl rfl ?_
    refine j_callV (rest := [.ref a, .ref m]) hG vX3_47 dX3_fill_79 (c_X8_keys h7 h8 hnb hob) h7 rfl rfl (by decide) (by decide) (Nat.le_of_ble_eq_true rfl) rfl rfl (Nat.zero_le _) (Nat.zero_le _) ?_
    rintro _ _ ⟨⟨x76, rfl, hmx⟩, rfl⟩
    refine j_st (st' := [.int (x76), .ref a, .ref m]) rfl ?_
    refine j_aload_n hG dX3_fill_82 rfl rfl ?_
    refine j_callV (rest := []) hG vX3_51 dX3_fill_83 (c_X3_fillWithout (B := seg gb 0 nb) h5 h6 h1 h9 hna hoa hne hne2 (acc_nil hok) hva hmx) h4 rfl rfl (by decide) (by decide) (Nat.le_of_ble_eq_true rfl) rfl rfl (Nat.zero_le _) (Nat.zero_le _) ?_
    rintro _ f84 ⟨rfl, n77, b78, g79, k80, k81, k82, fr83⟩
    refine j_st (st' := []) rfl ?_
    have h85 := (fr83 m (h_ne h4 h1 (oo_n (by decide))) (h_ne h4 h9 oa_J)).trans h4
    have h86 := (fr83 a hne (h_ne h5 h9 oa_J)).trans h5
    have h87 := (fr83 ca (h_ne h6 h1 (Ne.symm oa_J)) hne2).trans h6
    have h88 := (fr83 b hne3 (h_ne h7 h9 oa_J)).trans h7
    have h89 := (fr83 cb (h_ne h8 h1 (Ne.symm oa_J)) hne4).trans h8
    refine j_goto (tgt := 118) hG dX3_fill_86 (by decide) ?_
    have e9 : acc g79 n77 b78 (rawOf kd col rel num (seg ga 0 na) (seg gb 0 nb)) := by
      unfold rawOf
      first | (rw [if_pos (by omega)]; exact k82) | (rw [if_neg (by omega), if_pos (by omega)]; exact k82) | (rw [if_neg (by omega), if_neg (by omega), if_pos (by omega)]; exact k82) | (rw [if_neg (by omega), if_neg (by omega), if_neg (by omega), if_pos (by omega)]; exact k82)
    exact j_vret hG hZ dX3_fill_118 (Nat.zero_le _) (Nat.zero_le _) (⟨rfl, _, _, _, k80, k81, e9, fun q q1 q2 => (Eq.trans (fr83 q q1 q2) (fr2 q q1))⟩)
