theorem c_X8_copy {l : Launch} {E : JE} {f : Hp} {r c o u : Nat} {n b n2 b2 : Int} {g g2 : Int → Int} (h : f r = oB 7 [.ref c, .int (iZ (n)), .int (iZ (b))]) (hc : f c = aJ (E.2.1 1) 400 (g)) (ho : f o = oB 7 [.ref u, .int (iZ (n2)), .int (iZ (b2))]) (hu : f u = aJ (E.2.1 1) 400 (g2)) (hn : 0 ≤ n2 ∧ n2 ≤ 400) (hb : b2 = 0 ∨ b2 = 1) (hne : o ≠ r) (hne2 : u ≠ c) : KX8_copy l E [.ref r, .ref o] f (fun v f' => v = none ∧ (∃ g' : Int → Int, f' r = oB 7 [.ref c, .int (iZ n2), .int (iZ b2)] ∧ f' c = aJ (E.2.1 1) 400 g' ∧ g' = fcp g2 g 0 0 n2) ∧ ∀ q, q ≠ r → q ≠ c → f' q = f q) := by
  refine ct_of (own := RX8) (lv := [(0, .ref r), (1, .ref o)]) (by decide +kernel) rfl (Nat.le_of_ble_eq_true rfl) rfl ?_
  intro G hG hZ
  refine j_aload_n hG dX8_copy_0 rfl rfl ?_
  refine j_get hG fX8_9 dX8_copy_1 ho rfl ?_
  refine j_iconst hG dX8_copy_4 ?_
  refine j_aload_n hG dX8_copy_5 rfl rfl ?_
  refine j_get hG fX8_9 dX8_copy_6 h rfl ?_
  refine j_iconst hG dX8_copy_9 ?_
  refine j_aload_n hG dX8_copy_10 rfl rfl ?_
  refine j_get hG fX8_15 dX8_copy_11 ho rfl ?_
  refine j_copyl hG vX8_41 dX8_copy_14 hu hc (by omega) (by omega) (by omega) (by decide) (by decide) (by decide) (by decide) (fun f1 h2 fr3 => ?_)
  have h4 := (fr3 r (h_ne h hc oa_J)).trans h
  have h5 := (fr3 o (h_ne ho hc oa_J)).trans ho
  have h6 := (fr3 u hne2).trans hu
  refine j_aload_n hG dX8_copy_17 rfl rfl ?_
  refine j_aload_n hG dX8_copy_18 rfl rfl ?_
  refine j_get hG fX8_15 dX8_copy_19 h5 rfl ?_
  refine j_put hG pX8_15 dX8_copy_22 h4 rfl rfl (Nat.le_of_ble_eq_true rfl) (fun f7 h8 fr9 => ?_)
  have h8 : f7 r = oB 7 [.ref c, .int (iZ (n2)), .int (iZ (b))] := h8
  have h10 := (fr9 o hne).trans h5
  have h11 := (fr9 u (h_ne h6 h4 (Ne.symm oa_J))).trans h6
  have h12 := (fr9 c (h_ne h2 h4 (Ne.symm oa_J))).trans h2
  refine j_aload_n hG dX8_copy_25 rfl rfl ?_
  refine j_aload_n hG dX8_copy_26 rfl rfl ?_
  refine j_get hG fX8_19 dX8_copy_27 h10 rfl ?_
  refine j_put hG pX8_19 dX8_copy_30 h8 (nar_zr (by omega)) (fit_z (by omega)) (Nat.le_of_ble_eq_true rfl) (fun f13 h14 fr15 => ?_)
  have h14 : f13 r = oB 7 [.ref c, .int (iZ (n2)), .int (iZ (b2))] := h14
  have h16 := (fr15 o hne).trans h10
  have h17 := (fr15 u (h_ne h11 h8 (Ne.symm oa_J))).trans h11
  have h18 := (fr15 c (h_ne h12 h8 (Ne.symm oa_J))).trans h12
  exact j_vret hG hZ dX8_copy_33 (Nat.zero_le _) (Nat.zero_le _) (⟨rfl, ⟨_, h14, h18, rfl⟩, fun q h1 h2 => (Eq.trans (fr15 q h1) (Eq.trans (fr9 q h1) (fr3 q h2)))⟩)
theorem mg_R {g h : Int → Int} {fr at' rt tt lf sv : Int} (h1 : fr ≤ at') (h2 : at' < rt) (h3 : rt < tt) (h4 : lf < sv) (h5 : g rt < h lf) : seg (fup g at' (g rt)) fr (at' + 1) ++ mrg (seg h lf sv) (seg (fup g at' (g rt)) (rt + 1) tt) = seg g fr at' ++ mrg (seg h lf sv) (seg g rt tt) := by
  rw [seg_snoc h1, seg_fup_out (Or.inr (Int.le_refl _)), fup_s, seg_fup_out (Or.inl (by omega)), seg_cons h3, seg_cons h4, mrg_cons, if_pos h5, List.append_assoc]
  rfl
theorem mg_L {g h : Int → Int} {fr at' rt tt lf sv : Int} (h1 : fr ≤ at') (h2 : at' < rt) (h4 : lf < sv) (h5 : tt ≤ rt ∨ h lf ≤ g rt) : seg (fup g at' (h lf)) fr (at' + 1) ++ mrg (seg h (lf + 1) sv) (seg (fup g at' (h lf)) rt tt) = seg g fr at' ++ mrg (seg h lf sv) (seg g rt tt) := by
  rw [seg_snoc h1, seg_fup_out (Or.inr (Int.le_refl _)), fup_s, seg_fup_out (Or.inl h2), seg_cons h4, List.append_assoc]
  congr 1
  by_cases h6 : tt ≤ rt
  · rw [seg_nil h6, mrg_nil_r, mrg_nil_r]; rfl
  · rw [seg_cons (show rt < tt by omega), mrg_cons, if_neg (by omega)]; rfl
theorem srt_seg {g : Int → Int} {a b : Int} (h : srt (seg g a b)) {i j : Int} (h1 : a ≤ i) (h2 : i ≤ j) (h3 : j < b) : g i ≤ g j := by
  by_cases e : i = j
  · subst e; exact Int.le_refl _
  · rw [seg_app (i + 1) (by omega) (by omega), seg_snoc h1] at h
    have h4 := (List.pairwise_append.mp h).2.2 (g i) (by simp) (g j) (seg_mem.mpr ⟨j, by omega, h3, rfl⟩)
    exact h4
theorem mg_skip {g : Int → Int} {fr md tt : Int} (h1 : fr < md) (h2 : md < tt) (s1 : srt (seg g fr md)) (s2 : srt (seg g md tt)) (h : g (md - 1) ≤ g md) : seg g fr tt = mrg (seg g fr md) (seg g md tt) := by
  rw [mrg_split ?_ s1 s2, ← seg_app md (by omega) (by omega)]
  intro x hx y hy
  obtain ⟨i, i1, i2, rfl⟩ := seg_mem.mp hx
  obtain ⟨j, j1, j2, rfl⟩ := seg_mem.mp hy
  have a1 := srt_seg s1 (i := i) (j := md - 1) i1 (by omega) (by omega)
  have a2 := srt_seg s2 (i := md) (j := j) (by omega) j1 j2
  omega
theorem l_X8_merge {G : JG} {l : Launch} {E : JE} {P : Option Value → Hp → Prop} (hG : jX G l E cX8_merge RX8 9 rmX8_merge) (hZ : jZ G none P) {r c s : Nat} {n b fr md tt : Int} {g0 h1 : Int → Int} {M : List Int} {f0 : Hp} (hP : ∀ (g' : Int → Int) (f' : Hp), f' c = aJ (E.2.1 1) 400 g' → f' s = aJ (E.2.1 1) 400 h1 → gOk g' → (∀ j, j < fr ∨ tt ≤ j → g' j = g0 j) → seg g' fr tt = M → (∀ q, q ≠ c → f' q = f0 q) → P none f') (hi : 0 ≤ fr ∧ fr < md ∧ md < tt ∧ tt ≤ 400) (hcs : c ≠ s) (hoh : gOk h1) :
    ∀ (d : Nat) (lf rt at' : Int) (g1 : Int → Int) (f1 : Hp), (h : f1 r = oB 7 [.ref c, .int (iZ (n)), .int (iZ (b))]) → (hc : f1 c = aJ (E.2.1 1) 400 (g1)) → (hs : f1 s = aJ (E.2.1 1) 400 (h1)) → (hb1 : 0 ≤ lf ∧ lf ≤ md - fr ∧ md ≤ rt ∧ rt ≤ tt) → (hb2 : at' = fr + lf + (rt - md)) → (hok : gOk g1) → (hout : ∀ j, j < fr ∨ tt ≤ j → g1 j = g0 j) → (hM : seg g1 fr at' ++ mrg (seg h1 lf (md - fr)) (seg g1 rt tt) = M) → (hfr : ∀ q, q ≠ c → f1 q = f0 q) → ((md - fr - lf + (tt - rt)).toNat) < d → J G 0 0 f1 46 [(0, .ref r), (1, .int (iZ (fr))), (2, .int (iZ (md))), (3, .int (iZ (tt))), (4, .ref s), (5, .int (iZ (md - fr))), (6, .int (iZ (lf))), (7, .int (iZ (rt))), (8, .int (iZ (at')))] [] := by
  intro d
  induction d with
  | zero => intro lf rt at' g1 f1 h hc hs hb1 hb2 hok hout hM hfr hd9; exfalso; omega
  | succ d ih =>
    intro lf rt at' g1 f1 h hc hs hb1 hb2 hok hout hM hfr hd9
    refine j_iload hG dX8_merge_46 rfl ?_
    refine j_iload_n hG dX8_merge_48 rfl rfl ?_
    refine j_icmp_ge (tgt := 122) hG dX8_merge_49 (by decide) (by omega) (by omega) (fun c1 => ?_) (fun c1 => ?_)
    · -- taken at 49
      have e1 : lf = md - fr := by omega
      have e2 : at' = rt := by omega
      subst e1; subst e2
      rw [seg_nil (Int.le_refl _), mrg_nil_l, ← seg_app _ (by omega) (by omega)] at hM
      exact j_vret hG hZ dX8_merge_122 (Nat.zero_le _) (Nat.zero_le _) (hP g1 f1 hc hs hok hout hM hfr)
    · -- on at 49
      refine j_iload hG dX8_merge_52 rfl ?_
      refine j_iload hG dX8_merge_54 rfl ?_
      refine j_icmp_ge (tgt := 122) hG dX8_merge_56 (by decide) (by omega) (by omega) (fun c2 => ?_) (fun c2 => ?_)
      · -- taken at 56
        have e1 : lf = md - fr := by omega
        have e2 : at' = rt := by omega
        subst e1; subst e2
        rw [seg_nil (Int.le_refl _), mrg_nil_l, ← seg_app _ (by omega) (by omega)] at hM
        exact j_vret hG hZ dX8_merge_122 (Nat.zero_le _) (Nat.zero_le _) (hP g1 f1 hc hs hok hout hM hfr)
      · -- on at 56
        refine j_iload hG dX8_merge_59 rfl ?_
        refine j_iload_n hG dX8_merge_61 rfl rfl ?_
        refine j_icmp_ge (tgt := 101) hG dX8_merge_62 (by decide) (by omega) (by omega) (fun c3 => ?_) (fun c3 => ?_)
        · -- taken at 62
          refine j_aload_n hG dX8_merge_101 rfl rfl ?_
          refine j_get hG fX8_9 dX8_merge_102 h rfl ?_
          refine j_iload hG dX8_merge_105 rfl ?_
          refine j_aload hG dX8_merge_107 rfl ?_
          refine j_iload hG dX8_merge_109 rfl ?_
          refine j_lald hG dX8_merge_111 hs (by omega) (by decide) ?_
          refine j_last hG dX8_merge_112 hc (by omega) (by decide) (fun f4 h5 fr6 => ?_)
          have h7 := (fr6 r (h_ne h hc oa_J)).trans h
          have h8 := (fr6 s (Ne.symm hcs)).trans hs
          refine j_iinc (a := lf) (lv' := [(0, .ref r), (1, .int (iZ (fr))), (2, .int (iZ (md))), (3, .int (iZ (tt))), (4, .ref s), (5, .int (iZ (md - fr))), (6, .int (iZ (lf + 1))), (7, .int (iZ (rt))), (8, .int (iZ (at')))]) hG dX8_merge_113 rfl (by decide) rfl ?_
          refine j_iinc (a := at') (lv' := [(0, .ref r), (1, .int (iZ (fr))), (2, .int (iZ (md))), (3, .int (iZ (tt))), (4, .ref s), (5, .int (iZ (md - fr))), (6, .int (iZ (lf + 1))), (7, .int (iZ (rt))), (8, .int (iZ (at' + 1)))]) hG dX8_merge_116 rfl (by decide) rfl ?_
          refine j_goto (tgt := 46) hG dX8_merge_119 (by decide) ?_
          exact ih (lf + 1) (rt) (at' + 1) (fup g1 at' (h1 lf)) f4 h7 h5 h8 (by omega) (by omega) (gOk_fup hok (hoh _)) (fun j hj => by rw [fup_n _ _ (by omega)]; exact hout j hj) ((mg_L (by omega) (by omega) (by omega) (by omega)).trans hM) (fun q hq => (fr6 q hq).trans (hfr q hq)) (by omega)
        · -- on at 62
          refine j_aload_n hG dX8_merge_65 rfl rfl ?_
          refine j_get hG fX8_9 dX8_merge_66 h rfl ?_
          refine j_iload hG dX8_merge_69 rfl ?_
          refine j_lald hG dX8_merge_71 hc (by omega) (by decide) ?_
          refine j_aload hG dX8_merge_72 rfl ?_
          refine j_iload hG dX8_merge_74 rfl ?_
          refine j_lald hG dX8_merge_76 hs (by omega) (by decide) ?_
          refine j_lcmp hG dX8_merge_77 (rOk_l (hok _)) (rOk_l (hoh _)) ?_
          refine j_if_ge (tgt := 101) hG dX8_merge_78 (by decide) (by have h9 := cI_rng (g1 rt) (h1 lf); omega) (fun c9 => ?_) (fun c9 => ?_)
          · -- taken at 78
            have c9 := cge c9
            refine j_aload_n hG dX8_merge_101 rfl rfl ?_
            refine j_get hG fX8_9 dX8_merge_102 h rfl ?_
            refine j_iload hG dX8_merge_105 rfl ?_
            refine j_aload hG dX8_merge_107 rfl ?_
            refine j_iload hG dX8_merge_109 rfl ?_
            refine j_lald hG dX8_merge_111 hs (by omega) (by decide) ?_
            refine j_last hG dX8_merge_112 hc (by omega) (by decide) (fun f10 h11 fr12 => ?_)
            have h13 := (fr12 r (h_ne h hc oa_J)).trans h
            have h14 := (fr12 s (Ne.symm hcs)).trans hs
            refine j_iinc (a := lf) (lv' := [(0, .ref r), (1, .int (iZ (fr))), (2, .int (iZ (md))), (3, .int (iZ (tt))), (4, .ref s), (5, .int (iZ (md - fr))), (6, .int (iZ (lf + 1))), (7, .int (iZ (rt))), (8, .int (iZ (at')))]) hG dX8_merge_113 rfl (by decide) rfl ?_
            refine j_iinc (a := at') (lv' := [(0, .ref r), (1, .int (iZ (fr))), (2, .int (iZ (md))), (3, .int (iZ (tt))), (4, .ref s), (5, .int (iZ (md - fr))), (6, .int (iZ (lf + 1))), (7, .int (iZ (rt))), (8, .int (iZ (at' + 1)))]) hG dX8_merge_116 rfl (by decide) rfl ?_
            refine j_goto (tgt := 46) hG dX8_merge_119 (by decide) ?_
            exact ih (lf + 1) (rt) (at' + 1) (fup g1 at' (h1 lf)) f10 h13 h11 h14 (by omega) (by omega) (gOk_fup hok (hoh _)) (fun j hj => by rw [fup_n _ _ (by omega)]; exact hout j hj) ((mg_L (by omega) (by omega) (by omega) (by omega)).trans hM) (fun q hq => (fr12 q hq).trans (hfr q hq)) (by omega)
          · -- on at 78
            have c9 := cI_lt.mp c9
            refine j_aload_n hG dX8_merge_81 rfl rfl ?_
            refine j_get hG fX8_9 dX8_merge_82 h rfl ?_
            refine j_iload hG dX8_merge_85 rfl ?_
            refine j_aload_n hG dX8_merge_87 rfl rfl ?_
            refine j_get hG fX8_9 dX8_merge_88 h rfl ?_
            refine j_iload hG dX8_merge_91 rfl ?_
            refine j_lald hG dX8_merge_93 hc (by omega) (by decide) ?_
            refine j_last hG dX8_merge_94 hc (by omega) (by decide) (fun f15 h16 fr17 => ?_)
            have h18 := (fr17 r (h_ne h hc oa_J)).trans h
            have h19 := (fr17 s (Ne.symm hcs)).trans hs
            refine j_iinc (a := rt) (lv' := [(0, .ref r), (1, .int (iZ (fr))), (2, .int (iZ (md))), (3, .int (iZ (tt))), (4, .ref s), (5, .int (iZ (md - fr))), (6, .int (iZ (lf))), (7, .int (iZ (rt + 1))), (8, .int (iZ (at')))]) hG dX8_merge_95 rfl (by decide) rfl ?_
            refine j_goto (tgt := 116) hG dX8_merge_98 (by decide) ?_
            refine j_iinc (a := at') (lv' := [(0, .ref r), (1, .int (iZ (fr))), (2, .int (iZ (md))), (3, .int (iZ (tt))), (4, .ref s), (5, .int (iZ (md - fr))), (6, .int (iZ (lf))), (7, .int (iZ (rt + 1))), (8, .int (iZ (at' + 1)))]) hG dX8_merge_116 rfl (by decide) rfl ?_
            refine j_goto (tgt := 46) hG dX8_merge_119 (by decide) ?_
            exact ih (lf) (rt + 1) (at' + 1) (fup g1 at' (g1 rt)) f15 h18 h16 h19 (by omega) (by omega) (gOk_fup hok (hok _)) (fun j hj => by rw [fup_n _ _ (by omega)]; exact hout j hj) ((mg_R (by omega) (by omega) (by omega) (by omega) (by omega)).trans hM) (fun q hq => (fr17 q hq).trans (hfr q hq)) (by omega)
theorem c_X8_merge {l : Launch} {E : JE} {f : Hp} {r c s : Nat} {n b fr md tt : Int} {g h0 : Int → Int} (h : f r = oB 7 [.ref c, .int (iZ (n)), .int (iZ (b))]) (hc : f c = aJ (E.2.1 1) 400 (g)) (hs : f s = aJ (E.2.1 1) 400 (h0)) (hcs : c ≠ s) (hok : gOk g) (hoh : gOk h0) (hi : 0 ≤ fr ∧ fr < md ∧ md < tt ∧ tt ≤ 400) (s1 : srt (seg g fr md)) (s2 : srt (seg g md tt)) : KX8_merge l E [.ref r, .int (iZ (fr)), .int (iZ (md)), .int (iZ (tt)), .ref s] f (fun v f' => v = none ∧ ∃ g' h' : Int → Int, f' c = aJ (E.2.1 1) 400 g' ∧ f' s = aJ (E.2.1 1) 400 h' ∧ gOk g' ∧ gOk h' ∧ (∀ j, j < fr ∨ tt ≤ j → g' j = g j) ∧ seg g' fr tt = mrg (seg g fr md) (seg g md tt) ∧ ∀ q, q ≠ c → q ≠ s → f' q = f q) := by
  refine ct_of (own := RX8) (lv := [(0, .ref r), (1, .int (iZ (fr))), (2, .int (iZ (md))), (3, .int (iZ (tt))), (4, .ref s)]) (by decide +kernel) rfl (Nat.le_of_ble_eq_true rfl) rfl ?_
  intro G hG hZ
  refine j_aload_n hG dX8_merge_0 rfl rfl ?_
  refine j_get hG fX8_9 dX8_merge_1 h rfl ?_
  refine j_iload_n hG dX8_merge_4 rfl rfl ?_
  refine j_iconst hG dX8_merge_5 ?_
  refine j_isub hG dX8_merge_6 ?_
  refine j_lald hG dX8_merge_7 hc (by omega) (by decide) ?_
  refine j_aload_n hG dX8_merge_8 rfl rfl ?_
  refine j_get hG fX8_9 dX8_merge_9 h rfl ?_
  refine j_iload_n hG dX8_merge_12 rfl rfl ?_
  refine j_lald hG dX8_merge_13 hc (by omega) (by decide) ?_
  refine j_lcmp hG dX8_merge_14 (rOk_l (hok _)) (rOk_l (hok _)) ?_
  refine j_if_gt (tgt := 19) hG dX8_merge_15 (by decide) (by have h9 := cI_rng (g (md - 1)) (g md); omega) (fun c1 => ?_) (fun c1 => ?_)
  · -- taken at 15
    have c1 := cgt c1
    refine j_iload_n hG dX8_merge_19 rfl rfl ?_
    refine j_iload_n hG dX8_merge_20 rfl rfl ?_
    refine j_isub hG dX8_merge_21 ?_
    refine j_istore (lv' := [(0, .ref r), (1, .int (iZ (fr))), (2, .int (iZ (md))), (3, .int (iZ (tt))), (4, .ref s), (5, .int (iZ (md - fr)))]) hG dX8_merge_22 (by decide) rfl ?_
    refine j_aload_n hG dX8_merge_24 rfl rfl ?_
    refine j_get hG fX8_9 dX8_merge_25 h rfl ?_
    refine j_iload_n hG dX8_merge_28 rfl rfl ?_
    refine j_aload hG dX8_merge_29 rfl ?_
    refine j_iconst hG dX8_merge_31 ?_
    refine j_iload hG dX8_merge_32 rfl ?_
    refine j_copyl hG vX8_41 dX8_merge_34 hc hs (by omega) (by omega) (by omega) (by decide) (by decide) (by decide) (by decide) (fun f2 h3 fr4 => ?_)
    have h5 := (fr4 r (h_ne h hs oa_J)).trans h
    have h6 := (fr4 c hcs).trans hc
    refine j_iconst hG dX8_merge_37 ?_
    refine j_istore (lv' := [(0, .ref r), (1, .int (iZ (fr))), (2, .int (iZ (md))), (3, .int (iZ (tt))), (4, .ref s), (5, .int (iZ (md - fr))), (6, .int (iZ (0)))]) hG dX8_merge_38 (by decide) rfl ?_
    refine j_iload_n hG dX8_merge_40 rfl rfl ?_
    refine j_istore (lv' := [(0, .ref r), (1, .int (iZ (fr))), (2, .int (iZ (md))), (3, .int (iZ (tt))), (4, .ref s), (5, .int (iZ (md - fr))), (6, .int (iZ (0))), (7, .int (iZ (md)))]) hG dX8_merge_41 (by decide) rfl ?_
    refine j_iload_n hG dX8_merge_43 rfl rfl ?_
    refine j_istore (lv' := [(0, .ref r), (1, .int (iZ (fr))), (2, .int (iZ (md))), (3, .int (iZ (tt))), (4, .ref s), (5, .int (iZ (md - fr))), (6, .int (iZ (0))), (7, .int (iZ (md))), (8, .int (iZ (fr)))]) hG dX8_merge_44 (by decide) rfl ?_
    have e1 : seg (fcp g h0 fr 0 (md - fr)) 0 (md - fr) = seg g fr md := by
      unfold seg
      rw [show (md - fr - 0).toNat = (md - fr).toNat by omega]
      apply List.map_congr_left
      intro i hi
      have := List.mem_range.mp hi
      unfold fcp
      rw [if_pos (by omega)]
      congr 1
      omega
    refine l_X8_merge (g0 := g) (M := mrg (seg g fr md) (seg g md tt)) (f0 := f2) hG hZ (fun g' f' a1 a2 a3 a4 a5 a6 => ⟨rfl, g', _, a1, a2, a3, gOk_fcp hok hoh, a4, a5, fun q q1 q2 => (a6 q q1).trans (fr4 q q2)⟩) hi hcs (gOk_fcp hok hoh) ((md - fr - 0 + (tt - md)).toNat + 1) 0 md fr g f2 h5 h6 h3 (by omega) (by omega) hok (fun _ _ => rfl) ?_ (fun _ _ => rfl) (by omega)
    rw [e1, seg_nil (Int.le_refl _), List.nil_append]
  · -- on at 15
    have c1 := cI_le.mp c1
    exact j_vret hG hZ dX8_merge_18 (Nat.zero_le _) (Nat.zero_le _) (⟨rfl, g, h0, hc, hs, hok, hoh, fun _ _ => rfl, mg_skip (by omega) (by omega) s1 s2 (by omega), fun _ _ _ => rfl⟩)
