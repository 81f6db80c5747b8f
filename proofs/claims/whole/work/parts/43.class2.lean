theorem CTab_gi {E : JE} {rg : Nat → Nat} {f : Hp} {T : Nat} {M : Int → Int → Int} {sz : Nat} {D : Int → Int → Int} {dz : Int} {X : Int → List Int × Int} {gi : Int → Int} (h : CTab E rg f T M sz D dz X gi) : ∀ i, 0 ≤ i → i < 12 → gi i = 0 ∨ gi i = 1 := by
  obtain ⟨cu, ofr, mk, it, pl, dr, pm, dm, ra, ca, ma, da, gcu, gof, gmk, gpm, gdm, hT, hpl, hdr, hpm, hdm, hcu, hof, hmk, hit, hM, hD, hRW, gcu_, gof_, gmk_, gpm_, gdm_, hgi, hd, hma, hda, hmd, hco, hpc, hcl, hcr, hcc, hcm⟩ := h
  exact hgi
theorem CR_hd {E : JE} {rg : Nat → Nat} {f : Hp} {x : Nat} {S : ST} (h : CR E rg f x S) : ∃ fs, f x = oB 10 fs := by
  obtain ⟨ls, lr, ln, M, sz, la, rd, mr, W, O, g, len, th, fa, re⟩ := S
  obtain ⟨lg, tp, pa, T, wt, to, ho, nw, kp, D, dz, X, gi, Mh, hR, -⟩ := h
  exact ⟨_, hR.1⟩
theorem acc_tie {Mh M : Int → Int → Int} {sz : Nat} {X X2 : Int → List Int × Int} {gi2 : Int → Int} {src src' : Int → List Int} (hMh : ∀ i : Nat, i < sz → Mh i = M i) (hg : ∀ i, 0 ≤ i → i < 12 → gi2 i = 0 ∨ gi2 i = 1) (hsz : sz ≤ 12) (e5 : ∀ j, j < 12 ∨ 24 ≤ j → X2 j = X j) (e2 : offd Mh sz X2 gi2 src src') (hX0 : ∀ s : Nat, s < sz → X s = (tab M src s, 0)) : ∀ s : Nat, s < sz → (if gi2 s = 1 then X2 (s + 12) else X2 s) = (tab M src' s, 0) := by
  intro s hs
  have o9 := e2 s hs
  by_cases c9 : gi2 s = 1
  · rw [if_pos c9, o9.1 c9, tab_M hMh hs]
  · have z9 := hg s (by omega) (by omega)
    have o8 := o9.2 (z9.resolve_right c9)
    rw [tab_M hMh hs, tab_M hMh hs] at o8
    rw [if_neg c9, e5 s (Or.inl (by omega)), hX0 s hs, o8]
theorem tab_0 {M : Int → Int → Int} {ls lr : Int → Int} {la : Int} {t : Nat} : tab M (srcN ls lr la 0) t = [] := tab_empty2 (fun _ => rfl) t
theorem rd_late {ls lr : Int → Int} {la : Int} {rd : Nat} (h : lateB lr la rd = true) : srcN ls lr la (rd + 1) = srcN ls lr la rd := by rw [srcN, if_pos h]
theorem rd_on {ls lr : Int → Int} {la : Int} {rd : Nat} (h : lateB lr la rd = false) : srcN ls lr la (rd + 1) = fup (srcN ls lr la rd) (ls rd) (srcN ls lr la rd (ls rd) ++ [lr rd]) := by rw [srcN, if_neg (by rw [h]; decide)]
theorem c_X11_beginAnew {l : Launch} {E : JE} {f : Hp} {rg : Nat → Nat} {x lg tp pa T wt to ho nw kp : Nat} {ls : Int → Int} {lr : Int → Int} {ln : Nat} {g : Int → Int} {len : Int} {M : Int → Int → Int} {sz : Nat} {D : Int → Int → Int} {dz : Int} {X : Int → List Int × Int} {gi : Int → Int} {W : List Int} {O : List Int} {th : Int → Int} {n1 : Int} {l1 : Int} {t1 : Int} {n2 : Int} {l2 : Int} {t2 : Int} {la : Int} {fa : Int} {re : Int}  (hR : CRA E rg f x lg tp pa T wt to ho nw kp ls lr ln g len M sz D dz X gi W O th n1 l1 t1 n2 l2 t2 la fa re) : KX11_beginAnew l E [.ref x] f (fun v f' => v = none ∧ ∃ X' : Int → List Int × Int, CRA E rg f' x lg tp pa T wt to ho nw kp ls lr ln g len M sz D dz X' gi ([]) ([]) th 0 0 (-1) 0 0 (-1) la fa re ∧ (∀ j, 0 ≤ j → j < 12 → X' j = ([], 0) ∧ X' (j + 24) = ([], 0)) ∧ X' 36 = X 36 ∧ ∀ q, (rg q = 0 ∨ 10 < rg q) → f' q = f q) := by
  refine ct_of (own := RX11) (lv := [(0, .ref x)]) (by decide +kernel) rfl (Nat.le_of_ble_eq_true rfl) rfl ?_
  intro G hG hZ
  have hx := CRA_x hR
  have hF : ∀ q, (rg q = 0 ∨ 10 < rg q) → f q = f q := fun _ _ => rfl
  refine j_aload_n hG dX11_beginAnew_0 rfl rfl ?_
  refine j_get hG fX11_57 dX11_beginAnew_1 hx rfl ?_
  obtain ⟨fs1, hh2⟩ := CPrg_hd (CRA_c9 hR)
  refine j_callV (rest := []) hG vX11_201 dX11_beginAnew_4 (k_X6_clear  (CRA_c9 hR) ) hh2 rfl rfl (by decide) (by decide) (Nat.le_of_ble_eq_true rfl) rfl rfl (Nat.zero_le _) (Nat.zero_le _) ?_
  rintro _ f5 ⟨rfl, hc3, fr4⟩
  refine j_st (st' := []) rfl ?_
  have hR6 := CRA_s9 hR hc3 fr4
  have hF7 : ∀ q, (rg q = 0 ∨ 10 < rg q) → f5 q = f q := fun q hq => (fr4 q (by omega)).trans (hF q hq)
  refine j_aload_n hG dX11_beginAnew_7 rfl rfl ?_
  refine j_get hG fX11_61 dX11_beginAnew_8 (CRA_x hR6) rfl ?_
  obtain ⟨fs8, hh9⟩ := CPrg_hd (CRA_c10 hR6)
  refine j_callV (rest := []) hG vX11_201 dX11_beginAnew_11 (k_X6_clear  (CRA_c10 hR6) ) hh9 rfl rfl (by decide) (by decide) (Nat.le_of_ble_eq_true rfl) rfl rfl (Nat.zero_le _) (Nat.zero_le _) ?_
  rintro _ f12 ⟨rfl, hc10, fr11⟩
  refine j_st (st' := []) rfl ?_
  have hR13 := CRA_s10 hR6 hc10 fr11
  have hF14 : ∀ q, (rg q = 0 ∨ 10 < rg q) → f12 q = f q := fun q hq => (fr11 q (by omega)).trans (hF7 q hq)
  refine j_aload_n hG dX11_beginAnew_14 rfl rfl ?_
  refine j_get hG fX11_40 dX11_beginAnew_15 (CRA_x hR13) rfl ?_
  obtain ⟨fs15, hh16⟩ := CChg_hd (CRA_c6 hR13)
  refine j_callV (rest := []) hG vX11_145 dX11_beginAnew_18 (k_X0_clear  (CRA_c6 hR13) ) hh16 rfl rfl (by decide) (by decide) (Nat.le_of_ble_eq_true rfl) rfl rfl (Nat.zero_le _) (Nat.zero_le _) ?_
  rintro _ f19 ⟨rfl, hc17, fr18⟩
  refine j_st (st' := []) rfl ?_
  have hR20 := CRA_s6 hR13 hc17 fr18
  have hF21 : ∀ q, (rg q = 0 ∨ 10 < rg q) → f19 q = f q := fun q hq => (fr18 q (by omega)).trans (hF14 q hq)
  refine j_aload_n hG dX11_beginAnew_21 rfl rfl ?_
  refine j_get hG fX11_44 dX11_beginAnew_22 (CRA_x hR20) rfl ?_
  obtain ⟨fs22, hh23⟩ := CChg_hd (CRA_c7 hR20)
  refine j_callV (rest := []) hG vX11_145 dX11_beginAnew_25 (k_X0_clear  (CRA_c7 hR20) ) hh23 rfl rfl (by decide) (by decide) (Nat.le_of_ble_eq_true rfl) rfl rfl (Nat.zero_le _) (Nat.zero_le _) ?_
  rintro _ f26 ⟨rfl, hc24, fr25⟩
  refine j_st (st' := []) rfl ?_
  have hR27 := CRA_s7 hR20 hc24 fr25
  have hF28 : ∀ q, (rg q = 0 ∨ 10 < rg q) → f26 q = f q := fun q hq => (fr25 q (by omega)).trans (hF21 q hq)
  refine j_aload_n hG dX11_beginAnew_28 rfl rfl ?_
  refine j_get hG fX11_33 dX11_beginAnew_29 (CRA_x hR27) rfl ?_
  obtain ⟨fs29, hh30⟩ := CTab_hd (CRA_c5 hR27)
  refine j_callV (rest := []) hG vX11_202 dX11_beginAnew_32 (k_X9_clear (CRA_c5 hR27) ) hh30 rfl rfl (by decide) (by decide) (Nat.le_of_ble_eq_true rfl) rfl rfl (Nat.zero_le _) (Nat.zero_le _) ?_
  rintro _ f36 ⟨rfl, X31, hc32, e33, e34, fr35⟩
  refine j_st (st' := []) rfl ?_
  have hR37 := CRA_s5 hR27 hc32 fr35
  have hF38 : ∀ q, (rg q = 0 ∨ 10 < rg q) → f36 q = f q := fun q hq => (fr35 q (by omega)).trans (hF28 q hq)
  exact j_vret hG hZ dX11_beginAnew_35 (Nat.zero_le _) (Nat.zero_le _) (⟨rfl, X31, hR37, e33, e34, hF38⟩)
theorem c_X11_late {l : Launch} {E : JE} {f : Hp} {rg : Nat → Nat} {x : Nat} {ls : Int → Int} {lr : Int → Int} {ln : Nat} {M : Int → Int → Int} {sz : Nat} {la : Int} {rd : Nat} {mr : Nat} {W : List Int} {O : List Int} {g : Int → Int} {len : Int} {th : Int → Int} {fa : Int} {re : Int} {n : Int}  (hC : CR E rg f x (ls, lr, ln, M, sz, la, rd, mr, W, O, g, len, th, fa, re)) (hS : SOk (ls, lr, ln, M, sz, la, rd, mr, W, O, g, len, th, fa, re)) (hn_ : -2147483648 ≤ n ∧ n < 2147483648) : KX11_late l E [.ref x, .int (iZ (n))] f (fun v f' => v = some (.int (iZ (lateF (ls, lr, ln, M, sz, la, rd, mr, W, O, g, len, th, fa, re) n).1)) ∧ CR E rg f' x (lateF (ls, lr, ln, M, sz, la, rd, mr, W, O, g, len, th, fa, re) n).2 ∧ ∀ q, (rg q = 0 ∨ 10 < rg q) → f' q = f q) := by
  refine ct_of (own := RX11) (lv := [(0, .ref x), (1, .int (iZ (n)))]) (by decide +kernel) rfl (Nat.le_of_ble_eq_true rfl) rfl ?_
  intro G hG hZ
  obtain ⟨lg, tp, pa, T, wt, to, ho, nw, kp, D, dz, X, gi, Mh, hR, hMh, hX, h36⟩ := hC
  obtain ⟨⟨hln, hlg⟩, ⟨hsz, hMo⟩, hla, hrd, hok1, hok2, hWO, hbg, hle, hth, hh1⟩ := hS
  have hx := CRA_x hR
  have hF : ∀ q, (rg q = 0 ∨ 10 < rg q) → f q = f q := fun _ _ => rfl
  refine j_iload_n hG dX11_late_0 rfl rfl ?_
  refine j_iconst hG dX11_late_1 ?_
  refine j_sipush hG dX11_late_2 (by decide) ?_
  refine j_callS (rest := []) hG vX11_74 dX11_late_5 (c_X11_isWithin (a := n) (lo := -1) (hi := 10000) (by omega) (by omega) (by omega)) rfl rfl (by decide) (by decide) (Nat.le_of_ble_eq_true rfl) rfl rfl (Nat.zero_le _) (Nat.zero_le _) ?_
  rintro _ _ ⟨⟨b1, rfl, hb2⟩, rfl⟩
  refine j_st (st' := [.int (iZ (b1))]) rfl ?_
  refine j_if_ne (tgt := 19) hG dX11_late_8 (by decide) (by omega) (fun c3 => ?_) (fun c3 => ?_)
  · -- taken at 8
    refine j_aload_n hG dX11_late_19 rfl rfl ?_
    refine j_get hG fX11_64 dX11_late_20 hx rfl ?_
    refine j_istore_n (lv' := [(0, .ref x), (1, .int (iZ (n))), (2, .int (iZ (la)))]) hG dX11_late_23 rfl (by decide) rfl ?_
    refine j_aload_n hG dX11_late_24 rfl rfl ?_
    refine j_iload_n hG dX11_late_25 rfl rfl ?_
    refine j_put hG pX11_64 dX11_late_26 hx rfl rfl (Nat.le_of_ble_eq_true rfl) (fun f4 h5 fr6 => ?_)
    have h5 : f4 x = oB 10 [.ref lg, .ref tp, .ref pa, .ref T, .ref wt, .ref to, .ref ho, .ref nw, .ref kp, .int (iZ (n)), .int (iZ (fa)), .int (iZ (re))] := h5
    have hR7 := CRA_s1 hR h5 fr6
    have hF8 : ∀ q, (rg q = 0 ∨ 10 < rg q) → f4 q = f q := fun q hq => (fr6 q (fun e => by rw [e, hR.2.1] at hq; omega)).trans (hF q hq)
    refine j_aload_n hG dX11_late_29 rfl rfl ?_
    refine j_callV (rest := []) hG vX11_124 dX11_late_30 (c_X11_beginAnew hR7) (CRA_x hR7) rfl rfl (by decide) (by decide) (Nat.le_of_ble_eq_true rfl) rfl rfl (Nat.zero_le _) (Nat.zero_le _) ?_
    rintro _ f14 ⟨rfl, X9, hR10, e11, e12, fr13⟩
    refine j_st (st' := []) rfl ?_
    have hF15 : ∀ q, (rg q = 0 ∨ 10 < rg q) → f14 q = f q := fun q hq => (fr13 q hq).trans (hF8 q hq)
    refine j_aload_n hG dX11_late_33 rfl rfl ?_
    refine j_iload_n hG dX11_late_34 rfl rfl ?_
    refine j_callV (rest := []) hG vX11_96 dX11_late_35 (c_X11_grant (c := la) (CRA_x hR10)) (CRA_x hR10) rfl rfl (by decide) (by decide) (Nat.le_of_ble_eq_true rfl) rfl rfl (Nat.zero_le _) (Nat.zero_le _) ?_
    rintro _ f18 ⟨rfl, hn16, fr17⟩
    refine j_st (st' := [.int (iZ (la))]) rfl ?_
    have hR19 := CRA_s1 hR10 hn16 fr17
    have hF20 : ∀ q, (rg q = 0 ∨ 10 < rg q) → f18 q = f q := fun q hq => (fr17 q (fun e => by rw [e, hR10.2.1] at hq; omega)).trans (hF15 q hq)
    have eF : lateF (ls, lr, ln, M, sz, la, rd, mr, W, O, g, len, th, fa, re) n = (la, (ls, lr, ln, M, sz, n, 0, 0, [], [], g, len, th, fa, 0)) := by
      unfold lateF
      dsimp only
      rw [if_pos (by omega)]
    exact j_iret hG hZ dX11_late_38 (Nat.zero_le _) (Nat.zero_le _) (⟨by rw [eF], by rw [eF]; exact ⟨lg, tp, pa, T, wt, to, ho, nw, kp, D, dz, X9, gi, Mh, hR19, hMh, fun s hs => ⟨by rw [(e11 s (by omega) (by omega)).1, tab_0], by rw [(e11 s (by omega) (by omega)).2, tab_0]⟩, by rw [e12]; exact h36⟩, hF20⟩)
  · -- on at 8
    refine j_aload_n hG dX11_late_11 rfl rfl ?_
    refine j_iconst hG dX11_late_12 ?_
    refine j_put hG pX11_71 dX11_late_13 hx rfl rfl (Nat.le_of_ble_eq_true rfl) (fun f21 h22 fr23 => ?_)
    have h22 : f21 x = oB 10 [.ref lg, .ref tp, .ref pa, .ref T, .ref wt, .ref to, .ref ho, .ref nw, .ref kp, .int (iZ (la)), .int (iZ (fa)), .int (iZ (-1))] := h22
    have hR24 := CRA_s1 hR h22 fr23
    have hF25 : ∀ q, (rg q = 0 ∨ 10 < rg q) → f21 q = f q := fun q hq => (fr23 q (fun e => by rw [e, hR.2.1] at hq; omega)).trans (hF q hq)
    refine j_bipush hG dX11_late_16 (by decide) ?_
    have eF : lateF (ls, lr, ln, M, sz, la, rd, mr, W, O, g, len, th, fa, re) n = (-5, (ls, lr, ln, M, sz, la, rd, mr, W, O, g, len, th, fa, -1)) := by
      unfold lateF
      dsimp only
      rw [if_neg (by omega)]
    exact j_iret hG hZ dX11_late_18 (Nat.zero_le _) (Nat.zero_le _) (⟨by rw [eF], by rw [eF]; exact ⟨lg, tp, pa, T, wt, to, ho, nw, kp, D, dz, X, gi, Mh, hR24, hMh, hX, h36⟩, hF25⟩)
theorem c_X11_readNext {l : Launch} {E : JE} {f : Hp} {rg : Nat → Nat} {x : Nat} {ls : Int → Int} {lr : Int → Int} {ln : Nat} {M : Int → Int → Int} {sz : Nat} {la : Int} {rd : Nat} {mr : Nat} {W : List Int} {O : List Int} {g : Int → Int} {len : Int} {th : Int → Int} {fa : Int} {re : Int}  (hC : CR E rg f x (ls, lr, ln, M, sz, la, rd, mr, W, O, g, len, th, fa, re)) (hS : SOk (ls, lr, ln, M, sz, la, rd, mr, W, O, g, len, th, fa, re)) (hsz1 : 1 ≤ sz) (hrl : rd < ln) : KX11_readNext l E [.ref x] f (fun v f' => ∃ z : Int, v = some (.int (iZ z)) ∧ ((z = 1 ∧ rdOk ls lr M sz la rd W ∧ CR E rg f' x (ls, lr, ln, M, sz, la, rd + 1, mr, W ++ chg (tab M (srcN ls lr la rd) (sz - 1)) (tab M (srcN ls lr la (rd + 1)) (sz - 1)), O, g, len, th, fa, re)) ∨ (z = 0 ∧ ¬ rdOk ls lr M sz la rd W ∧ CR E rg f' x (ls, lr, ln, M, sz, la, rd, mr, W, O, g, len, th, fa, re))) ∧ ∀ q, (rg q = 0 ∨ 10 < rg q) → f' q = f q) := by
  refine ct_of (own := RX11) (lv := [(0, .ref x)]) (by decide +kernel) rfl (Nat.le_of_ble_eq_true rfl) rfl ?_
  intro G hG hZ
  obtain ⟨lg, tp, pa, T, wt, to, ho, nw, kp, D, dz, X, gi, Mh, hR, hMh, hX, h36⟩ := hC
  obtain ⟨⟨hln, hlg⟩, ⟨hsz, hMo⟩, hla, hrd, hok1, hok2, hWO, hbg, hle, hth, hh1⟩ := hS
  have hx := CRA_x hR
  have hF : ∀ q, (rg q = 0 ∨ 10 < rg q) → f q = f q := fun _ _ => rfl
  have hMo' : ∀ s : Nat, s < sz → mkOk Mh s := fun s hs => mkOk_M (hMh s hs) (hMo s hs)
  have hok' : okF Mh (srcN ls lr la rd) sz := (okF_M hMh).mpr hok1
  have hX' : ∀ s : Nat, s < sz → X s = (tab Mh (srcN ls lr la rd) s, 0) := fun s hs => by rw [(hX s hs).1, tab_M hMh hs]
  have hsl := srcN_l (ls := ls) (la := la) rd (fun j hj => (hlg j (by omega)).1)
  have hlx := (hlg rd (by omega)).1
  have hls := (hlg rd (by omega)).2
  have htm := rT_rng hlx.1
  have hlt := ltst_rng rd (fun j hj => (hlg j (by omega)).1.1)
  refine j_aload_n hG dX11_readNext_0 rfl rfl ?_
  refine j_get hG fX11_57 dX11_readNext_1 hx rfl ?_
  obtain ⟨fs1, hh2⟩ := CPrg_hd (CRA_c9 hR)
  refine j_callV (rest := []) hG vX11_128 dX11_readNext_4 (k_X6_rowsRead  (CRA_c9 hR) ) hh2 rfl rfl (by decide) (by decide) (Nat.le_of_ble_eq_true rfl) rfl rfl (Nat.zero_le _) (Nat.zero_le _) ?_
  rintro _ _ ⟨rfl, rfl⟩
  refine j_st (st' := [.int (iZ ((rd : Int)))]) rfl ?_
  refine j_istore_n (lv' := [(0, .ref x), (1, .int (iZ ((rd : Int))))]) hG dX11_readNext_7 rfl (by decide) rfl ?_
  refine j_aload_n hG dX11_readNext_8 rfl rfl ?_
  refine j_get hG fX11_10 dX11_readNext_9 hx rfl ?_
  refine j_iload_n hG dX11_readNext_12 rfl rfl ?_
  obtain ⟨fs3, hh4⟩ := CLog_hd (CRA_c2 hR)
  refine j_callV (rest := []) hG vX11_203 dX11_readNext_13 (k_X2_rowAt (i := (rd : Int)) (CRA_c2 hR) hln (by omega)) hh4 rfl rfl (by decide) (by decide) (Nat.le_of_ble_eq_true rfl) rfl rfl (Nat.zero_le _) (Nat.zero_le _) ?_
  rintro _ _ ⟨rfl, rfl⟩
  refine j_st (st' := [.long (lZ (lr (rd : Int)))]) rfl ?_
  refine j_lstore_n (lv' := [(0, .ref x), (1, .int (iZ ((rd : Int)))), (2, .long (lZ (lr (rd : Int))))]) hG dX11_readNext_16 rfl (by decide) rfl ?_
  refine j_lload_n hG dX11_readNext_17 rfl rfl ?_
  refine j_callS (rest := []) hG vX11_206 dX11_readNext_18 (c_X7_timeOf (x := lr (rd : Int)) hlx.1) rfl rfl (by decide) (by decide) (Nat.le_of_ble_eq_true rfl) rfl rfl (Nat.zero_le _) (Nat.zero_le _) ?_
  rintro _ _ ⟨rfl, rfl⟩
  refine j_st (st' := [.int (iZ (rT (lr (rd : Int))))]) rfl ?_
  refine j_istore (lv' := [(0, .ref x), (1, .int (iZ ((rd : Int)))), (2, .long (lZ (lr (rd : Int)))), (4, .int (iZ (rT (lr (rd : Int)))))]) hG dX11_readNext_21 (by decide) rfl ?_
  have hj5 : ∀ (b : Int) , (b = 1 ∧ lateB lr la rd = true) ∨ (b = 0 ∧ lateB lr la rd = false) → J G 0 0 f 53 [(0, .ref x), (1, .int (iZ ((rd : Int)))), (2, .long (lZ (lr (rd : Int)))), (4, .int (iZ (rT (lr (rd : Int)))))] [.int (iZ (b))] := by
    intro b  hb9
    refine j_istore (lv' := [(0, .ref x), (1, .int (iZ ((rd : Int)))), (2, .long (lZ (lr (rd : Int)))), (4, .int (iZ (rT (lr (rd : Int))))), (5, .int (iZ (b)))]) hG dX11_readNext_53 (by decide) rfl ?_
    refine j_iload hG dX11_readNext_55 rfl ?_
    refine j_if_ne (tgt := 112) hG dX11_readNext_57 (by decide) (by omega) (fun c6 => ?_) (fun c6 => ?_)
    · -- taken at 57
      have hL : lateB lr la rd = true := by rcases hb9 with q | q; exact q.2; exact absurd q.1 (by omega)
      refine j_aload_n hG dX11_readNext_112 rfl rfl ?_
      refine j_get hG fX11_57 dX11_readNext_113 hx rfl ?_
      refine j_iload hG dX11_readNext_116 rfl ?_
      refine j_iload hG dX11_readNext_118 rfl ?_
      obtain ⟨fs7, hh8⟩ := CPrg_hd (CRA_c9 hR)
      refine j_callV (rest := []) hG vX11_230 dX11_readNext_120 (k_X6_step (t := rT (lr (rd : Int))) (z := b) (CRA_c9 hR) (by omega) (by omega) (by omega)) hh8 rfl rfl (by decide) (by decide) (Nat.le_of_ble_eq_true rfl) rfl rfl (Nat.zero_le _) (Nat.zero_le _) ?_
      rintro _ f11 ⟨rfl, hc9, fr10⟩
      refine j_st (st' := []) rfl ?_
      have hR12 := CRA_s9 hR hc9 fr10
      have hF13 : ∀ q, (rg q = 0 ∨ 10 < rg q) → f11 q = f q := fun q hq => (fr10 q (by omega)).trans (hF q hq)
      refine j_iconst hG dX11_readNext_123 ?_
      have n9 : ((rd + 1 : Nat) : Int) = (rd : Int) + 1 := by omega
      have l9 : nlat lr la (rd + 1) = nlat lr la rd + b := by rw [nlat, if_pos hL]; omega
      have m9 : ltst lr (rd + 1) = max (ltst lr rd) (rT (lr (rd : Int))) := rfl
      have s9 : srcN ls lr la (rd + 1) = srcN ls lr la rd := rd_late hL
      have o9 : rdOk ls lr M sz la rd W := by refine ⟨by rw [s9]; exact hok1, ?_⟩; rw [s9, chg_self]; exact hWO.1
      exact j_zret hG hZ dX11_readNext_124 (Nat.zero_le _) (Nat.zero_le _) (nar_zr (by omega)) (⟨1, rfl, Or.inl ⟨rfl, o9, by rw [s9, chg_self, List.append_nil]; exact ⟨lg, tp, pa, T, wt, to, ho, nw, kp, D, dz, X, gi, Mh, by rw [n9, l9, m9]; exact hR12, hMh, by rw [s9]; exact hX, h36⟩⟩, hF13⟩)
    · -- on at 57
      have hL : lateB lr la rd = false := by rcases hb9 with q | q; exact absurd q.1 (by omega); exact q.2
      refine j_aload_n hG dX11_readNext_60 rfl rfl ?_
      refine j_get hG fX11_33 dX11_readNext_61 hx rfl ?_
      refine j_aload_n hG dX11_readNext_64 rfl rfl ?_
      refine j_get hG fX11_10 dX11_readNext_65 hx rfl ?_
      refine j_iload_n hG dX11_readNext_68 rfl rfl ?_
      obtain ⟨fs14, hh15⟩ := CLog_hd (CRA_c2 hR)
      refine j_callV (rest := [.ref T]) hG vX11_210 dX11_readNext_69 (k_X2_sourceAt (i := (rd : Int)) (CRA_c2 hR) hln (by omega)) hh15 rfl rfl (by decide) (by decide) (Nat.le_of_ble_eq_true rfl) rfl rfl (Nat.zero_le _) (Nat.zero_le _) ?_
      rintro _ _ ⟨rfl, rfl⟩
      refine j_st (st' := [.int (iZ (ls (rd : Int))), .ref T]) rfl ?_
      refine j_lload_n hG dX11_readNext_72 rfl rfl ?_
      obtain ⟨fs16, hh17⟩ := CTab_hd (CRA_c5 hR)
      refine j_callV (rest := []) hG vX11_213 dX11_readNext_73 (k_X9_offer (sN := ls (rd : Int)) (x := lr (rd : Int)) (src := srcN ls lr la rd) (CRA_c5 hR) hsz (by omega) hMo' hsl hlx hok' hX' h36) hh17 rfl rfl (by decide) (by decide) (Nat.le_of_ble_eq_true rfl) rfl rfl (Nat.zero_le _) (Nat.zero_le _) ?_
      rintro _ f28 ⟨z18, gi19, X20, rfl, hc21, e22, fr23, hq24⟩
      refine j_st (st' := [.int (iZ (z18))]) rfl ?_
      have hR29 := CRA_s5 hR hc21 fr23
      have hF30 : ∀ q, (rg q = 0 ∨ 10 < rg q) → f28 q = f q := fun q hq => (fr23 q (by omega)).trans (hF q hq)
      refine j_if_eq (tgt := 103) hG dX11_readNext_76 (by decide) (by omega) (fun c31 => ?_) (fun c31 => ?_)
      · -- taken at 76
        obtain ⟨-, e27⟩ := hq24.resolve_left (fun h => absurd h.1 (by omega))
        rw [← rd_on hL] at e27
        refine j_iconst hG dX11_readNext_103 ?_
        exact j_zret hG hZ dX11_readNext_104 (Nat.zero_le _) (Nat.zero_le _) (nar_zr (by omega)) (⟨0, rfl, Or.inr ⟨rfl, fun q => e27 ((okF_M hMh).mpr q.1), lg, tp, pa, T, wt, to, ho, nw, kp, D, dz, X20, gi19, Mh, hR29, hMh, fun s hs => ⟨by rw [e22 s (Or.inl (by omega))]; exact (hX s hs).1, by rw [e22 _ (Or.inr (by omega))]; exact (hX s hs).2⟩, by rw [e22 _ (Or.inr (by omega))]; exact h36⟩, hF30⟩)
      · -- on at 76
        obtain ⟨-, e25, e26⟩ := hq24.resolve_right (fun h => absurd h.1 (by omega))
        rw [← rd_on hL] at e25 e26
        have e25 := (okF_M hMh).mp e25
        refine j_aload_n hG dX11_readNext_79 rfl rfl ?_
        refine j_get hG fX11_40 dX11_readNext_80 (CRA_x hR29) rfl ?_
        refine j_aload_n hG dX11_readNext_83 rfl rfl ?_
        refine j_get hG fX11_33 dX11_readNext_84 (CRA_x hR29) rfl ?_
        obtain ⟨fs32, hh33⟩ := CTab_hd (CRA_c5 hR29)
        refine j_callV (rest := [.ref wt]) hG vX11_216 dX11_readNext_87 (k_X9_answer (CRA_c5 hR29) (by omega)) hh33 rfl rfl (by decide) (by decide) (Nat.le_of_ble_eq_true rfl) rfl rfl (Nat.zero_le _) (Nat.zero_le _) ?_
        rintro _ _ ⟨r34, c35, rfl, hr36, rfl⟩
        refine j_st (st' := [.ref r34, .ref wt]) rfl ?_
        have i9 : ((sz : Int) - 1) = ((sz - 1 : Nat) : Int) := by omega
        have a9 : X20 ((sz : Int) - 1) = (tab M (srcN ls lr la rd) (sz - 1), 0) := by rw [e22 _ (Or.inl (by omega)), i9]; exact (hX (sz - 1) (by omega)).1
        rw [a9] at hr36
        refine j_aload_n hG dX11_readNext_90 rfl rfl ?_
        refine j_get hG fX11_33 dX11_readNext_91 (CRA_x hR29) rfl ?_
        obtain ⟨fs37, hh38⟩ := CTab_hd (CRA_c5 hR29)
        refine j_callV (rest := [.ref r34, .ref wt]) hG vX11_220 dX11_readNext_94 (k_X9_answerOffered (CRA_c5 hR29) (by omega)) hh38 rfl rfl (by decide) (by decide) (Nat.le_of_ble_eq_true rfl) rfl rfl (Nat.zero_le _) (Nat.zero_le _) ?_
        rintro _ _ ⟨r39, c40, rfl, hr41, rfl⟩
        refine j_st (st' := [.ref r39, .ref r34, .ref wt]) rfl ?_
        have t9 := acc_tie hMh (CTab_gi (CRA_c5 hR29)) hsz e22 e26 (fun s hs => (hX s hs).1)
        have b9 := t9 (sz - 1) (by omega)
        rw [← i9] at b9
        rw [b9] at hr41
        obtain ⟨fs42, hh43⟩ := CChg_hd (CRA_c6 hR29)
        refine j_callV (rest := []) hG vX11_223 dX11_readNext_97 (k_X0_addDifference (CRA_c6 hR29) hr36 hr41) hh43 rfl rfl (by decide) (by decide) (Nat.le_of_ble_eq_true rfl) rfl rfl (Nat.zero_le _) (Nat.zero_le _) ?_
        rintro _ f51 ⟨z44, W45, rfl, hc46, fr47, hq48⟩
        refine j_st (st' := [.int (iZ (z44))]) rfl ?_
        have hR52 := CRA_s6 hR29 hc46 fr47
        have hF53 : ∀ q, (rg q = 0 ∨ 10 < rg q) → f51 q = f q := fun q hq => (fr47 q (by omega)).trans (hF30 q hq)
        refine j_if_ne (tgt := 105) hG dX11_readNext_100 (by decide) (by omega) (fun c54 => ?_) (fun c54 => ?_)
        · -- taken at 100
          obtain ⟨-, e49, rfl⟩ := hq48.resolve_right (fun h => absurd h.1 (by omega))
          refine j_aload_n hG dX11_readNext_105 rfl rfl ?_
          refine j_get hG fX11_33 dX11_readNext_106 (CRA_x hR52) rfl ?_
          obtain ⟨fs55, hh56⟩ := CTab_hd (CRA_c5 hR52)
          refine j_callV (rest := []) hG vX11_227 dX11_readNext_109 (k_X9_acceptOffer (CRA_c5 hR52) hsz) hh56 rfl rfl (by decide) (by decide) (Nat.le_of_ble_eq_true rfl) rfl rfl (Nat.zero_le _) (Nat.zero_le _) ?_
          rintro _ f62 ⟨rfl, X57, hc58, e59, e60, fr61⟩
          refine j_st (st' := []) rfl ?_
          have hR63 := CRA_s5 hR52 hc58 fr61
          have hF64 : ∀ q, (rg q = 0 ∨ 10 < rg q) → f62 q = f q := fun q hq => (fr61 q (by omega)).trans (hF53 q hq)
          refine j_aload_n hG dX11_readNext_112 rfl rfl ?_
          refine j_get hG fX11_57 dX11_readNext_113 (CRA_x hR63) rfl ?_
          refine j_iload hG dX11_readNext_116 rfl ?_
          refine j_iload hG dX11_readNext_118 rfl ?_
          obtain ⟨fs65, hh66⟩ := CPrg_hd (CRA_c9 hR63)
          refine j_callV (rest := []) hG vX11_230 dX11_readNext_120 (k_X6_step (t := rT (lr (rd : Int))) (z := b) (CRA_c9 hR63) (by omega) (by omega) (by omega)) hh66 rfl rfl (by decide) (by decide) (Nat.le_of_ble_eq_true rfl) rfl rfl (Nat.zero_le _) (Nat.zero_le _) ?_
          rintro _ f69 ⟨rfl, hc67, fr68⟩
          refine j_st (st' := []) rfl ?_
          have hR70 := CRA_s9 hR63 hc67 fr68
          have hF71 : ∀ q, (rg q = 0 ∨ 10 < rg q) → f69 q = f q := fun q hq => (fr68 q (by omega)).trans (hF64 q hq)
          refine j_iconst hG dX11_readNext_123 ?_
          have n9 : ((rd + 1 : Nat) : Int) = (rd : Int) + 1 := by omega
          have l9 : nlat lr la (rd + 1) = nlat lr la rd + b := by rw [nlat, if_neg (by rw [hL]; decide)]; omega
          have m9 : ltst lr (rd + 1) = max (ltst lr rd) (rT (lr (rd : Int))) := rfl
          exact j_zret hG hZ dX11_readNext_124 (Nat.zero_le _) (Nat.zero_le _) (nar_zr (by omega)) (⟨1, rfl, Or.inl ⟨rfl, ⟨e25, e49⟩, lg, tp, pa, T, wt, to, ho, nw, kp, D, dz, X57, gi19, Mh, by rw [n9, l9, m9]; exact hR70, hMh, fun s hs => ⟨by rw [e59 s hs]; exact t9 s hs, by rw [e60 _ (by omega), e22 _ (Or.inr (by omega))]; exact (hX s hs).2⟩, by rw [e60 _ (by omega), e22 _ (Or.inr (by omega))]; exact h36⟩, hF71⟩)
        · -- on at 100
          obtain ⟨-, e50, rfl⟩ := hq48.resolve_left (fun h => absurd h.1 (by omega))
          refine j_iconst hG dX11_readNext_103 ?_
          exact j_zret hG hZ dX11_readNext_104 (Nat.zero_le _) (Nat.zero_le _) (nar_zr (by omega)) (⟨0, rfl, Or.inr ⟨rfl, fun q => e50 q.2, lg, tp, pa, T, wt, to, ho, nw, kp, D, dz, X20, gi19, Mh, hR52, hMh, fun s hs => ⟨by rw [e22 s (Or.inl (by omega))]; exact (hX s hs).1, by rw [e22 _ (Or.inr (by omega))]; exact (hX s hs).2⟩, by rw [e22 _ (Or.inr (by omega))]; exact h36⟩, hF53⟩)
  refine j_aload_n hG dX11_readNext_23 rfl rfl ?_
  refine j_get hG fX11_64 dX11_readNext_24 hx rfl ?_
  refine j_iconst hG dX11_readNext_27 ?_
  refine j_icmp_eq (tgt := 52) hG dX11_readNext_28 (by decide) (by omega) (by omega) (fun c72 => ?_) (fun c72 => ?_)
  · -- taken at 28
    refine j_iconst hG dX11_readNext_52 ?_
    exact hj5 (0) (Or.inr ⟨rfl, by unfold lateB; exact decide_eq_false (by omega)⟩)
  · -- on at 28
    refine j_iload hG dX11_readNext_31 rfl ?_
    refine j_aload_n hG dX11_readNext_33 rfl rfl ?_
    refine j_get hG fX11_57 dX11_readNext_34 hx rfl ?_
    obtain ⟨fs73, hh74⟩ := CPrg_hd (CRA_c9 hR)
    refine j_callV (rest := [.int (iZ (rT (lr (rd : Int))))]) hG vX11_198 dX11_readNext_37 (k_X6_greatestTime  (CRA_c9 hR) ) hh74 rfl rfl (by decide) (by decide) (Nat.le_of_ble_eq_true rfl) rfl rfl (Nat.zero_le _) (Nat.zero_le _) ?_
    rintro _ _ ⟨rfl, rfl⟩
    refine j_st (st' := [.int (iZ ((ltst lr rd))), .int (iZ (rT (lr (rd : Int))))]) rfl ?_
    refine j_aload_n hG dX11_readNext_40 rfl rfl ?_
    refine j_get hG fX11_64 dX11_readNext_41 hx rfl ?_
    refine j_isub hG dX11_readNext_44 ?_
    refine j_icmp_ge (tgt := 52) hG dX11_readNext_45 (by decide) (by omega) (by omega) (fun c75 => ?_) (fun c75 => ?_)
    · -- taken at 45
      refine j_iconst hG dX11_readNext_52 ?_
      exact hj5 (0) (Or.inr ⟨rfl, by unfold lateB; exact decide_eq_false (by omega)⟩)
    · -- on at 45
      refine j_iconst hG dX11_readNext_48 ?_
      refine j_goto (tgt := 53) hG dX11_readNext_49 (by decide) ?_
      exact hj5 (1) (Or.inl ⟨rfl, by unfold lateB; exact decide_eq_true (by omega)⟩)
theorem rd_SOk {ls : Int → Int} {lr : Int → Int} {ln : Nat} {M : Int → Int → Int} {sz : Nat} {la : Int} {rd : Nat} {mr : Nat} {W : List Int} {O : List Int} {g : Int → Int} {len : Int} {th : Int → Int} {fa : Int} {re : Int} (hS : SOk (ls, lr, ln, M, sz, la, rd, mr, W, O, g, len, th, fa, re)) (hl : rd < ln) (ho : rdOk ls lr M sz la rd W) : SOk (ls, lr, ln, M, sz, la, rd + 1, mr, W ++ chg (tab M (srcN ls lr la rd) (sz - 1)) (tab M (srcN ls lr la (rd + 1)) (sz - 1)), O, g, len, th, fa, re) := by
  obtain ⟨⟨hln, hlg⟩, ⟨hsz, hMo⟩, hla, hrd, hok1, hok2, hWO, hbg, hle, hth, hh1⟩ := hS
  exact ⟨⟨hln, hlg⟩, ⟨hsz, hMo⟩, hla, ⟨by omega, by omega⟩, ho.1, hok2, ⟨by rw [List.length_append]; exact ho.2, hWO.2⟩, hbg, hle, hth, hh1⟩
theorem l_X11_read {G : JG} {l : Launch} {E : JE} {P : Option Value → Hp → Prop} (hG : jX G l E cX11_read RX11 4 rmX11_read) (hZ : jZ G (some .int) P) {rg : Nat → Nat} {x : Nat} {ls : Int → Int} {lr : Int → Int} {ln : Nat} {M : Int → Int → Int} {sz : Nat} {la : Int} {mr : Nat} {O : List Int} {g : Int → Int} {len : Int} {th : Int → Int} {fa : Int} {re : Int} {n m : Int} {f0 : Hp} {R : Nat × List Int × Int × Int} (hsz1 : 1 ≤ sz) (hm : m ≤ 150) (hP : ∀ f' : Hp, CR E rg f' x (ls, lr, ln, M, sz, la, R.1, mr, R.2.1, O, g, len, th, fa, R.2.2.2) → (∀ q, (rg q = 0 ∨ 10 < rg q) → f' q = f0 q) → P (some (.int (iZ R.2.2.1))) f') :
    ∀ (d : Nat) (rd : Nat) (W : List Int) (dn : Int) (f1 : Hp), (hC : CR E rg f1 x (ls, lr, ln, M, sz, la, rd, mr, W, O, g, len, th, fa, re)) → (hS : SOk (ls, lr, ln, M, sz, la, rd, mr, W, O, g, len, th, fa, re)) → (hdn : 0 ≤ dn ∧ dn ≤ m) → (hml : m - dn ≤ (ln : Int) - (rd : Int)) → (hR9 : rdL ls lr M sz la (m - dn).toNat rd W dn = R) → (hfr : ∀ q, (rg q = 0 ∨ 10 < rg q) → f1 q = f0 q) → ((m - dn).toNat) < d → J G 0 0 f1 56 [(0, .ref x), (1, .int (iZ (n))), (2, .int (iZ (m))), (3, .int (iZ (dn)))] [] := by
  intro d
  induction d with
  | zero => intro rd W dn f1  hC hS hdn hml hR9 hfr hd9; exfalso; omega
  | succ d ih =>
    intro rd W dn f1  hC hS hdn hml hR9 hfr hd9
    refine j_iload_n hG dX11_read_56 rfl rfl ?_
    refine j_iload_n hG dX11_read_57 rfl rfl ?_
    refine j_icmp_ge (tgt := 82) hG dX11_read_58 (by decide) (by omega) (by omega) (fun c1 => ?_) (fun c1 => ?_)
    · -- taken at 58
      obtain ⟨lg, tp, pa, T, wt, to, ho, nw, kp, D, dz, X, gi, Mh, hR, hMh, hX, h36⟩ := hC
      have hx9 := CRA_x hR
      refine j_aload_n hG dX11_read_82 rfl rfl ?_
      refine j_iload_n hG dX11_read_83 rfl rfl ?_
      refine j_callV (rest := []) hG vX11_96 dX11_read_84 (c_X11_grant (c := m) hx9) hx9 rfl rfl (by decide) (by decide) (Nat.le_of_ble_eq_true rfl) rfl rfl (Nat.zero_le _) (Nat.zero_le _) ?_
      rintro _ f4 ⟨rfl, hn2, fr3⟩
      refine j_st (st' := [.int (iZ (m))]) rfl ?_
      have hR5 := CRA_s1 hR hn2 fr3
      have hF6 : ∀ q, (rg q = 0 ∨ 10 < rg q) → f4 q = f0 q := fun q hq => (fr3 q (fun e => by rw [e, hR.2.1] at hq; omega)).trans (hfr q hq)
      have m9 : m = dn := by omega
      subst m9
      rw [show (m - m).toNat = 0 by omega] at hR9
      rw [rdL] at hR9
      subst hR9
      exact j_iret hG hZ dX11_read_87 (Nat.zero_le _) (Nat.zero_le _) (hP f4 ⟨lg, tp, pa, T, wt, to, ho, nw, kp, D, dz, X, gi, Mh, hR5, hMh, hX, h36⟩ hF6)
    · -- on at 58
      refine j_aload_n hG dX11_read_61 rfl rfl ?_
      obtain ⟨fs14, hh15⟩ := CR_hd hC
      refine j_callV (rest := []) hG vX11_137 dX11_read_62 (c_X11_readNext hC hS (by omega) (by omega)) hh15 rfl rfl (by decide) (by decide) (Nat.le_of_ble_eq_true rfl) rfl rfl (Nat.zero_le _) (Nat.zero_le _) ?_
      rintro _ f16 ⟨z7, rfl, hq8, fr9⟩
      refine j_st (st' := [.int (iZ (z7))]) rfl ?_
      refine j_if_ne (tgt := 76) hG dX11_read_65 (by decide) (by omega) (fun c17 => ?_) (fun c17 => ?_)
      · -- taken at 65
        obtain ⟨-, k10, hC11⟩ := hq8.resolve_right (fun h => absurd h.1 (by omega))
        refine j_iinc (a := dn) (lv' := [(0, .ref x), (1, .int (iZ (n))), (2, .int (iZ (m))), (3, .int (iZ (dn + 1)))]) hG dX11_read_76 rfl (by decide) rfl ?_
        refine j_goto (tgt := 56) hG dX11_read_79 (by decide) ?_
        refine j_lv (lv' := [(0, .ref x), (1, .int (iZ (n))), (2, .int (iZ (m))), (3, .int (iZ (dn + 1)))]) (by simp) ?_
        refine ih (rd + 1) (W ++ chg (tab M (srcN ls lr la rd) (sz - 1)) (tab M (srcN ls lr la (rd + 1)) (sz - 1))) (dn + 1) f16 hC11 (rd_SOk hS (by omega) k10) (by omega) (by omega) ?_ (fun q hq => (fr9 q hq).trans (hfr q hq)) (by omega)
        rw [← hR9, show (m - dn).toNat = (m - (dn + 1)).toNat + 1 by omega, rdL_yes k10]
      · -- on at 65
        obtain ⟨-, k12, hC13⟩ := hq8.resolve_left (fun h => absurd h.1 (by omega))
        obtain ⟨lg, tp, pa, T, wt, to, ho, nw, kp, D, dz, X, gi, Mh, hR, hMh, hX, h36⟩ := hC13
        have hx9 := CRA_x hR
        have hF9 : ∀ q, (rg q = 0 ∨ 10 < rg q) → f16 q = f0 q := fun q hq => (fr9 q hq).trans (hfr q hq)
        refine j_aload_n hG dX11_read_68 rfl rfl ?_
        refine j_bipush hG dX11_read_69 (by decide) ?_
        refine j_put hG pX11_71 dX11_read_71 hx9 rfl rfl (Nat.le_of_ble_eq_true rfl) (fun f18 h19 fr20 => ?_)
        have h19 : f18 x = oB 10 [.ref lg, .ref tp, .ref pa, .ref T, .ref wt, .ref to, .ref ho, .ref nw, .ref kp, .int (iZ (la)), .int (iZ (fa)), .int (iZ (-5))] := h19
        have hR21 := CRA_s1 hR h19 fr20
        have hF22 : ∀ q, (rg q = 0 ∨ 10 < rg q) → f18 q = f0 q := fun q hq => (fr20 q (fun e => by rw [e, hR.2.1] at hq; omega)).trans (hF9 q hq)
        refine j_iload_n hG dX11_read_74 rfl rfl ?_
        rw [show (m - dn).toNat = (m - dn).toNat - 1 + 1 by omega, rdL_no k12] at hR9
        subst hR9
        exact j_iret hG hZ dX11_read_75 (Nat.zero_le _) (Nat.zero_le _) (hP f18 ⟨lg, tp, pa, T, wt, to, ho, nw, kp, D, dz, X, gi, Mh, hR21, hMh, hX, h36⟩ hF22)
theorem c_X11_read {l : Launch} {E : JE} {f : Hp} {rg : Nat → Nat} {x : Nat} {ls : Int → Int} {lr : Int → Int} {ln : Nat} {M : Int → Int → Int} {sz : Nat} {la : Int} {rd : Nat} {mr : Nat} {W : List Int} {O : List Int} {g : Int → Int} {len : Int} {th : Int → Int} {fa : Int} {re : Int} {n : Int}  (hC : CR E rg f x (ls, lr, ln, M, sz, la, rd, mr, W, O, g, len, th, fa, re)) (hS : SOk (ls, lr, ln, M, sz, la, rd, mr, W, O, g, len, th, fa, re)) (hn_ : -2147483648 ≤ n ∧ n < 2147483648) : KX11_read l E [.ref x, .int (iZ (n))] f (fun v f' => v = some (.int (iZ (readF (ls, lr, ln, M, sz, la, rd, mr, W, O, g, len, th, fa, re) n).1)) ∧ CR E rg f' x (readF (ls, lr, ln, M, sz, la, rd, mr, W, O, g, len, th, fa, re) n).2 ∧ ∀ q, (rg q = 0 ∨ 10 < rg q) → f' q = f q) := by
  refine ct_of (own := RX11) (lv := [(0, .ref x), (1, .int (iZ (n)))]) (by decide +kernel) rfl (Nat.le_of_ble_eq_true rfl) rfl ?_
  intro G hG hZ
  have hC0 := hC; have hS0 := hS; obtain ⟨lg, tp, pa, T, wt, to, ho, nw, kp, D, dz, X, gi, Mh, hR, hMh, hX, h36⟩ := hC
  obtain ⟨⟨hln, hlg⟩, ⟨hsz, hMo⟩, hla, hrd, hok1, hok2, hWO, hbg, hle, hth, hh1⟩ := hS
  have hx := CRA_x hR
  have hF : ∀ q, (rg q = 0 ∨ 10 < rg q) → f q = f q := fun _ _ => rfl
  refine j_iload_n hG dX11_read_0 rfl rfl ?_
  refine j_iconst hG dX11_read_1 ?_
  refine j_sipush hG dX11_read_2 (by decide) ?_
  refine j_callS (rest := []) hG vX11_74 dX11_read_5 (c_X11_isWithin (a := n) (lo := 0) (hi := 150) (by omega) (by omega) (by omega)) rfl rfl (by decide) (by decide) (Nat.le_of_ble_eq_true rfl) rfl rfl (Nat.zero_le _) (Nat.zero_le _) ?_
  rintro _ _ ⟨⟨b1, rfl, hb2⟩, rfl⟩
  refine j_st (st' := [.int (iZ (b1))]) rfl ?_
  refine j_if_ne (tgt := 17) hG dX11_read_8 (by decide) (by omega) (fun c3 => ?_) (fun c3 => ?_)
  · -- taken at 8
    refine j_aload_n hG dX11_read_17 rfl rfl ?_
    refine j_get hG fX11_33 dX11_read_18 hx rfl ?_
    obtain ⟨fs4, hh5⟩ := CTab_hd (CRA_c5 hR)
    refine j_callV (rest := []) hG vX11_127 dX11_read_21 (k_X9_size  (CRA_c5 hR) ) hh5 rfl rfl (by decide) (by decide) (Nat.le_of_ble_eq_true rfl) rfl rfl (Nat.zero_le _) (Nat.zero_le _) ?_
    rintro _ _ ⟨rfl, rfl⟩
    refine j_st (st' := [.int (iZ ((sz : Int)))]) rfl ?_
    refine j_if_ne (tgt := 34) hG dX11_read_24 (by decide) (by omega) (fun c6 => ?_) (fun c6 => ?_)
    · -- taken at 24
      refine j_iload_n hG dX11_read_34 rfl rfl ?_
      refine j_aload_n hG dX11_read_35 rfl rfl ?_
      refine j_get hG fX11_10 dX11_read_36 hx rfl ?_
      obtain ⟨fs7, hh8⟩ := CLog_hd (CRA_c2 hR)
      refine j_callV (rest := [.int (iZ (n))]) hG vX11_92 dX11_read_39 (k_X2_size  (CRA_c2 hR) ) hh8 rfl rfl (by decide) (by decide) (Nat.le_of_ble_eq_true rfl) rfl rfl (Nat.zero_le _) (Nat.zero_le _) ?_
      rintro _ _ ⟨rfl, rfl⟩
      refine j_st (st' := [.int (iZ ((ln : Int))), .int (iZ (n))]) rfl ?_
      refine j_aload_n hG dX11_read_42 rfl rfl ?_
      refine j_get hG fX11_57 dX11_read_43 hx rfl ?_
      obtain ⟨fs9, hh10⟩ := CPrg_hd (CRA_c9 hR)
      refine j_callV (rest := [.int (iZ ((ln : Int))), .int (iZ (n))]) hG vX11_128 dX11_read_46 (k_X6_rowsRead  (CRA_c9 hR) ) hh10 rfl rfl (by decide) (by decide) (Nat.le_of_ble_eq_true rfl) rfl rfl (Nat.zero_le _) (Nat.zero_le _) ?_
      rintro _ _ ⟨rfl, rfl⟩
      refine j_st (st' := [.int (iZ ((rd : Int))), .int (iZ ((ln : Int))), .int (iZ (n))]) rfl ?_
      refine j_isub hG dX11_read_49 ?_
      refine j_min hG vX11_131 dX11_read_50 (by omega) (by omega) (by decide) (by decide) (Nat.le_of_ble_eq_true rfl) (Nat.zero_le _) (Nat.zero_le _) ?_
      refine j_istore_n (lv' := [(0, .ref x), (1, .int (iZ (n))), (2, .int (iZ (min n ((ln : Int) - (rd : Int)))))]) hG dX11_read_53 rfl (by decide) rfl ?_
      refine j_iconst hG dX11_read_54 ?_
      refine j_istore_n (lv' := [(0, .ref x), (1, .int (iZ (n))), (2, .int (iZ (min n ((ln : Int) - (rd : Int))))), (3, .int (iZ (0)))]) hG dX11_read_55 rfl (by decide) rfl ?_
      have hle9 : (rd : Int) ≤ (ln : Int) := by omega
      have eF : readF (ls, lr, ln, M, sz, la, rd, mr, W, O, g, len, th, fa, re) n = ((rdL ls lr M sz la (min n ((ln : Int) - (rd : Int))).toNat rd W 0).2.2.1, (ls, lr, ln, M, sz, la, (rdL ls lr M sz la (min n ((ln : Int) - (rd : Int))).toNat rd W 0).1, mr, (rdL ls lr M sz la (min n ((ln : Int) - (rd : Int))).toNat rd W 0).2.1, O, g, len, th, fa, (rdL ls lr M sz la (min n ((ln : Int) - (rd : Int))).toNat rd W 0).2.2.2)) := by
        unfold readF
        dsimp only
        rw [if_pos (by omega), if_neg (by omega)]
      have hCC := hC0
      refine l_X11_read (f0 := f) (R := (rdL ls lr M sz la (min n ((ln : Int) - (rd : Int))).toNat rd W 0)) hG hZ (by omega) (by omega) (fun f' a1 a2 => ?_) (min n ((ln : Int) - (rd : Int)) + 1).toNat rd W 0 f hC0 hS0 (by omega) (by omega) ?_ (fun _ _ => rfl) (by omega)
      · exact ⟨by rw [eF], by rw [eF]; exact a1, a2⟩
      · rw [Int.sub_zero]
    · -- on at 24
      refine j_aload_n hG dX11_read_27 rfl rfl ?_
      refine j_bipush hG dX11_read_28 (by decide) ?_
      refine j_callV (rest := []) hG vX11_78 dX11_read_30 (c_X11_refuse (c := -6) hx) hx rfl rfl (by decide) (by decide) (Nat.le_of_ble_eq_true rfl) rfl rfl (Nat.zero_le _) (Nat.zero_le _) ?_
      rintro _ f13 ⟨rfl, hn11, fr12⟩
      refine j_st (st' := [.int (iZ (-6))]) rfl ?_
      have hR14 := CRA_s1 hR hn11 fr12
      have hF15 : ∀ q, (rg q = 0 ∨ 10 < rg q) → f13 q = f q := fun q hq => (fr12 q (fun e => by rw [e, hR.2.1] at hq; omega)).trans (hF q hq)
      have eF : readF (ls, lr, ln, M, sz, la, rd, mr, W, O, g, len, th, fa, re) n = (-6, (ls, lr, ln, M, sz, la, rd, mr, W, O, g, len, th, fa, -6)) := by
        unfold readF
        dsimp only
        rw [if_pos (by omega), if_pos (by omega)]
      exact j_iret hG hZ dX11_read_33 (Nat.zero_le _) (Nat.zero_le _) (⟨by rw [eF], by rw [eF]; exact ⟨lg, tp, pa, T, wt, to, ho, nw, kp, D, dz, X, gi, Mh, hR14, hMh, hX, h36⟩, hF15⟩)
  · -- on at 8
    refine j_aload_n hG dX11_read_11 rfl rfl ?_
    refine j_iconst hG dX11_read_12 ?_
    refine j_callV (rest := []) hG vX11_78 dX11_read_13 (c_X11_refuse (c := -1) hx) hx rfl rfl (by decide) (by decide) (Nat.le_of_ble_eq_true rfl) rfl rfl (Nat.zero_le _) (Nat.zero_le _) ?_
    rintro _ f18 ⟨rfl, hn16, fr17⟩
    refine j_st (st' := [.int (iZ (-1))]) rfl ?_
    have hR19 := CRA_s1 hR hn16 fr17
    have hF20 : ∀ q, (rg q = 0 ∨ 10 < rg q) → f18 q = f q := fun q hq => (fr17 q (fun e => by rw [e, hR.2.1] at hq; omega)).trans (hF q hq)
    have eF : readF (ls, lr, ln, M, sz, la, rd, mr, W, O, g, len, th, fa, re) n = (-1, (ls, lr, ln, M, sz, la, rd, mr, W, O, g, len, th, fa, -1)) := by
      unfold readF
      dsimp only
      rw [if_neg (by omega)]
    exact j_iret hG hZ dX11_read_16 (Nat.zero_le _) (Nat.zero_le _) (⟨by rw [eF], by rw [eF]; exact ⟨lg, tp, pa, T, wt, to, ho, nw, kp, D, dz, X, gi, Mh, hR19, hMh, hX, h36⟩, hF20⟩)
theorem nameT_tl {g tl tl' : Int → Int} {len : Int} (h : ∀ j, 0 ≤ j → j < 26 → tl j = tl' j) (s : Int) : nameT g tl len s = nameT g tl' len s := by
  have := letr_rng (g := g) (len := len) (s := s)
  unfold nameT
  by_cases c : letr g len s = -1
  · rw [if_pos c, if_pos c]
  · rw [if_neg c, if_neg c]; exact h _ (by omega) (by omega)
theorem parts_tl {g tl tl' : Int → Int} {len kd s : Int} (h : ∀ j, 0 ≤ j → j < 26 → tl j = tl' j) : parts g tl len kd s = parts g tl' len kd s := by
  have e := nameT_tl (g := g) (len := len) h
  unfold parts
  simp only [e]
theorem prsL_eq {g : Int → Int} {len : Int} : ∀ (n t : Nat) (tl tl' : Int → Int) (M M' : Int → Int → Int) (s : Int), (∀ j, 0 ≤ j → j < 26 → tl j = tl' j) → (∀ i : Nat, i < t → M i = M' i) → (prsL g len n t tl M s).1 = (prsL g len n t tl' M' s).1 ∧ (prsL g len n t tl M s).2.1 = (prsL g len n t tl' M' s).2.1 ∧ ∀ i : Nat, i < (prsL g len n t tl' M' s).2.1 → (prsL g len n t tl M s).2.2 i = (prsL g len n t tl' M' s).2.2 i
  | 0, t, tl, tl', M, M', s, h1, h2 => ⟨rfl, rfl, h2⟩
  | n + 1, t, tl, tl', M, M', s, h1, h2 => by
    have e1 := letr_rng (g := g) (len := len) (s := s)
    unfold prsL
    by_cases c1 : letr g len s = -1 ∨ tl (letr g len s) ≠ -1
    · have c2 : letr g len s = -1 ∨ tl' (letr g len s) ≠ -1 := by
        by_cases q : letr g len s = -1
        · exact Or.inl q
        · rw [← h1 _ (by omega) (by omega)]; exact c1
      rw [if_pos c1, if_pos c2]; exact ⟨rfl, rfl, h2⟩
    · have c2 : ¬ (letr g len s = -1 ∨ tl' (letr g len s) ≠ -1) := by
        intro q
        by_cases q2 : letr g len s = -1
        · exact c1 (Or.inl q2)
        · rw [← h1 _ (by omega) (by omega)] at q; exact c1 q
      rw [if_neg c1, if_neg c2]
      by_cases c3 : sgn g len (nx g len s) 61 = false
      · rw [if_pos c3, if_pos c3]; exact ⟨rfl, rfl, h2⟩
      · rw [if_neg c3, if_neg c3]
        by_cases c4 : kdF g len (nx g len (nx g len s)) = -1
        · rw [if_pos c4, if_pos c4]; exact ⟨rfl, rfl, h2⟩
        · rw [if_neg c4, if_neg c4, parts_tl h1]
          cases hp : parts g tl' len (kdF g len (nx g len (nx g len s))) (nx g len (nx g len (nx g len s))) with
          | mk p o =>
            have h3 : ∀ F : Int → Int, ∀ i : Nat, i < t + 1 → fup M (t : Int) F i = fup M' (t : Int) F i := fun F i hi => by
              by_cases e : i = t
              · subst e; rw [fup_s, fup_s]
              · rw [fup_n _ _ (by omega), fup_n _ _ (by omega)]; exact h2 i (by omega)
            cases o with
            | none => exact ⟨rfl, rfl, h2⟩
            | some F =>
              dsimp only
              by_cases c5 : len ≤ p
              · rw [if_pos c5, if_pos c5]; exact ⟨rfl, rfl, h3 F⟩
              · rw [if_neg c5, if_neg c5]
                by_cases c6 : sgn g len p 59 = false
                · rw [if_pos c6, if_pos c6]; exact ⟨rfl, rfl, h3 F⟩
                · rw [if_neg c6, if_neg c6]
                  exact prsL_eq n (t + 1) _ _ _ _ _ (fun j j1 j2 => by unfold fup; split; rfl; exact h1 j j1 j2) (h3 F)
/-- what a TEXT of len bytes makes: FAULT or -1, how many TABLES, their MAKINGS -/
def prsF (g : Int → Int) (len : Int) : Int × Nat × (Int → Int → Int) := prsL g len 12 0 (fun _ => -1) (fun _ _ => 0) (tS g len 0)
def tablesF (S : ST) : Int × ST := match S with
  | (ls, lr, ln, M, sz, la, rd, mr, W, O, g, len, th, fa, re) => if (prsF g len).1 = -1 then (((prsF g len).2.1 : Int), (ls, lr, ln, (prsF g len).2.2, (prsF g len).2.1, la, 0, 0, [], [], g, 0, th, -1, 0)) else (-6, (ls, lr, ln, M, sz, la, rd, mr, W, O, g, 0, th, (prsF g len).1, -6))
theorem k_tables {l : Launch} {E : JE} {rg : Nat → Nat} {f : Hp} {T tp pa : Nat} {M : Int → Int → Int} {sz : Nat} {D : Int → Int → Int} {dz : Int} {X : Int → List Int × Int} {gi : Int → Int} {g : Int → Int} {len : Int} (h : CTab E rg f T M sz D dz X gi) (ht : CTape E rg f tp g len) (hp : CPar E rg f pa) (hl : 0 ≤ len ∧ len ≤ 300) (hg : bOk g) : ∃ dr : Nat, KX9_draft l E [.ref T] f (fun v f' => v = some (.ref dr) ∧ f = f') ∧ KX4_parse l E [.ref pa, .ref tp, .ref dr] f (fun v f' => ∃ (D' : Int → Int → Int) (n : Nat), v = some (.int (iZ (prsF g len).1)) ∧ ((prsF g len).1 = -1 → (prsF g len).2.1 = n ∧ ∀ i : Nat, i < n → D' i = (prsF g len).2.2 i) ∧ n ≤ 12 ∧ CTab E rg f' T M sz D' (n : Int) X gi ∧ CTape E rg f' tp g len ∧ CPar E rg f' pa ∧ ∀ q, rg q ≠ 3 → rg q ≠ 4 → rg q ≠ 5 → f' q = f q) := by
  obtain ⟨cu, ofr, mk, it, pl, dr, pm, dm, ra, ca, ma, da, gcu, gof, gmk, gpm, gdm, hT, hpl, hdr, hpm, hdm, hcu, hof, hmk, hit, hM, hD, hRW, gcu_, gof_, gmk_, gpm_, gdm_, hgi, hd, hma, hda, hmd, hco, hpc, hcl, hcr, hcc, hcm⟩ := h
  obtain ⟨b, st, sp, t0, t1, gt0, gt1⟩ := ht
  obtain ⟨tl0, tl, b0, b1, gp0, gp1⟩ := hp
  refine ⟨dr, c_X9_draft hT, ?_⟩
  refine ct_mono (c_X4_parse b0 b1 t0 t1 hdr hdm hl hg gdm_ hda hD) ?_
  rintro v f' ⟨tl1, D', n, tl2, p, a1, a2, a3, e3, a4, e5, e6, a7, e8, a9, fr⟩
  have q9 := prsL_eq (g := g) (len := len) 12 0 tl1 (fun _ => -1) D (fun _ _ => 0) (tS g len 0) a1 (fun i hi => absurd hi (Nat.not_lt_zero i))
  have hfr : ∀ q, rg q ≠ 3 → rg q ≠ 4 → rg q ≠ 5 → f' q = f q := fun q h3 h4 h5 => fr q (fun e => h3 (by rw [e]; exact gt0)) (fun e => h4 (by rw [e]; exact gp1)) (fun e => h5 (by rw [e]; exact hcl.2.2.2.2.2.2.1)) (fun i i1 i2 e => h5 (by rw [e]; exact (hcm i i1 i2).2))
  refine ⟨D', n, by rw [a2]; show _ = some (Value.int (iZ (prsL _ _ _ _ _ _ _).1)); rw [q9.1], fun h1 => ?_, a4, ⟨cu, ofr, mk, it, pl, dr, pm, dm, ra, ca, ma, da, gcu, gof, gmk, gpm, gdm, (fr _ (h_ne hT t0 (oo_n (by decide))) (h_ne hT b1 oa_I) (h_ne hT hdr (oo_n (by decide))) (fun i i1 i2 => h_ne hT (hD i i1 i2) (oo_n (by decide)))).trans hT, (fr _ (h_ne hpl t0 (oo_n (by decide))) (h_ne hpl b1 oa_I) hco.2.2.2 (fun i i1 i2 => h_ne hpl (hD i i1 i2) (oo_n (by decide)))).trans hpl, e3, (fr _ (h_ne hpm t0 (Ne.symm oa_Q)) (h_ne hpm b1 (Ne.symm aIQ)) (h_ne hpm hdr (Ne.symm oa_Q)) (fun i i1 i2 => h_ne hpm (hD i i1 i2) (Ne.symm oa_Q))).trans hpm, (fr _ (h_ne hdm t0 (Ne.symm oa_Q)) (h_ne hdm b1 (Ne.symm aIQ)) (h_ne hdm hdr (Ne.symm oa_Q)) (fun i i1 i2 => h_ne hdm (hD i i1 i2) (Ne.symm oa_Q))).trans hdm, (fr _ (h_ne hcu t0 (Ne.symm oa_Q)) (h_ne hcu b1 (Ne.symm aIQ)) (h_ne hcu hdr (Ne.symm oa_Q)) (fun i i1 i2 => h_ne hcu (hD i i1 i2) (Ne.symm oa_Q))).trans hcu, (fr _ (h_ne hof t0 (Ne.symm oa_Q)) (h_ne hof b1 (Ne.symm aIQ)) (h_ne hof hdr (Ne.symm oa_Q)) (fun i i1 i2 => h_ne hof (hD i i1 i2) (Ne.symm oa_Q))).trans hof, (fr _ (h_ne hmk t0 (Ne.symm oa_Q)) (h_ne hmk b1 (Ne.symm aIQ)) (h_ne hmk hdr (Ne.symm oa_Q)) (fun i i1 i2 => h_ne hmk (hD i i1 i2) (Ne.symm oa_Q))).trans hmk, (fr _ (h_ne hit t0 (Ne.symm oa_I)) (h_ne hit b1 (aI_n (by decide))) (h_ne hit hdr (Ne.symm oa_I)) (fun i i1 i2 => h_ne hit (hD i i1 i2) (Ne.symm oa_I))).trans hit, fun i i1 i2 => (fr _ (h_ne (hM i i1 i2) t0 (oo_n (by decide))) (h_ne (hM i i1 i2) b1 oa_I) (h_ne (hM i i1 i2) hdr (oo_n (by decide))) (fun j j1 j2 => hmd i j i1 i2 j1 j2)).trans (hM i i1 i2), e5, RWs_kept hRW (fun i i1 i2 => ⟨fun i3 => fr _ ?_ ?_ ?_ ?_, fr _ ?_ ?_ ?_ ?_⟩), gcu_, gof_, gmk_, gpm_, gdm_, hgi, hd, hma, hda, hmd, hco, hpc, hcl, hcr, hcc, hcm⟩, ⟨b, p, tE g len p, e8, ?_, gt0, gt1⟩, ⟨tl0, tl2, ?_, e6, gp0, gp1⟩, hfr⟩
  · have h2 : (prsL g len 12 0 tl1 D (tS g len 0)).1 = -1 := by rw [q9.1]; exact h1
    have h3 := a3 h2
    refine ⟨by show (prsL _ _ _ _ _ _ _).2.1 = n; rw [← q9.2.1]; exact h3.1, fun i hi => ?_⟩
    rw [h3.2 i hi]
    exact q9.2.2 i (by rw [← q9.2.1, h3.1]; exact hi)
  · exact Ne.symm ((rw_out hRW t0 (fun _ => oo_n (by decide)) (fun _ _ _ => oa_J)).1 i i1 i3)
  · exact Ne.symm ((rw_out hRW b1 (fun _ => Ne.symm oa_I) (fun _ _ _ => aIJ)).1 i i1 i3)
  · exact Ne.symm ((rw_out hRW hdr (fun _ => oo_n (by decide)) (fun _ _ _ => oa_J)).1 i i1 i3)
  · exact fun j j1 j2 => Ne.symm ((rw_out hRW (hD j j1 j2) (fun _ => oo_n (by decide)) (fun _ _ _ => oa_J)).1 i i1 i3)
  · exact Ne.symm ((rw_out hRW t0 (fun _ => oo_n (by decide)) (fun _ _ _ => oa_J)).2 i i1 i2)
  · exact Ne.symm ((rw_out hRW b1 (fun _ => Ne.symm oa_I) (fun _ _ _ => aIJ)).2 i i1 i2)
  · exact Ne.symm ((rw_out hRW hdr (fun _ => oo_n (by decide)) (fun _ _ _ => oa_J)).2 i i1 i2)
  · exact fun j j1 j2 => Ne.symm ((rw_out hRW (hD j j1 j2) (fun _ => oo_n (by decide)) (fun _ _ _ => oa_J)).2 i i1 i2)
  · exact (fr b (h_ne t1 t0 (Ne.symm oa_I)) (h_ne t1 b1 (aI_n (by decide))) (h_ne t1 hdr (Ne.symm oa_I)) (fun j j1 j2 => h_ne t1 (hD j j1 j2) (Ne.symm oa_I))).trans t1
  · exact (fr pa (h_ne b0 t0 (oo_n (by decide))) (h_ne b0 b1 oa_I) (h_ne b0 hdr (oo_n (by decide))) (fun j j1 j2 => h_ne b0 (hD j j1 j2) (oo_n (by decide)))).trans b0
theorem CRA_s345 {E : JE} {rg : Nat → Nat} {f f' : Hp} {x lg tp pa T wt to ho nw kp : Nat} {ls : Int → Int} {lr : Int → Int} {ln : Nat} {g : Int → Int} {len : Int} {M : Int → Int → Int} {sz : Nat} {D : Int → Int → Int} {dz : Int} {X : Int → List Int × Int} {gi : Int → Int} {W : List Int} {O : List Int} {th : Int → Int} {n1 : Int} {l1 : Int} {t1 : Int} {n2 : Int} {l2 : Int} {t2 : Int} {la : Int} {fa : Int} {re : Int} {D' : Int → Int → Int} {dz' : Int} (h : CRA E rg f x lg tp pa T wt to ho nw kp ls lr ln g len M sz D dz X gi W O th n1 l1 t1 n2 l2 t2 la fa re) (h3 : CTape E rg f' tp g len) (h4 : CPar E rg f' pa) (h5 : CTab E rg f' T M sz D' dz' X gi) (k : ∀ q, rg q ≠ 3 → rg q ≠ 4 → rg q ≠ 5 → f' q = f q) : CRA E rg f' x lg tp pa T wt to ho nw kp ls lr ln g len M sz D' dz' X gi W O th n1 l1 t1 n2 l2 t2 la fa re := by
  obtain ⟨hx, hc, a2, a3, a4, a5, a6, a7, a8, a9, a10⟩ := h
  exact ⟨(k _ (by rw [hc]; decide) (by rw [hc]; decide) (by rw [hc]; decide)).trans hx, hc, CLog_kept a2 (fun q hq => k q (by rw [hq]; decide) (by rw [hq]; decide) (by rw [hq]; decide)), h3, h4, h5, CChg_kept a6 (fun q hq => k q (by rw [hq]; decide) (by rw [hq]; decide) (by rw [hq]; decide)), CChg_kept a7 (fun q hq => k q (by rw [hq]; decide) (by rw [hq]; decide) (by rw [hq]; decide)), CHos_kept a8 (fun q hq => k q (by rw [hq]; decide) (by rw [hq]; decide) (by rw [hq]; decide)), CPrg_kept a9 (fun q hq => k q (by rw [hq]; decide) (by rw [hq]; decide) (by rw [hq]; decide)), CPrg_kept a10 (fun q hq => k q (by rw [hq]; decide) (by rw [hq]; decide) (by rw [hq]; decide))⟩
theorem prsL_rng {g : Int → Int} {len : Int} (hl : 0 ≤ len) : ∀ (n t : Nat) (tl : Int → Int) (M : Int → Int → Int) (s : Int), 0 ≤ s ∧ s ≤ len → -1 ≤ (prsL g len n t tl M s).1 ∧ (prsL g len n t tl M s).1 ≤ len
  | 0, t, tl, M, s, h => by unfold prsL; simp only []; omega
  | n + 1, t, tl, M, s, h => by
    have q0 := nx_rng (g := g) h
    have q1 := nx_rng (g := g) q0
    have q2 := nx_rng (g := g) q1
    unfold prsL
    split
    · simp only []; omega
    · split
      · simp only []; omega
      · split
        · simp only []; omega
        · split
          · rename_i p hp
            have := parts_rng hp q2
            simp only []; omega
          · rename_i p F hp
            have q3 := parts_rng hp q2
            split
            · simp only []; omega
            · split
              · simp only []; omega
              · exact prsL_rng hl n (t + 1) _ _ _ (nx_rng q3)
theorem prsF_rng {g : Int → Int} {len : Int} (hl : 0 ≤ len ∧ len ≤ 300) : -1 ≤ (prsF g len).1 ∧ (prsF g len).1 ≤ 300 := by
  have s9 := tS_rng (g := g) (len := len) (p := 0) (by omega)
  have := prsL_rng (g := g) (len := len) hl.1 12 0 (fun _ => -1) (fun _ _ => 0) (tS g len 0) (by omega)
  unfold prsF; omega
theorem c_X11_tables {l : Launch} {E : JE} {f : Hp} {rg : Nat → Nat} {x : Nat} {ls : Int → Int} {lr : Int → Int} {ln : Nat} {M : Int → Int → Int} {sz : Nat} {la : Int} {rd : Nat} {mr : Nat} {W : List Int} {O : List Int} {g : Int → Int} {len : Int} {th : Int → Int} {fa : Int} {re : Int}   (hC : CR E rg f x (ls, lr, ln, M, sz, la, rd, mr, W, O, g, len, th, fa, re)) (hS : SOk (ls, lr, ln, M, sz, la, rd, mr, W, O, g, len, th, fa, re)) : KX11_tables l E [.ref x] f (fun v f' => v = some (.int (iZ (tablesF (ls, lr, ln, M, sz, la, rd, mr, W, O, g, len, th, fa, re)).1)) ∧ CR E rg f' x (tablesF (ls, lr, ln, M, sz, la, rd, mr, W, O, g, len, th, fa, re)).2 ∧ ∀ q, (rg q = 0 ∨ 10 < rg q) → f' q = f q) := by
  refine ct_of (own := RX11) (lv := [(0, .ref x)]) (by decide +kernel) rfl (Nat.le_of_ble_eq_true rfl) rfl ?_
  intro G hG hZ
  obtain ⟨lg, tp, pa, T, wt, to, ho, nw, kp, D, dz, X, gi, Mh, hR, hMh, hX, h36⟩ := hC
  obtain ⟨⟨hln, hlg⟩, ⟨hsz, hMo⟩, hla, hrd, hok1, hok2, hWO, hbg, hle, hth, hh1⟩ := hS
  have hx := CRA_x hR
  have hF : ∀ q, (rg q = 0 ∨ 10 < rg q) → f q = f q := fun _ _ => rfl
  obtain ⟨dr, kdr, kpa⟩ := k_tables (l := l) (CRA_c5 hR) (CRA_c3 hR) (CRA_c4 hR) hle hbg
  have fe9 : -1 ≤ (prsF g len).1 ∧ (prsF g len).1 ≤ 300 := prsF_rng hle
  refine j_aload_n hG dX11_tables_0 rfl rfl ?_
  refine j_aload_n hG dX11_tables_1 rfl rfl ?_
  refine j_get hG fX11_26 dX11_tables_2 hx rfl ?_
  refine j_aload_n hG dX11_tables_5 rfl rfl ?_
  refine j_get hG fX11_19 dX11_tables_6 hx rfl ?_
  refine j_aload_n hG dX11_tables_9 rfl rfl ?_
  refine j_get hG fX11_33 dX11_tables_10 hx rfl ?_
  obtain ⟨fs0, hh0⟩ := CTab_hd (CRA_c5 hR)
  refine j_callV (rest := [.ref tp, .ref pa, .ref x]) hG vX11_113 dX11_tables_13 (kdr) hh0 rfl rfl (by decide) (by decide) (Nat.le_of_ble_eq_true rfl) rfl rfl (Nat.zero_le _) (Nat.zero_le _) ?_
  rintro _ _ ⟨rfl, rfl⟩
  refine j_st (st' := [.ref dr, .ref tp, .ref pa, .ref x]) rfl ?_
  obtain ⟨fs1, hh1⟩ := CPar_hd (CRA_c4 hR)
  refine j_callV (rest := [.ref x]) hG vX11_117 dX11_tables_16 (kpa) hh1 rfl rfl (by decide) (by decide) (Nat.le_of_ble_eq_true rfl) rfl rfl (Nat.zero_le _) (Nat.zero_le _) ?_
  rintro _ f1 ⟨D', n9, rfl, u1, u2, u3, u4, u5, u6⟩
  refine j_st (st' := [.int (iZ ((prsF g len).1)), .ref x]) rfl ?_
  have hR2 := CRA_s345 hR u4 u5 u3 u6
  have hF3 : ∀ q, (rg q = 0 ∨ 10 < rg q) → f1 q = f q := fun q hq => (u6 q (by omega) (by omega) (by omega)).trans (hF q hq)
  refine j_put hG pX11_68 dX11_tables_19 (CRA_x hR2) rfl rfl (Nat.le_of_ble_eq_true rfl) (fun f4 h5 fr6 => ?_)
  have h5 : f4 x = oB 10 [.ref lg, .ref tp, .ref pa, .ref T, .ref wt, .ref to, .ref ho, .ref nw, .ref kp, .int (iZ (la)), .int (iZ ((prsF g len).1)), .int (iZ (re))] := h5
  have hR7 := CRA_s1 hR2 h5 fr6
  have hF8 : ∀ q, (rg q = 0 ∨ 10 < rg q) → f4 q = f q := fun q hq => (fr6 q (fun e => by rw [e, hR2.2.1] at hq; omega)).trans (hF3 q hq)
  refine j_aload_n hG dX11_tables_22 rfl rfl ?_
  refine j_get hG fX11_19 dX11_tables_23 (CRA_x hR7) rfl ?_
  refine j_iconst hG dX11_tables_26 ?_
  obtain ⟨fs9, hh10⟩ := CTape_hd (CRA_c3 hR7)
  refine j_callV (rest := []) hG vX11_110 dX11_tables_27 (k_X10_cut (n := 0) (CRA_c3 hR7) (by omega) (by omega)) hh10 rfl rfl (by decide) (by decide) (Nat.le_of_ble_eq_true rfl) rfl rfl (Nat.zero_le _) (Nat.zero_le _) ?_
  rintro _ f13 ⟨rfl, hc11, fr12⟩
  refine j_st (st' := []) rfl ?_
  have hR14 := CRA_s3 hR7 hc11 fr12
  have hF15 : ∀ q, (rg q = 0 ∨ 10 < rg q) → f13 q = f q := fun q hq => (fr12 q (by omega)).trans (hF8 q hq)
  refine j_aload_n hG dX11_tables_30 rfl rfl ?_
  refine j_get hG fX11_68 dX11_tables_31 (CRA_x hR14) rfl ?_
  refine j_iconst hG dX11_tables_34 ?_
  refine j_icmp_eq (tgt := 45) hG dX11_tables_35 (by decide) (by omega) (by omega) (fun c16 => ?_) (fun c16 => ?_)
  · -- taken at 35
    refine j_aload_n hG dX11_tables_45 rfl rfl ?_
    refine j_get hG fX11_33 dX11_tables_46 (CRA_x hR14) rfl ?_
    obtain ⟨fs17, hh18⟩ := CTab_hd (CRA_c5 hR14)
    refine j_callV (rest := []) hG vX11_121 dX11_tables_49 (k_X9_takeDraft (CRA_c5 hR14)) hh18 rfl rfl (by decide) (by decide) (Nat.le_of_ble_eq_true rfl) rfl rfl (Nat.zero_le _) (Nat.zero_le _) ?_
    rintro _ f21 ⟨rfl, hc19, fr20⟩
    refine j_st (st' := []) rfl ?_
    have hR22 := CRA_s5 hR14 hc19 fr20
    have hF23 : ∀ q, (rg q = 0 ∨ 10 < rg q) → f21 q = f q := fun q hq => (fr20 q (by omega)).trans (hF15 q hq)
    refine j_aload_n hG dX11_tables_52 rfl rfl ?_
    refine j_callV (rest := []) hG vX11_124 dX11_tables_53 (c_X11_beginAnew hR22) (CRA_x hR22) rfl rfl (by decide) (by decide) (Nat.le_of_ble_eq_true rfl) rfl rfl (Nat.zero_le _) (Nat.zero_le _) ?_
    rintro _ f29 ⟨rfl, X24, hR25, e26, e27, fr28⟩
    refine j_st (st' := []) rfl ?_
    have hF30 : ∀ q, (rg q = 0 ∨ 10 < rg q) → f29 q = f q := fun q hq => (fr28 q hq).trans (hF23 q hq)
    refine j_aload_n hG dX11_tables_56 rfl rfl ?_
    refine j_aload_n hG dX11_tables_57 rfl rfl ?_
    refine j_get hG fX11_33 dX11_tables_58 (CRA_x hR25) rfl ?_
    obtain ⟨fs31, hh32⟩ := CTab_hd (CRA_c5 hR25)
    refine j_callV (rest := [.ref x]) hG vX11_127 dX11_tables_61 (k_X9_size  (CRA_c5 hR25) ) hh32 rfl rfl (by decide) (by decide) (Nat.le_of_ble_eq_true rfl) rfl rfl (Nat.zero_le _) (Nat.zero_le _) ?_
    rintro _ _ ⟨rfl, rfl⟩
    refine j_st (st' := [.int (iZ ((n9 : Int))), .ref x]) rfl ?_
    refine j_callV (rest := []) hG vX11_96 dX11_tables_64 (c_X11_grant (c := (n9 : Int)) (CRA_x hR25)) (CRA_x hR25) rfl rfl (by decide) (by decide) (Nat.le_of_ble_eq_true rfl) rfl rfl (Nat.zero_le _) (Nat.zero_le _) ?_
    rintro _ f35 ⟨rfl, hn33, fr34⟩
    refine j_st (st' := [.int (iZ ((n9 : Int)))]) rfl ?_
    have hR36 := CRA_s1 hR25 hn33 fr34
    have hF37 : ∀ q, (rg q = 0 ∨ 10 < rg q) → f35 q = f q := fun q hq => (fr34 q (fun e => by rw [e, hR25.2.1] at hq; omega)).trans (hF30 q hq)
    have v9 : (prsF g len).1 = -1 := by omega
    obtain ⟨w1, w2⟩ := u1 v9
    subst w1
    have eF : tablesF (ls, lr, ln, M, sz, la, rd, mr, W, O, g, len, th, fa, re) = (((prsF g len).2.1 : Int), (ls, lr, ln, (prsF g len).2.2, (prsF g len).2.1, la, 0, 0, [], [], g, 0, th, -1, 0)) := by
      unfold tablesF
      dsimp only
      rw [if_pos v9]
    exact j_iret hG hZ dX11_tables_67 (Nat.zero_le _) (Nat.zero_le _) (⟨by rw [eF], by rw [eF]; exact ⟨lg, tp, pa, T, wt, to, ho, nw, kp, Mh, (sz : Int), X24, gi, D', by have r9 := hR36; rw [v9] at r9; exact r9, w2, fun s hs => ⟨by rw [(e26 s (by omega) (by omega)).1, tab_0], by rw [(e26 s (by omega) (by omega)).2, tab_0]⟩, by rw [e27]; exact h36⟩, hF37⟩)
  · -- on at 35
    refine j_aload_n hG dX11_tables_38 rfl rfl ?_
    refine j_bipush hG dX11_tables_39 (by decide) ?_
    refine j_callV (rest := []) hG vX11_78 dX11_tables_41 (c_X11_refuse (c := -6) (CRA_x hR14)) (CRA_x hR14) rfl rfl (by decide) (by decide) (Nat.le_of_ble_eq_true rfl) rfl rfl (Nat.zero_le _) (Nat.zero_le _) ?_
    rintro _ f40 ⟨rfl, hn38, fr39⟩
    refine j_st (st' := [.int (iZ (-6))]) rfl ?_
    have hR41 := CRA_s1 hR14 hn38 fr39
    have hF42 : ∀ q, (rg q = 0 ∨ 10 < rg q) → f40 q = f q := fun q hq => (fr39 q (fun e => by rw [e, hR14.2.1] at hq; omega)).trans (hF15 q hq)
    have eF : tablesF (ls, lr, ln, M, sz, la, rd, mr, W, O, g, len, th, fa, re) = (-6, (ls, lr, ln, M, sz, la, rd, mr, W, O, g, 0, th, (prsF g len).1, -6)) := by
      unfold tablesF
      dsimp only
      rw [if_neg (by omega)]
    exact j_iret hG hZ dX11_tables_44 (Nat.zero_le _) (Nat.zero_le _) (⟨by rw [eF], by rw [eF]; exact ⟨lg, tp, pa, T, wt, to, ho, nw, kp, D', (n9 : Int), X, gi, Mh, hR41, hMh, hX, h36⟩, hF42⟩)
