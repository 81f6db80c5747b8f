def tellF (S : ST) (s k v t : Int) : Int × ST := match S with
  | (ls, lr, ln, M, sz, la, rd, mr, W, O, g, len, th, fa, re) => if (0 ≤ s ∧ s ≤ 2) ∧ (0 ≤ k ∧ k ≤ 31) ∧ (-1000 ≤ v ∧ v ≤ 1000) ∧ (0 ≤ t ∧ t ≤ 10000) then (if ln < 150 then ((ln : Int) + 1, (fup ls (ln : Int) s, fup lr (ln : Int) (pk k t v), ln + 1, M, sz, la, rd, mr, W, O, g, len, th, fa, 0)) else (-5, (ls, lr, ln, M, sz, la, rd, mr, W, O, g, len, th, fa, -5))) else (-1, (ls, lr, ln, M, sz, la, rd, mr, W, O, g, len, th, fa, -1))
def feedF (S : ST) (a b c d e : Int) : Int × ST := match S with
  | (ls, lr, ln, M, sz, la, rd, mr, W, O, g, len, th, fa, re) => if len + 20 ≤ 300 then (len + 20, (ls, lr, ln, M, sz, la, rd, mr, W, O, put4 (put4 (put4 (put4 (put4 g len a) (len + 4) b) (len + 4 + 4) c) (len + 4 + 4 + 4) d) (len + 4 + 4 + 4 + 4) e, len + 20, th, fa, re)) else (-1, (ls, lr, ln, M, sz, la, rd, mr, W, O, g, len, th, fa, re))
def endF (S : ST) (n : Int) : Int × ST := match S with
  | (ls, lr, ln, M, sz, la, rd, mr, W, O, g, len, th, fa, re) => if 0 ≤ n ∧ n ≤ len then (n, (ls, lr, ln, M, sz, la, rd, mr, W, O, g, n, th, fa, re)) else (-1, (ls, lr, ln, M, sz, la, rd, mr, W, O, g, len, th, fa, re))
def faultF (S : ST) : Int × ST := match S with
  | (ls, lr, ln, M, sz, la, rd, mr, W, O, g, len, th, fa, re) => (fa, (ls, lr, ln, M, sz, la, rd, mr, W, O, g, len, th, fa, re))
def lateF (S : ST) (n : Int) : Int × ST := match S with
  | (ls, lr, ln, M, sz, la, rd, mr, W, O, g, len, th, fa, re) => if -1 ≤ n ∧ n ≤ 10000 then (la, (ls, lr, ln, M, sz, n, 0, 0, [], [], g, len, th, fa, 0)) else (-5, (ls, lr, ln, M, sz, la, rd, mr, W, O, g, len, th, fa, -1))
/-- the next ROW of THE LOG can be READ -/
def rdOk (ls lr : Int → Int) (M : Int → Int → Int) (sz : Nat) (la : Int) (rd : Nat) (W : List Int) : Prop := okF M (srcN ls lr la (rd + 1)) sz ∧ W.length + (chg (tab M (srcN ls lr la rd) (sz - 1)) (tab M (srcN ls lr la (rd + 1)) (sz - 1))).length ≤ 4000
noncomputable def rdL (ls lr : Int → Int) (M : Int → Int → Int) (sz : Nat) (la : Int) : Nat → Nat → List Int → Int → Nat × List Int × Int × Int
  | 0, rd, W, d => (rd, W, d, 0)
  | n + 1, rd, W, d => @ite _ (rdOk ls lr M sz la rd W) (Classical.propDecidable _) (rdL ls lr M sz la n (rd + 1) (W ++ chg (tab M (srcN ls lr la rd) (sz - 1)) (tab M (srcN ls lr la (rd + 1)) (sz - 1))) (d + 1)) (rd, W, d, -5)
theorem rdL_yes {ls lr : Int → Int} {M : Int → Int → Int} {sz : Nat} {la : Int} {n rd : Nat} {W : List Int} {d : Int} (h : rdOk ls lr M sz la rd W) : rdL ls lr M sz la (n + 1) rd W d = rdL ls lr M sz la n (rd + 1) (W ++ chg (tab M (srcN ls lr la rd) (sz - 1)) (tab M (srcN ls lr la (rd + 1)) (sz - 1))) (d + 1) := by
  rw [rdL]; exact if_pos h
theorem rdL_no {ls lr : Int → Int} {M : Int → Int → Int} {sz : Nat} {la : Int} {n rd : Nat} {W : List Int} {d : Int} (h : ¬ rdOk ls lr M sz la rd W) : rdL ls lr M sz la (n + 1) rd W d = (rd, W, d, -5) := by
  rw [rdL]; exact if_neg h
noncomputable def readF (S : ST) (n : Int) : Int × ST := match S with
  | (ls, lr, ln, M, sz, la, rd, mr, W, O, g, len, th, fa, re) => if 0 ≤ n ∧ n ≤ 150 then (if sz = 0 then (-6, (ls, lr, ln, M, sz, la, rd, mr, W, O, g, len, th, fa, -6)) else ((rdL ls lr M sz la (min n ((ln : Int) - (rd : Int))).toNat rd W 0).2.2.1, (ls, lr, ln, M, sz, la, (rdL ls lr M sz la (min n ((ln : Int) - (rd : Int))).toNat rd W 0).1, mr, (rdL ls lr M sz la (min n ((ln : Int) - (rd : Int))).toNat rd W 0).2.1, O, g, len, th, fa, (rdL ls lr M sz la (min n ((ln : Int) - (rd : Int))).toNat rd W 0).2.2.2))) else (-1, (ls, lr, ln, M, sz, la, rd, mr, W, O, g, len, th, fa, -1))
def markF (S : ST) : Int × ST := match S with
  | (ls, lr, ln, M, sz, la, rd, mr, W, O, g, len, th, fa, re) => if sz = 0 then (-6, (ls, lr, ln, M, sz, la, rd, mr, W, O, g, len, th, fa, -6)) else if O.length + W.length ≤ 4000 then (((O ++ W).length : Int), (ls, lr, ln, M, sz, la, rd, rd, [], O ++ W, g, len, th, fa, 0)) else (-5, (ls, lr, ln, M, sz, la, rd, mr, W, O, g, len, th, fa, -5))
def fallF (S : ST) : Int × ST := match S with
  | (ls, lr, ln, M, sz, la, rd, mr, W, O, g, len, th, fa, re) => if sz = 0 then (-6, (ls, lr, ln, M, sz, la, rd, mr, W, O, g, len, th, fa, -6)) else ((mr : Int), (ls, lr, ln, M, sz, la, mr, mr, [], O, g, len, th, fa, 0))
def rowsF (S : ST) (t : Int) : Int × ST := match S with
  | (ls, lr, ln, M, sz, la, rd, mr, W, O, g, len, th, fa, re) => if 0 ≤ t ∧ t < sz then (((tab M (srcN ls lr la rd) t.toNat).length : Int), (ls, lr, ln, M, sz, la, rd, mr, W, O, g, len, th, fa, re)) else (-1, (ls, lr, ln, M, sz, la, rd, mr, W, O, g, len, th, fa, re))
def rowF (S : ST) (t i w : Int) : Int × ST := match S with
  | (ls, lr, ln, M, sz, la, rd, mr, W, O, g, len, th, fa, re) => if (0 ≤ t ∧ t < sz) ∧ 0 ≤ i ∧ i < ((tab M (srcN ls lr la rd) t.toNat).length : Int) then (rP ((tab M (srcN ls lr la rd) t.toNat).getD i.toNat 0) w, (ls, lr, ln, M, sz, la, rd, mr, W, O, g, len, th, fa, re)) else (-2000000000, (ls, lr, ln, M, sz, la, rd, mr, W, O, g, len, th, fa, re))
def outF (S : ST) (i w : Int) : Int × ST := match S with
  | (ls, lr, ln, M, sz, la, rd, mr, W, O, g, len, th, fa, re) => if i = -1 ∧ w = 0 then ((O.length : Int), (ls, lr, ln, M, sz, la, rd, mr, W, O, g, len, th, fa, re)) else (chP O i w, (ls, lr, ln, M, sz, la, rd, mr, W, O, g, len, th, fa, re))
def hostF (S : ST) (h z : Int) : Int × ST := match S with
  | (ls, lr, ln, M, sz, la, rd, mr, W, O, g, len, th, fa, re) => if 0 ≤ h ∧ h < 8 then (if th h = z then (-4, (ls, lr, ln, M, sz, la, rd, mr, W, O, g, len, th, fa, -4)) else if z = 0 ∧ hN th = 1 then (-5, (ls, lr, ln, M, sz, la, rd, mr, W, O, g, len, th, fa, -5)) else (sumT (fun k => decide (ownr (fup th h z) k ≠ ownr th k)) (fun i => tab M (srcN ls lr la rd) i.toNat) sz, (ls, lr, ln, M, sz, la, rd, mr, W, O, g, len, fup th h z, fa, 0))) else (-1, (ls, lr, ln, M, sz, la, rd, mr, W, O, g, len, th, fa, -1))
def ownerF (S : ST) (k : Int) : Int × ST := match S with
  | (ls, lr, ln, M, sz, la, rd, mr, W, O, g, len, th, fa, re) => (if 0 ≤ k ∧ k < 32 then ownr th k else -1, (ls, lr, ln, M, sz, la, rd, mr, W, O, g, len, th, fa, re))
def ownsF (S : ST) (h : Int) : Int × ST := match S with
  | (ls, lr, ln, M, sz, la, rd, mr, W, O, g, len, th, fa, re) => if (0 ≤ h ∧ h < 8) ∧ th h = 1 then (sumT (fun k => decide (ownr th k = h)) (fun i => tab M (srcN ls lr la rd) i.toNat) sz, (ls, lr, ln, M, sz, la, rd, mr, W, O, g, len, th, fa, re)) else (-1, (ls, lr, ln, M, sz, la, rd, mr, W, O, g, len, th, fa, re))
def countF (S : ST) (w : Int) : Int × ST := match S with
  | (ls, lr, ln, M, sz, la, rd, mr, W, O, g, len, th, fa, re) => (if w = 0 then (ln : Int) else if w = 1 then (rd : Int) else if w = 2 then nlat lr la rd else if w = 3 then (sz : Int) else if w = 4 then hN th else if w = 5 then (W.length : Int) else if w = 6 then len else if w = 7 then ltst lr rd else if w = 8 then (mr : Int) else -1, (ls, lr, ln, M, sz, la, rd, mr, W, O, g, len, th, fa, re))
def statusF (S : ST) : Int × ST := match S with
  | (ls, lr, ln, M, sz, la, rd, mr, W, O, g, len, th, fa, re) => (re, (ls, lr, ln, M, sz, la, rd, mr, W, O, g, len, th, fa, re))
theorem sumT_congr {p p' : Int → Bool} {X X' : Int → List Int} : ∀ n : Nat, (∀ t : Nat, t < n → X t = X' t ∧ ∀ x ∈ X' t, p (rK x) = p' (rK x)) → sumT p X n = sumT p' X' n
  | 0, _ => rfl
  | n + 1, h => by
    unfold sumT
    rw [sumT_congr n (fun t ht => h t (by omega)), (h n (by omega)).1]
    congr 1
    unfold cntK
    congr 2
    apply List.filter_congr
    intro x hx
    exact (h n (by omega)).2 x hx
theorem mkT_congr {M M' : Int → Int → Int} {src : Int → List Int} {t : Int} {V : Int → List Int} (h : M t = M' t) : rawT M src t V = rawT M' src t V := by unfold rawT; rw [h]
theorem tabF_M {M M' : Int → Int → Int} {src : Int → List Int} : ∀ n : Nat, (∀ i : Nat, i < n → M i = M' i) → tabF M src n = tabF M' src n
  | 0, _ => rfl
  | n + 1, h => by
    unfold tabF
    rw [tabF_M n (fun i hi => h i (by omega))]
    unfold mkT
    rw [mkT_congr (h n (by omega))]
theorem raw_M {M M' : Int → Int → Int} {src : Int → List Int} {n t : Nat} (h : ∀ i : Nat, i < n → M i = M' i) (ht : t < n) : rawT M src t (tabF M src t) = rawT M' src t (tabF M' src t) := by
  rw [tabF_M t (fun i hi => h i (by omega)), mkT_congr (h t ht)]
theorem tab_M {M M' : Int → Int → Int} {src : Int → List Int} {n t : Nat} (h : ∀ i : Nat, i < n → M i = M' i) (ht : t < n) : tab M src t = tab M' src t := by
  unfold tab mkT; rw [raw_M h ht]
theorem okF_M {M M' : Int → Int → Int} {src : Int → List Int} {n : Nat} (h : ∀ i : Nat, i < n → M i = M' i) : okF M src n ↔ okF M' src n := by
  constructor
  · intro q t ht; rw [← raw_M h ht]; exact q t ht
  · intro q t ht; rw [raw_M h ht]; exact q t ht
theorem mkOk_M {M M' : Int → Int → Int} {t : Int} (h : M t = M' t) (k : mkOk M' t) : mkOk M t := by unfold mkOk at *; rw [h]; exact k
theorem log_tell {ls lr : Int → Int} {la s x : Int} {n ln : Nat} (h : n ≤ ln) : srcN (fup ls (ln : Int) s) (fup lr (ln : Int) x) la n = srcN ls lr la n ∧ nlat (fup lr (ln : Int) x) la n = nlat lr la n ∧ ltst (fup lr (ln : Int) x) n = ltst lr n := by
  have a : ∀ j : Nat, j < n → fup ls (ln : Int) s j = ls j ∧ fup lr (ln : Int) x j = lr j := fun j hj => ⟨fup_n _ _ (by omega), fup_n _ _ (by omega)⟩
  exact ⟨srcN_congr n a, nlat_congr n (fun j hj => (a j hj).2), ltst_congr n (fun j hj => (a j hj).2)⟩
theorem c_X11_tell {l : Launch} {E : JE} {f : Hp} {rg : Nat → Nat} {x : Nat} {ls : Int → Int} {lr : Int → Int} {ln : Nat} {M : Int → Int → Int} {sz : Nat} {la : Int} {rd : Nat} {mr : Nat} {W : List Int} {O : List Int} {g : Int → Int} {len : Int} {th : Int → Int} {fa : Int} {re : Int} {s : Int} {k : Int} {u : Int} {t : Int}  (hC : CR E rg f x (ls, lr, ln, M, sz, la, rd, mr, W, O, g, len, th, fa, re)) (hS : SOk (ls, lr, ln, M, sz, la, rd, mr, W, O, g, len, th, fa, re)) (hs_ : -2147483648 ≤ s ∧ s < 2147483648) (hk_ : -2147483648 ≤ k ∧ k < 2147483648) (hu_ : -2147483648 ≤ u ∧ u < 2147483648) (ht_ : -2147483648 ≤ t ∧ t < 2147483648) : KX11_tell l E [.ref x, .int (iZ (s)), .int (iZ (k)), .int (iZ (u)), .int (iZ (t))] f (fun v f' => v = some (.int (iZ (tellF (ls, lr, ln, M, sz, la, rd, mr, W, O, g, len, th, fa, re) s k u t).1)) ∧ CR E rg f' x (tellF (ls, lr, ln, M, sz, la, rd, mr, W, O, g, len, th, fa, re) s k u t).2 ∧ ∀ q, (rg q = 0 ∨ 10 < rg q) → f' q = f q) := by
  refine ct_of (own := RX11) (lv := [(0, .ref x), (1, .int (iZ (s))), (2, .int (iZ (k))), (3, .int (iZ (u))), (4, .int (iZ (t)))]) (by decide +kernel) rfl (Nat.le_of_ble_eq_true rfl) rfl ?_
  intro G hG hZ
  obtain ⟨lg, tp, pa, T, wt, to, ho, nw, kp, D, dz, X, gi, Mh, hR, hMh, hX, h36⟩ := hC
  obtain ⟨⟨hln, hlg⟩, ⟨hsz, hMo⟩, hla, hrd, hok1, hok2, hWO, hbg, hle, hth, hh1⟩ := hS
  have hx := CRA_x hR
  have hF : ∀ q, (rg q = 0 ∨ 10 < rg q) → f q = f q := fun _ _ => rfl
  refine j_iload_n hG dX11_tell_0 rfl rfl ?_
  refine j_iconst hG dX11_tell_1 ?_
  refine j_iconst hG dX11_tell_2 ?_
  refine j_callS (rest := []) hG vX11_74 dX11_tell_3 (c_X11_isWithin (a := s) (lo := 0) (hi := 2) (by omega) (by omega) (by omega)) rfl rfl (by decide) (by decide) (Nat.le_of_ble_eq_true rfl) rfl rfl (Nat.zero_le _) (Nat.zero_le _) ?_
  rintro _ _ ⟨⟨b1, rfl, hb2⟩, rfl⟩
  refine j_st (st' := [.int (iZ (b1))]) rfl ?_
  refine j_if_eq (tgt := 44) hG dX11_tell_6 (by decide) (by omega) (fun c3 => ?_) (fun c3 => ?_)
  · -- taken at 6
    refine j_aload_n hG dX11_tell_44 rfl rfl ?_
    refine j_iconst hG dX11_tell_45 ?_
    refine j_callV (rest := []) hG vX11_78 dX11_tell_46 (c_X11_refuse (c := -1) hx) hx rfl rfl (by decide) (by decide) (Nat.le_of_ble_eq_true rfl) rfl rfl (Nat.zero_le _) (Nat.zero_le _) ?_
    rintro _ f6 ⟨rfl, hn4, fr5⟩
    refine j_st (st' := [.int (iZ (-1))]) rfl ?_
    have hR7 := CRA_s1 hR hn4 fr5
    have hF8 : ∀ q, (rg q = 0 ∨ 10 < rg q) → f6 q = f q := fun q hq => (fr5 q (fun e => by rw [e, hR.2.1] at hq; omega)).trans (hF q hq)
    have eF : tellF (ls, lr, ln, M, sz, la, rd, mr, W, O, g, len, th, fa, re) s k u t = (-1, (ls, lr, ln, M, sz, la, rd, mr, W, O, g, len, th, fa, -1)) := by
      unfold tellF
      dsimp only
      rw [if_neg (by omega)]
    exact j_iret hG hZ dX11_tell_49 (Nat.zero_le _) (Nat.zero_le _) (⟨by rw [eF], by rw [eF]; exact ⟨lg, tp, pa, T, wt, to, ho, nw, kp, D, dz, X, gi, Mh, hR7, hMh, hX, h36⟩, hF8⟩)
  · -- on at 6
    refine j_iload_n hG dX11_tell_9 rfl rfl ?_
    refine j_iconst hG dX11_tell_10 ?_
    refine j_bipush hG dX11_tell_11 (by decide) ?_
    refine j_callS (rest := []) hG vX11_74 dX11_tell_13 (c_X11_isWithin (a := k) (lo := 0) (hi := 31) (by omega) (by omega) (by omega)) rfl rfl (by decide) (by decide) (Nat.le_of_ble_eq_true rfl) rfl rfl (Nat.zero_le _) (Nat.zero_le _) ?_
    rintro _ _ ⟨⟨b9, rfl, hb10⟩, rfl⟩
    refine j_st (st' := [.int (iZ (b9))]) rfl ?_
    refine j_if_eq (tgt := 44) hG dX11_tell_16 (by decide) (by omega) (fun c11 => ?_) (fun c11 => ?_)
    · -- taken at 16
      refine j_aload_n hG dX11_tell_44 rfl rfl ?_
      refine j_iconst hG dX11_tell_45 ?_
      refine j_callV (rest := []) hG vX11_78 dX11_tell_46 (c_X11_refuse (c := -1) hx) hx rfl rfl (by decide) (by decide) (Nat.le_of_ble_eq_true rfl) rfl rfl (Nat.zero_le _) (Nat.zero_le _) ?_
      rintro _ f14 ⟨rfl, hn12, fr13⟩
      refine j_st (st' := [.int (iZ (-1))]) rfl ?_
      have hR15 := CRA_s1 hR hn12 fr13
      have hF16 : ∀ q, (rg q = 0 ∨ 10 < rg q) → f14 q = f q := fun q hq => (fr13 q (fun e => by rw [e, hR.2.1] at hq; omega)).trans (hF q hq)
      have eF : tellF (ls, lr, ln, M, sz, la, rd, mr, W, O, g, len, th, fa, re) s k u t = (-1, (ls, lr, ln, M, sz, la, rd, mr, W, O, g, len, th, fa, -1)) := by
        unfold tellF
        dsimp only
        rw [if_neg (by omega)]
      exact j_iret hG hZ dX11_tell_49 (Nat.zero_le _) (Nat.zero_le _) (⟨by rw [eF], by rw [eF]; exact ⟨lg, tp, pa, T, wt, to, ho, nw, kp, D, dz, X, gi, Mh, hR15, hMh, hX, h36⟩, hF16⟩)
    · -- on at 16
      refine j_iload_n hG dX11_tell_19 rfl rfl ?_
      refine j_sipush hG dX11_tell_20 (by decide) ?_
      refine j_sipush hG dX11_tell_23 (by decide) ?_
      refine j_callS (rest := []) hG vX11_74 dX11_tell_26 (c_X11_isWithin (a := u) (lo := -1000) (hi := 1000) (by omega) (by omega) (by omega)) rfl rfl (by decide) (by decide) (Nat.le_of_ble_eq_true rfl) rfl rfl (Nat.zero_le _) (Nat.zero_le _) ?_
      rintro _ _ ⟨⟨b17, rfl, hb18⟩, rfl⟩
      refine j_st (st' := [.int (iZ (b17))]) rfl ?_
      refine j_if_eq (tgt := 44) hG dX11_tell_29 (by decide) (by omega) (fun c19 => ?_) (fun c19 => ?_)
      · -- taken at 29
        refine j_aload_n hG dX11_tell_44 rfl rfl ?_
        refine j_iconst hG dX11_tell_45 ?_
        refine j_callV (rest := []) hG vX11_78 dX11_tell_46 (c_X11_refuse (c := -1) hx) hx rfl rfl (by decide) (by decide) (Nat.le_of_ble_eq_true rfl) rfl rfl (Nat.zero_le _) (Nat.zero_le _) ?_
        rintro _ f22 ⟨rfl, hn20, fr21⟩
        refine j_st (st' := [.int (iZ (-1))]) rfl ?_
        have hR23 := CRA_s1 hR hn20 fr21
        have hF24 : ∀ q, (rg q = 0 ∨ 10 < rg q) → f22 q = f q := fun q hq => (fr21 q (fun e => by rw [e, hR.2.1] at hq; omega)).trans (hF q hq)
        have eF : tellF (ls, lr, ln, M, sz, la, rd, mr, W, O, g, len, th, fa, re) s k u t = (-1, (ls, lr, ln, M, sz, la, rd, mr, W, O, g, len, th, fa, -1)) := by
          unfold tellF
          dsimp only
          rw [if_neg (by omega)]
        exact j_iret hG hZ dX11_tell_49 (Nat.zero_le _) (Nat.zero_le _) (⟨by rw [eF], by rw [eF]; exact ⟨lg, tp, pa, T, wt, to, ho, nw, kp, D, dz, X, gi, Mh, hR23, hMh, hX, h36⟩, hF24⟩)
      · -- on at 29
        refine j_iload hG dX11_tell_32 rfl ?_
        refine j_iconst hG dX11_tell_34 ?_
        refine j_sipush hG dX11_tell_35 (by decide) ?_
        refine j_callS (rest := []) hG vX11_74 dX11_tell_38 (c_X11_isWithin (a := t) (lo := 0) (hi := 10000) (by omega) (by omega) (by omega)) rfl rfl (by decide) (by decide) (Nat.le_of_ble_eq_true rfl) rfl rfl (Nat.zero_le _) (Nat.zero_le _) ?_
        rintro _ _ ⟨⟨b25, rfl, hb26⟩, rfl⟩
        refine j_st (st' := [.int (iZ (b25))]) rfl ?_
        refine j_if_ne (tgt := 50) hG dX11_tell_41 (by decide) (by omega) (fun c27 => ?_) (fun c27 => ?_)
        · -- taken at 41
          refine j_aload_n hG dX11_tell_50 rfl rfl ?_
          refine j_get hG fX11_10 dX11_tell_51 hx rfl ?_
          refine j_iload_n hG dX11_tell_54 rfl rfl ?_
          refine j_iload_n hG dX11_tell_55 rfl rfl ?_
          refine j_iload hG dX11_tell_56 rfl ?_
          refine j_iload_n hG dX11_tell_58 rfl rfl ?_
          refine j_callS (rest := [.int (iZ (s)), .ref lg]) hG vX11_82 dX11_tell_59 (c_X7_pack (k := k) (t := t) (u := u) (by omega) (by omega) (by omega)) rfl rfl (by decide) (by decide) (Nat.le_of_ble_eq_true rfl) rfl rfl (Nat.zero_le _) (Nat.zero_le _) ?_
          rintro _ _ ⟨rfl, rfl⟩
          refine j_st (st' := [.long (lZ (pk k t u)), .int (iZ (s)), .ref lg]) rfl ?_
          obtain ⟨fs28, hh29⟩ := CLog_hd (CRA_c2 hR)
          refine j_callV (rest := []) hG vX11_88 dX11_tell_62 (k_X2_add (s0 := s) (x := pk k t u) (CRA_c2 hR) hln) hh29 rfl rfl (by decide) (by decide) (Nat.le_of_ble_eq_true rfl) rfl rfl (Nat.zero_le _) (Nat.zero_le _) ?_
          rintro _ f39 ⟨z30, ls31, lr32, ln33, rfl, hc34, fr35, hq36⟩
          refine j_st (st' := [.int (iZ (z30))]) rfl ?_
          have hR40 := CRA_s2 hR hc34 fr35
          have hF41 : ∀ q, (rg q = 0 ∨ 10 < rg q) → f39 q = f q := fun q hq => (fr35 q (by omega)).trans (hF q hq)
          refine j_if_ne (tgt := 75) hG dX11_tell_65 (by decide) (by omega) (fun c42 => ?_) (fun c42 => ?_)
          · -- taken at 65
            obtain ⟨-, e37, rfl, rfl, rfl⟩ := hq36.resolve_right (fun h => absurd h.1 (by omega))
            refine j_aload_n hG dX11_tell_75 rfl rfl ?_
            refine j_aload_n hG dX11_tell_76 rfl rfl ?_
            refine j_get hG fX11_10 dX11_tell_77 (CRA_x hR40) rfl ?_
            obtain ⟨fs43, hh44⟩ := CLog_hd (CRA_c2 hR40)
            refine j_callV (rest := [.ref x]) hG vX11_92 dX11_tell_80 (k_X2_size  (CRA_c2 hR40) ) hh44 rfl rfl (by decide) (by decide) (Nat.le_of_ble_eq_true rfl) rfl rfl (Nat.zero_le _) (Nat.zero_le _) ?_
            rintro _ _ ⟨rfl, rfl⟩
            refine j_st (st' := [.int (iZ ((ln + 1 : Int))), .ref x]) rfl ?_
            refine j_callV (rest := []) hG vX11_96 dX11_tell_83 (c_X11_grant (c := (ln + 1 : Int)) (CRA_x hR40)) (CRA_x hR40) rfl rfl (by decide) (by decide) (Nat.le_of_ble_eq_true rfl) rfl rfl (Nat.zero_le _) (Nat.zero_le _) ?_
            rintro _ f47 ⟨rfl, hn45, fr46⟩
            refine j_st (st' := [.int (iZ ((ln + 1 : Int)))]) rfl ?_
            have hR48 := CRA_s1 hR40 hn45 fr46
            have hF49 : ∀ q, (rg q = 0 ∨ 10 < rg q) → f47 q = f q := fun q hq => (fr46 q (fun e => by rw [e, hR40.2.1] at hq; omega)).trans (hF41 q hq)
            have t1 := log_tell (ls := ls) (lr := lr) (la := la) (s := s) (x := pk k t u) (n := rd) (ln := ln) (by omega)
            have t2 := log_tell (ls := ls) (lr := lr) (la := la) (s := s) (x := pk k t u) (n := mr) (ln := ln) (by omega)
            have eF : tellF (ls, lr, ln, M, sz, la, rd, mr, W, O, g, len, th, fa, re) s k u t = ((ln : Int) + 1, (fup ls (ln : Int) s, fup lr (ln : Int) (pk k t u), ln + 1, M, sz, la, rd, mr, W, O, g, len, th, fa, 0)) := by
              unfold tellF
              dsimp only
              rw [if_pos (by omega), if_pos (by omega)]
            exact j_iret hG hZ dX11_tell_86 (Nat.zero_le _) (Nat.zero_le _) (⟨by rw [eF], by rw [eF]; exact ⟨lg, tp, pa, T, wt, to, ho, nw, kp, D, dz, X, gi, Mh, by rw [t1.2.1, t1.2.2, t2.2.1, t2.2.2]; exact hR48, hMh, by rw [t1.1, t2.1]; exact hX, h36⟩, hF49⟩)
          · -- on at 65
            obtain ⟨-, e38, rfl, rfl, rfl⟩ := hq36.resolve_left (fun h => absurd h.1 (by omega))
            refine j_aload_n hG dX11_tell_68 rfl rfl ?_
            refine j_bipush hG dX11_tell_69 (by decide) ?_
            refine j_callV (rest := []) hG vX11_78 dX11_tell_71 (c_X11_refuse (c := -5) (CRA_x hR40)) (CRA_x hR40) rfl rfl (by decide) (by decide) (Nat.le_of_ble_eq_true rfl) rfl rfl (Nat.zero_le _) (Nat.zero_le _) ?_
            rintro _ f52 ⟨rfl, hn50, fr51⟩
            refine j_st (st' := [.int (iZ (-5))]) rfl ?_
            have hR53 := CRA_s1 hR40 hn50 fr51
            have hF54 : ∀ q, (rg q = 0 ∨ 10 < rg q) → f52 q = f q := fun q hq => (fr51 q (fun e => by rw [e, hR40.2.1] at hq; omega)).trans (hF41 q hq)
            have eF : tellF (ls, lr, ln, M, sz, la, rd, mr, W, O, g, len, th, fa, re) s k u t = (-5, (ls, lr, ln, M, sz, la, rd, mr, W, O, g, len, th, fa, -5)) := by
              unfold tellF
              dsimp only
              rw [if_pos (by omega), if_neg (by omega)]
            exact j_iret hG hZ dX11_tell_74 (Nat.zero_le _) (Nat.zero_le _) (⟨by rw [eF], by rw [eF]; exact ⟨lg, tp, pa, T, wt, to, ho, nw, kp, D, dz, X, gi, Mh, hR53, hMh, hX, h36⟩, hF54⟩)
        · -- on at 41
          refine j_aload_n hG dX11_tell_44 rfl rfl ?_
          refine j_iconst hG dX11_tell_45 ?_
          refine j_callV (rest := []) hG vX11_78 dX11_tell_46 (c_X11_refuse (c := -1) hx) hx rfl rfl (by decide) (by decide) (Nat.le_of_ble_eq_true rfl) rfl rfl (Nat.zero_le _) (Nat.zero_le _) ?_
          rintro _ f57 ⟨rfl, hn55, fr56⟩
          refine j_st (st' := [.int (iZ (-1))]) rfl ?_
          have hR58 := CRA_s1 hR hn55 fr56
          have hF59 : ∀ q, (rg q = 0 ∨ 10 < rg q) → f57 q = f q := fun q hq => (fr56 q (fun e => by rw [e, hR.2.1] at hq; omega)).trans (hF q hq)
          have eF : tellF (ls, lr, ln, M, sz, la, rd, mr, W, O, g, len, th, fa, re) s k u t = (-1, (ls, lr, ln, M, sz, la, rd, mr, W, O, g, len, th, fa, -1)) := by
            unfold tellF
            dsimp only
            rw [if_neg (by omega)]
          exact j_iret hG hZ dX11_tell_49 (Nat.zero_le _) (Nat.zero_le _) (⟨by rw [eF], by rw [eF]; exact ⟨lg, tp, pa, T, wt, to, ho, nw, kp, D, dz, X, gi, Mh, hR58, hMh, hX, h36⟩, hF59⟩)
theorem c_X11_feed {l : Launch} {E : JE} {f : Hp} {rg : Nat → Nat} {x : Nat} {ls : Int → Int} {lr : Int → Int} {ln : Nat} {M : Int → Int → Int} {sz : Nat} {la : Int} {rd : Nat} {mr : Nat} {W : List Int} {O : List Int} {g : Int → Int} {len : Int} {th : Int → Int} {fa : Int} {re : Int} {a : Int} {b : Int} {c : Int} {d : Int} {e : Int}  (hC : CR E rg f x (ls, lr, ln, M, sz, la, rd, mr, W, O, g, len, th, fa, re)) (hS : SOk (ls, lr, ln, M, sz, la, rd, mr, W, O, g, len, th, fa, re)) (ha_ : -2147483648 ≤ a ∧ a < 2147483648) (hb_ : -2147483648 ≤ b ∧ b < 2147483648) (hc_ : -2147483648 ≤ c ∧ c < 2147483648) (hd_ : -2147483648 ≤ d ∧ d < 2147483648) (he_ : -2147483648 ≤ e ∧ e < 2147483648) : KX11_feed l E [.ref x, .int (iZ (a)), .int (iZ (b)), .int (iZ (c)), .int (iZ (d)), .int (iZ (e))] f (fun v f' => v = some (.int (iZ (feedF (ls, lr, ln, M, sz, la, rd, mr, W, O, g, len, th, fa, re) a b c d e).1)) ∧ CR E rg f' x (feedF (ls, lr, ln, M, sz, la, rd, mr, W, O, g, len, th, fa, re) a b c d e).2 ∧ ∀ q, (rg q = 0 ∨ 10 < rg q) → f' q = f q) := by
  refine ct_of (own := RX11) (lv := [(0, .ref x), (1, .int (iZ (a))), (2, .int (iZ (b))), (3, .int (iZ (c))), (4, .int (iZ (d))), (5, .int (iZ (e)))]) (by decide +kernel) rfl (Nat.le_of_ble_eq_true rfl) rfl ?_
  intro G hG hZ
  obtain ⟨lg, tp, pa, T, wt, to, ho, nw, kp, D, dz, X, gi, Mh, hR, hMh, hX, h36⟩ := hC
  obtain ⟨⟨hln, hlg⟩, ⟨hsz, hMo⟩, hla, hrd, hok1, hok2, hWO, hbg, hle, hth, hh1⟩ := hS
  have hx := CRA_x hR
  have hF : ∀ q, (rg q = 0 ∨ 10 < rg q) → f q = f q := fun _ _ => rfl
  refine j_aload_n hG dX11_feed_0 rfl rfl ?_
  refine j_get hG fX11_19 dX11_feed_1 hx rfl ?_
  refine j_bipush hG dX11_feed_4 (by decide) ?_
  obtain ⟨fs1, hh2⟩ := CTape_hd (CRA_c3 hR)
  refine j_callV (rest := []) hG vX11_99 dX11_feed_6 (k_X10_hasRoomFor (n := 20) (CRA_c3 hR) (by omega) (by omega)) hh2 rfl rfl (by decide) (by decide) (Nat.le_of_ble_eq_true rfl) rfl rfl (Nat.zero_le _) (Nat.zero_le _) ?_
  rintro _ _ ⟨⟨z3, rfl, hz4⟩, rfl⟩
  refine j_st (st' := [.int (iZ (z3))]) rfl ?_
  refine j_if_ne (tgt := 14) hG dX11_feed_9 (by decide) (by omega) (fun c7 => ?_) (fun c7 => ?_)
  · -- taken at 9
    obtain ⟨-, e5⟩ := hz4.resolve_right (fun h => absurd h.1 (by omega))
    refine j_aload_n hG dX11_feed_14 rfl rfl ?_
    refine j_get hG fX11_19 dX11_feed_15 hx rfl ?_
    refine j_iload_n hG dX11_feed_18 rfl rfl ?_
    obtain ⟨fs8, hh9⟩ := CTape_hd (CRA_c3 hR)
    refine j_callV (rest := []) hG vX11_103 dX11_feed_19 (k_X10_addNumber (z := a) (CRA_c3 hR) (by omega) (by omega)) hh9 rfl rfl (by decide) (by decide) (Nat.le_of_ble_eq_true rfl) rfl rfl (Nat.zero_le _) (Nat.zero_le _) ?_
    rintro _ f12 ⟨rfl, hc10, fr11⟩
    refine j_st (st' := []) rfl ?_
    have hR13 := CRA_s3 hR hc10 fr11
    have hF14 : ∀ q, (rg q = 0 ∨ 10 < rg q) → f12 q = f q := fun q hq => (fr11 q (by omega)).trans (hF q hq)
    refine j_aload_n hG dX11_feed_22 rfl rfl ?_
    refine j_get hG fX11_19 dX11_feed_23 (CRA_x hR13) rfl ?_
    refine j_iload_n hG dX11_feed_26 rfl rfl ?_
    obtain ⟨fs15, hh16⟩ := CTape_hd (CRA_c3 hR13)
    refine j_callV (rest := []) hG vX11_103 dX11_feed_27 (k_X10_addNumber (z := b) (CRA_c3 hR13) (by omega) (by omega)) hh16 rfl rfl (by decide) (by decide) (Nat.le_of_ble_eq_true rfl) rfl rfl (Nat.zero_le _) (Nat.zero_le _) ?_
    rintro _ f19 ⟨rfl, hc17, fr18⟩
    refine j_st (st' := []) rfl ?_
    have hR20 := CRA_s3 hR13 hc17 fr18
    have hF21 : ∀ q, (rg q = 0 ∨ 10 < rg q) → f19 q = f q := fun q hq => (fr18 q (by omega)).trans (hF14 q hq)
    refine j_aload_n hG dX11_feed_30 rfl rfl ?_
    refine j_get hG fX11_19 dX11_feed_31 (CRA_x hR20) rfl ?_
    refine j_iload_n hG dX11_feed_34 rfl rfl ?_
    obtain ⟨fs22, hh23⟩ := CTape_hd (CRA_c3 hR20)
    refine j_callV (rest := []) hG vX11_103 dX11_feed_35 (k_X10_addNumber (z := c) (CRA_c3 hR20) (by omega) (by omega)) hh23 rfl rfl (by decide) (by decide) (Nat.le_of_ble_eq_true rfl) rfl rfl (Nat.zero_le _) (Nat.zero_le _) ?_
    rintro _ f26 ⟨rfl, hc24, fr25⟩
    refine j_st (st' := []) rfl ?_
    have hR27 := CRA_s3 hR20 hc24 fr25
    have hF28 : ∀ q, (rg q = 0 ∨ 10 < rg q) → f26 q = f q := fun q hq => (fr25 q (by omega)).trans (hF21 q hq)
    refine j_aload_n hG dX11_feed_38 rfl rfl ?_
    refine j_get hG fX11_19 dX11_feed_39 (CRA_x hR27) rfl ?_
    refine j_iload hG dX11_feed_42 rfl ?_
    obtain ⟨fs29, hh30⟩ := CTape_hd (CRA_c3 hR27)
    refine j_callV (rest := []) hG vX11_103 dX11_feed_44 (k_X10_addNumber (z := d) (CRA_c3 hR27) (by omega) (by omega)) hh30 rfl rfl (by decide) (by decide) (Nat.le_of_ble_eq_true rfl) rfl rfl (Nat.zero_le _) (Nat.zero_le _) ?_
    rintro _ f33 ⟨rfl, hc31, fr32⟩
    refine j_st (st' := []) rfl ?_
    have hR34 := CRA_s3 hR27 hc31 fr32
    have hF35 : ∀ q, (rg q = 0 ∨ 10 < rg q) → f33 q = f q := fun q hq => (fr32 q (by omega)).trans (hF28 q hq)
    refine j_aload_n hG dX11_feed_47 rfl rfl ?_
    refine j_get hG fX11_19 dX11_feed_48 (CRA_x hR34) rfl ?_
    refine j_iload hG dX11_feed_51 rfl ?_
    obtain ⟨fs36, hh37⟩ := CTape_hd (CRA_c3 hR34)
    refine j_callV (rest := []) hG vX11_103 dX11_feed_53 (k_X10_addNumber (z := e) (CRA_c3 hR34) (by omega) (by omega)) hh37 rfl rfl (by decide) (by decide) (Nat.le_of_ble_eq_true rfl) rfl rfl (Nat.zero_le _) (Nat.zero_le _) ?_
    rintro _ f40 ⟨rfl, hc38, fr39⟩
    refine j_st (st' := []) rfl ?_
    have hR41 := CRA_s3 hR34 hc38 fr39
    have hF42 : ∀ q, (rg q = 0 ∨ 10 < rg q) → f40 q = f q := fun q hq => (fr39 q (by omega)).trans (hF35 q hq)
    refine j_aload_n hG dX11_feed_56 rfl rfl ?_
    refine j_get hG fX11_19 dX11_feed_57 (CRA_x hR41) rfl ?_
    obtain ⟨fs43, hh44⟩ := CTape_hd (CRA_c3 hR41)
    refine j_callV (rest := []) hG vX11_107 dX11_feed_60 (k_X10_length  (CRA_c3 hR41) ) hh44 rfl rfl (by decide) (by decide) (Nat.le_of_ble_eq_true rfl) rfl rfl (Nat.zero_le _) (Nat.zero_le _) ?_
    rintro _ _ ⟨rfl, rfl⟩
    refine j_st (st' := [.int (iZ (len + 4 + 4 + 4 + 4 + 4))]) rfl ?_
    have l9 : len + 4 + 4 + 4 + 4 + 4 = len + 20 := by omega
    have R9 := hR41
    rw [l9] at R9 ⊢
    have eF : feedF (ls, lr, ln, M, sz, la, rd, mr, W, O, g, len, th, fa, re) a b c d e = (len + 20, (ls, lr, ln, M, sz, la, rd, mr, W, O, put4 (put4 (put4 (put4 (put4 g len a) (len + 4) b) (len + 4 + 4) c) (len + 4 + 4 + 4) d) (len + 4 + 4 + 4 + 4) e, len + 20, th, fa, re)) := by
      unfold feedF
      dsimp only
      rw [if_pos (by omega)]
    exact j_iret hG hZ dX11_feed_63 (Nat.zero_le _) (Nat.zero_le _) (⟨by rw [eF], by rw [eF]; exact ⟨lg, tp, pa, T, wt, to, ho, nw, kp, D, dz, X, gi, Mh, R9, hMh, hX, h36⟩, hF42⟩)
  · -- on at 9
    obtain ⟨-, e6⟩ := hz4.resolve_left (fun h => absurd h.1 (by omega))
    refine j_iconst hG dX11_feed_12 ?_
    have eF : feedF (ls, lr, ln, M, sz, la, rd, mr, W, O, g, len, th, fa, re) a b c d e = (-1, (ls, lr, ln, M, sz, la, rd, mr, W, O, g, len, th, fa, re)) := by
      unfold feedF
      dsimp only
      rw [if_neg (by omega)]
    exact j_iret hG hZ dX11_feed_13 (Nat.zero_le _) (Nat.zero_le _) (⟨by rw [eF], by rw [eF]; exact ⟨lg, tp, pa, T, wt, to, ho, nw, kp, D, dz, X, gi, Mh, hR, hMh, hX, h36⟩, hF⟩)
theorem c_X11_end {l : Launch} {E : JE} {f : Hp} {rg : Nat → Nat} {x : Nat} {ls : Int → Int} {lr : Int → Int} {ln : Nat} {M : Int → Int → Int} {sz : Nat} {la : Int} {rd : Nat} {mr : Nat} {W : List Int} {O : List Int} {g : Int → Int} {len : Int} {th : Int → Int} {fa : Int} {re : Int} {n : Int}  (hC : CR E rg f x (ls, lr, ln, M, sz, la, rd, mr, W, O, g, len, th, fa, re)) (hS : SOk (ls, lr, ln, M, sz, la, rd, mr, W, O, g, len, th, fa, re)) (hn_ : -2147483648 ≤ n ∧ n < 2147483648) : KX11_end l E [.ref x, .int (iZ (n))] f (fun v f' => v = some (.int (iZ (endF (ls, lr, ln, M, sz, la, rd, mr, W, O, g, len, th, fa, re) n).1)) ∧ CR E rg f' x (endF (ls, lr, ln, M, sz, la, rd, mr, W, O, g, len, th, fa, re) n).2 ∧ ∀ q, (rg q = 0 ∨ 10 < rg q) → f' q = f q) := by
  refine ct_of (own := RX11) (lv := [(0, .ref x), (1, .int (iZ (n)))]) (by decide +kernel) rfl (Nat.le_of_ble_eq_true rfl) rfl ?_
  intro G hG hZ
  obtain ⟨lg, tp, pa, T, wt, to, ho, nw, kp, D, dz, X, gi, Mh, hR, hMh, hX, h36⟩ := hC
  obtain ⟨⟨hln, hlg⟩, ⟨hsz, hMo⟩, hla, hrd, hok1, hok2, hWO, hbg, hle, hth, hh1⟩ := hS
  have hx := CRA_x hR
  have hF : ∀ q, (rg q = 0 ∨ 10 < rg q) → f q = f q := fun _ _ => rfl
  refine j_iload_n hG dX11_end_0 rfl rfl ?_
  refine j_iconst hG dX11_end_1 ?_
  refine j_aload_n hG dX11_end_2 rfl rfl ?_
  refine j_get hG fX11_19 dX11_end_3 hx rfl ?_
  obtain ⟨fs1, hh2⟩ := CTape_hd (CRA_c3 hR)
  refine j_callV (rest := [.int (iZ (0)), .int (iZ (n))]) hG vX11_107 dX11_end_6 (k_X10_length  (CRA_c3 hR) ) hh2 rfl rfl (by decide) (by decide) (Nat.le_of_ble_eq_true rfl) rfl rfl (Nat.zero_le _) (Nat.zero_le _) ?_
  rintro _ _ ⟨rfl, rfl⟩
  refine j_st (st' := [.int (iZ (len)), .int (iZ (0)), .int (iZ (n))]) rfl ?_
  refine j_callS (rest := []) hG vX11_74 dX11_end_9 (c_X11_isWithin (a := n) (lo := 0) (hi := len) (by omega) (by omega) (by omega)) rfl rfl (by decide) (by decide) (Nat.le_of_ble_eq_true rfl) rfl rfl (Nat.zero_le _) (Nat.zero_le _) ?_
  rintro _ _ ⟨⟨b3, rfl, hb4⟩, rfl⟩
  refine j_st (st' := [.int (iZ (b3))]) rfl ?_
  refine j_if_ne (tgt := 17) hG dX11_end_12 (by decide) (by omega) (fun c5 => ?_) (fun c5 => ?_)
  · -- taken at 12
    refine j_aload_n hG dX11_end_17 rfl rfl ?_
    refine j_get hG fX11_19 dX11_end_18 hx rfl ?_
    refine j_iload_n hG dX11_end_21 rfl rfl ?_
    obtain ⟨fs6, hh7⟩ := CTape_hd (CRA_c3 hR)
    refine j_callV (rest := []) hG vX11_110 dX11_end_22 (k_X10_cut (n := n) (CRA_c3 hR) (by omega) (by omega)) hh7 rfl rfl (by decide) (by decide) (Nat.le_of_ble_eq_true rfl) rfl rfl (Nat.zero_le _) (Nat.zero_le _) ?_
    rintro _ f10 ⟨rfl, hc8, fr9⟩
    refine j_st (st' := []) rfl ?_
    have hR11 := CRA_s3 hR hc8 fr9
    have hF12 : ∀ q, (rg q = 0 ∨ 10 < rg q) → f10 q = f q := fun q hq => (fr9 q (by omega)).trans (hF q hq)
    refine j_iload_n hG dX11_end_25 rfl rfl ?_
    have eF : endF (ls, lr, ln, M, sz, la, rd, mr, W, O, g, len, th, fa, re) n = (n, (ls, lr, ln, M, sz, la, rd, mr, W, O, g, n, th, fa, re)) := by
      unfold endF
      dsimp only
      rw [if_pos (by omega)]
    exact j_iret hG hZ dX11_end_26 (Nat.zero_le _) (Nat.zero_le _) (⟨by rw [eF], by rw [eF]; exact ⟨lg, tp, pa, T, wt, to, ho, nw, kp, D, dz, X, gi, Mh, hR11, hMh, hX, h36⟩, hF12⟩)
  · -- on at 12
    refine j_iconst hG dX11_end_15 ?_
    have eF : endF (ls, lr, ln, M, sz, la, rd, mr, W, O, g, len, th, fa, re) n = (-1, (ls, lr, ln, M, sz, la, rd, mr, W, O, g, len, th, fa, re)) := by
      unfold endF
      dsimp only
      rw [if_neg (by omega)]
    exact j_iret hG hZ dX11_end_16 (Nat.zero_le _) (Nat.zero_le _) (⟨by rw [eF], by rw [eF]; exact ⟨lg, tp, pa, T, wt, to, ho, nw, kp, D, dz, X, gi, Mh, hR, hMh, hX, h36⟩, hF⟩)
theorem c_X11_fault {l : Launch} {E : JE} {f : Hp} {rg : Nat → Nat} {x : Nat} {ls : Int → Int} {lr : Int → Int} {ln : Nat} {M : Int → Int → Int} {sz : Nat} {la : Int} {rd : Nat} {mr : Nat} {W : List Int} {O : List Int} {g : Int → Int} {len : Int} {th : Int → Int} {fa : Int} {re : Int}   (hC : CR E rg f x (ls, lr, ln, M, sz, la, rd, mr, W, O, g, len, th, fa, re)) (hS : SOk (ls, lr, ln, M, sz, la, rd, mr, W, O, g, len, th, fa, re)) : KX11_fault l E [.ref x] f (fun v f' => v = some (.int (iZ (faultF (ls, lr, ln, M, sz, la, rd, mr, W, O, g, len, th, fa, re)).1)) ∧ CR E rg f' x (faultF (ls, lr, ln, M, sz, la, rd, mr, W, O, g, len, th, fa, re)).2 ∧ ∀ q, (rg q = 0 ∨ 10 < rg q) → f' q = f q) := by
  refine ct_of (own := RX11) (lv := [(0, .ref x)]) (by decide +kernel) rfl (Nat.le_of_ble_eq_true rfl) rfl ?_
  intro G hG hZ
  obtain ⟨lg, tp, pa, T, wt, to, ho, nw, kp, D, dz, X, gi, Mh, hR, hMh, hX, h36⟩ := hC
  obtain ⟨⟨hln, hlg⟩, ⟨hsz, hMo⟩, hla, hrd, hok1, hok2, hWO, hbg, hle, hth, hh1⟩ := hS
  have hx := CRA_x hR
  have hF : ∀ q, (rg q = 0 ∨ 10 < rg q) → f q = f q := fun _ _ => rfl
  refine j_aload_n hG dX11_fault_0 rfl rfl ?_
  refine j_get hG fX11_68 dX11_fault_1 hx rfl ?_
  exact j_iret hG hZ dX11_fault_4 (Nat.zero_le _) (Nat.zero_le _) (⟨rfl, ⟨lg, tp, pa, T, wt, to, ho, nw, kp, D, dz, X, gi, Mh, hR, hMh, hX, h36⟩, hF⟩)
theorem c_X11_status {l : Launch} {E : JE} {f : Hp} {rg : Nat → Nat} {x : Nat} {ls : Int → Int} {lr : Int → Int} {ln : Nat} {M : Int → Int → Int} {sz : Nat} {la : Int} {rd : Nat} {mr : Nat} {W : List Int} {O : List Int} {g : Int → Int} {len : Int} {th : Int → Int} {fa : Int} {re : Int}   (hC : CR E rg f x (ls, lr, ln, M, sz, la, rd, mr, W, O, g, len, th, fa, re)) (hS : SOk (ls, lr, ln, M, sz, la, rd, mr, W, O, g, len, th, fa, re)) : KX11_status l E [.ref x] f (fun v f' => v = some (.int (iZ (statusF (ls, lr, ln, M, sz, la, rd, mr, W, O, g, len, th, fa, re)).1)) ∧ CR E rg f' x (statusF (ls, lr, ln, M, sz, la, rd, mr, W, O, g, len, th, fa, re)).2 ∧ ∀ q, (rg q = 0 ∨ 10 < rg q) → f' q = f q) := by
  refine ct_of (own := RX11) (lv := [(0, .ref x)]) (by decide +kernel) rfl (Nat.le_of_ble_eq_true rfl) rfl ?_
  intro G hG hZ
  obtain ⟨lg, tp, pa, T, wt, to, ho, nw, kp, D, dz, X, gi, Mh, hR, hMh, hX, h36⟩ := hC
  obtain ⟨⟨hln, hlg⟩, ⟨hsz, hMo⟩, hla, hrd, hok1, hok2, hWO, hbg, hle, hth, hh1⟩ := hS
  have hx := CRA_x hR
  have hF : ∀ q, (rg q = 0 ∨ 10 < rg q) → f q = f q := fun _ _ => rfl
  refine j_aload_n hG dX11_status_0 rfl rfl ?_
  refine j_get hG fX11_71 dX11_status_1 hx rfl ?_
  exact j_iret hG hZ dX11_status_4 (Nat.zero_le _) (Nat.zero_le _) (⟨rfl, ⟨lg, tp, pa, T, wt, to, ho, nw, kp, D, dz, X, gi, Mh, hR, hMh, hX, h36⟩, hF⟩)
theorem c_X11_owner {l : Launch} {E : JE} {f : Hp} {rg : Nat → Nat} {x : Nat} {ls : Int → Int} {lr : Int → Int} {ln : Nat} {M : Int → Int → Int} {sz : Nat} {la : Int} {rd : Nat} {mr : Nat} {W : List Int} {O : List Int} {g : Int → Int} {len : Int} {th : Int → Int} {fa : Int} {re : Int} {k : Int}  (hC : CR E rg f x (ls, lr, ln, M, sz, la, rd, mr, W, O, g, len, th, fa, re)) (hS : SOk (ls, lr, ln, M, sz, la, rd, mr, W, O, g, len, th, fa, re)) (hk_ : -2147483648 ≤ k ∧ k < 2147483648) : KX11_owner l E [.ref x, .int (iZ (k))] f (fun v f' => v = some (.int (iZ (ownerF (ls, lr, ln, M, sz, la, rd, mr, W, O, g, len, th, fa, re) k).1)) ∧ CR E rg f' x (ownerF (ls, lr, ln, M, sz, la, rd, mr, W, O, g, len, th, fa, re) k).2 ∧ ∀ q, (rg q = 0 ∨ 10 < rg q) → f' q = f q) := by
  refine ct_of (own := RX11) (lv := [(0, .ref x), (1, .int (iZ (k)))]) (by decide +kernel) rfl (Nat.le_of_ble_eq_true rfl) rfl ?_
  intro G hG hZ
  obtain ⟨lg, tp, pa, T, wt, to, ho, nw, kp, D, dz, X, gi, Mh, hR, hMh, hX, h36⟩ := hC
  obtain ⟨⟨hln, hlg⟩, ⟨hsz, hMo⟩, hla, hrd, hok1, hok2, hWO, hbg, hle, hth, hh1⟩ := hS
  have hx := CRA_x hR
  have hF : ∀ q, (rg q = 0 ∨ 10 < rg q) → f q = f q := fun _ _ => rfl
  refine j_aload_n hG dX11_owner_0 rfl rfl ?_
  refine j_get hG fX11_50 dX11_owner_1 hx rfl ?_
  refine j_iload_n hG dX11_owner_4 rfl rfl ?_
  obtain ⟨fs1, hh2⟩ := CHos_hd (CRA_c8 hR)
  refine j_callV (rest := []) hG vX11_189 dX11_owner_5 (k_X1_ownerOf (k0 := k) (CRA_c8 hR) (by omega)) hh2 rfl rfl (by decide) (by decide) (Nat.le_of_ble_eq_true rfl) rfl rfl (Nat.zero_le _) (Nat.zero_le _) ?_
  rintro _ _ ⟨rfl, rfl⟩
  refine j_st (st' := [.int (iZ (if 0 ≤ k ∧ k < 32 then ownr th k else -1))]) rfl ?_
  exact j_iret hG hZ dX11_owner_8 (Nat.zero_le _) (Nat.zero_le _) (⟨rfl, ⟨lg, tp, pa, T, wt, to, ho, nw, kp, D, dz, X, gi, Mh, hR, hMh, hX, h36⟩, hF⟩)
theorem c_X11_mark {l : Launch} {E : JE} {f : Hp} {rg : Nat → Nat} {x : Nat} {ls : Int → Int} {lr : Int → Int} {ln : Nat} {M : Int → Int → Int} {sz : Nat} {la : Int} {rd : Nat} {mr : Nat} {W : List Int} {O : List Int} {g : Int → Int} {len : Int} {th : Int → Int} {fa : Int} {re : Int}   (hC : CR E rg f x (ls, lr, ln, M, sz, la, rd, mr, W, O, g, len, th, fa, re)) (hS : SOk (ls, lr, ln, M, sz, la, rd, mr, W, O, g, len, th, fa, re)) : KX11_mark l E [.ref x] f (fun v f' => v = some (.int (iZ (markF (ls, lr, ln, M, sz, la, rd, mr, W, O, g, len, th, fa, re)).1)) ∧ CR E rg f' x (markF (ls, lr, ln, M, sz, la, rd, mr, W, O, g, len, th, fa, re)).2 ∧ ∀ q, (rg q = 0 ∨ 10 < rg q) → f' q = f q) := by
  refine ct_of (own := RX11) (lv := [(0, .ref x)]) (by decide +kernel) rfl (Nat.le_of_ble_eq_true rfl) rfl ?_
  intro G hG hZ
  obtain ⟨lg, tp, pa, T, wt, to, ho, nw, kp, D, dz, X, gi, Mh, hR, hMh, hX, h36⟩ := hC
  obtain ⟨⟨hln, hlg⟩, ⟨hsz, hMo⟩, hla, hrd, hok1, hok2, hWO, hbg, hle, hth, hh1⟩ := hS
  have hx := CRA_x hR
  have hF : ∀ q, (rg q = 0 ∨ 10 < rg q) → f q = f q := fun _ _ => rfl
  refine j_aload_n hG dX11_mark_0 rfl rfl ?_
  refine j_get hG fX11_33 dX11_mark_1 hx rfl ?_
  obtain ⟨fs1, hh2⟩ := CTab_hd (CRA_c5 hR)
  refine j_callV (rest := []) hG vX11_127 dX11_mark_4 (k_X9_size  (CRA_c5 hR) ) hh2 rfl rfl (by decide) (by decide) (Nat.le_of_ble_eq_true rfl) rfl rfl (Nat.zero_le _) (Nat.zero_le _) ?_
  rintro _ _ ⟨rfl, rfl⟩
  refine j_st (st' := [.int (iZ ((sz : Int)))]) rfl ?_
  refine j_if_ne (tgt := 17) hG dX11_mark_7 (by decide) (by omega) (fun c3 => ?_) (fun c3 => ?_)
  · -- taken at 7
    refine j_aload_n hG dX11_mark_17 rfl rfl ?_
    refine j_get hG fX11_44 dX11_mark_18 hx rfl ?_
    refine j_aload_n hG dX11_mark_21 rfl rfl ?_
    refine j_get hG fX11_40 dX11_mark_22 hx rfl ?_
    obtain ⟨fs4, hh5⟩ := CChg_hd (CRA_c7 hR)
    refine j_callV (rest := []) hG vX11_141 dX11_mark_25 (k_X0_addAll (CRA_c7 hR) (CRA_c6 hR) (by decide)) hh5 rfl rfl (by decide) (by decide) (Nat.le_of_ble_eq_true rfl) rfl rfl (Nat.zero_le _) (Nat.zero_le _) ?_
    rintro _ f13 ⟨z6, O7, rfl, hc8, fr9, hq10⟩
    refine j_st (st' := [.int (iZ (z6))]) rfl ?_
    have hR14 := CRA_s7 hR hc8 fr9
    have hF15 : ∀ q, (rg q = 0 ∨ 10 < rg q) → f13 q = f q := fun q hq => (fr9 q (by omega)).trans (hF q hq)
    refine j_if_ne (tgt := 38) hG dX11_mark_28 (by decide) (by omega) (fun c16 => ?_) (fun c16 => ?_)
    · -- taken at 28
      obtain ⟨-, e11, rfl⟩ := hq10.resolve_right (fun h => absurd h.1 (by omega))
      refine j_aload_n hG dX11_mark_38 rfl rfl ?_
      refine j_get hG fX11_40 dX11_mark_39 (CRA_x hR14) rfl ?_
      obtain ⟨fs17, hh18⟩ := CChg_hd (CRA_c6 hR14)
      refine j_callV (rest := []) hG vX11_145 dX11_mark_42 (k_X0_clear  (CRA_c6 hR14) ) hh18 rfl rfl (by decide) (by decide) (Nat.le_of_ble_eq_true rfl) rfl rfl (Nat.zero_le _) (Nat.zero_le _) ?_
      rintro _ f21 ⟨rfl, hc19, fr20⟩
      refine j_st (st' := []) rfl ?_
      have hR22 := CRA_s6 hR14 hc19 fr20
      have hF23 : ∀ q, (rg q = 0 ∨ 10 < rg q) → f21 q = f q := fun q hq => (fr20 q (by omega)).trans (hF15 q hq)
      refine j_aload_n hG dX11_mark_45 rfl rfl ?_
      refine j_get hG fX11_61 dX11_mark_46 (CRA_x hR22) rfl ?_
      refine j_aload_n hG dX11_mark_49 rfl rfl ?_
      refine j_get hG fX11_57 dX11_mark_50 (CRA_x hR22) rfl ?_
      obtain ⟨fs24, hh25⟩ := CPrg_hd (CRA_c10 hR22)
      refine j_callV (rest := []) hG vX11_148 dX11_mark_53 (k_X6_copy (CRA_c10 hR22) (CRA_c9 hR22) (by decide)) hh25 rfl rfl (by decide) (by decide) (Nat.le_of_ble_eq_true rfl) rfl rfl (Nat.zero_le _) (Nat.zero_le _) ?_
      rintro _ f28 ⟨rfl, hc26, fr27⟩
      refine j_st (st' := []) rfl ?_
      have hR29 := CRA_s10 hR22 hc26 fr27
      have hF30 : ∀ q, (rg q = 0 ∨ 10 < rg q) → f28 q = f q := fun q hq => (fr27 q (by omega)).trans (hF23 q hq)
      refine j_aload_n hG dX11_mark_56 rfl rfl ?_
      refine j_get hG fX11_33 dX11_mark_57 (CRA_x hR29) rfl ?_
      obtain ⟨fs31, hh32⟩ := CTab_hd (CRA_c5 hR29)
      refine j_callV (rest := []) hG vX11_152 dX11_mark_60 (k_X9_keep (CRA_c5 hR29) hsz) hh32 rfl rfl (by decide) (by decide) (Nat.le_of_ble_eq_true rfl) rfl rfl (Nat.zero_le _) (Nat.zero_le _) ?_
      rintro _ f38 ⟨rfl, X33, hc34, e35, e36, fr37⟩
      refine j_st (st' := []) rfl ?_
      have hR39 := CRA_s5 hR29 hc34 fr37
      have hF40 : ∀ q, (rg q = 0 ∨ 10 < rg q) → f38 q = f q := fun q hq => (fr37 q (by omega)).trans (hF30 q hq)
      refine j_aload_n hG dX11_mark_63 rfl rfl ?_
      refine j_aload_n hG dX11_mark_64 rfl rfl ?_
      refine j_get hG fX11_44 dX11_mark_65 (CRA_x hR39) rfl ?_
      obtain ⟨fs41, hh42⟩ := CChg_hd (CRA_c7 hR39)
      refine j_callV (rest := [.ref x]) hG vX11_155 dX11_mark_68 (k_X0_size  (CRA_c7 hR39) ) hh42 rfl rfl (by decide) (by decide) (Nat.le_of_ble_eq_true rfl) rfl rfl (Nat.zero_le _) (Nat.zero_le _) ?_
      rintro _ _ ⟨rfl, rfl⟩
      refine j_st (st' := [.int (iZ (((O ++ W).length : Int))), .ref x]) rfl ?_
      refine j_callV (rest := []) hG vX11_96 dX11_mark_71 (c_X11_grant (c := ((O ++ W).length : Int)) (CRA_x hR39)) (CRA_x hR39) rfl rfl (by decide) (by decide) (Nat.le_of_ble_eq_true rfl) rfl rfl (Nat.zero_le _) (Nat.zero_le _) ?_
      rintro _ f45 ⟨rfl, hn43, fr44⟩
      refine j_st (st' := [.int (iZ (((O ++ W).length : Int)))]) rfl ?_
      have hR46 := CRA_s1 hR39 hn43 fr44
      have hF47 : ∀ q, (rg q = 0 ∨ 10 < rg q) → f45 q = f q := fun q hq => (fr44 q (fun e => by rw [e, hR39.2.1] at hq; omega)).trans (hF40 q hq)
      have eF : markF (ls, lr, ln, M, sz, la, rd, mr, W, O, g, len, th, fa, re) = (((O ++ W).length : Int), (ls, lr, ln, M, sz, la, rd, rd, [], O ++ W, g, len, th, fa, 0)) := by
        unfold markF
        dsimp only
        rw [if_neg (by omega), if_pos (by omega)]
      exact j_iret hG hZ dX11_mark_74 (Nat.zero_le _) (Nat.zero_le _) (⟨by rw [eF], by rw [eF]; exact ⟨lg, tp, pa, T, wt, to, ho, nw, kp, D, dz, X33, gi, Mh, hR46, hMh, fun s hs => ⟨by rw [(e35 s hs).2]; exact (hX s hs).1, by rw [(e35 s hs).1]; exact (hX s hs).1⟩, by rw [e36]; exact h36⟩, hF47⟩)
    · -- on at 28
      obtain ⟨-, e12, rfl⟩ := hq10.resolve_left (fun h => absurd h.1 (by omega))
      refine j_aload_n hG dX11_mark_31 rfl rfl ?_
      refine j_bipush hG dX11_mark_32 (by decide) ?_
      refine j_callV (rest := []) hG vX11_78 dX11_mark_34 (c_X11_refuse (c := -5) (CRA_x hR14)) (CRA_x hR14) rfl rfl (by decide) (by decide) (Nat.le_of_ble_eq_true rfl) rfl rfl (Nat.zero_le _) (Nat.zero_le _) ?_
      rintro _ f50 ⟨rfl, hn48, fr49⟩
      refine j_st (st' := [.int (iZ (-5))]) rfl ?_
      have hR51 := CRA_s1 hR14 hn48 fr49
      have hF52 : ∀ q, (rg q = 0 ∨ 10 < rg q) → f50 q = f q := fun q hq => (fr49 q (fun e => by rw [e, hR14.2.1] at hq; omega)).trans (hF15 q hq)
      have eF : markF (ls, lr, ln, M, sz, la, rd, mr, W, O, g, len, th, fa, re) = (-5, (ls, lr, ln, M, sz, la, rd, mr, W, O, g, len, th, fa, -5)) := by
        unfold markF
        dsimp only
        rw [if_neg (by omega), if_neg (by omega)]
      exact j_iret hG hZ dX11_mark_37 (Nat.zero_le _) (Nat.zero_le _) (⟨by rw [eF], by rw [eF]; exact ⟨lg, tp, pa, T, wt, to, ho, nw, kp, D, dz, X, gi, Mh, hR51, hMh, hX, h36⟩, hF52⟩)
  · -- on at 7
    refine j_aload_n hG dX11_mark_10 rfl rfl ?_
    refine j_bipush hG dX11_mark_11 (by decide) ?_
    refine j_callV (rest := []) hG vX11_78 dX11_mark_13 (c_X11_refuse (c := -6) hx) hx rfl rfl (by decide) (by decide) (Nat.le_of_ble_eq_true rfl) rfl rfl (Nat.zero_le _) (Nat.zero_le _) ?_
    rintro _ f55 ⟨rfl, hn53, fr54⟩
    refine j_st (st' := [.int (iZ (-6))]) rfl ?_
    have hR56 := CRA_s1 hR hn53 fr54
    have hF57 : ∀ q, (rg q = 0 ∨ 10 < rg q) → f55 q = f q := fun q hq => (fr54 q (fun e => by rw [e, hR.2.1] at hq; omega)).trans (hF q hq)
    have eF : markF (ls, lr, ln, M, sz, la, rd, mr, W, O, g, len, th, fa, re) = (-6, (ls, lr, ln, M, sz, la, rd, mr, W, O, g, len, th, fa, -6)) := by
      unfold markF
      dsimp only
      rw [if_pos (by omega)]
    exact j_iret hG hZ dX11_mark_16 (Nat.zero_le _) (Nat.zero_le _) (⟨by rw [eF], by rw [eF]; exact ⟨lg, tp, pa, T, wt, to, ho, nw, kp, D, dz, X, gi, Mh, hR56, hMh, hX, h36⟩, hF57⟩)
theorem c_X11_fall {l : Launch} {E : JE} {f : Hp} {rg : Nat → Nat} {x : Nat} {ls : Int → Int} {lr : Int → Int} {ln : Nat} {M : Int → Int → Int} {sz : Nat} {la : Int} {rd : Nat} {mr : Nat} {W : List Int} {O : List Int} {g : Int → Int} {len : Int} {th : Int → Int} {fa : Int} {re : Int}   (hC : CR E rg f x (ls, lr, ln, M, sz, la, rd, mr, W, O, g, len, th, fa, re)) (hS : SOk (ls, lr, ln, M, sz, la, rd, mr, W, O, g, len, th, fa, re)) : KX11_fall l E [.ref x] f (fun v f' => v = some (.int (iZ (fallF (ls, lr, ln, M, sz, la, rd, mr, W, O, g, len, th, fa, re)).1)) ∧ CR E rg f' x (fallF (ls, lr, ln, M, sz, la, rd, mr, W, O, g, len, th, fa, re)).2 ∧ ∀ q, (rg q = 0 ∨ 10 < rg q) → f' q = f q) := by
  refine ct_of (own := RX11) (lv := [(0, .ref x)]) (by decide +kernel) rfl (Nat.le_of_ble_eq_true rfl) rfl ?_
  intro G hG hZ
  obtain ⟨lg, tp, pa, T, wt, to, ho, nw, kp, D, dz, X, gi, Mh, hR, hMh, hX, h36⟩ := hC
  obtain ⟨⟨hln, hlg⟩, ⟨hsz, hMo⟩, hla, hrd, hok1, hok2, hWO, hbg, hle, hth, hh1⟩ := hS
  have hx := CRA_x hR
  have hF : ∀ q, (rg q = 0 ∨ 10 < rg q) → f q = f q := fun _ _ => rfl
  refine j_aload_n hG dX11_fall_0 rfl rfl ?_
  refine j_get hG fX11_33 dX11_fall_1 hx rfl ?_
  obtain ⟨fs1, hh2⟩ := CTab_hd (CRA_c5 hR)
  refine j_callV (rest := []) hG vX11_127 dX11_fall_4 (k_X9_size  (CRA_c5 hR) ) hh2 rfl rfl (by decide) (by decide) (Nat.le_of_ble_eq_true rfl) rfl rfl (Nat.zero_le _) (Nat.zero_le _) ?_
  rintro _ _ ⟨rfl, rfl⟩
  refine j_st (st' := [.int (iZ ((sz : Int)))]) rfl ?_
  refine j_if_ne (tgt := 17) hG dX11_fall_7 (by decide) (by omega) (fun c3 => ?_) (fun c3 => ?_)
  · -- taken at 7
    refine j_aload_n hG dX11_fall_17 rfl rfl ?_
    refine j_get hG fX11_40 dX11_fall_18 hx rfl ?_
    obtain ⟨fs4, hh5⟩ := CChg_hd (CRA_c6 hR)
    refine j_callV (rest := []) hG vX11_145 dX11_fall_21 (k_X0_clear  (CRA_c6 hR) ) hh5 rfl rfl (by decide) (by decide) (Nat.le_of_ble_eq_true rfl) rfl rfl (Nat.zero_le _) (Nat.zero_le _) ?_
    rintro _ f8 ⟨rfl, hc6, fr7⟩
    refine j_st (st' := []) rfl ?_
    have hR9 := CRA_s6 hR hc6 fr7
    have hF10 : ∀ q, (rg q = 0 ∨ 10 < rg q) → f8 q = f q := fun q hq => (fr7 q (by omega)).trans (hF q hq)
    refine j_aload_n hG dX11_fall_24 rfl rfl ?_
    refine j_get hG fX11_57 dX11_fall_25 (CRA_x hR9) rfl ?_
    refine j_aload_n hG dX11_fall_28 rfl rfl ?_
    refine j_get hG fX11_61 dX11_fall_29 (CRA_x hR9) rfl ?_
    obtain ⟨fs11, hh12⟩ := CPrg_hd (CRA_c9 hR9)
    refine j_callV (rest := []) hG vX11_148 dX11_fall_32 (k_X6_copy (CRA_c9 hR9) (CRA_c10 hR9) (by decide)) hh12 rfl rfl (by decide) (by decide) (Nat.le_of_ble_eq_true rfl) rfl rfl (Nat.zero_le _) (Nat.zero_le _) ?_
    rintro _ f15 ⟨rfl, hc13, fr14⟩
    refine j_st (st' := []) rfl ?_
    have hR16 := CRA_s9 hR9 hc13 fr14
    have hF17 : ∀ q, (rg q = 0 ∨ 10 < rg q) → f15 q = f q := fun q hq => (fr14 q (by omega)).trans (hF10 q hq)
    refine j_aload_n hG dX11_fall_35 rfl rfl ?_
    refine j_get hG fX11_33 dX11_fall_36 (CRA_x hR16) rfl ?_
    obtain ⟨fs18, hh19⟩ := CTab_hd (CRA_c5 hR16)
    refine j_callV (rest := []) hG vX11_156 dX11_fall_39 (k_X9_restore (CRA_c5 hR16) hsz) hh19 rfl rfl (by decide) (by decide) (Nat.le_of_ble_eq_true rfl) rfl rfl (Nat.zero_le _) (Nat.zero_le _) ?_
    rintro _ f25 ⟨rfl, X20, hc21, e22, e23, fr24⟩
    refine j_st (st' := []) rfl ?_
    have hR26 := CRA_s5 hR16 hc21 fr24
    have hF27 : ∀ q, (rg q = 0 ∨ 10 < rg q) → f25 q = f q := fun q hq => (fr24 q (by omega)).trans (hF17 q hq)
    refine j_aload_n hG dX11_fall_42 rfl rfl ?_
    refine j_aload_n hG dX11_fall_43 rfl rfl ?_
    refine j_get hG fX11_57 dX11_fall_44 (CRA_x hR26) rfl ?_
    obtain ⟨fs28, hh29⟩ := CPrg_hd (CRA_c9 hR26)
    refine j_callV (rest := [.ref x]) hG vX11_128 dX11_fall_47 (k_X6_rowsRead  (CRA_c9 hR26) ) hh29 rfl rfl (by decide) (by decide) (Nat.le_of_ble_eq_true rfl) rfl rfl (Nat.zero_le _) (Nat.zero_le _) ?_
    rintro _ _ ⟨rfl, rfl⟩
    refine j_st (st' := [.int (iZ ((mr : Int))), .ref x]) rfl ?_
    refine j_callV (rest := []) hG vX11_96 dX11_fall_50 (c_X11_grant (c := (mr : Int)) (CRA_x hR26)) (CRA_x hR26) rfl rfl (by decide) (by decide) (Nat.le_of_ble_eq_true rfl) rfl rfl (Nat.zero_le _) (Nat.zero_le _) ?_
    rintro _ f32 ⟨rfl, hn30, fr31⟩
    refine j_st (st' := [.int (iZ ((mr : Int)))]) rfl ?_
    have hR33 := CRA_s1 hR26 hn30 fr31
    have hF34 : ∀ q, (rg q = 0 ∨ 10 < rg q) → f32 q = f q := fun q hq => (fr31 q (fun e => by rw [e, hR26.2.1] at hq; omega)).trans (hF27 q hq)
    have eF : fallF (ls, lr, ln, M, sz, la, rd, mr, W, O, g, len, th, fa, re) = ((mr : Int), (ls, lr, ln, M, sz, la, mr, mr, [], O, g, len, th, fa, 0)) := by
      unfold fallF
      dsimp only
      rw [if_neg (by omega)]
    exact j_iret hG hZ dX11_fall_53 (Nat.zero_le _) (Nat.zero_le _) (⟨by rw [eF], by rw [eF]; exact ⟨lg, tp, pa, T, wt, to, ho, nw, kp, D, dz, X20, gi, Mh, hR33, hMh, fun s hs => ⟨by rw [(e22 s hs).2]; exact (hX s hs).2, by rw [(e22 s hs).1]; exact (hX s hs).2⟩, by rw [e23]; exact h36⟩, hF34⟩)
  · -- on at 7
    refine j_aload_n hG dX11_fall_10 rfl rfl ?_
    refine j_bipush hG dX11_fall_11 (by decide) ?_
    refine j_callV (rest := []) hG vX11_78 dX11_fall_13 (c_X11_refuse (c := -6) hx) hx rfl rfl (by decide) (by decide) (Nat.le_of_ble_eq_true rfl) rfl rfl (Nat.zero_le _) (Nat.zero_le _) ?_
    rintro _ f37 ⟨rfl, hn35, fr36⟩
    refine j_st (st' := [.int (iZ (-6))]) rfl ?_
    have hR38 := CRA_s1 hR hn35 fr36
    have hF39 : ∀ q, (rg q = 0 ∨ 10 < rg q) → f37 q = f q := fun q hq => (fr36 q (fun e => by rw [e, hR.2.1] at hq; omega)).trans (hF q hq)
    have eF : fallF (ls, lr, ln, M, sz, la, rd, mr, W, O, g, len, th, fa, re) = (-6, (ls, lr, ln, M, sz, la, rd, mr, W, O, g, len, th, fa, -6)) := by
      unfold fallF
      dsimp only
      rw [if_pos (by omega)]
    exact j_iret hG hZ dX11_fall_16 (Nat.zero_le _) (Nat.zero_le _) (⟨by rw [eF], by rw [eF]; exact ⟨lg, tp, pa, T, wt, to, ho, nw, kp, D, dz, X, gi, Mh, hR38, hMh, hX, h36⟩, hF39⟩)
theorem c_X11_rows {l : Launch} {E : JE} {f : Hp} {rg : Nat → Nat} {x : Nat} {ls : Int → Int} {lr : Int → Int} {ln : Nat} {M : Int → Int → Int} {sz : Nat} {la : Int} {rd : Nat} {mr : Nat} {W : List Int} {O : List Int} {g : Int → Int} {len : Int} {th : Int → Int} {fa : Int} {re : Int} {t : Int}  (hC : CR E rg f x (ls, lr, ln, M, sz, la, rd, mr, W, O, g, len, th, fa, re)) (hS : SOk (ls, lr, ln, M, sz, la, rd, mr, W, O, g, len, th, fa, re)) (ht_ : -2147483648 ≤ t ∧ t < 2147483648) : KX11_rows l E [.ref x, .int (iZ (t))] f (fun v f' => v = some (.int (iZ (rowsF (ls, lr, ln, M, sz, la, rd, mr, W, O, g, len, th, fa, re) t).1)) ∧ CR E rg f' x (rowsF (ls, lr, ln, M, sz, la, rd, mr, W, O, g, len, th, fa, re) t).2 ∧ ∀ q, (rg q = 0 ∨ 10 < rg q) → f' q = f q) := by
  refine ct_of (own := RX11) (lv := [(0, .ref x), (1, .int (iZ (t)))]) (by decide +kernel) rfl (Nat.le_of_ble_eq_true rfl) rfl ?_
  intro G hG hZ
  obtain ⟨lg, tp, pa, T, wt, to, ho, nw, kp, D, dz, X, gi, Mh, hR, hMh, hX, h36⟩ := hC
  obtain ⟨⟨hln, hlg⟩, ⟨hsz, hMo⟩, hla, hrd, hok1, hok2, hWO, hbg, hle, hth, hh1⟩ := hS
  have hx := CRA_x hR
  have hF : ∀ q, (rg q = 0 ∨ 10 < rg q) → f q = f q := fun _ _ => rfl
  refine j_aload_n hG dX11_rows_0 rfl rfl ?_
  refine j_get hG fX11_33 dX11_rows_1 hx rfl ?_
  refine j_iload_n hG dX11_rows_4 rfl rfl ?_
  obtain ⟨fs1, hh2⟩ := CTab_hd (CRA_c5 hR)
  refine j_callV (rest := []) hG vX11_159 dX11_rows_5 (k_X9_has (i := t) (CRA_c5 hR) (by omega) (by omega)) hh2 rfl rfl (by decide) (by decide) (Nat.le_of_ble_eq_true rfl) rfl rfl (Nat.zero_le _) (Nat.zero_le _) ?_
  rintro _ _ ⟨⟨z3, rfl, hz4⟩, rfl⟩
  refine j_st (st' := [.int (iZ (z3))]) rfl ?_
  refine j_if_eq (tgt := 25) hG dX11_rows_8 (by decide) (by omega) (fun c7 => ?_) (fun c7 => ?_)
  · -- taken at 8
    obtain ⟨-, e6⟩ := hz4.resolve_left (fun h => absurd h.1 (by omega))
    refine j_iconst hG dX11_rows_25 ?_
    have eF : rowsF (ls, lr, ln, M, sz, la, rd, mr, W, O, g, len, th, fa, re) t = (-1, (ls, lr, ln, M, sz, la, rd, mr, W, O, g, len, th, fa, re)) := by
      unfold rowsF
      dsimp only
      rw [if_neg (by omega)]
    exact j_iret hG hZ dX11_rows_26 (Nat.zero_le _) (Nat.zero_le _) (⟨by rw [eF], by rw [eF]; exact ⟨lg, tp, pa, T, wt, to, ho, nw, kp, D, dz, X, gi, Mh, hR, hMh, hX, h36⟩, hF⟩)
  · -- on at 8
    obtain ⟨-, e5⟩ := hz4.resolve_right (fun h => absurd h.1 (by omega))
    refine j_aload_n hG dX11_rows_11 rfl rfl ?_
    refine j_get hG fX11_33 dX11_rows_12 hx rfl ?_
    refine j_iload_n hG dX11_rows_15 rfl rfl ?_
    obtain ⟨fs8, hh9⟩ := CTab_hd (CRA_c5 hR)
    refine j_callV (rest := []) hG vX11_162 dX11_rows_16 (k_X9_rowsOf (i := t) (CRA_c5 hR) hsz (by omega)) hh9 rfl rfl (by decide) (by decide) (Nat.le_of_ble_eq_true rfl) rfl rfl (Nat.zero_le _) (Nat.zero_le _) ?_
    rintro _ _ ⟨r10, c11, rfl, hr12, rfl⟩
    refine j_st (st' := [.ref r10]) rfl ?_
    obtain ⟨fs13, hh14⟩ := rwAt_hd hr12
    refine j_callV (rest := []) hG vX11_166 dX11_rows_19 (k_X8_size hr12) hh14 rfl rfl (by decide) (by decide) (Nat.le_of_ble_eq_true rfl) rfl rfl (Nat.zero_le _) (Nat.zero_le _) ?_
    rintro _ _ ⟨rfl, rfl⟩
    refine j_st (st' := [.int (iZ ((X t).1.length))]) rfl ?_
    refine j_goto (tgt := 26) hG dX11_rows_22 (by decide) ?_
    have t9 : X t = (tab M (srcN ls lr la rd) t.toNat, 0) := by have z := (hX t.toNat (by omega)).1; rw [Int.toNat_of_nonneg (by omega)] at z; exact z
    rw [t9]
    have eF : rowsF (ls, lr, ln, M, sz, la, rd, mr, W, O, g, len, th, fa, re) t = (((tab M (srcN ls lr la rd) t.toNat).length : Int), (ls, lr, ln, M, sz, la, rd, mr, W, O, g, len, th, fa, re)) := by
      unfold rowsF
      dsimp only
      rw [if_pos (by omega)]
    exact j_iret hG hZ dX11_rows_26 (Nat.zero_le _) (Nat.zero_le _) (⟨by rw [eF], by rw [eF]; exact ⟨lg, tp, pa, T, wt, to, ho, nw, kp, D, dz, X, gi, Mh, hR, hMh, hX, h36⟩, hF⟩)
theorem c_X11_row {l : Launch} {E : JE} {f : Hp} {rg : Nat → Nat} {x : Nat} {ls : Int → Int} {lr : Int → Int} {ln : Nat} {M : Int → Int → Int} {sz : Nat} {la : Int} {rd : Nat} {mr : Nat} {W : List Int} {O : List Int} {g : Int → Int} {len : Int} {th : Int → Int} {fa : Int} {re : Int} {t : Int} {i : Int} {u : Int}  (hC : CR E rg f x (ls, lr, ln, M, sz, la, rd, mr, W, O, g, len, th, fa, re)) (hS : SOk (ls, lr, ln, M, sz, la, rd, mr, W, O, g, len, th, fa, re)) (ht_ : -2147483648 ≤ t ∧ t < 2147483648) (hi_ : -2147483648 ≤ i ∧ i < 2147483648) (hu_ : -2147483648 ≤ u ∧ u < 2147483648) : KX11_row l E [.ref x, .int (iZ (t)), .int (iZ (i)), .int (iZ (u))] f (fun v f' => v = some (.int (iZ (rowF (ls, lr, ln, M, sz, la, rd, mr, W, O, g, len, th, fa, re) t i u).1)) ∧ CR E rg f' x (rowF (ls, lr, ln, M, sz, la, rd, mr, W, O, g, len, th, fa, re) t i u).2 ∧ ∀ q, (rg q = 0 ∨ 10 < rg q) → f' q = f q) := by
  refine ct_of (own := RX11) (lv := [(0, .ref x), (1, .int (iZ (t))), (2, .int (iZ (i))), (3, .int (iZ (u)))]) (by decide +kernel) rfl (Nat.le_of_ble_eq_true rfl) rfl ?_
  intro G hG hZ
  obtain ⟨lg, tp, pa, T, wt, to, ho, nw, kp, D, dz, X, gi, Mh, hR, hMh, hX, h36⟩ := hC
  obtain ⟨⟨hln, hlg⟩, ⟨hsz, hMo⟩, hla, hrd, hok1, hok2, hWO, hbg, hle, hth, hh1⟩ := hS
  have hx := CRA_x hR
  have hF : ∀ q, (rg q = 0 ∨ 10 < rg q) → f q = f q := fun _ _ => rfl
  have tL := tab_l hMo (srcN_l (ls := ls) (la := la) rd (fun j hj => (hlg j (by omega)).1)) hok1
  refine j_aload_n hG dX11_row_0 rfl rfl ?_
  refine j_get hG fX11_33 dX11_row_1 hx rfl ?_
  refine j_iload_n hG dX11_row_4 rfl rfl ?_
  obtain ⟨fs1, hh2⟩ := CTab_hd (CRA_c5 hR)
  refine j_callV (rest := []) hG vX11_159 dX11_row_5 (k_X9_has (i := t) (CRA_c5 hR) (by omega) (by omega)) hh2 rfl rfl (by decide) (by decide) (Nat.le_of_ble_eq_true rfl) rfl rfl (Nat.zero_le _) (Nat.zero_le _) ?_
  rintro _ _ ⟨⟨z3, rfl, hz4⟩, rfl⟩
  refine j_st (st' := [.int (iZ (z3))]) rfl ?_
  refine j_if_eq (tgt := 32) hG dX11_row_8 (by decide) (by omega) (fun c7 => ?_) (fun c7 => ?_)
  · -- taken at 8
    obtain ⟨-, e6⟩ := hz4.resolve_left (fun h => absurd h.1 (by omega))
    refine j_ldc (z := -2000000000) hG dX11_row_32 kX11_169 (by decide) ?_
    have eF : rowF (ls, lr, ln, M, sz, la, rd, mr, W, O, g, len, th, fa, re) t i u = (-2000000000, (ls, lr, ln, M, sz, la, rd, mr, W, O, g, len, th, fa, re)) := by
      unfold rowF
      dsimp only
      rw [if_neg (by intro z; have t8 := z.1; first | omega | (rw [t9] at *; dsimp only at *; omega))]
    exact j_iret hG hZ dX11_row_34 (Nat.zero_le _) (Nat.zero_le _) (⟨by rw [eF], by rw [eF]; exact ⟨lg, tp, pa, T, wt, to, ho, nw, kp, D, dz, X, gi, Mh, hR, hMh, hX, h36⟩, hF⟩)
  · -- on at 8
    obtain ⟨-, e5⟩ := hz4.resolve_right (fun h => absurd h.1 (by omega))
    have t9 : X t = (tab M (srcN ls lr la rd) t.toNat, 0) := by have z := (hX t.toNat (by omega)).1; rw [Int.toNat_of_nonneg (by omega)] at z; exact z
    have tL2 := (tL t.toNat (by omega)).2
    have tL3 : ((X t).1.length : Int) = ((tab M (srcN ls lr la rd) t.toNat).length : Int) := by rw [t9]
    refine j_iload_n hG dX11_row_11 rfl rfl ?_
    refine j_iconst hG dX11_row_12 ?_
    refine j_aload_n hG dX11_row_13 rfl rfl ?_
    refine j_get hG fX11_33 dX11_row_14 hx rfl ?_
    refine j_iload_n hG dX11_row_17 rfl rfl ?_
    obtain ⟨fs8, hh9⟩ := CTab_hd (CRA_c5 hR)
    refine j_callV (rest := [.int (iZ (0)), .int (iZ (i))]) hG vX11_162 dX11_row_18 (k_X9_rowsOf (i := t) (CRA_c5 hR) hsz (by omega)) hh9 rfl rfl (by decide) (by decide) (Nat.le_of_ble_eq_true rfl) rfl rfl (Nat.zero_le _) (Nat.zero_le _) ?_
    rintro _ _ ⟨r10, c11, rfl, hr12, rfl⟩
    refine j_st (st' := [.ref r10, .int (iZ (0)), .int (iZ (i))]) rfl ?_
    obtain ⟨fs13, hh14⟩ := rwAt_hd hr12
    refine j_callV (rest := [.int (iZ (0)), .int (iZ (i))]) hG vX11_166 dX11_row_21 (k_X8_size hr12) hh14 rfl rfl (by decide) (by decide) (Nat.le_of_ble_eq_true rfl) rfl rfl (Nat.zero_le _) (Nat.zero_le _) ?_
    rintro _ _ ⟨rfl, rfl⟩
    refine j_st (st' := [.int (iZ ((X t).1.length)), .int (iZ (0)), .int (iZ (i))]) rfl ?_
    refine j_iconst hG dX11_row_24 ?_
    refine j_isub hG dX11_row_25 ?_
    refine j_callS (rest := []) hG vX11_74 dX11_row_26 (c_X11_isWithin (a := i) (lo := 0) (hi := ((X t).1.length) - 1) (by omega) (by omega) (by omega)) rfl rfl (by decide) (by decide) (Nat.le_of_ble_eq_true rfl) rfl rfl (Nat.zero_le _) (Nat.zero_le _) ?_
    rintro _ _ ⟨⟨b15, rfl, hb16⟩, rfl⟩
    refine j_st (st' := [.int (iZ (b15))]) rfl ?_
    refine j_if_ne (tgt := 35) hG dX11_row_29 (by decide) (by omega) (fun c17 => ?_) (fun c17 => ?_)
    · -- taken at 29
      refine j_aload_n hG dX11_row_35 rfl rfl ?_
      refine j_get hG fX11_33 dX11_row_36 hx rfl ?_
      refine j_iload_n hG dX11_row_39 rfl rfl ?_
      obtain ⟨fs18, hh19⟩ := CTab_hd (CRA_c5 hR)
      refine j_callV (rest := []) hG vX11_162 dX11_row_40 (k_X9_rowsOf (i := t) (CRA_c5 hR) hsz (by omega)) hh19 rfl rfl (by decide) (by decide) (Nat.le_of_ble_eq_true rfl) rfl rfl (Nat.zero_le _) (Nat.zero_le _) ?_
      rintro _ _ ⟨r20, c21, rfl, hr22, rfl⟩
      refine j_st (st' := [.ref r20]) rfl ?_
      refine j_iload_n hG dX11_row_43 rfl rfl ?_
      obtain ⟨fs23, hh24⟩ := rwAt_hd hr22
      refine j_callV (rest := []) hG vX11_170 dX11_row_44 (k_X8_at (i := i) hr22 (by omega)) hh24 rfl rfl (by decide) (by decide) (Nat.le_of_ble_eq_true rfl) rfl rfl (Nat.zero_le _) (Nat.zero_le _) ?_
      rintro _ _ ⟨rfl, rfl⟩
      refine j_st (st' := [.long (lZ ((X t).1.getD i.toNat 0))]) rfl ?_
      refine j_iload_n hG dX11_row_47 rfl rfl ?_
      have ro : rOk ((X t).1.getD i.toNat 0) := by
        rw [t9]
        refine ((tL t.toNat (by omega)).1 _ ?_).1
        show (tab M (srcN ls lr la rd) t.toNat).getD i.toNat 0 ∈ _
        exact gd_mem (by omega)
      refine j_callS (rest := []) hG vX11_174 dX11_row_48 (c_X7_partOf (x := (X t).1.getD i.toNat 0) (u := u) ro (by omega)) rfl rfl (by decide) (by decide) (Nat.le_of_ble_eq_true rfl) rfl rfl (Nat.zero_le _) (Nat.zero_le _) ?_
      rintro _ _ ⟨rfl, rfl⟩
      refine j_st (st' := [.int (iZ (rP ((X t).1.getD i.toNat 0) u))]) rfl ?_
      rw [t9]
      have eF : rowF (ls, lr, ln, M, sz, la, rd, mr, W, O, g, len, th, fa, re) t i u = (rP ((tab M (srcN ls lr la rd) t.toNat).getD i.toNat 0) u, (ls, lr, ln, M, sz, la, rd, mr, W, O, g, len, th, fa, re)) := by
        unfold rowF
        dsimp only
        rw [if_pos (by rw [t9] at *; dsimp only at *; omega)]
      exact j_iret hG hZ dX11_row_51 (Nat.zero_le _) (Nat.zero_le _) (⟨by rw [eF], by rw [eF]; exact ⟨lg, tp, pa, T, wt, to, ho, nw, kp, D, dz, X, gi, Mh, hR, hMh, hX, h36⟩, hF⟩)
    · -- on at 29
      refine j_ldc (z := -2000000000) hG dX11_row_32 kX11_169 (by decide) ?_
      have eF : rowF (ls, lr, ln, M, sz, la, rd, mr, W, O, g, len, th, fa, re) t i u = (-2000000000, (ls, lr, ln, M, sz, la, rd, mr, W, O, g, len, th, fa, re)) := by
        unfold rowF
        dsimp only
        rw [if_neg (by intro z; have t8 := z.1; first | omega | (rw [t9] at *; dsimp only at *; omega))]
      exact j_iret hG hZ dX11_row_34 (Nat.zero_le _) (Nat.zero_le _) (⟨by rw [eF], by rw [eF]; exact ⟨lg, tp, pa, T, wt, to, ho, nw, kp, D, dz, X, gi, Mh, hR, hMh, hX, h36⟩, hF⟩)
theorem c_X11_out {l : Launch} {E : JE} {f : Hp} {rg : Nat → Nat} {x : Nat} {ls : Int → Int} {lr : Int → Int} {ln : Nat} {M : Int → Int → Int} {sz : Nat} {la : Int} {rd : Nat} {mr : Nat} {W : List Int} {O : List Int} {g : Int → Int} {len : Int} {th : Int → Int} {fa : Int} {re : Int} {i : Int} {u : Int}  (hC : CR E rg f x (ls, lr, ln, M, sz, la, rd, mr, W, O, g, len, th, fa, re)) (hS : SOk (ls, lr, ln, M, sz, la, rd, mr, W, O, g, len, th, fa, re)) (hi_ : -2147483648 ≤ i ∧ i < 2147483648) (hu_ : -2147483648 ≤ u ∧ u < 2147483648) : KX11_out l E [.ref x, .int (iZ (i)), .int (iZ (u))] f (fun v f' => v = some (.int (iZ (outF (ls, lr, ln, M, sz, la, rd, mr, W, O, g, len, th, fa, re) i u).1)) ∧ CR E rg f' x (outF (ls, lr, ln, M, sz, la, rd, mr, W, O, g, len, th, fa, re) i u).2 ∧ ∀ q, (rg q = 0 ∨ 10 < rg q) → f' q = f q) := by
  refine ct_of (own := RX11) (lv := [(0, .ref x), (1, .int (iZ (i))), (2, .int (iZ (u)))]) (by decide +kernel) rfl (Nat.le_of_ble_eq_true rfl) rfl ?_
  intro G hG hZ
  obtain ⟨lg, tp, pa, T, wt, to, ho, nw, kp, D, dz, X, gi, Mh, hR, hMh, hX, h36⟩ := hC
  obtain ⟨⟨hln, hlg⟩, ⟨hsz, hMo⟩, hla, hrd, hok1, hok2, hWO, hbg, hle, hth, hh1⟩ := hS
  have hx := CRA_x hR
  have hF : ∀ q, (rg q = 0 ∨ 10 < rg q) → f q = f q := fun _ _ => rfl
  refine j_iload_n hG dX11_out_0 rfl rfl ?_
  refine j_iconst hG dX11_out_1 ?_
  refine j_icmp_ne (tgt := 17) hG dX11_out_2 (by decide) (by omega) (by omega) (fun c1 => ?_) (fun c1 => ?_)
  · -- taken at 2
    refine j_aload_n hG dX11_out_17 rfl rfl ?_
    refine j_get hG fX11_44 dX11_out_18 hx rfl ?_
    refine j_iload_n hG dX11_out_21 rfl rfl ?_
    refine j_iload_n hG dX11_out_22 rfl rfl ?_
    obtain ⟨fs2, hh3⟩ := CChg_hd (CRA_c7 hR)
    refine j_callV (rest := []) hG vX11_178 dX11_out_23 (k_X0_partOf (i := i) (u := u) (CRA_c7 hR) (by omega) (by omega)) hh3 rfl rfl (by decide) (by decide) (Nat.le_of_ble_eq_true rfl) rfl rfl (Nat.zero_le _) (Nat.zero_le _) ?_
    rintro _ _ ⟨rfl, rfl⟩
    refine j_st (st' := [.int (iZ (chP O i u))]) rfl ?_
    have eF : outF (ls, lr, ln, M, sz, la, rd, mr, W, O, g, len, th, fa, re) i u = (chP O i u, (ls, lr, ln, M, sz, la, rd, mr, W, O, g, len, th, fa, re)) := by
      unfold outF
      dsimp only
      rw [if_neg (by omega)]
    exact j_iret hG hZ dX11_out_26 (Nat.zero_le _) (Nat.zero_le _) (⟨by rw [eF], by rw [eF]; exact ⟨lg, tp, pa, T, wt, to, ho, nw, kp, D, dz, X, gi, Mh, hR, hMh, hX, h36⟩, hF⟩)
  · -- on at 2
    refine j_iload_n hG dX11_out_5 rfl rfl ?_
    refine j_if_ne (tgt := 17) hG dX11_out_6 (by decide) (by omega) (fun c4 => ?_) (fun c4 => ?_)
    · -- taken at 6
      refine j_aload_n hG dX11_out_17 rfl rfl ?_
      refine j_get hG fX11_44 dX11_out_18 hx rfl ?_
      refine j_iload_n hG dX11_out_21 rfl rfl ?_
      refine j_iload_n hG dX11_out_22 rfl rfl ?_
      obtain ⟨fs5, hh6⟩ := CChg_hd (CRA_c7 hR)
      refine j_callV (rest := []) hG vX11_178 dX11_out_23 (k_X0_partOf (i := i) (u := u) (CRA_c7 hR) (by omega) (by omega)) hh6 rfl rfl (by decide) (by decide) (Nat.le_of_ble_eq_true rfl) rfl rfl (Nat.zero_le _) (Nat.zero_le _) ?_
      rintro _ _ ⟨rfl, rfl⟩
      refine j_st (st' := [.int (iZ (chP O i u))]) rfl ?_
      have eF : outF (ls, lr, ln, M, sz, la, rd, mr, W, O, g, len, th, fa, re) i u = (chP O i u, (ls, lr, ln, M, sz, la, rd, mr, W, O, g, len, th, fa, re)) := by
        unfold outF
        dsimp only
        rw [if_neg (by omega)]
      exact j_iret hG hZ dX11_out_26 (Nat.zero_le _) (Nat.zero_le _) (⟨by rw [eF], by rw [eF]; exact ⟨lg, tp, pa, T, wt, to, ho, nw, kp, D, dz, X, gi, Mh, hR, hMh, hX, h36⟩, hF⟩)
    · -- on at 6
      refine j_aload_n hG dX11_out_9 rfl rfl ?_
      refine j_get hG fX11_44 dX11_out_10 hx rfl ?_
      obtain ⟨fs7, hh8⟩ := CChg_hd (CRA_c7 hR)
      refine j_callV (rest := []) hG vX11_155 dX11_out_13 (k_X0_size  (CRA_c7 hR) ) hh8 rfl rfl (by decide) (by decide) (Nat.le_of_ble_eq_true rfl) rfl rfl (Nat.zero_le _) (Nat.zero_le _) ?_
      rintro _ _ ⟨rfl, rfl⟩
      refine j_st (st' := [.int (iZ ((O.length : Int)))]) rfl ?_
      have eF : outF (ls, lr, ln, M, sz, la, rd, mr, W, O, g, len, th, fa, re) i u = ((O.length : Int), (ls, lr, ln, M, sz, la, rd, mr, W, O, g, len, th, fa, re)) := by
        unfold outF
        dsimp only
        rw [if_pos (by omega)]
      exact j_iret hG hZ dX11_out_16 (Nat.zero_le _) (Nat.zero_le _) (⟨by rw [eF], by rw [eF]; exact ⟨lg, tp, pa, T, wt, to, ho, nw, kp, D, dz, X, gi, Mh, hR, hMh, hX, h36⟩, hF⟩)
theorem c_X11_host {l : Launch} {E : JE} {f : Hp} {rg : Nat → Nat} {x : Nat} {ls : Int → Int} {lr : Int → Int} {ln : Nat} {M : Int → Int → Int} {sz : Nat} {la : Int} {rd : Nat} {mr : Nat} {W : List Int} {O : List Int} {g : Int → Int} {len : Int} {th : Int → Int} {fa : Int} {re : Int} {h : Int} {z : Int}  (hC : CR E rg f x (ls, lr, ln, M, sz, la, rd, mr, W, O, g, len, th, fa, re)) (hS : SOk (ls, lr, ln, M, sz, la, rd, mr, W, O, g, len, th, fa, re)) (hh_ : -2147483648 ≤ h ∧ h < 2147483648) (hz_ : -2147483648 ≤ z ∧ z < 2147483648) (hz01 : z = 0 ∨ z = 1) : KX11_host l E [.ref x, .int (iZ (h)), .int (iZ (z))] f (fun v f' => v = some (.int (iZ (hostF (ls, lr, ln, M, sz, la, rd, mr, W, O, g, len, th, fa, re) h z).1)) ∧ CR E rg f' x (hostF (ls, lr, ln, M, sz, la, rd, mr, W, O, g, len, th, fa, re) h z).2 ∧ ∀ q, (rg q = 0 ∨ 10 < rg q) → f' q = f q) := by
  refine ct_of (own := RX11) (lv := [(0, .ref x), (1, .int (iZ (h))), (2, .int (iZ (z)))]) (by decide +kernel) rfl (Nat.le_of_ble_eq_true rfl) rfl ?_
  intro G hG hZ
  obtain ⟨lg, tp, pa, T, wt, to, ho, nw, kp, D, dz, X, gi, Mh, hR, hMh, hX, h36⟩ := hC
  obtain ⟨⟨hln, hlg⟩, ⟨hsz, hMo⟩, hla, hrd, hok1, hok2, hWO, hbg, hle, hth, hh1⟩ := hS
  have hx := CRA_x hR
  have hF : ∀ q, (rg q = 0 ∨ 10 < rg q) → f q = f q := fun _ _ => rfl
  have tL := tab_l hMo (srcN_l (ls := ls) (la := la) rd (fun j hj => (hlg j (by omega)).1)) hok1
  have hN9 := hN_rng hth
  refine j_iload_n hG dX11_host_0 rfl rfl ?_
  refine j_iconst hG dX11_host_1 ?_
  refine j_bipush hG dX11_host_2 (by decide) ?_
  refine j_callS (rest := []) hG vX11_74 dX11_host_4 (c_X11_isWithin (a := h) (lo := 0) (hi := 7) (by omega) (by omega) (by omega)) rfl rfl (by decide) (by decide) (Nat.le_of_ble_eq_true rfl) rfl rfl (Nat.zero_le _) (Nat.zero_le _) ?_
  rintro _ _ ⟨⟨b1, rfl, hb2⟩, rfl⟩
  refine j_st (st' := [.int (iZ (b1))]) rfl ?_
  refine j_if_ne (tgt := 16) hG dX11_host_7 (by decide) (by omega) (fun c3 => ?_) (fun c3 => ?_)
  · -- taken at 7
    refine j_aload_n hG dX11_host_16 rfl rfl ?_
    refine j_get hG fX11_50 dX11_host_17 hx rfl ?_
    refine j_iload_n hG dX11_host_20 rfl rfl ?_
    obtain ⟨fs4, hh5⟩ := CHos_hd (CRA_c8 hR)
    refine j_callV (rest := []) hG vX11_180 dX11_host_21 (k_X1_has (h0 := h) (CRA_c8 hR) hth (by omega)) hh5 rfl rfl (by decide) (by decide) (Nat.le_of_ble_eq_true rfl) rfl rfl (Nat.zero_le _) (Nat.zero_le _) ?_
    rintro _ _ ⟨⟨z6, rfl, hz7⟩, rfl⟩
    refine j_st (st' := [.int (iZ (z6))]) rfl ?_
    have z9 : z6 = th h := by have := hth h (by omega) (by omega); rcases hz7 with q | q <;> omega
    have z8 := hth h (by omega) (by omega)
    refine j_iload_n hG dX11_host_24 rfl rfl ?_
    refine j_icmp_ne (tgt := 35) hG dX11_host_25 (by decide) (by omega) (by omega) (fun c10 => ?_) (fun c10 => ?_)
    · -- taken at 25
      refine j_iload_n hG dX11_host_35 rfl rfl ?_
      refine j_if_ne (tgt := 57) hG dX11_host_36 (by decide) (by omega) (fun c11 => ?_) (fun c11 => ?_)
      · -- taken at 36
        refine j_aload_n hG dX11_host_57 rfl rfl ?_
        refine j_aload_n hG dX11_host_58 rfl rfl ?_
        refine j_get hG fX11_33 dX11_host_59 hx rfl ?_
        refine j_aload_n hG dX11_host_62 rfl rfl ?_
        refine j_get hG fX11_50 dX11_host_63 hx rfl ?_
        refine j_iload_n hG dX11_host_66 rfl rfl ?_
        refine j_iload_n hG dX11_host_67 rfl rfl ?_
        obtain ⟨fs12, hh13⟩ := CHos_hd (CRA_c8 hR)
        refine j_callV (rest := [.ref T, .ref x]) hG vX11_182 dX11_host_68 (k_X1_change (h0 := h) (z := z) (CRA_c8 hR) hth (by omega) (by omega) (by omega) hh1) hh13 rfl rfl (by decide) (by decide) (Nat.le_of_ble_eq_true rfl) rfl rfl (Nat.zero_le _) (Nat.zero_le _) ?_
        rintro _ f18 ⟨y14, rfl, hy15, hc16, fr17⟩
        refine j_st (st' := [.int (y14), .ref T, .ref x]) rfl ?_
        have hR19 := CRA_s8 hR hc16 fr17
        have hF20 : ∀ q, (rg q = 0 ∨ 10 < rg q) → f18 q = f q := fun q hq => (fr17 q (by omega)).trans (hF q hq)
        obtain ⟨fs21, hh22⟩ := CTab_hd (CRA_c5 hR19)
        refine j_callV (rest := [.ref x]) hG vX11_186 dX11_host_71 (k_X9_countOfKeys (x := y14) (CRA_c5 hR19) hsz) hh22 rfl rfl (by decide) (by decide) (Nat.le_of_ble_eq_true rfl) rfl rfl (Nat.zero_le _) (Nat.zero_le _) ?_
        rintro _ _ ⟨rfl, rfl⟩
        refine j_st (st' := [.int (iZ (sumT (fun k => bt y14 k.toNat) (fun i => (X i).1) sz)), .ref x]) rfl ?_
        refine j_callV (rest := []) hG vX11_96 dX11_host_74 (c_X11_grant (c := sumT (fun k => bt y14 k.toNat) (fun i => (X i).1) sz) (CRA_x hR19)) (CRA_x hR19) rfl rfl (by decide) (by decide) (Nat.le_of_ble_eq_true rfl) rfl rfl (Nat.zero_le _) (Nat.zero_le _) ?_
        rintro _ f25 ⟨rfl, hn23, fr24⟩
        refine j_st (st' := [.int (iZ (sumT (fun k => bt y14 k.toNat) (fun i => (X i).1) sz))]) rfl ?_
        have hR26 := CRA_s1 hR19 hn23 fr24
        have hF27 : ∀ q, (rg q = 0 ∨ 10 < rg q) → f25 q = f q := fun q hq => (fr24 q (fun e => by rw [e, hR19.2.1] at hq; omega)).trans (hF20 q hq)
        have s9 : sumT (fun k => bt y14 k.toNat) (fun i => (X i).1) sz = sumT (fun k => decide (ownr (fup th h z) k ≠ ownr th k)) (fun i => tab M (srcN ls lr la rd) i.toNat) sz := sumT_congr sz (fun t ht => ⟨by rw [(hX t ht).1]; rfl, fun x hx => by have k9 := rK_rng ((tL t ht).1 x hx).1; have := hy15 (rK x) k9.1 k9.2; exact this⟩)
        rw [s9]
        have eF : hostF (ls, lr, ln, M, sz, la, rd, mr, W, O, g, len, th, fa, re) h z = (sumT (fun k => decide (ownr (fup th h z) k ≠ ownr th k)) (fun i => tab M (srcN ls lr la rd) i.toNat) sz, (ls, lr, ln, M, sz, la, rd, mr, W, O, g, len, fup th h z, fa, 0)) := by
          unfold hostF
          dsimp only
          rw [if_pos (by omega), if_neg (by omega), if_neg (by omega)]
        exact j_iret hG hZ dX11_host_77 (Nat.zero_le _) (Nat.zero_le _) (⟨by rw [eF], by rw [eF]; exact ⟨lg, tp, pa, T, wt, to, ho, nw, kp, D, dz, X, gi, Mh, hR26, hMh, hX, h36⟩, hF27⟩)
      · -- on at 36
        refine j_aload_n hG dX11_host_39 rfl rfl ?_
        refine j_get hG fX11_50 dX11_host_40 hx rfl ?_
        obtain ⟨fs28, hh29⟩ := CHos_hd (CRA_c8 hR)
        refine j_callV (rest := []) hG vX11_181 dX11_host_43 (k_X1_size  (CRA_c8 hR) ) hh29 rfl rfl (by decide) (by decide) (Nat.le_of_ble_eq_true rfl) rfl rfl (Nat.zero_le _) (Nat.zero_le _) ?_
        rintro _ _ ⟨rfl, rfl⟩
        refine j_st (st' := [.int (iZ (hN th))]) rfl ?_
        refine j_iconst hG dX11_host_46 ?_
        refine j_icmp_ne (tgt := 57) hG dX11_host_47 (by decide) (by omega) (by omega) (fun c30 => ?_) (fun c30 => ?_)
        · -- taken at 47
          refine j_aload_n hG dX11_host_57 rfl rfl ?_
          refine j_aload_n hG dX11_host_58 rfl rfl ?_
          refine j_get hG fX11_33 dX11_host_59 hx rfl ?_
          refine j_aload_n hG dX11_host_62 rfl rfl ?_
          refine j_get hG fX11_50 dX11_host_63 hx rfl ?_
          refine j_iload_n hG dX11_host_66 rfl rfl ?_
          refine j_iload_n hG dX11_host_67 rfl rfl ?_
          obtain ⟨fs31, hh32⟩ := CHos_hd (CRA_c8 hR)
          refine j_callV (rest := [.ref T, .ref x]) hG vX11_182 dX11_host_68 (k_X1_change (h0 := h) (z := z) (CRA_c8 hR) hth (by omega) (by omega) (by omega) hh1) hh32 rfl rfl (by decide) (by decide) (Nat.le_of_ble_eq_true rfl) rfl rfl (Nat.zero_le _) (Nat.zero_le _) ?_
          rintro _ f37 ⟨y33, rfl, hy34, hc35, fr36⟩
          refine j_st (st' := [.int (y33), .ref T, .ref x]) rfl ?_
          have hR38 := CRA_s8 hR hc35 fr36
          have hF39 : ∀ q, (rg q = 0 ∨ 10 < rg q) → f37 q = f q := fun q hq => (fr36 q (by omega)).trans (hF q hq)
          obtain ⟨fs40, hh41⟩ := CTab_hd (CRA_c5 hR38)
          refine j_callV (rest := [.ref x]) hG vX11_186 dX11_host_71 (k_X9_countOfKeys (x := y33) (CRA_c5 hR38) hsz) hh41 rfl rfl (by decide) (by decide) (Nat.le_of_ble_eq_true rfl) rfl rfl (Nat.zero_le _) (Nat.zero_le _) ?_
          rintro _ _ ⟨rfl, rfl⟩
          refine j_st (st' := [.int (iZ (sumT (fun k => bt y33 k.toNat) (fun i => (X i).1) sz)), .ref x]) rfl ?_
          refine j_callV (rest := []) hG vX11_96 dX11_host_74 (c_X11_grant (c := sumT (fun k => bt y33 k.toNat) (fun i => (X i).1) sz) (CRA_x hR38)) (CRA_x hR38) rfl rfl (by decide) (by decide) (Nat.le_of_ble_eq_true rfl) rfl rfl (Nat.zero_le _) (Nat.zero_le _) ?_
          rintro _ f44 ⟨rfl, hn42, fr43⟩
          refine j_st (st' := [.int (iZ (sumT (fun k => bt y33 k.toNat) (fun i => (X i).1) sz))]) rfl ?_
          have hR45 := CRA_s1 hR38 hn42 fr43
          have hF46 : ∀ q, (rg q = 0 ∨ 10 < rg q) → f44 q = f q := fun q hq => (fr43 q (fun e => by rw [e, hR38.2.1] at hq; omega)).trans (hF39 q hq)
          have s9 : sumT (fun k => bt y33 k.toNat) (fun i => (X i).1) sz = sumT (fun k => decide (ownr (fup th h z) k ≠ ownr th k)) (fun i => tab M (srcN ls lr la rd) i.toNat) sz := sumT_congr sz (fun t ht => ⟨by rw [(hX t ht).1]; rfl, fun x hx => by have k9 := rK_rng ((tL t ht).1 x hx).1; have := hy34 (rK x) k9.1 k9.2; exact this⟩)
          rw [s9]
          have eF : hostF (ls, lr, ln, M, sz, la, rd, mr, W, O, g, len, th, fa, re) h z = (sumT (fun k => decide (ownr (fup th h z) k ≠ ownr th k)) (fun i => tab M (srcN ls lr la rd) i.toNat) sz, (ls, lr, ln, M, sz, la, rd, mr, W, O, g, len, fup th h z, fa, 0)) := by
            unfold hostF
            dsimp only
            rw [if_pos (by omega), if_neg (by omega), if_neg (by omega)]
          exact j_iret hG hZ dX11_host_77 (Nat.zero_le _) (Nat.zero_le _) (⟨by rw [eF], by rw [eF]; exact ⟨lg, tp, pa, T, wt, to, ho, nw, kp, D, dz, X, gi, Mh, hR45, hMh, hX, h36⟩, hF46⟩)
        · -- on at 47
          refine j_aload_n hG dX11_host_50 rfl rfl ?_
          refine j_bipush hG dX11_host_51 (by decide) ?_
          refine j_callV (rest := []) hG vX11_78 dX11_host_53 (c_X11_refuse (c := -5) hx) hx rfl rfl (by decide) (by decide) (Nat.le_of_ble_eq_true rfl) rfl rfl (Nat.zero_le _) (Nat.zero_le _) ?_
          rintro _ f49 ⟨rfl, hn47, fr48⟩
          refine j_st (st' := [.int (iZ (-5))]) rfl ?_
          have hR50 := CRA_s1 hR hn47 fr48
          have hF51 : ∀ q, (rg q = 0 ∨ 10 < rg q) → f49 q = f q := fun q hq => (fr48 q (fun e => by rw [e, hR.2.1] at hq; omega)).trans (hF q hq)
          have eF : hostF (ls, lr, ln, M, sz, la, rd, mr, W, O, g, len, th, fa, re) h z = (-5, (ls, lr, ln, M, sz, la, rd, mr, W, O, g, len, th, fa, -5)) := by
            unfold hostF
            dsimp only
            rw [if_pos (by omega), if_neg (by omega), if_pos (by omega)]
          exact j_iret hG hZ dX11_host_56 (Nat.zero_le _) (Nat.zero_le _) (⟨by rw [eF], by rw [eF]; exact ⟨lg, tp, pa, T, wt, to, ho, nw, kp, D, dz, X, gi, Mh, hR50, hMh, hX, h36⟩, hF51⟩)
    · -- on at 25
      refine j_aload_n hG dX11_host_28 rfl rfl ?_
      refine j_bipush hG dX11_host_29 (by decide) ?_
      refine j_callV (rest := []) hG vX11_78 dX11_host_31 (c_X11_refuse (c := -4) hx) hx rfl rfl (by decide) (by decide) (Nat.le_of_ble_eq_true rfl) rfl rfl (Nat.zero_le _) (Nat.zero_le _) ?_
      rintro _ f54 ⟨rfl, hn52, fr53⟩
      refine j_st (st' := [.int (iZ (-4))]) rfl ?_
      have hR55 := CRA_s1 hR hn52 fr53
      have hF56 : ∀ q, (rg q = 0 ∨ 10 < rg q) → f54 q = f q := fun q hq => (fr53 q (fun e => by rw [e, hR.2.1] at hq; omega)).trans (hF q hq)
      have eF : hostF (ls, lr, ln, M, sz, la, rd, mr, W, O, g, len, th, fa, re) h z = (-4, (ls, lr, ln, M, sz, la, rd, mr, W, O, g, len, th, fa, -4)) := by
        unfold hostF
        dsimp only
        rw [if_pos (by omega), if_pos (by omega)]
      exact j_iret hG hZ dX11_host_34 (Nat.zero_le _) (Nat.zero_le _) (⟨by rw [eF], by rw [eF]; exact ⟨lg, tp, pa, T, wt, to, ho, nw, kp, D, dz, X, gi, Mh, hR55, hMh, hX, h36⟩, hF56⟩)
  · -- on at 7
    refine j_aload_n hG dX11_host_10 rfl rfl ?_
    refine j_iconst hG dX11_host_11 ?_
    refine j_callV (rest := []) hG vX11_78 dX11_host_12 (c_X11_refuse (c := -1) hx) hx rfl rfl (by decide) (by decide) (Nat.le_of_ble_eq_true rfl) rfl rfl (Nat.zero_le _) (Nat.zero_le _) ?_
    rintro _ f59 ⟨rfl, hn57, fr58⟩
    refine j_st (st' := [.int (iZ (-1))]) rfl ?_
    have hR60 := CRA_s1 hR hn57 fr58
    have hF61 : ∀ q, (rg q = 0 ∨ 10 < rg q) → f59 q = f q := fun q hq => (fr58 q (fun e => by rw [e, hR.2.1] at hq; omega)).trans (hF q hq)
    have eF : hostF (ls, lr, ln, M, sz, la, rd, mr, W, O, g, len, th, fa, re) h z = (-1, (ls, lr, ln, M, sz, la, rd, mr, W, O, g, len, th, fa, -1)) := by
      unfold hostF
      dsimp only
      rw [if_neg (by omega)]
    exact j_iret hG hZ dX11_host_15 (Nat.zero_le _) (Nat.zero_le _) (⟨by rw [eF], by rw [eF]; exact ⟨lg, tp, pa, T, wt, to, ho, nw, kp, D, dz, X, gi, Mh, hR60, hMh, hX, h36⟩, hF61⟩)
theorem c_X11_owns {l : Launch} {E : JE} {f : Hp} {rg : Nat → Nat} {x : Nat} {ls : Int → Int} {lr : Int → Int} {ln : Nat} {M : Int → Int → Int} {sz : Nat} {la : Int} {rd : Nat} {mr : Nat} {W : List Int} {O : List Int} {g : Int → Int} {len : Int} {th : Int → Int} {fa : Int} {re : Int} {h : Int}  (hC : CR E rg f x (ls, lr, ln, M, sz, la, rd, mr, W, O, g, len, th, fa, re)) (hS : SOk (ls, lr, ln, M, sz, la, rd, mr, W, O, g, len, th, fa, re)) (hh_ : -2147483648 ≤ h ∧ h < 2147483648) : KX11_owns l E [.ref x, .int (iZ (h))] f (fun v f' => v = some (.int (iZ (ownsF (ls, lr, ln, M, sz, la, rd, mr, W, O, g, len, th, fa, re) h).1)) ∧ CR E rg f' x (ownsF (ls, lr, ln, M, sz, la, rd, mr, W, O, g, len, th, fa, re) h).2 ∧ ∀ q, (rg q = 0 ∨ 10 < rg q) → f' q = f q) := by
  refine ct_of (own := RX11) (lv := [(0, .ref x), (1, .int (iZ (h)))]) (by decide +kernel) rfl (Nat.le_of_ble_eq_true rfl) rfl ?_
  intro G hG hZ
  obtain ⟨lg, tp, pa, T, wt, to, ho, nw, kp, D, dz, X, gi, Mh, hR, hMh, hX, h36⟩ := hC
  obtain ⟨⟨hln, hlg⟩, ⟨hsz, hMo⟩, hla, hrd, hok1, hok2, hWO, hbg, hle, hth, hh1⟩ := hS
  have hx := CRA_x hR
  have hF : ∀ q, (rg q = 0 ∨ 10 < rg q) → f q = f q := fun _ _ => rfl
  have tL := tab_l hMo (srcN_l (ls := ls) (la := la) rd (fun j hj => (hlg j (by omega)).1)) hok1
  refine j_aload_n hG dX11_owns_0 rfl rfl ?_
  refine j_get hG fX11_50 dX11_owns_1 hx rfl ?_
  refine j_iload_n hG dX11_owns_4 rfl rfl ?_
  obtain ⟨fs1, hh2⟩ := CHos_hd (CRA_c8 hR)
  refine j_callV (rest := []) hG vX11_180 dX11_owns_5 (k_X1_has (h0 := h) (CRA_c8 hR) hth (by omega)) hh2 rfl rfl (by decide) (by decide) (Nat.le_of_ble_eq_true rfl) rfl rfl (Nat.zero_le _) (Nat.zero_le _) ?_
  rintro _ _ ⟨⟨z3, rfl, hz4⟩, rfl⟩
  refine j_st (st' := [.int (iZ (z3))]) rfl ?_
  refine j_if_eq (tgt := 29) hG dX11_owns_8 (by decide) (by omega) (fun c7 => ?_) (fun c7 => ?_)
  · -- taken at 8
    obtain ⟨-, e6⟩ := hz4.resolve_left (fun h => absurd h.1 (by omega))
    refine j_iconst hG dX11_owns_29 ?_
    have eF : ownsF (ls, lr, ln, M, sz, la, rd, mr, W, O, g, len, th, fa, re) h = (-1, (ls, lr, ln, M, sz, la, rd, mr, W, O, g, len, th, fa, re)) := by
      unfold ownsF
      dsimp only
      rw [if_neg (by omega)]
    exact j_iret hG hZ dX11_owns_30 (Nat.zero_le _) (Nat.zero_le _) (⟨by rw [eF], by rw [eF]; exact ⟨lg, tp, pa, T, wt, to, ho, nw, kp, D, dz, X, gi, Mh, hR, hMh, hX, h36⟩, hF⟩)
  · -- on at 8
    obtain ⟨-, e5⟩ := hz4.resolve_right (fun h => absurd h.1 (by omega))
    refine j_aload_n hG dX11_owns_11 rfl rfl ?_
    refine j_get hG fX11_33 dX11_owns_12 hx rfl ?_
    refine j_aload_n hG dX11_owns_15 rfl rfl ?_
    refine j_get hG fX11_50 dX11_owns_16 hx rfl ?_
    refine j_iload_n hG dX11_owns_19 rfl rfl ?_
    obtain ⟨fs8, hh9⟩ := CHos_hd (CRA_c8 hR)
    refine j_callV (rest := [.ref T]) hG vX11_192 dX11_owns_20 (k_X1_keysOf (h0 := h) (CRA_c8 hR) (by omega) hh1) hh9 rfl rfl (by decide) (by decide) (Nat.le_of_ble_eq_true rfl) rfl rfl (Nat.zero_le _) (Nat.zero_le _) ?_
    rintro _ _ ⟨⟨y10, rfl, hy11⟩, rfl⟩
    refine j_st (st' := [.int (y10), .ref T]) rfl ?_
    obtain ⟨fs12, hh13⟩ := CTab_hd (CRA_c5 hR)
    refine j_callV (rest := []) hG vX11_186 dX11_owns_23 (k_X9_countOfKeys (x := y10) (CRA_c5 hR) hsz) hh13 rfl rfl (by decide) (by decide) (Nat.le_of_ble_eq_true rfl) rfl rfl (Nat.zero_le _) (Nat.zero_le _) ?_
    rintro _ _ ⟨rfl, rfl⟩
    refine j_st (st' := [.int (iZ (sumT (fun k => bt y10 k.toNat) (fun i => (X i).1) sz))]) rfl ?_
    refine j_goto (tgt := 30) hG dX11_owns_26 (by decide) ?_
    have s9 : sumT (fun k => bt y10 k.toNat) (fun i => (X i).1) sz = sumT (fun k => decide (ownr th k = h)) (fun i => tab M (srcN ls lr la rd) i.toNat) sz := sumT_congr sz (fun t ht => ⟨by rw [(hX t ht).1]; rfl, fun x hx => by have k9 := rK_rng ((tL t ht).1 x hx).1; have := hy11 (rK x) k9.1 k9.2; exact this⟩)
    rw [s9]
    have eF : ownsF (ls, lr, ln, M, sz, la, rd, mr, W, O, g, len, th, fa, re) h = (sumT (fun k => decide (ownr th k = h)) (fun i => tab M (srcN ls lr la rd) i.toNat) sz, (ls, lr, ln, M, sz, la, rd, mr, W, O, g, len, th, fa, re)) := by
      unfold ownsF
      dsimp only
      rw [if_pos (by omega)]
    exact j_iret hG hZ dX11_owns_30 (Nat.zero_le _) (Nat.zero_le _) (⟨by rw [eF], by rw [eF]; exact ⟨lg, tp, pa, T, wt, to, ho, nw, kp, D, dz, X, gi, Mh, hR, hMh, hX, h36⟩, hF⟩)
theorem c_X11_count {l : Launch} {E : JE} {f : Hp} {rg : Nat → Nat} {x : Nat} {ls : Int → Int} {lr : Int → Int} {ln : Nat} {M : Int → Int → Int} {sz : Nat} {la : Int} {rd : Nat} {mr : Nat} {W : List Int} {O : List Int} {g : Int → Int} {len : Int} {th : Int → Int} {fa : Int} {re : Int} {u : Int}  (hC : CR E rg f x (ls, lr, ln, M, sz, la, rd, mr, W, O, g, len, th, fa, re)) (hS : SOk (ls, lr, ln, M, sz, la, rd, mr, W, O, g, len, th, fa, re)) (hu_ : -2147483648 ≤ u ∧ u < 2147483648) : KX11_count l E [.ref x, .int (iZ (u))] f (fun v f' => v = some (.int (iZ (countF (ls, lr, ln, M, sz, la, rd, mr, W, O, g, len, th, fa, re) u).1)) ∧ CR E rg f' x (countF (ls, lr, ln, M, sz, la, rd, mr, W, O, g, len, th, fa, re) u).2 ∧ ∀ q, (rg q = 0 ∨ 10 < rg q) → f' q = f q) := by
  refine ct_of (own := RX11) (lv := [(0, .ref x), (1, .int (iZ (u)))]) (by decide +kernel) rfl (Nat.le_of_ble_eq_true rfl) rfl ?_
  intro G hG hZ
  obtain ⟨lg, tp, pa, T, wt, to, ho, nw, kp, D, dz, X, gi, Mh, hR, hMh, hX, h36⟩ := hC
  obtain ⟨⟨hln, hlg⟩, ⟨hsz, hMo⟩, hla, hrd, hok1, hok2, hWO, hbg, hle, hth, hh1⟩ := hS
  have hx := CRA_x hR
  have hF : ∀ q, (rg q = 0 ∨ 10 < rg q) → f q = f q := fun _ _ => rfl
  refine j_iload_n hG dX11_count_0 rfl rfl ?_
  rcases (show (u < 0 ∨ 8 < u) ∨ u = 0 ∨ u = 1 ∨ u = 2 ∨ u = 3 ∨ u = 4 ∨ u = 5 ∨ u = 6 ∨ u = 7 ∨ u = 8 by omega) with c1 | c1 | c1 | c1 | c1 | c1 | c1 | c1 | c1 | c1
  · -- case None at 1
    refine j_tswOut (tgt := 124) hG dX11_count_1 c1 (by omega) (by decide) ?_
    refine j_iconst hG dX11_count_124 ?_
    exact j_iret hG hZ dX11_count_125 (Nat.zero_le _) (Nat.zero_le _) (⟨by unfold countF; dsimp only; first | (subst u; rfl) | (repeat rw [if_neg (by omega)]), ⟨lg, tp, pa, T, wt, to, ho, nw, kp, D, dz, X, gi, Mh, hR, hMh, hX, h36⟩, hF⟩)
  · -- case 0 at 1
    refine j_tswIn (tgt := 52) (off := 51) hG (0) dX11_count_1 c1 (by decide) (by decide) rfl (by decide) ?_
    refine j_aload_n hG dX11_count_52 rfl rfl ?_
    refine j_get hG fX11_10 dX11_count_53 hx rfl ?_
    obtain ⟨fs2, hh3⟩ := CLog_hd (CRA_c2 hR)
    refine j_callV (rest := []) hG vX11_92 dX11_count_56 (k_X2_size  (CRA_c2 hR) ) hh3 rfl rfl (by decide) (by decide) (Nat.le_of_ble_eq_true rfl) rfl rfl (Nat.zero_le _) (Nat.zero_le _) ?_
    rintro _ _ ⟨rfl, rfl⟩
    refine j_st (st' := [.int (iZ ((ln : Int)))]) rfl ?_
    exact j_iret hG hZ dX11_count_59 (Nat.zero_le _) (Nat.zero_le _) (⟨by unfold countF; dsimp only; first | (subst u; rfl) | (repeat rw [if_neg (by omega)]), ⟨lg, tp, pa, T, wt, to, ho, nw, kp, D, dz, X, gi, Mh, hR, hMh, hX, h36⟩, hF⟩)
  · -- case 1 at 1
    refine j_tswIn (tgt := 60) (off := 59) hG (1) dX11_count_1 c1 (by decide) (by decide) rfl (by decide) ?_
    refine j_aload_n hG dX11_count_60 rfl rfl ?_
    refine j_get hG fX11_57 dX11_count_61 hx rfl ?_
    obtain ⟨fs4, hh5⟩ := CPrg_hd (CRA_c9 hR)
    refine j_callV (rest := []) hG vX11_128 dX11_count_64 (k_X6_rowsRead  (CRA_c9 hR) ) hh5 rfl rfl (by decide) (by decide) (Nat.le_of_ble_eq_true rfl) rfl rfl (Nat.zero_le _) (Nat.zero_le _) ?_
    rintro _ _ ⟨rfl, rfl⟩
    refine j_st (st' := [.int (iZ ((rd : Int)))]) rfl ?_
    exact j_iret hG hZ dX11_count_67 (Nat.zero_le _) (Nat.zero_le _) (⟨by unfold countF; dsimp only; first | (subst u; rfl) | (repeat rw [if_neg (by omega)]), ⟨lg, tp, pa, T, wt, to, ho, nw, kp, D, dz, X, gi, Mh, hR, hMh, hX, h36⟩, hF⟩)
  · -- case 2 at 1
    refine j_tswIn (tgt := 68) (off := 67) hG (2) dX11_count_1 c1 (by decide) (by decide) rfl (by decide) ?_
    refine j_aload_n hG dX11_count_68 rfl rfl ?_
    refine j_get hG fX11_57 dX11_count_69 hx rfl ?_
    obtain ⟨fs6, hh7⟩ := CPrg_hd (CRA_c9 hR)
    refine j_callV (rest := []) hG vX11_195 dX11_count_72 (k_X6_rowsLate  (CRA_c9 hR) ) hh7 rfl rfl (by decide) (by decide) (Nat.le_of_ble_eq_true rfl) rfl rfl (Nat.zero_le _) (Nat.zero_le _) ?_
    rintro _ _ ⟨rfl, rfl⟩
    refine j_st (st' := [.int (iZ ((nlat lr la rd)))]) rfl ?_
    exact j_iret hG hZ dX11_count_75 (Nat.zero_le _) (Nat.zero_le _) (⟨by unfold countF; dsimp only; first | (subst u; rfl) | (repeat rw [if_neg (by omega)]), ⟨lg, tp, pa, T, wt, to, ho, nw, kp, D, dz, X, gi, Mh, hR, hMh, hX, h36⟩, hF⟩)
  · -- case 3 at 1
    refine j_tswIn (tgt := 76) (off := 75) hG (3) dX11_count_1 c1 (by decide) (by decide) rfl (by decide) ?_
    refine j_aload_n hG dX11_count_76 rfl rfl ?_
    refine j_get hG fX11_33 dX11_count_77 hx rfl ?_
    obtain ⟨fs8, hh9⟩ := CTab_hd (CRA_c5 hR)
    refine j_callV (rest := []) hG vX11_127 dX11_count_80 (k_X9_size  (CRA_c5 hR) ) hh9 rfl rfl (by decide) (by decide) (Nat.le_of_ble_eq_true rfl) rfl rfl (Nat.zero_le _) (Nat.zero_le _) ?_
    rintro _ _ ⟨rfl, rfl⟩
    refine j_st (st' := [.int (iZ ((sz : Int)))]) rfl ?_
    exact j_iret hG hZ dX11_count_83 (Nat.zero_le _) (Nat.zero_le _) (⟨by unfold countF; dsimp only; first | (subst u; rfl) | (repeat rw [if_neg (by omega)]), ⟨lg, tp, pa, T, wt, to, ho, nw, kp, D, dz, X, gi, Mh, hR, hMh, hX, h36⟩, hF⟩)
  · -- case 4 at 1
    refine j_tswIn (tgt := 84) (off := 83) hG (4) dX11_count_1 c1 (by decide) (by decide) rfl (by decide) ?_
    refine j_aload_n hG dX11_count_84 rfl rfl ?_
    refine j_get hG fX11_50 dX11_count_85 hx rfl ?_
    obtain ⟨fs10, hh11⟩ := CHos_hd (CRA_c8 hR)
    refine j_callV (rest := []) hG vX11_181 dX11_count_88 (k_X1_size  (CRA_c8 hR) ) hh11 rfl rfl (by decide) (by decide) (Nat.le_of_ble_eq_true rfl) rfl rfl (Nat.zero_le _) (Nat.zero_le _) ?_
    rintro _ _ ⟨rfl, rfl⟩
    refine j_st (st' := [.int (iZ (hN th))]) rfl ?_
    exact j_iret hG hZ dX11_count_91 (Nat.zero_le _) (Nat.zero_le _) (⟨by unfold countF; dsimp only; first | (subst u; rfl) | (repeat rw [if_neg (by omega)]), ⟨lg, tp, pa, T, wt, to, ho, nw, kp, D, dz, X, gi, Mh, hR, hMh, hX, h36⟩, hF⟩)
  · -- case 5 at 1
    refine j_tswIn (tgt := 92) (off := 91) hG (5) dX11_count_1 c1 (by decide) (by decide) rfl (by decide) ?_
    refine j_aload_n hG dX11_count_92 rfl rfl ?_
    refine j_get hG fX11_40 dX11_count_93 hx rfl ?_
    obtain ⟨fs12, hh13⟩ := CChg_hd (CRA_c6 hR)
    refine j_callV (rest := []) hG vX11_155 dX11_count_96 (k_X0_size  (CRA_c6 hR) ) hh13 rfl rfl (by decide) (by decide) (Nat.le_of_ble_eq_true rfl) rfl rfl (Nat.zero_le _) (Nat.zero_le _) ?_
    rintro _ _ ⟨rfl, rfl⟩
    refine j_st (st' := [.int (iZ ((W.length : Int)))]) rfl ?_
    exact j_iret hG hZ dX11_count_99 (Nat.zero_le _) (Nat.zero_le _) (⟨by unfold countF; dsimp only; first | (subst u; rfl) | (repeat rw [if_neg (by omega)]), ⟨lg, tp, pa, T, wt, to, ho, nw, kp, D, dz, X, gi, Mh, hR, hMh, hX, h36⟩, hF⟩)
  · -- case 6 at 1
    refine j_tswIn (tgt := 100) (off := 99) hG (6) dX11_count_1 c1 (by decide) (by decide) rfl (by decide) ?_
    refine j_aload_n hG dX11_count_100 rfl rfl ?_
    refine j_get hG fX11_19 dX11_count_101 hx rfl ?_
    obtain ⟨fs14, hh15⟩ := CTape_hd (CRA_c3 hR)
    refine j_callV (rest := []) hG vX11_107 dX11_count_104 (k_X10_length  (CRA_c3 hR) ) hh15 rfl rfl (by decide) (by decide) (Nat.le_of_ble_eq_true rfl) rfl rfl (Nat.zero_le _) (Nat.zero_le _) ?_
    rintro _ _ ⟨rfl, rfl⟩
    refine j_st (st' := [.int (iZ (len))]) rfl ?_
    exact j_iret hG hZ dX11_count_107 (Nat.zero_le _) (Nat.zero_le _) (⟨by unfold countF; dsimp only; first | (subst u; rfl) | (repeat rw [if_neg (by omega)]), ⟨lg, tp, pa, T, wt, to, ho, nw, kp, D, dz, X, gi, Mh, hR, hMh, hX, h36⟩, hF⟩)
  · -- case 7 at 1
    refine j_tswIn (tgt := 108) (off := 107) hG (7) dX11_count_1 c1 (by decide) (by decide) rfl (by decide) ?_
    refine j_aload_n hG dX11_count_108 rfl rfl ?_
    refine j_get hG fX11_57 dX11_count_109 hx rfl ?_
    obtain ⟨fs16, hh17⟩ := CPrg_hd (CRA_c9 hR)
    refine j_callV (rest := []) hG vX11_198 dX11_count_112 (k_X6_greatestTime  (CRA_c9 hR) ) hh17 rfl rfl (by decide) (by decide) (Nat.le_of_ble_eq_true rfl) rfl rfl (Nat.zero_le _) (Nat.zero_le _) ?_
    rintro _ _ ⟨rfl, rfl⟩
    refine j_st (st' := [.int (iZ ((ltst lr rd)))]) rfl ?_
    exact j_iret hG hZ dX11_count_115 (Nat.zero_le _) (Nat.zero_le _) (⟨by unfold countF; dsimp only; first | (subst u; rfl) | (repeat rw [if_neg (by omega)]), ⟨lg, tp, pa, T, wt, to, ho, nw, kp, D, dz, X, gi, Mh, hR, hMh, hX, h36⟩, hF⟩)
  · -- case 8 at 1
    refine j_tswIn (tgt := 116) (off := 115) hG (8) dX11_count_1 c1 (by decide) (by decide) rfl (by decide) ?_
    refine j_aload_n hG dX11_count_116 rfl rfl ?_
    refine j_get hG fX11_61 dX11_count_117 hx rfl ?_
    obtain ⟨fs18, hh19⟩ := CPrg_hd (CRA_c10 hR)
    refine j_callV (rest := []) hG vX11_128 dX11_count_120 (k_X6_rowsRead  (CRA_c10 hR) ) hh19 rfl rfl (by decide) (by decide) (Nat.le_of_ble_eq_true rfl) rfl rfl (Nat.zero_le _) (Nat.zero_le _) ?_
    rintro _ _ ⟨rfl, rfl⟩
    refine j_st (st' := [.int (iZ ((mr : Int)))]) rfl ?_
    exact j_iret hG hZ dX11_count_123 (Nat.zero_le _) (Nat.zero_le _) (⟨by unfold countF; dsimp only; first | (subst u; rfl) | (repeat rw [if_neg (by omega)]), ⟨lg, tp, pa, T, wt, to, ho, nw, kp, D, dz, X, gi, Mh, hR, hMh, hX, h36⟩, hF⟩)
