/-! ===== one more ROW of a SOURCE ===== -/
theorem raw_same {M : Int → Int → Int} {src src' : Int → List Int} {t : Nat} (h0 : M t 0 = 0 → src (M t 5) = src' (M t 5)) (h1 : M t 0 ≠ 0 → tabF M src t (M t 1) = tabF M src' t (M t 1) ∧ tabF M src t (M t 2) = tabF M src' t (M t 2)) : rawT M src t (tabF M src t) = rawT M src' t (tabF M src' t) := by
  unfold rawT
  by_cases e : M t 0 = 0
  · rw [if_pos e, if_pos e, h0 e]
  · rw [if_neg e, if_neg e, (h1 e).1, (h1 e).2]
theorem tab_same {M : Int → Int → Int} {src src' : Int → List Int} {t : Nat} (h : rawT M src t (tabF M src t) = rawT M src' t (tabF M src' t)) : tab M src t = tab M src' t := by
  unfold tab mkT; rw [h]
/-- TABLE l as MAKING t finds it: l is -1, or below t -/
theorem tabF_same {M : Int → Int → Int} {src src' : Int → List Int} {t : Nat} {l : Int} (hl : l = -1 ∨ 0 ≤ l ∧ l < t) (h : ∀ s : Nat, (s : Int) = l → tab M src s = tab M src' s) : tabF M src t l = tabF M src' t l := by
  rcases hl with rfl | hl
  · rw [tabF_out _ _ _ _ (Or.inl (by omega)), tabF_out _ _ _ _ (Or.inl (by omega))]
  · obtain ⟨s, rfl⟩ := Int.eq_ofNat_of_zero_le hl.1
    rw [tabF_lt _ _ _ _ (by omega), tabF_lt _ _ _ _ (by omega)]
    exact h s rfl
theorem slot_of {M : Int → Int → Int} {src src' : Int → List Int} {t : Nat} {sz l z : Int} {gi : Int → Int} {ra : Int → Nat} {X0 X1 : Int → List Int × Int} (ht : (t : Int) < sz) (hsz : sz ≤ 12) (hl : l = -1 ∨ 0 ≤ l ∧ l < t)
    (hgi : ∀ i, 0 ≤ i → i < 12 → gi i = 0 ∨ gi i = 1) (hX0 : ∀ s : Nat, (s : Int) < sz → X0 s = (tab M src s, 0)) (h36 : X0 36 = ([], 0)) (hX1 : ∀ j, j < 12 ∨ 24 ≤ j → X1 j = X0 j)
    (hv : ∀ s : Nat, s < t → (gi s = 1 → X1 (s + 12) = (tab M src' s, 0)) ∧ (gi s = 0 → tab M src s = tab M src' s)) :
    ∃ la : Int, (0 ≤ la ∧ la < 37 ∧ la ≠ t + 12) ∧ X1 la = (tabF M src' t l, 0) ∧ (if 0 ≤ l ∧ l < sz then (if fup gi t z l = 1 then ra (l + 12) else ra l) else ra 36) = ra la := by
  rcases hl with rfl | hl
  · refine ⟨36, by omega, ?_, if_neg (by omega)⟩
    rw [hX1 36 (by omega), h36, tabF_out _ _ _ _ (Or.inl (by omega))]
  · obtain ⟨s, rfl⟩ := Int.eq_ofNat_of_zero_le hl.1
    have hs : s < t := by omega
    obtain ⟨v1, v2⟩ := hv s hs
    rw [tabF_lt _ _ _ _ hs, if_pos (by omega), fup_n _ _ (by omega)]
    rcases hgi s (by omega) (by omega) with e | e
    · refine ⟨s, by omega, ?_, if_neg (by omega)⟩
      rw [hX1 s (by omega), hX0 s (by omega), v2 e]
    · exact ⟨s + 12, by omega, v1 e, if_pos e⟩
theorem lOk_seg {g : Int → Int} {n : Int} (h : lOk (seg g 0 n)) : ∀ j, 0 ≤ j → j < n → rV (g j) ≤ 1000000000 := fun j j1 j2 => (h _ (seg_mem.mpr ⟨j, j1, j2, rfl⟩)).2
theorem srt_keys {g : Int → Int} {n : Int} (h : srt (seg g 0 n)) : ∀ i j, 0 ≤ i → i ≤ j → j < n → rK (g i) ≤ rK (g j) := fun i j i1 i2 i3 => rK_mono (srt_seg h i1 i2 i3)
theorem tabF_l {M : Int → Int → Int} {src : Int → List Int} {t : Nat} {l : Int} (hl : l = -1 ∨ 0 ≤ l ∧ l < t) (hM : ∀ s : Nat, s < t → mkOk M s) (hs : ∀ s, lOk (src s)) (ho : okF M src t) : lOk (tabF M src t l) ∧ srt (tabF M src t l) := by
  rcases hl with rfl | hl
  · rw [tabF_out _ _ _ _ (Or.inl (by omega))]; exact ⟨fun x hx => (by cases hx), List.Pairwise.nil⟩
  · obtain ⟨s, rfl⟩ := Int.eq_ofNat_of_zero_le hl.1
    rw [tabF_lt _ _ _ _ (by omega)]
    exact ⟨(tab_l hM hs ho s (by omega)).1, tab_srt M src s⟩
theorem src_new {src : Int → List Int} {sN x : Int} (hs : ∀ s, lOk (src s)) (hx : rOk x ∧ rV x ≤ 1000000000) : ∀ s, lOk (fup src sN (src sN ++ [x]) s) := by
  intro s y hy
  unfold fup at hy
  split at hy
  · rcases List.mem_append.mp hy with q | q
    · exact hs _ y q
    · rw [List.mem_singleton.mp q]; exact hx
  · exact hs _ y hy
/-- a SOURCE's TABLE, one ROW more -/
theorem src_tab {M : Int → Int → Int} {src : Int → List Int} {t : Nat} (h0 : M t 0 = 0) (hs : ∀ s, lOk (src s)) : (tab M src t).Perm (src (M t 5)) ∧ rawT M src t (tabF M src t) = (src (M t 5)).map un3 := by
  have e : rawT M src t (tabF M src t) = (src (M t 5)).map un3 := by unfold rawT; rw [if_pos h0]
  refine ⟨?_, e⟩
  unfold tab mkT
  rw [e, map_un (lOk_r (hs _))]
  exact isrt_perm _
theorem src_raw {l : List Int} (h : lOk l) (hl : l.length ≤ 400) : rawOk (l.map un3) := by
  refine ⟨by rw [List.length_map]; exact hl, fun p hp => ?_⟩
  obtain ⟨x, hx, rfl⟩ := List.mem_map.mp hp
  have := h x hx
  have := rV_rng this.1
  show -1000000000 ≤ rV x ∧ rV x ≤ 1000000000
  omega
theorem okF_succ {M : Int → Int → Int} {src : Int → List Int} {t : Nat} (h : okF M src t) (h1 : rawOk (rawT M src t (tabF M src t))) : okF M src (t + 1) := fun s hs => by
  by_cases e : s = t
  · subst e; exact h1
  · exact h s (by omega)
theorem RWs_upd2 {E : JE} {f f' : Hp} {ra ca : Int → Nat} {X : Int → List Int × Int} {i : Int} {l : List Int × Int} (h : RWs E f ra ca X) (hn : rwAt E f' (ra i) (ca i) l) (hs : ∃ g, f' (ca 37) = aJ (E.2.1 1) 400 g ∧ gOk g) (hf : ∀ j, 0 ≤ j → j < 37 → j ≠ i → f' (ra j) = f (ra j) ∧ f' (ca j) = f (ca j)) : RWs E f' ra ca (fup X i l) := by
  refine ⟨fun j j1 j2 => ?_, hs⟩
  by_cases e : j = i
  · subst e; rw [fup_s]; exact hn
  · rw [fup_n _ _ e]
    exact rwAt_kept (h.1 j j1 j2) (hf j j1 j2 e).1 (hf j j1 j2 e).2
theorem l_X9_offer {G : JG} {l : Launch} {E : JE} {P : Option Value → Hp → Prop} (hG : jX G l E cX9_offer RX9 7 rmX9_offer) (hZ : jZ G (some .boolean) P) {T cu ofr mk it pl dr pm : Nat} {sz sN x : Int} {gcu gof gpm : Int → Option Nat} {ra ca ma : Int → Nat} {M : Int → Int → Int} {src : Int → List Int} {X0 : Int → List Int × Int} {gi0 : Int → Int} {f0 : Hp} (hsz : 0 ≤ sz ∧ sz ≤ 12) (hsN : -2147483648 ≤ sN ∧ sN < 2147483648) (hd : rwD ra ca) (gcu_ : ∀ i, 0 ≤ i → i < 12 → gcu i = some (ra i)) (gof_ : ∀ i, 0 ≤ i → i < 12 → gof i = some (ra (i + 12))) (gpm_ : ∀ i, 0 ≤ i → i < 12 → gpm i = some (ma i)) (hMok : ∀ s : Nat, (s : Int) < sz → mkOk M s) (hsl : ∀ s, lOk (src s)) (hx : rOk x ∧ rV x ≤ 1000000000) (hokO : ∀ t : Nat, (t : Int) < sz → rawOk (rawT M src t (tabF M src t))) (hX0 : ∀ s : Nat, (s : Int) < sz → X0 s = (tab M src s, 0)) (h36 : X0 36 = ([], 0)) (hit0 : f0 it = aI (E.2.1 2) 12 gi0) (hRW0 : RWs E f0 ra ca X0) (hM0 : ∀ i, 0 ≤ i → i < 12 → f0 (ma i) = oB 3 [.int (iZ (M i 0)), .int (iZ (M i 1)), .int (iZ (M i 2)), .int (iZ (M i 3)), .int (iZ (M i 4)), .int (iZ (M i 5))]) (hs2 : ∀ s, lOk ((fup src sN (src sN ++ [x])) s)) (hP : ∀ (z : Int) (gi' : Int → Int) (X' : Int → List Int × Int) (f' : Hp), f' it = aI (E.2.1 2) 12 gi' → (∀ i, 0 ≤ i → i < 12 → gi' i = 0 ∨ gi' i = 1) → RWs E f' ra ca X' → (∀ j, j < 12 ∨ 24 ≤ j → X' j = X0 j) → ((z = 1 ∧ okF M (fup src sN (src sN ++ [x])) sz.toNat ∧ ∀ s : Nat, (s : Int) < sz → (gi' s = 1 → X' (s + 12) = (tab M (fup src sN (src sN ++ [x])) s, 0)) ∧ (gi' s = 0 → tab M src s = tab M (fup src sN (src sN ++ [x])) s)) ∨ (z = 0 ∧ ¬ okF M (fup src sN (src sN ++ [x])) sz.toNat)) → (∀ q, q ≠ it → (∀ i, 0 ≤ i → i < 37 → q ≠ ra i) → (∀ i, 0 ≤ i → i < 38 → q ≠ ca i) → f' q = f0 q) → P (some (.int (iZ z))) f') :
    ∀ (d : Nat) (t : Nat) (gi : Int → Int) (X1 : Int → List Int × Int) (gs : Int → Int) (f1 : Hp), (hT : f1 T = oB 8 [.ref cu, .ref ofr, .ref mk, .ref it, .ref (ra 36), .ref (ca 37), .ref pl, .ref dr]) → (hpl : f1 pl = oB 5 [.ref pm, .int (iZ (sz))]) → (hpm : f1 pm = aQ (E.2.1 5) 12 (gpm)) → (hcu : f1 cu = aQ (E.2.1 4) 12 (gcu)) → (hof : f1 ofr = aQ (E.2.1 4) 12 (gof)) → (hit : f1 it = aI (E.2.1 2) 12 (gi)) → (hsc : f1 (ca 37) = aJ (E.2.1 1) 400 (gs)) → (hgs : gOk gs) → (hRW : RWs E f1 ra ca X1) → (ht : (t : Int) ≤ sz) → (hgi : ∀ i, 0 ≤ i → i < 12 → gi i = 0 ∨ gi i = 1) → (hX1 : ∀ j, j < 12 ∨ 24 ≤ j → X1 j = X0 j) → (hv : ∀ s : Nat, s < t → (gi s = 1 → X1 (s + 12) = (tab M (fup src sN (src sN ++ [x])) s, 0)) ∧ (gi s = 0 → tab M src s = tab M (fup src sN (src sN ++ [x])) s)) → (hok : okF M (fup src sN (src sN ++ [x])) t) → (hfr : ∀ q, q ≠ it → (∀ i, 0 ≤ i → i < 37 → q ≠ ra i) → (∀ i, 0 ≤ i → i < 38 → q ≠ ca i) → f1 q = f0 q) → ((sz - t).toNat) < d → J G 0 0 f1 3 [(0, .ref T), (1, .int (iZ (sN))), (2, .long (lZ (x))), (4, .int (iZ ((t : Int))))] [] := by
  intro d
  induction d with
  | zero => intro t gi X1 gs f1 hT hpl hpm hcu hof hit hsc hgs hRW ht hgi hX1 hv hok hfr hd9; exfalso; omega
  | succ d ih =>
    intro t gi X1 gs f1 hT hpl hpm hcu hof hit hsc hgs hRW ht hgi hX1 hv hok hfr hd9
    refine j_iload hG dX9_offer_3 rfl ?_
    refine j_aload_n hG dX9_offer_5 rfl rfl ?_
    refine j_get hG fX9_39 dX9_offer_6 hT rfl ?_
    refine j_callV (rest := [.int (iZ ((t : Int)))]) hG vX9_46 dX9_offer_9 (c_X5_size hpl) hpl rfl rfl (by decide) (by decide) (Nat.le_of_ble_eq_true rfl) rfl rfl (Nat.zero_le _) (Nat.zero_le _) ?_
    rintro _ _ ⟨rfl, rfl⟩
    refine j_st (st' := [.int (iZ (sz)), .int (iZ ((t : Int)))]) rfl ?_
    refine j_icmp_ge (tgt := 213) hG dX9_offer_12 (by decide) (by omega) (by omega) (fun c1 => ?_) (fun c1 => ?_)
    · -- taken at 12
      refine j_iconst hG dX9_offer_213 ?_
      have e9 : sz.toNat = t := by omega
      exact j_zret hG hZ dX9_offer_214 (Nat.zero_le _) (Nat.zero_le _) (nar_zr (by omega)) (hP 1 gi X1 f1 hit hgi hRW hX1 (Or.inl ⟨rfl, by rw [e9]; exact hok, fun s hs => hv s (by omega)⟩) hfr)
    · -- on at 12
      refine j_aload_n hG dX9_offer_15 rfl rfl ?_
      refine j_get hG fX9_39 dX9_offer_16 hT rfl ?_
      refine j_iload hG dX9_offer_19 rfl ?_
      have hma : f1 (ma t) = oB 3 [.int (iZ (M t 0)), .int (iZ (M t 1)), .int (iZ (M t 2)), .int (iZ (M t 3)), .int (iZ (M t 4)), .int (iZ (M t 5))] := by
        have z0 := hM0 t (by omega) (by omega)
        refine (hfr _ (h_ne z0 hit0 oa_I) (fun i i1 i2 => ?_) (fun i i1 i2 => ?_)).trans z0
        · obtain ⟨_, _, _, z1, -⟩ := hRW0.1 i i1 i2; exact h_ne z0 z1 (oo_n (by decide))
        · by_cases i3 : i < 37
          · obtain ⟨_, _, _, -, z1, -⟩ := hRW0.1 i i1 i3; exact h_ne z0 z1 oa_J
          · obtain ⟨_, z1, -⟩ := hRW0.2; have e : i = 37 := by omega
            subst e; exact h_ne z0 z1 oa_J
      have hmo := hMok t (by omega)
      have hm1 : M t 1 = -1 ∨ 0 ≤ M t 1 ∧ M t 1 < (t : Int) := by
        by_cases e : M t 0 = 0
        · exact Or.inl (hmo.2.1 e).1
        · exact Or.inr (hmo.2.2.1 e)
      have hm2 : M t 2 = -1 ∨ 0 ≤ M t 2 ∧ M t 2 < (t : Int) := by
        by_cases e : M t 0 = 11 ∨ M t 0 = 12
        · exact Or.inr (hmo.2.2.2.1 e)
        · exact Or.inl (hmo.2.2.2.2 e)
      have hmk := hmo.1
      refine j_callV (rest := []) hG vX9_75 dX9_offer_21 (c_X5_at (b := ma t) (t := (t : Int)) hpl hpm (by omega) (gpm_ t (by omega) (by omega))) hpl rfl rfl (by decide) (by decide) (Nat.le_of_ble_eq_true rfl) rfl rfl (Nat.zero_le _) (Nat.zero_le _) ?_
      rintro _ _ ⟨rfl, rfl⟩
      refine j_st (st' := [.ref (ma t)]) rfl ?_
      refine j_astore (lv' := [(0, .ref T), (1, .int (iZ (sN))), (2, .long (lZ (x))), (4, .int (iZ ((t : Int)))), (5, .ref (ma t))]) hG dX9_offer_24 (by decide) rfl ?_
      refine j_aload hG dX9_offer_26 rfl ?_
      refine j_get hG fX9_79 dX9_offer_28 hma rfl ?_
      refine j_if_ne (tgt := 38) hG dX9_offer_31 (by decide) (by omega) (fun c2 => ?_) (fun c2 => ?_)
      · -- taken at 31
        refine j_iconst hG dX9_offer_38 ?_
        refine j_istore (lv' := [(0, .ref T), (1, .int (iZ (sN))), (2, .long (lZ (x))), (4, .int (iZ ((t : Int)))), (5, .ref (ma t)), (6, .int (iZ (0)))]) hG dX9_offer_39 (by decide) rfl ?_
        refine j_aload_n hG dX9_offer_41 rfl rfl ?_
        refine j_get hG fX9_24 dX9_offer_42 hT rfl ?_
        refine j_iload hG dX9_offer_45 rfl ?_
        refine j_iload hG dX9_offer_47 rfl ?_
        refine j_if_eq (tgt := 69) hG dX9_offer_49 (by decide) (by omega) (fun c3 => ?_) (fun c3 => ?_)
        · -- taken at 49
          refine j_aload_n hG dX9_offer_69 rfl rfl ?_
          refine j_aload hG dX9_offer_70 rfl ?_
          refine j_get hG fX9_88 dX9_offer_72 hma rfl ?_
          refine j_callV (rest := [.int (iZ ((t : Int))), .ref it]) hG vX9_65 dX9_offer_75 (c_X9_touches (i := M t 1) hT hpl hit (by omega) (by omega) hgi) hT rfl rfl (by decide) (by decide) (Nat.le_of_ble_eq_true rfl) rfl rfl (Nat.zero_le _) (Nat.zero_le _) ?_
          rintro _ _ ⟨⟨z4, rfl, hz5⟩, rfl⟩
          refine j_st (st' := [.int (iZ (z4)), .int (iZ ((t : Int))), .ref it]) rfl ?_
          refine j_if_ne (tgt := 93) hG dX9_offer_78 (by decide) (by omega) (fun c6 => ?_) (fun c6 => ?_)
          · -- taken at 78
            refine j_iconst hG dX9_offer_93 ?_
            refine j_goto (tgt := 98) hG dX9_offer_94 (by decide) ?_
            refine j_zast hG dX9_offer_98 hit (by omega) (by decide) (by omega) (fun f7 h8 fr9 => ?_)
            have h10 := (fr9 T (h_ne hT hit oa_I)).trans hT
            have h11 := (fr9 pl (h_ne hpl hit oa_I)).trans hpl
            have h12 := (fr9 pm (h_ne hpm hit (Ne.symm aIQ))).trans hpm
            have h13 := (fr9 cu (h_ne hcu hit (Ne.symm aIQ))).trans hcu
            have h14 := (fr9 ofr (h_ne hof hit (Ne.symm aIQ))).trans hof
            have h15 := (fr9 (ca 37) (h_ne hsc hit (Ne.symm aIJ))).trans hsc
            have h16 := (fr9 (ma t) (h_ne hma hit oa_I)).trans hma
            refine j_aload_n hG dX9_offer_99 rfl rfl ?_
            refine j_get hG fX9_24 dX9_offer_100 h10 rfl ?_
            refine j_iload hG dX9_offer_103 rfl ?_
            refine j_zald hG dX9_offer_105 h8 (by omega) (by decide) ?_
            refine j_eq (show ((fup gi (t : Int) 1) (t : Int) : Int) = (1 : Int) from (fup_s _ _ _)) ?_
            refine j_if_ne (tgt := 112) hG dX9_offer_106 (by decide) (by omega) (fun c17 => ?_) (fun c17 => ?_)
            · -- taken at 106
              refine j_iload hG dX9_offer_112 rfl ?_
              refine j_if_eq (tgt := 148) hG dX9_offer_114 (by decide) (by omega) (fun c18 => ?_) (fun c18 => ?_)
              · -- taken at 114
                obtain ⟨la, la1, la2, la3⟩ := slot_of (src := src) (src' := (fup src sN (src sN ++ [x]))) (ra := ra) (z := 1) (l := M t 1) (by omega) hsz.2 hm1 hgi hX0 h36 hX1 hv
                obtain ⟨lb, lb1, lb2, lb3⟩ := slot_of (src := src) (src' := (fup src sN (src sN ++ [x]))) (ra := ra) (z := 1) (l := M t 2) (by omega) hsz.2 hm2 hgi hX0 h36 hX1 hv
                obtain ⟨n1, b1, g1, ro1, rc1, rg1, rb1, rn1, rl1⟩ := hRW.1 (t + 12) (by omega) (by omega)
                replace ro1 := (fr9 _ (h_ne ro1 hit oa_I)).trans ro1
                replace rc1 := (fr9 _ (h_ne rc1 hit (Ne.symm aIJ))).trans rc1
                obtain ⟨na, ba, ga, roa, rca, rga, rba, rna, rla⟩ := hRW.1 (la) (by omega) (by omega)
                replace roa := (fr9 _ (h_ne roa hit oa_I)).trans roa
                replace rca := (fr9 _ (h_ne rca hit (Ne.symm aIJ))).trans rca
                obtain ⟨nb, bb, gb, rob, rcb, rgb, rbb, rnb, rlb⟩ := hRW.1 (lb) (by omega) (by omega)
                replace rob := (fr9 _ (h_ne rob hit oa_I)).trans rob
                replace rcb := (fr9 _ (h_ne rcb hit (Ne.symm aIJ))).trans rcb
                have qa := tabF_l (src := (fup src sN (src sN ++ [x]))) hm1 (fun s hs => hMok s (by omega)) hs2 hok
                have qb := tabF_l (src := (fup src sN (src sN ++ [x]))) hm2 (fun s hs => hMok s (by omega)) hs2 hok
                rw [la2] at rla
                rw [lb2] at rlb
                dsimp only at rla rlb
                have hgiF : ∀ i, 0 ≤ i → i < 12 → fup gi (t : Int) 1 i = 0 ∨ fup gi (t : Int) 1 i = 1 := fun i i1 i2 => by
                  unfold fup; split
                  · omega
                  · exact hgi i i1 i2
                rw [← rla.1] at qa
                rw [← rlb.1] at qb
                refine j_aload hG dX9_offer_148 rfl ?_
                refine j_aload_n hG dX9_offer_150 rfl rfl ?_
                refine j_aload hG dX9_offer_151 rfl ?_
                refine j_get hG fX9_88 dX9_offer_153 h16 rfl ?_
                refine j_callV (rest := [.ref (ma t)]) hG vX9_62 dX9_offer_156 (c_X9_offeredOf (i := M t 1) h10 h11 h13 h14 h8 (by omega) (by omega) gcu_ gof_ hgiF) h10 rfl rfl (by decide) (by decide) (Nat.le_of_ble_eq_true rfl) rfl rfl (Nat.zero_le _) (Nat.zero_le _) ?_
                rintro _ _ ⟨rfl, rfl⟩
                refine j_st (st' := [.ref (if 0 ≤ (M t 1) ∧ (M t 1) < sz then (if (fup gi (t : Int) 1) (M t 1) = 1 then ra (M t 1 + 12) else ra (M t 1)) else ra 36), .ref (ma t)]) rfl ?_
                refine j_st (st' := [.ref (ra la), .ref (ma t)]) (by rw [la3]) ?_
                refine j_aload_n hG dX9_offer_159 rfl rfl ?_
                refine j_aload hG dX9_offer_160 rfl ?_
                refine j_get hG fX9_91 dX9_offer_162 h16 rfl ?_
                refine j_callV (rest := [.ref (ra la), .ref (ma t)]) hG vX9_62 dX9_offer_165 (c_X9_offeredOf (i := M t 2) h10 h11 h13 h14 h8 (by omega) (by omega) gcu_ gof_ hgiF) h10 rfl rfl (by decide) (by decide) (Nat.le_of_ble_eq_true rfl) rfl rfl (Nat.zero_le _) (Nat.zero_le _) ?_
                rintro _ _ ⟨rfl, rfl⟩
                refine j_st (st' := [.ref (if 0 ≤ (M t 2) ∧ (M t 2) < sz then (if (fup gi (t : Int) 1) (M t 2) = 1 then ra (M t 2 + 12) else ra (M t 2)) else ra 36), .ref (ra la), .ref (ma t)]) rfl ?_
                refine j_st (st' := [.ref (ra lb), .ref (ra la), .ref (ma t)]) (by rw [lb3]) ?_
                refine j_aload_n hG dX9_offer_168 rfl rfl ?_
                refine j_get hG fX9_17 dX9_offer_169 h10 rfl ?_
                refine j_iload hG dX9_offer_172 rfl ?_
                refine j_ald4 hG dX9_offer_174 h14 (by omega) (by decide) (gof_ t (by omega) (by omega)) ?_
                refine j_callV (rest := []) hG vX9_98 dX9_offer_175 (c_X3_fill h16 roa rca rob rcb ro1 rc1 rna rnb rga rgb rg1 (fun q => absurd (hd.1 _ _ (by omega) (by omega) (by omega) (by omega) q) (by omega)) (fun q => absurd (hd.2 _ _ (by omega) (by omega) (by omega) (by omega) q) (by omega)) (fun q => absurd (hd.1 _ _ (by omega) (by omega) (by omega) (by omega) q) (by omega)) (fun q => absurd (hd.2 _ _ (by omega) (by omega) (by omega) (by omega) q) (by omega)) (lOk_seg qa.1) (srt_keys qa.2) (srt_keys qb.2) hmk) h16 rfl rfl (by decide) (by decide) (Nat.le_of_ble_eq_true rfl) rfl rfl (Nat.zero_le _) (Nat.zero_le _) ?_
                rintro _ f26 ⟨rfl, n19, b20, g21, k22, k23, k24, fr25⟩
                refine j_st (st' := []) rfl ?_
                have h27 := (fr25 T (h_ne h10 ro1 (oo_n (by decide))) (h_ne h10 rc1 oa_J)).trans h10
                have h28 := (fr25 pl (h_ne h11 ro1 (oo_n (by decide))) (h_ne h11 rc1 oa_J)).trans h11
                have h29 := (fr25 pm (h_ne h12 ro1 (Ne.symm oa_Q)) (h_ne h12 rc1 (Ne.symm aJQ))).trans h12
                have h30 := (fr25 cu (h_ne h13 ro1 (Ne.symm oa_Q)) (h_ne h13 rc1 (Ne.symm aJQ))).trans h13
                have h31 := (fr25 ofr (h_ne h14 ro1 (Ne.symm oa_Q)) (h_ne h14 rc1 (Ne.symm aJQ))).trans h14
                have h32 := (fr25 (ca 37) (h_ne h15 ro1 (Ne.symm oa_J)) (Ne.symm (fun q => absurd (hd.2 _ _ (by omega) (by omega) (by omega) (by omega) q) (by omega)))).trans h15
                have h33 := (fr25 (ma t) (h_ne h16 ro1 (oo_n (by decide))) (h_ne h16 rc1 oa_J)).trans h16
                have h34 := (fr25 it (h_ne h8 ro1 (Ne.symm oa_I)) (h_ne h8 rc1 aIJ)).trans h8
                have h35 := (fr25 (ra la) (fun q => absurd (hd.1 _ _ (by omega) (by omega) (by omega) (by omega) q) (by omega)) (h_ne roa rc1 oa_J)).trans roa
                have h36 := (fr25 (ca la) (h_ne rca ro1 (Ne.symm oa_J)) (fun q => absurd (hd.2 _ _ (by omega) (by omega) (by omega) (by omega) q) (by omega))).trans rca
                have h37 := (fr25 (ra lb) (fun q => absurd (hd.1 _ _ (by omega) (by omega) (by omega) (by omega) q) (by omega)) (h_ne rob rc1 oa_J)).trans rob
                have h38 := (fr25 (ca lb) (h_ne rcb ro1 (Ne.symm oa_J)) (fun q => absurd (hd.2 _ _ (by omega) (by omega) (by omega) (by omega) q) (by omega))).trans rcb
                have eR : rawT M (fup src sN (src sN ++ [x])) t (tabF M (fup src sN (src sN ++ [x])) t) = rawOf (M t 0) (M t 3) (M t 4) (M t 5) (seg ga 0 na) (seg gb 0 nb) := by
                  rw [rla.1, rlb.1]
                  unfold rawT
                  rw [if_neg (by omega)]
                rw [← eR] at k24
                have hb9 := acc_b k24
                have hn9 := acc_n k24
                have hg9 := k24.1
                have hf9 : (b20 = 1 → ¬ rawOk (rawT M (fup src sN (src sN ++ [x])) t (tabF M (fup src sN (src sN ++ [x])) t))) ∧ (b20 = 0 → rawOk (rawT M (fup src sN (src sN ++ [x])) t (tabF M (fup src sN (src sN ++ [x])) t)) ∧ (seg g21 0 n19).Perm ((rawT M (fup src sN (src sN ++ [x])) t (tabF M (fup src sN (src sN ++ [x])) t)).map pk3)) := by
                  rcases k24.2.2.2 with q | q
                  · exact ⟨fun h => absurd h (by omega), fun _ => ⟨q.2.1, by rw [q.2.2.2]⟩⟩
                  · exact ⟨fun _ => q.2, fun h => absurd h (by omega)⟩
                refine j_aload_n hG dX9_offer_178 rfl rfl ?_
                refine j_get hG fX9_17 dX9_offer_179 h27 rfl ?_
                refine j_iload hG dX9_offer_182 rfl ?_
                refine j_ald4 hG dX9_offer_184 h31 (by omega) (by decide) (gof_ t (by omega) (by omega)) ?_
                refine j_callV (rest := []) hG vX9_102 dX9_offer_185 (c_X8_isFull k22 hb9) k22 rfl rfl (by decide) (by decide) (Nat.le_of_ble_eq_true rfl) rfl rfl (Nat.zero_le _) (Nat.zero_le _) ?_
                rintro _ _ ⟨rfl, rfl⟩
                refine j_st (st' := [.int (iZ (b20))]) rfl ?_
                refine j_if_eq (tgt := 193) hG dX9_offer_188 (by decide) (by omega) (fun c39 => ?_) (fun c39 => ?_)
                · -- taken at 188
                  refine j_aload_n hG dX9_offer_193 rfl rfl ?_
                  refine j_get hG fX9_17 dX9_offer_194 h27 rfl ?_
                  refine j_iload hG dX9_offer_197 rfl ?_
                  refine j_ald4 hG dX9_offer_199 h31 (by omega) (by decide) (gof_ t (by omega) (by omega)) ?_
                  refine j_aload_n hG dX9_offer_200 rfl rfl ?_
                  refine j_get hG fX9_32 dX9_offer_201 h27 rfl ?_
                  refine j_callV (rest := []) hG vX9_106 dX9_offer_204 (c_X8_sort k22 k23 h32 hn9 (fun q => absurd (hd.2 _ _ (by omega) (by omega) (by omega) (by omega) q) (by omega)) hg9 hgs) k22 rfl rfl (by decide) (by decide) (Nat.le_of_ble_eq_true rfl) rfl rfl (Nat.zero_le _) (Nat.zero_le _) ?_
                  rintro _ f49 ⟨rfl, g40, g41, k42, k43, k44, k45, k46, k47, fr48⟩
                  refine j_st (st' := []) rfl ?_
                  have h50 := (fr48 T (h_ne h27 k23 oa_J) (h_ne h27 h32 oa_J)).trans h27
                  have h51 := (fr48 pl (h_ne h28 k23 oa_J) (h_ne h28 h32 oa_J)).trans h28
                  have h52 := (fr48 pm (h_ne h29 k23 (Ne.symm aJQ)) (h_ne h29 h32 (Ne.symm aJQ))).trans h29
                  have h53 := (fr48 cu (h_ne h30 k23 (Ne.symm aJQ)) (h_ne h30 h32 (Ne.symm aJQ))).trans h30
                  have h54 := (fr48 ofr (h_ne h31 k23 (Ne.symm aJQ)) (h_ne h31 h32 (Ne.symm aJQ))).trans h31
                  have h55 := (fr48 (ma t) (h_ne h33 k23 oa_J) (h_ne h33 h32 oa_J)).trans h33
                  have h56 := (fr48 it (h_ne h34 k23 aIJ) (h_ne h34 h32 aIJ)).trans h34
                  have h57 := (fr48 (ra la) (h_ne h35 k23 oa_J) (h_ne h35 h32 oa_J)).trans h35
                  have h58 := (fr48 (ca la) (fun q => absurd (hd.2 _ _ (by omega) (by omega) (by omega) (by omega) q) (by omega)) (fun q => absurd (hd.2 la 37 (by omega) (by omega) (by omega) (by omega) q) (by omega))).trans h36
                  have h59 := (fr48 (ra lb) (h_ne h37 k23 oa_J) (h_ne h37 h32 oa_J)).trans h37
                  have h60 := (fr48 (ca lb) (fun q => absurd (hd.2 _ _ (by omega) (by omega) (by omega) (by omega) q) (by omega)) (fun q => absurd (hd.2 lb 37 (by omega) (by omega) (by omega) (by omega) q) (by omega))).trans h38
                  have h61 := (fr48 (ra (t + 12)) (h_ne k22 k23 oa_J) (h_ne k22 h32 oa_J)).trans k22
                  refine j_iinc (a := (t : Int)) (lv' := [(0, .ref T), (1, .int (iZ (sN))), (2, .long (lZ (x))), (4, .int (iZ ((t : Int) + 1))), (5, .ref (ma t)), (6, .int (iZ (0)))]) hG dX9_offer_207 rfl (by decide) rfl ?_
                  refine j_goto (tgt := 3) hG dX9_offer_210 (by decide) ?_
                  refine j_lv (lv' := [(0, .ref T), (1, .int (iZ (sN))), (2, .long (lZ (x))), (4, .int (iZ (((t + 1 : Nat) : Int))))]) (by simp) ?_
                  have hgi2 : ∀ i, 0 ≤ i → i < 12 → fup gi (t : Int) 1 i = 0 ∨ fup gi (t : Int) 1 i = 1 := fun i i1 i2 => by
                    unfold fup; split
                    · omega
                    · exact hgi i i1 i2
                  obtain ⟨_, _, _, ro1x, rc1x, -⟩ := hRW.1 (t + 12) (by omega) (by omega)
                  have eT : tab M (fup src sN (src sN ++ [x])) t = seg g40 0 n19 := (isrt_of k47 (k46.trans (hf9.2 (by omega)).2)).symm
                  have hR2 : RWs E f49 ra ca (fup X1 (t + 12) (tab M (fup src sN (src sN ++ [x])) t, 0)) := by
                    refine RWs_upd2 hRW ⟨_, _, _, h61, k42, k44, by omega, hn9, eT.symm, by omega⟩ ⟨_, k43, k45⟩ (fun j j1 j2 je => ?_)
                    obtain ⟨_, _, _, z1, z2, -⟩ := hRW.1 j j1 j2
                    exact ⟨(Eq.trans (fr48 _ (h_ne z1 rc1x oa_J) (h_ne z1 hsc oa_J)) (Eq.trans (fr25 _ (fun q => absurd (hd.1 _ _ (by omega) (by omega) (by omega) (by omega) q) (by omega)) (h_ne z1 rc1x oa_J)) (fr9 _ (h_ne z1 hit oa_I)))), (Eq.trans (fr48 _ (fun q => absurd (hd.2 _ _ (by omega) (by omega) (by omega) (by omega) q) (by omega)) (fun q => absurd (hd.2 _ _ (by omega) (by omega) (by omega) (by omega) q) (by omega))) (Eq.trans (fr25 _ (h_ne z2 ro1x (Ne.symm oa_J)) (fun q => absurd (hd.2 _ _ (by omega) (by omega) (by omega) (by omega) q) (by omega))) (fr9 _ (h_ne z2 hit (Ne.symm aIJ)))))⟩
                  refine ih (t + 1) _ _ g41 f49 h50 h51 h52 h53 h54 h56 k43 k45 hR2 (by omega) hgi2 (fun j hj => ?_) (fun s hs => ?_) (okF_succ hok (hf9.2 (by omega)).1) (fun q q0 q1 q2 => (Eq.trans (fr48 q (q2 (t + 12) (by omega) (by omega)) (q2 37 (by omega) (by omega))) (Eq.trans (fr25 q (q1 (t + 12) (by omega) (by omega)) (q2 (t + 12) (by omega) (by omega))) (fr9 q q0))).trans (hfr q q0 q1 q2)) (by omega)
                  · rw [fup_n _ _ (by omega)]; exact hX1 j hj
                  · by_cases e : s = t
                    · subst e
                      exact ⟨fun _ => fup_s _ _ _, fun h => absurd h (by rw [fup_s]; omega)⟩
                    · rw [fup_n _ _ (by omega), fup_n _ _ (by omega)]; exact hv s (by omega)
                · -- on at 188
                  refine j_iconst hG dX9_offer_191 ?_
                  obtain ⟨_, _, _, ro1x, rc1x, -⟩ := hRW.1 (t + 12) (by omega) (by omega)
                  have hgi2 : ∀ i, 0 ≤ i → i < 12 → fup gi (t : Int) 1 i = 0 ∨ fup gi (t : Int) 1 i = 1 := fun i i1 i2 => by
                    unfold fup; split
                    · omega
                    · exact hgi i i1 i2
                  have hR2 : RWs E f26 ra ca (fup X1 (t + 12) (seg g21 0 n19, b20)) := by
                    refine RWs_upd2 hRW ⟨_, _, _, k22, k23, hg9, by omega, hn9, rfl, rfl⟩ ⟨_, h32, hgs⟩ (fun j j1 j2 je => ?_)
                    obtain ⟨_, _, _, z1, z2, -⟩ := hRW.1 j j1 j2
                    exact ⟨(Eq.trans (fr25 _ (fun q => absurd (hd.1 _ _ (by omega) (by omega) (by omega) (by omega) q) (by omega)) (h_ne z1 rc1x oa_J)) (fr9 _ (h_ne z1 hit oa_I))), (Eq.trans (fr25 _ (h_ne z2 ro1x (Ne.symm oa_J)) (fun q => absurd (hd.2 _ _ (by omega) (by omega) (by omega) (by omega) q) (by omega))) (fr9 _ (h_ne z2 hit (Ne.symm aIJ))))⟩
                  exact j_zret hG hZ dX9_offer_192 (Nat.zero_le _) (Nat.zero_le _) (nar_zr (by omega)) (hP 0 _ _ f26 h34 hgi2 hR2 (fun j hj => by rw [fup_n _ _ (by omega)]; exact hX1 j hj) (Or.inr ⟨rfl, fun h => hf9.1 (by omega) (h t (by omega))⟩) (fun q q0 q1 q2 => (Eq.trans (fr25 q (q1 (t + 12) (by omega) (by omega)) (q2 (t + 12) (by omega) (by omega))) (fr9 q q0)).trans (hfr q q0 q1 q2)))
              · -- on at 114
                exfalso; omega
            · -- on at 106
              exfalso; omega
          · -- on at 78
            refine j_aload_n hG dX9_offer_81 rfl rfl ?_
            refine j_aload hG dX9_offer_82 rfl ?_
            refine j_get hG fX9_91 dX9_offer_84 hma rfl ?_
            refine j_callV (rest := [.int (iZ ((t : Int))), .ref it]) hG vX9_65 dX9_offer_87 (c_X9_touches (i := M t 2) hT hpl hit (by omega) (by omega) hgi) hT rfl rfl (by decide) (by decide) (Nat.le_of_ble_eq_true rfl) rfl rfl (Nat.zero_le _) (Nat.zero_le _) ?_
            rintro _ _ ⟨⟨z62, rfl, hz63⟩, rfl⟩
            refine j_st (st' := [.int (iZ (z62)), .int (iZ ((t : Int))), .ref it]) rfl ?_
            refine j_if_eq (tgt := 97) hG dX9_offer_90 (by decide) (by omega) (fun c64 => ?_) (fun c64 => ?_)
            · -- taken at 90
              refine j_iconst hG dX9_offer_97 ?_
              refine j_zast hG dX9_offer_98 hit (by omega) (by decide) (by omega) (fun f65 h66 fr67 => ?_)
              have h68 := (fr67 T (h_ne hT hit oa_I)).trans hT
              have h69 := (fr67 pl (h_ne hpl hit oa_I)).trans hpl
              have h70 := (fr67 pm (h_ne hpm hit (Ne.symm aIQ))).trans hpm
              have h71 := (fr67 cu (h_ne hcu hit (Ne.symm aIQ))).trans hcu
              have h72 := (fr67 ofr (h_ne hof hit (Ne.symm aIQ))).trans hof
              have h73 := (fr67 (ca 37) (h_ne hsc hit (Ne.symm aIJ))).trans hsc
              have h74 := (fr67 (ma t) (h_ne hma hit oa_I)).trans hma
              refine j_aload_n hG dX9_offer_99 rfl rfl ?_
              refine j_get hG fX9_24 dX9_offer_100 h68 rfl ?_
              refine j_iload hG dX9_offer_103 rfl ?_
              refine j_zald hG dX9_offer_105 h66 (by omega) (by decide) ?_
              refine j_eq (show ((fup gi (t : Int) 0) (t : Int) : Int) = (0 : Int) from (fup_s _ _ _)) ?_
              refine j_if_ne (tgt := 112) hG dX9_offer_106 (by decide) (by omega) (fun c75 => ?_) (fun c75 => ?_)
              · -- taken at 106
                exfalso; omega
              · -- on at 106
                refine j_goto (tgt := 207) hG dX9_offer_109 (by decide) ?_
                refine j_iinc (a := (t : Int)) (lv' := [(0, .ref T), (1, .int (iZ (sN))), (2, .long (lZ (x))), (4, .int (iZ ((t : Int) + 1))), (5, .ref (ma t)), (6, .int (iZ (0)))]) hG dX9_offer_207 rfl (by decide) rfl ?_
                refine j_goto (tgt := 3) hG dX9_offer_210 (by decide) ?_
                refine j_lv (lv' := [(0, .ref T), (1, .int (iZ (sN))), (2, .long (lZ (x))), (4, .int (iZ (((t + 1 : Nat) : Int))))]) (by simp) ?_
                have hgi2 : ∀ i, 0 ≤ i → i < 12 → fup gi (t : Int) 0 i = 0 ∨ fup gi (t : Int) 0 i = 1 := fun i i1 i2 => by
                  unfold fup; split
                  · omega
                  · exact hgi i i1 i2
                have e3 : rawT M src t (tabF M src t) = rawT M (fup src sN (src sN ++ [x])) t (tabF M (fup src sN (src sN ++ [x])) t) := by
                  refine raw_same (fun e => ?_) (fun e => ⟨tabF_same hm1 (fun s es => ?_), tabF_same hm2 (fun s es => ?_)⟩)
                  · first | (exfalso; omega) | exact (fup_n _ _ (by omega)).symm
                  · first | (exfalso; omega) | exact (hv s (by omega)).2 (by rw [es]; omega)
                  · first | (exfalso; omega) | exact (hv s (by omega)).2 (by rw [es]; omega)
                have hR2 : RWs E f65 ra ca X1 := RWs_kept hRW (fun i i1 i2 => ⟨fun i3 => ?_, ?_⟩)
                rotate_left
                · obtain ⟨_, _, _, z1, -⟩ := hRW.1 i i1 i3
                  exact fr67 _ (h_ne z1 hit oa_I)
                · by_cases i3 : i < 37
                  · obtain ⟨_, _, _, -, z1, -⟩ := hRW.1 i i1 i3
                    exact fr67 _ (h_ne z1 hit (Ne.symm aIJ))
                  · have e : i = 37 := by omega
                    subst e
                    exact fr67 _ (h_ne hsc hit (Ne.symm aIJ))
                refine ih (t + 1) _ X1 gs f65 h68 h69 h70 h71 h72 h66 h73 hgs hR2 (by omega) hgi2 hX1 (fun s hs => ?_) (okF_succ hok (by rw [← e3]; exact hokO t (by omega))) (fun q q0 q1 q2 => (fr67 q q0).trans (hfr q q0 q1 q2)) (by omega)
                by_cases e : s = t
                · subst e
                  exact ⟨fun h => absurd h (by rw [fup_s]; omega), fun _ => tab_same e3⟩
                · rw [fup_n _ _ (by omega)]; exact hv s (by omega)
            · -- on at 90
              refine j_iconst hG dX9_offer_93 ?_
              refine j_goto (tgt := 98) hG dX9_offer_94 (by decide) ?_
              refine j_zast hG dX9_offer_98 hit (by omega) (by decide) (by omega) (fun f76 h77 fr78 => ?_)
              have h79 := (fr78 T (h_ne hT hit oa_I)).trans hT
              have h80 := (fr78 pl (h_ne hpl hit oa_I)).trans hpl
              have h81 := (fr78 pm (h_ne hpm hit (Ne.symm aIQ))).trans hpm
              have h82 := (fr78 cu (h_ne hcu hit (Ne.symm aIQ))).trans hcu
              have h83 := (fr78 ofr (h_ne hof hit (Ne.symm aIQ))).trans hof
              have h84 := (fr78 (ca 37) (h_ne hsc hit (Ne.symm aIJ))).trans hsc
              have h85 := (fr78 (ma t) (h_ne hma hit oa_I)).trans hma
              refine j_aload_n hG dX9_offer_99 rfl rfl ?_
              refine j_get hG fX9_24 dX9_offer_100 h79 rfl ?_
              refine j_iload hG dX9_offer_103 rfl ?_
              refine j_zald hG dX9_offer_105 h77 (by omega) (by decide) ?_
              refine j_eq (show ((fup gi (t : Int) 1) (t : Int) : Int) = (1 : Int) from (fup_s _ _ _)) ?_
              refine j_if_ne (tgt := 112) hG dX9_offer_106 (by decide) (by omega) (fun c86 => ?_) (fun c86 => ?_)
              · -- taken at 106
                refine j_iload hG dX9_offer_112 rfl ?_
                refine j_if_eq (tgt := 148) hG dX9_offer_114 (by decide) (by omega) (fun c87 => ?_) (fun c87 => ?_)
                · -- taken at 114
                  obtain ⟨la, la1, la2, la3⟩ := slot_of (src := src) (src' := (fup src sN (src sN ++ [x]))) (ra := ra) (z := 1) (l := M t 1) (by omega) hsz.2 hm1 hgi hX0 h36 hX1 hv
                  obtain ⟨lb, lb1, lb2, lb3⟩ := slot_of (src := src) (src' := (fup src sN (src sN ++ [x]))) (ra := ra) (z := 1) (l := M t 2) (by omega) hsz.2 hm2 hgi hX0 h36 hX1 hv
                  obtain ⟨n1, b1, g1, ro1, rc1, rg1, rb1, rn1, rl1⟩ := hRW.1 (t + 12) (by omega) (by omega)
                  replace ro1 := (fr78 _ (h_ne ro1 hit oa_I)).trans ro1
                  replace rc1 := (fr78 _ (h_ne rc1 hit (Ne.symm aIJ))).trans rc1
                  obtain ⟨na, ba, ga, roa, rca, rga, rba, rna, rla⟩ := hRW.1 (la) (by omega) (by omega)
                  replace roa := (fr78 _ (h_ne roa hit oa_I)).trans roa
                  replace rca := (fr78 _ (h_ne rca hit (Ne.symm aIJ))).trans rca
                  obtain ⟨nb, bb, gb, rob, rcb, rgb, rbb, rnb, rlb⟩ := hRW.1 (lb) (by omega) (by omega)
                  replace rob := (fr78 _ (h_ne rob hit oa_I)).trans rob
                  replace rcb := (fr78 _ (h_ne rcb hit (Ne.symm aIJ))).trans rcb
                  have qa := tabF_l (src := (fup src sN (src sN ++ [x]))) hm1 (fun s hs => hMok s (by omega)) hs2 hok
                  have qb := tabF_l (src := (fup src sN (src sN ++ [x]))) hm2 (fun s hs => hMok s (by omega)) hs2 hok
                  rw [la2] at rla
                  rw [lb2] at rlb
                  dsimp only at rla rlb
                  have hgiF : ∀ i, 0 ≤ i → i < 12 → fup gi (t : Int) 1 i = 0 ∨ fup gi (t : Int) 1 i = 1 := fun i i1 i2 => by
                    unfold fup; split
                    · omega
                    · exact hgi i i1 i2
                  rw [← rla.1] at qa
                  rw [← rlb.1] at qb
                  refine j_aload hG dX9_offer_148 rfl ?_
                  refine j_aload_n hG dX9_offer_150 rfl rfl ?_
                  refine j_aload hG dX9_offer_151 rfl ?_
                  refine j_get hG fX9_88 dX9_offer_153 h85 rfl ?_
                  refine j_callV (rest := [.ref (ma t)]) hG vX9_62 dX9_offer_156 (c_X9_offeredOf (i := M t 1) h79 h80 h82 h83 h77 (by omega) (by omega) gcu_ gof_ hgiF) h79 rfl rfl (by decide) (by decide) (Nat.le_of_ble_eq_true rfl) rfl rfl (Nat.zero_le _) (Nat.zero_le _) ?_
                  rintro _ _ ⟨rfl, rfl⟩
                  refine j_st (st' := [.ref (if 0 ≤ (M t 1) ∧ (M t 1) < sz then (if (fup gi (t : Int) 1) (M t 1) = 1 then ra (M t 1 + 12) else ra (M t 1)) else ra 36), .ref (ma t)]) rfl ?_
                  refine j_st (st' := [.ref (ra la), .ref (ma t)]) (by rw [la3]) ?_
                  refine j_aload_n hG dX9_offer_159 rfl rfl ?_
                  refine j_aload hG dX9_offer_160 rfl ?_
                  refine j_get hG fX9_91 dX9_offer_162 h85 rfl ?_
                  refine j_callV (rest := [.ref (ra la), .ref (ma t)]) hG vX9_62 dX9_offer_165 (c_X9_offeredOf (i := M t 2) h79 h80 h82 h83 h77 (by omega) (by omega) gcu_ gof_ hgiF) h79 rfl rfl (by decide) (by decide) (Nat.le_of_ble_eq_true rfl) rfl rfl (Nat.zero_le _) (Nat.zero_le _) ?_
                  rintro _ _ ⟨rfl, rfl⟩
                  refine j_st (st' := [.ref (if 0 ≤ (M t 2) ∧ (M t 2) < sz then (if (fup gi (t : Int) 1) (M t 2) = 1 then ra (M t 2 + 12) else ra (M t 2)) else ra 36), .ref (ra la), .ref (ma t)]) rfl ?_
                  refine j_st (st' := [.ref (ra lb), .ref (ra la), .ref (ma t)]) (by rw [lb3]) ?_
                  refine j_aload_n hG dX9_offer_168 rfl rfl ?_
                  refine j_get hG fX9_17 dX9_offer_169 h79 rfl ?_
                  refine j_iload hG dX9_offer_172 rfl ?_
                  refine j_ald4 hG dX9_offer_174 h83 (by omega) (by decide) (gof_ t (by omega) (by omega)) ?_
                  refine j_callV (rest := []) hG vX9_98 dX9_offer_175 (c_X3_fill h85 roa rca rob rcb ro1 rc1 rna rnb rga rgb rg1 (fun q => absurd (hd.1 _ _ (by omega) (by omega) (by omega) (by omega) q) (by omega)) (fun q => absurd (hd.2 _ _ (by omega) (by omega) (by omega) (by omega) q) (by omega)) (fun q => absurd (hd.1 _ _ (by omega) (by omega) (by omega) (by omega) q) (by omega)) (fun q => absurd (hd.2 _ _ (by omega) (by omega) (by omega) (by omega) q) (by omega)) (lOk_seg qa.1) (srt_keys qa.2) (srt_keys qb.2) hmk) h85 rfl rfl (by decide) (by decide) (Nat.le_of_ble_eq_true rfl) rfl rfl (Nat.zero_le _) (Nat.zero_le _) ?_
                  rintro _ f95 ⟨rfl, n88, b89, g90, k91, k92, k93, fr94⟩
                  refine j_st (st' := []) rfl ?_
                  have h96 := (fr94 T (h_ne h79 ro1 (oo_n (by decide))) (h_ne h79 rc1 oa_J)).trans h79
                  have h97 := (fr94 pl (h_ne h80 ro1 (oo_n (by decide))) (h_ne h80 rc1 oa_J)).trans h80
                  have h98 := (fr94 pm (h_ne h81 ro1 (Ne.symm oa_Q)) (h_ne h81 rc1 (Ne.symm aJQ))).trans h81
                  have h99 := (fr94 cu (h_ne h82 ro1 (Ne.symm oa_Q)) (h_ne h82 rc1 (Ne.symm aJQ))).trans h82
                  have h100 := (fr94 ofr (h_ne h83 ro1 (Ne.symm oa_Q)) (h_ne h83 rc1 (Ne.symm aJQ))).trans h83
                  have h101 := (fr94 (ca 37) (h_ne h84 ro1 (Ne.symm oa_J)) (Ne.symm (fun q => absurd (hd.2 _ _ (by omega) (by omega) (by omega) (by omega) q) (by omega)))).trans h84
                  have h102 := (fr94 (ma t) (h_ne h85 ro1 (oo_n (by decide))) (h_ne h85 rc1 oa_J)).trans h85
                  have h103 := (fr94 it (h_ne h77 ro1 (Ne.symm oa_I)) (h_ne h77 rc1 aIJ)).trans h77
                  have h104 := (fr94 (ra la) (fun q => absurd (hd.1 _ _ (by omega) (by omega) (by omega) (by omega) q) (by omega)) (h_ne roa rc1 oa_J)).trans roa
                  have h105 := (fr94 (ca la) (h_ne rca ro1 (Ne.symm oa_J)) (fun q => absurd (hd.2 _ _ (by omega) (by omega) (by omega) (by omega) q) (by omega))).trans rca
                  have h106 := (fr94 (ra lb) (fun q => absurd (hd.1 _ _ (by omega) (by omega) (by omega) (by omega) q) (by omega)) (h_ne rob rc1 oa_J)).trans rob
                  have h107 := (fr94 (ca lb) (h_ne rcb ro1 (Ne.symm oa_J)) (fun q => absurd (hd.2 _ _ (by omega) (by omega) (by omega) (by omega) q) (by omega))).trans rcb
                  have eR : rawT M (fup src sN (src sN ++ [x])) t (tabF M (fup src sN (src sN ++ [x])) t) = rawOf (M t 0) (M t 3) (M t 4) (M t 5) (seg ga 0 na) (seg gb 0 nb) := by
                    rw [rla.1, rlb.1]
                    unfold rawT
                    rw [if_neg (by omega)]
                  rw [← eR] at k93
                  have hb9 := acc_b k93
                  have hn9 := acc_n k93
                  have hg9 := k93.1
                  have hf9 : (b89 = 1 → ¬ rawOk (rawT M (fup src sN (src sN ++ [x])) t (tabF M (fup src sN (src sN ++ [x])) t))) ∧ (b89 = 0 → rawOk (rawT M (fup src sN (src sN ++ [x])) t (tabF M (fup src sN (src sN ++ [x])) t)) ∧ (seg g90 0 n88).Perm ((rawT M (fup src sN (src sN ++ [x])) t (tabF M (fup src sN (src sN ++ [x])) t)).map pk3)) := by
                    rcases k93.2.2.2 with q | q
                    · exact ⟨fun h => absurd h (by omega), fun _ => ⟨q.2.1, by rw [q.2.2.2]⟩⟩
                    · exact ⟨fun _ => q.2, fun h => absurd h (by omega)⟩
                  refine j_aload_n hG dX9_offer_178 rfl rfl ?_
                  refine j_get hG fX9_17 dX9_offer_179 h96 rfl ?_
                  refine j_iload hG dX9_offer_182 rfl ?_
                  refine j_ald4 hG dX9_offer_184 h100 (by omega) (by decide) (gof_ t (by omega) (by omega)) ?_
                  refine j_callV (rest := []) hG vX9_102 dX9_offer_185 (c_X8_isFull k91 hb9) k91 rfl rfl (by decide) (by decide) (Nat.le_of_ble_eq_true rfl) rfl rfl (Nat.zero_le _) (Nat.zero_le _) ?_
                  rintro _ _ ⟨rfl, rfl⟩
                  refine j_st (st' := [.int (iZ (b89))]) rfl ?_
                  refine j_if_eq (tgt := 193) hG dX9_offer_188 (by decide) (by omega) (fun c108 => ?_) (fun c108 => ?_)
                  · -- taken at 188
                    refine j_aload_n hG dX9_offer_193 rfl rfl ?_
                    refine j_get hG fX9_17 dX9_offer_194 h96 rfl ?_
                    refine j_iload hG dX9_offer_197 rfl ?_
                    refine j_ald4 hG dX9_offer_199 h100 (by omega) (by decide) (gof_ t (by omega) (by omega)) ?_
                    refine j_aload_n hG dX9_offer_200 rfl rfl ?_
                    refine j_get hG fX9_32 dX9_offer_201 h96 rfl ?_
                    refine j_callV (rest := []) hG vX9_106 dX9_offer_204 (c_X8_sort k91 k92 h101 hn9 (fun q => absurd (hd.2 _ _ (by omega) (by omega) (by omega) (by omega) q) (by omega)) hg9 hgs) k91 rfl rfl (by decide) (by decide) (Nat.le_of_ble_eq_true rfl) rfl rfl (Nat.zero_le _) (Nat.zero_le _) ?_
                    rintro _ f118 ⟨rfl, g109, g110, k111, k112, k113, k114, k115, k116, fr117⟩
                    refine j_st (st' := []) rfl ?_
                    have h119 := (fr117 T (h_ne h96 k92 oa_J) (h_ne h96 h101 oa_J)).trans h96
                    have h120 := (fr117 pl (h_ne h97 k92 oa_J) (h_ne h97 h101 oa_J)).trans h97
                    have h121 := (fr117 pm (h_ne h98 k92 (Ne.symm aJQ)) (h_ne h98 h101 (Ne.symm aJQ))).trans h98
                    have h122 := (fr117 cu (h_ne h99 k92 (Ne.symm aJQ)) (h_ne h99 h101 (Ne.symm aJQ))).trans h99
                    have h123 := (fr117 ofr (h_ne h100 k92 (Ne.symm aJQ)) (h_ne h100 h101 (Ne.symm aJQ))).trans h100
                    have h124 := (fr117 (ma t) (h_ne h102 k92 oa_J) (h_ne h102 h101 oa_J)).trans h102
                    have h125 := (fr117 it (h_ne h103 k92 aIJ) (h_ne h103 h101 aIJ)).trans h103
                    have h126 := (fr117 (ra la) (h_ne h104 k92 oa_J) (h_ne h104 h101 oa_J)).trans h104
                    have h127 := (fr117 (ca la) (fun q => absurd (hd.2 _ _ (by omega) (by omega) (by omega) (by omega) q) (by omega)) (fun q => absurd (hd.2 la 37 (by omega) (by omega) (by omega) (by omega) q) (by omega))).trans h105
                    have h128 := (fr117 (ra lb) (h_ne h106 k92 oa_J) (h_ne h106 h101 oa_J)).trans h106
                    have h129 := (fr117 (ca lb) (fun q => absurd (hd.2 _ _ (by omega) (by omega) (by omega) (by omega) q) (by omega)) (fun q => absurd (hd.2 lb 37 (by omega) (by omega) (by omega) (by omega) q) (by omega))).trans h107
                    have h130 := (fr117 (ra (t + 12)) (h_ne k91 k92 oa_J) (h_ne k91 h101 oa_J)).trans k91
                    refine j_iinc (a := (t : Int)) (lv' := [(0, .ref T), (1, .int (iZ (sN))), (2, .long (lZ (x))), (4, .int (iZ ((t : Int) + 1))), (5, .ref (ma t)), (6, .int (iZ (0)))]) hG dX9_offer_207 rfl (by decide) rfl ?_
                    refine j_goto (tgt := 3) hG dX9_offer_210 (by decide) ?_
                    refine j_lv (lv' := [(0, .ref T), (1, .int (iZ (sN))), (2, .long (lZ (x))), (4, .int (iZ (((t + 1 : Nat) : Int))))]) (by simp) ?_
                    have hgi2 : ∀ i, 0 ≤ i → i < 12 → fup gi (t : Int) 1 i = 0 ∨ fup gi (t : Int) 1 i = 1 := fun i i1 i2 => by
                      unfold fup; split
                      · omega
                      · exact hgi i i1 i2
                    obtain ⟨_, _, _, ro1x, rc1x, -⟩ := hRW.1 (t + 12) (by omega) (by omega)
                    have eT : tab M (fup src sN (src sN ++ [x])) t = seg g109 0 n88 := (isrt_of k116 (k115.trans (hf9.2 (by omega)).2)).symm
                    have hR2 : RWs E f118 ra ca (fup X1 (t + 12) (tab M (fup src sN (src sN ++ [x])) t, 0)) := by
                      refine RWs_upd2 hRW ⟨_, _, _, h130, k111, k113, by omega, hn9, eT.symm, by omega⟩ ⟨_, k112, k114⟩ (fun j j1 j2 je => ?_)
                      obtain ⟨_, _, _, z1, z2, -⟩ := hRW.1 j j1 j2
                      exact ⟨(Eq.trans (fr117 _ (h_ne z1 rc1x oa_J) (h_ne z1 hsc oa_J)) (Eq.trans (fr94 _ (fun q => absurd (hd.1 _ _ (by omega) (by omega) (by omega) (by omega) q) (by omega)) (h_ne z1 rc1x oa_J)) (fr78 _ (h_ne z1 hit oa_I)))), (Eq.trans (fr117 _ (fun q => absurd (hd.2 _ _ (by omega) (by omega) (by omega) (by omega) q) (by omega)) (fun q => absurd (hd.2 _ _ (by omega) (by omega) (by omega) (by omega) q) (by omega))) (Eq.trans (fr94 _ (h_ne z2 ro1x (Ne.symm oa_J)) (fun q => absurd (hd.2 _ _ (by omega) (by omega) (by omega) (by omega) q) (by omega))) (fr78 _ (h_ne z2 hit (Ne.symm aIJ)))))⟩
                    refine ih (t + 1) _ _ g110 f118 h119 h120 h121 h122 h123 h125 k112 k114 hR2 (by omega) hgi2 (fun j hj => ?_) (fun s hs => ?_) (okF_succ hok (hf9.2 (by omega)).1) (fun q q0 q1 q2 => (Eq.trans (fr117 q (q2 (t + 12) (by omega) (by omega)) (q2 37 (by omega) (by omega))) (Eq.trans (fr94 q (q1 (t + 12) (by omega) (by omega)) (q2 (t + 12) (by omega) (by omega))) (fr78 q q0))).trans (hfr q q0 q1 q2)) (by omega)
                    · rw [fup_n _ _ (by omega)]; exact hX1 j hj
                    · by_cases e : s = t
                      · subst e
                        exact ⟨fun _ => fup_s _ _ _, fun h => absurd h (by rw [fup_s]; omega)⟩
                      · rw [fup_n _ _ (by omega), fup_n _ _ (by omega)]; exact hv s (by omega)
                  · -- on at 188
                    refine j_iconst hG dX9_offer_191 ?_
                    obtain ⟨_, _, _, ro1x, rc1x, -⟩ := hRW.1 (t + 12) (by omega) (by omega)
                    have hgi2 : ∀ i, 0 ≤ i → i < 12 → fup gi (t : Int) 1 i = 0 ∨ fup gi (t : Int) 1 i = 1 := fun i i1 i2 => by
                      unfold fup; split
                      · omega
                      · exact hgi i i1 i2
                    have hR2 : RWs E f95 ra ca (fup X1 (t + 12) (seg g90 0 n88, b89)) := by
                      refine RWs_upd2 hRW ⟨_, _, _, k91, k92, hg9, by omega, hn9, rfl, rfl⟩ ⟨_, h101, hgs⟩ (fun j j1 j2 je => ?_)
                      obtain ⟨_, _, _, z1, z2, -⟩ := hRW.1 j j1 j2
                      exact ⟨(Eq.trans (fr94 _ (fun q => absurd (hd.1 _ _ (by omega) (by omega) (by omega) (by omega) q) (by omega)) (h_ne z1 rc1x oa_J)) (fr78 _ (h_ne z1 hit oa_I))), (Eq.trans (fr94 _ (h_ne z2 ro1x (Ne.symm oa_J)) (fun q => absurd (hd.2 _ _ (by omega) (by omega) (by omega) (by omega) q) (by omega))) (fr78 _ (h_ne z2 hit (Ne.symm aIJ))))⟩
                    exact j_zret hG hZ dX9_offer_192 (Nat.zero_le _) (Nat.zero_le _) (nar_zr (by omega)) (hP 0 _ _ f95 h103 hgi2 hR2 (fun j hj => by rw [fup_n _ _ (by omega)]; exact hX1 j hj) (Or.inr ⟨rfl, fun h => hf9.1 (by omega) (h t (by omega))⟩) (fun q q0 q1 q2 => (Eq.trans (fr94 q (q1 (t + 12) (by omega) (by omega)) (q2 (t + 12) (by omega) (by omega))) (fr78 q q0)).trans (hfr q q0 q1 q2)))
                · -- on at 114
                  exfalso; omega
              · -- on at 106
                exfalso; omega
        · -- on at 49
          exfalso; omega
      · -- on at 31
        refine j_iconst hG dX9_offer_34 ?_
        refine j_goto (tgt := 39) hG dX9_offer_35 (by decide) ?_
        refine j_istore (lv' := [(0, .ref T), (1, .int (iZ (sN))), (2, .long (lZ (x))), (4, .int (iZ ((t : Int)))), (5, .ref (ma t)), (6, .int (iZ (1)))]) hG dX9_offer_39 (by decide) rfl ?_
        refine j_aload_n hG dX9_offer_41 rfl rfl ?_
        refine j_get hG fX9_24 dX9_offer_42 hT rfl ?_
        refine j_iload hG dX9_offer_45 rfl ?_
        refine j_iload hG dX9_offer_47 rfl ?_
        refine j_if_eq (tgt := 69) hG dX9_offer_49 (by decide) (by omega) (fun c131 => ?_) (fun c131 => ?_)
        · -- taken at 49
          exfalso; omega
        · -- on at 49
          refine j_aload hG dX9_offer_52 rfl ?_
          refine j_get hG fX9_85 dX9_offer_54 hma rfl ?_
          refine j_iload_n hG dX9_offer_57 rfl rfl ?_
          refine j_icmp_ne (tgt := 65) hG dX9_offer_58 (by decide) (by omega) (by omega) (fun c132 => ?_) (fun c132 => ?_)
          · -- taken at 58
            refine j_iconst hG dX9_offer_65 ?_
            refine j_goto (tgt := 98) hG dX9_offer_66 (by decide) ?_
            refine j_zast hG dX9_offer_98 hit (by omega) (by decide) (by omega) (fun f133 h134 fr135 => ?_)
            have h136 := (fr135 T (h_ne hT hit oa_I)).trans hT
            have h137 := (fr135 pl (h_ne hpl hit oa_I)).trans hpl
            have h138 := (fr135 pm (h_ne hpm hit (Ne.symm aIQ))).trans hpm
            have h139 := (fr135 cu (h_ne hcu hit (Ne.symm aIQ))).trans hcu
            have h140 := (fr135 ofr (h_ne hof hit (Ne.symm aIQ))).trans hof
            have h141 := (fr135 (ca 37) (h_ne hsc hit (Ne.symm aIJ))).trans hsc
            have h142 := (fr135 (ma t) (h_ne hma hit oa_I)).trans hma
            refine j_aload_n hG dX9_offer_99 rfl rfl ?_
            refine j_get hG fX9_24 dX9_offer_100 h136 rfl ?_
            refine j_iload hG dX9_offer_103 rfl ?_
            refine j_zald hG dX9_offer_105 h134 (by omega) (by decide) ?_
            refine j_eq (show ((fup gi (t : Int) 0) (t : Int) : Int) = (0 : Int) from (fup_s _ _ _)) ?_
            refine j_if_ne (tgt := 112) hG dX9_offer_106 (by decide) (by omega) (fun c143 => ?_) (fun c143 => ?_)
            · -- taken at 106
              exfalso; omega
            · -- on at 106
              refine j_goto (tgt := 207) hG dX9_offer_109 (by decide) ?_
              refine j_iinc (a := (t : Int)) (lv' := [(0, .ref T), (1, .int (iZ (sN))), (2, .long (lZ (x))), (4, .int (iZ ((t : Int) + 1))), (5, .ref (ma t)), (6, .int (iZ (1)))]) hG dX9_offer_207 rfl (by decide) rfl ?_
              refine j_goto (tgt := 3) hG dX9_offer_210 (by decide) ?_
              refine j_lv (lv' := [(0, .ref T), (1, .int (iZ (sN))), (2, .long (lZ (x))), (4, .int (iZ (((t + 1 : Nat) : Int))))]) (by simp) ?_
              have hgi2 : ∀ i, 0 ≤ i → i < 12 → fup gi (t : Int) 0 i = 0 ∨ fup gi (t : Int) 0 i = 1 := fun i i1 i2 => by
                unfold fup; split
                · omega
                · exact hgi i i1 i2
              have e3 : rawT M src t (tabF M src t) = rawT M (fup src sN (src sN ++ [x])) t (tabF M (fup src sN (src sN ++ [x])) t) := by
                refine raw_same (fun e => ?_) (fun e => ⟨tabF_same hm1 (fun s es => ?_), tabF_same hm2 (fun s es => ?_)⟩)
                · first | (exfalso; omega) | exact (fup_n _ _ (by omega)).symm
                · first | (exfalso; omega) | exact (hv s (by omega)).2 (by rw [es]; omega)
                · first | (exfalso; omega) | exact (hv s (by omega)).2 (by rw [es]; omega)
              have hR2 : RWs E f133 ra ca X1 := RWs_kept hRW (fun i i1 i2 => ⟨fun i3 => ?_, ?_⟩)
              rotate_left
              · obtain ⟨_, _, _, z1, -⟩ := hRW.1 i i1 i3
                exact fr135 _ (h_ne z1 hit oa_I)
              · by_cases i3 : i < 37
                · obtain ⟨_, _, _, -, z1, -⟩ := hRW.1 i i1 i3
                  exact fr135 _ (h_ne z1 hit (Ne.symm aIJ))
                · have e : i = 37 := by omega
                  subst e
                  exact fr135 _ (h_ne hsc hit (Ne.symm aIJ))
              refine ih (t + 1) _ X1 gs f133 h136 h137 h138 h139 h140 h134 h141 hgs hR2 (by omega) hgi2 hX1 (fun s hs => ?_) (okF_succ hok (by rw [← e3]; exact hokO t (by omega))) (fun q q0 q1 q2 => (fr135 q q0).trans (hfr q q0 q1 q2)) (by omega)
              by_cases e : s = t
              · subst e
                exact ⟨fun h => absurd h (by rw [fup_s]; omega), fun _ => tab_same e3⟩
              · rw [fup_n _ _ (by omega)]; exact hv s (by omega)
          · -- on at 58
            refine j_iconst hG dX9_offer_61 ?_
            refine j_goto (tgt := 98) hG dX9_offer_62 (by decide) ?_
            refine j_zast hG dX9_offer_98 hit (by omega) (by decide) (by omega) (fun f144 h145 fr146 => ?_)
            have h147 := (fr146 T (h_ne hT hit oa_I)).trans hT
            have h148 := (fr146 pl (h_ne hpl hit oa_I)).trans hpl
            have h149 := (fr146 pm (h_ne hpm hit (Ne.symm aIQ))).trans hpm
            have h150 := (fr146 cu (h_ne hcu hit (Ne.symm aIQ))).trans hcu
            have h151 := (fr146 ofr (h_ne hof hit (Ne.symm aIQ))).trans hof
            have h152 := (fr146 (ca 37) (h_ne hsc hit (Ne.symm aIJ))).trans hsc
            have h153 := (fr146 (ma t) (h_ne hma hit oa_I)).trans hma
            refine j_aload_n hG dX9_offer_99 rfl rfl ?_
            refine j_get hG fX9_24 dX9_offer_100 h147 rfl ?_
            refine j_iload hG dX9_offer_103 rfl ?_
            refine j_zald hG dX9_offer_105 h145 (by omega) (by decide) ?_
            refine j_eq (show ((fup gi (t : Int) 1) (t : Int) : Int) = (1 : Int) from (fup_s _ _ _)) ?_
            refine j_if_ne (tgt := 112) hG dX9_offer_106 (by decide) (by omega) (fun c154 => ?_) (fun c154 => ?_)
            · -- taken at 106
              refine j_iload hG dX9_offer_112 rfl ?_
              refine j_if_eq (tgt := 148) hG dX9_offer_114 (by decide) (by omega) (fun c155 => ?_) (fun c155 => ?_)
              · -- taken at 114
                exfalso; omega
              · -- on at 114
                obtain ⟨n1, b1, g1, ro1, rc1, rg1, rb1, rn1, rl1⟩ := hRW.1 (t + 12) (by omega) (by omega)
                replace ro1 := (fr146 _ (h_ne ro1 hit oa_I)).trans ro1
                replace rc1 := (fr146 _ (h_ne rc1 hit (Ne.symm aIJ))).trans rc1
                obtain ⟨n2, b2, g2, ro2, rc2, rg2, rb2, rn2, rl2⟩ := hRW.1 (t) (by omega) (by omega)
                replace ro2 := (fr146 _ (h_ne ro2 hit oa_I)).trans ro2
                replace rc2 := (fr146 _ (h_ne rc2 hit (Ne.symm aIJ))).trans rc2
                refine j_aload_n hG dX9_offer_117 rfl rfl ?_
                refine j_get hG fX9_17 dX9_offer_118 h147 rfl ?_
                refine j_iload hG dX9_offer_121 rfl ?_
                refine j_ald4 hG dX9_offer_123 h151 (by omega) (by decide) (gof_ t (by omega) (by omega)) ?_
                refine j_aload_n hG dX9_offer_124 rfl rfl ?_
                refine j_get hG fX9_11 dX9_offer_125 h147 rfl ?_
                refine j_iload hG dX9_offer_128 rfl ?_
                refine j_ald4 hG dX9_offer_130 h150 (by omega) (by decide) (gcu_ t (by omega) (by omega)) ?_
                refine j_callV (rest := []) hG vX9_71 dX9_offer_131 (c_X8_copy ro1 rc1 ro2 rc2 rn2 rb2 (fun q => absurd (hd.1 _ _ (by omega) (by omega) (by omega) (by omega) q) (by omega)) (fun q => absurd (hd.2 _ _ (by omega) (by omega) (by omega) (by omega) q) (by omega))) ro1 rfl rfl (by decide) (by decide) (Nat.le_of_ble_eq_true rfl) rfl rfl (Nat.zero_le _) (Nat.zero_le _) ?_
                rintro _ f161 ⟨rfl, ⟨g156, k157, k158, k159⟩, fr160⟩
                refine j_st (st' := []) rfl ?_
                have h162 := (fr160 T (h_ne h147 ro1 (oo_n (by decide))) (h_ne h147 rc1 oa_J)).trans h147
                have h163 := (fr160 pl (h_ne h148 ro1 (oo_n (by decide))) (h_ne h148 rc1 oa_J)).trans h148
                have h164 := (fr160 pm (h_ne h149 ro1 (Ne.symm oa_Q)) (h_ne h149 rc1 (Ne.symm aJQ))).trans h149
                have h165 := (fr160 cu (h_ne h150 ro1 (Ne.symm oa_Q)) (h_ne h150 rc1 (Ne.symm aJQ))).trans h150
                have h166 := (fr160 ofr (h_ne h151 ro1 (Ne.symm oa_Q)) (h_ne h151 rc1 (Ne.symm aJQ))).trans h151
                have h167 := (fr160 (ca 37) (h_ne h152 ro1 (Ne.symm oa_J)) (Ne.symm (fun q => absurd (hd.2 _ _ (by omega) (by omega) (by omega) (by omega) q) (by omega)))).trans h152
                have h168 := (fr160 (ma t) (h_ne h153 ro1 (oo_n (by decide))) (h_ne h153 rc1 oa_J)).trans h153
                have h169 := (fr160 it (h_ne h145 ro1 (Ne.symm oa_I)) (h_ne h145 rc1 aIJ)).trans h145
                have h170 := (fr160 (ra t) (fun q => absurd (hd.1 _ _ (by omega) (by omega) (by omega) (by omega) q) (by omega)) (h_ne ro2 rc1 oa_J)).trans ro2
                have h171 := (fr160 (ca t) (h_ne rc2 ro1 (Ne.symm oa_J)) (fun q => absurd (hd.2 _ _ (by omega) (by omega) (by omega) (by omega) q) (by omega))).trans rc2
                refine j_aload_n hG dX9_offer_134 rfl rfl ?_
                refine j_get hG fX9_17 dX9_offer_135 h162 rfl ?_
                refine j_iload hG dX9_offer_138 rfl ?_
                refine j_ald4 hG dX9_offer_140 h166 (by omega) (by decide) (gof_ t (by omega) (by omega)) ?_
                refine j_lload_n hG dX9_offer_141 rfl rfl ?_
                refine j_callV (rest := []) hG vX9_94 dX9_offer_142 (c_X8_addL (x := x) k157 k158 (by omega)) k157 rfl rfl (by decide) (by decide) (Nat.le_of_ble_eq_true rfl) rfl rfl (Nat.zero_le _) (Nat.zero_le _) ?_
                rintro _ f179 ⟨rfl, n172, b173, g174, ha175, h176, h177, fr178⟩
                refine j_st (st' := []) rfl ?_
                have h180 := (fr178 T (h_ne h162 k157 (oo_n (by decide))) (h_ne h162 k158 oa_J)).trans h162
                have h181 := (fr178 pl (h_ne h163 k157 (oo_n (by decide))) (h_ne h163 k158 oa_J)).trans h163
                have h182 := (fr178 pm (h_ne h164 k157 (Ne.symm oa_Q)) (h_ne h164 k158 (Ne.symm aJQ))).trans h164
                have h183 := (fr178 cu (h_ne h165 k157 (Ne.symm oa_Q)) (h_ne h165 k158 (Ne.symm aJQ))).trans h165
                have h184 := (fr178 ofr (h_ne h166 k157 (Ne.symm oa_Q)) (h_ne h166 k158 (Ne.symm aJQ))).trans h166
                have h185 := (fr178 (ca 37) (h_ne h167 k157 (Ne.symm oa_J)) (Ne.symm (fun q => absurd (hd.2 _ _ (by omega) (by omega) (by omega) (by omega) q) (by omega)))).trans h167
                have h186 := (fr178 (ma t) (h_ne h168 k157 (oo_n (by decide))) (h_ne h168 k158 oa_J)).trans h168
                have h187 := (fr178 it (h_ne h169 k157 (Ne.symm oa_I)) (h_ne h169 k158 aIJ)).trans h169
                have h188 := (fr178 (ra t) (fun q => absurd (hd.1 _ _ (by omega) (by omega) (by omega) (by omega) q) (by omega)) (h_ne h170 k158 oa_J)).trans h170
                have h189 := (fr178 (ca t) (h_ne h171 k157 (Ne.symm oa_J)) (fun q => absurd (hd.2 _ _ (by omega) (by omega) (by omega) (by omega) q) (by omega))).trans h171
                refine j_goto (tgt := 178) hG dX9_offer_145 (by decide) ?_
                have e0 : M t 0 = 0 := by omega
                have e5 : M t 5 = sN := by omega
                have st0 := src_tab (src := src) e0 hsl
                have st1 := src_tab (src := (fup src sN (src sN ++ [x]))) e0 hs2
                rw [e5] at st0 st1
                rw [fup_s] at st1
                have eX := hX0 t (by omega)
                rw [← hX1 t (by omega)] at eX
                rw [eX] at rl2
                dsimp only at rl2
                have sg2 : seg g156 0 n2 = tab M src t := by
                  rw [← rl2.1, k159]
                  exact seg_congr (fun j j1 j2 => by unfold fcp; rw [if_pos (by omega)]; congr 1; omega)
                have ln2 : (src sN).length = n2 := by
                  have := congrArg List.length sg2
                  rw [seg_len, st0.1.length_eq] at this
                  omega
                have hb9 : b173 = 0 ∨ b173 = 1 := by rcases ha175 with q | q <;> omega
                have hn9 : 0 ≤ n172 ∧ n172 ≤ 400 := by rcases ha175 with q | q <;> omega
                have hg9 : gOk g174 := by
                  have z : gOk g156 := by rw [k159]; exact gOk_fcp rg2 rg1
                  rcases ha175 with ⟨-, -, -, q⟩ | ⟨-, -, -, q⟩
                  · rw [q]; exact z
                  · rw [q]; exact gOk_fup z hx.1
                have hf9 : (b173 = 1 → ¬ rawOk (rawT M (fup src sN (src sN ++ [x])) t (tabF M (fup src sN (src sN ++ [x])) t))) ∧ (b173 = 0 → rawOk (rawT M (fup src sN (src sN ++ [x])) t (tabF M (fup src sN (src sN ++ [x])) t)) ∧ (seg g174 0 n172).Perm ((rawT M (fup src sN (src sN ++ [x])) t (tabF M (fup src sN (src sN ++ [x])) t)).map pk3)) := by
                  rw [st1.2]
                  rcases ha175 with ⟨q1, q2, q3, q4⟩ | ⟨q1, q2, q3, q4⟩
                  · refine ⟨fun _ h => ?_, fun h => absurd h (by omega)⟩
                    have := h.1
                    rw [List.length_map, List.length_append] at this
                    simp only [List.length_cons, List.length_nil] at this
                    omega
                  · have hlen : (src sN ++ [x]).length ≤ 400 := by rw [List.length_append]; simp only [List.length_cons, List.length_nil]; omega
                    have hl9 := hs2 sN
                    rw [fup_s] at hl9
                    refine ⟨fun h => ?_, fun _ => ⟨src_raw hl9 hlen, ?_⟩⟩
                    · have := rl2.2; omega
                    · rw [map_un (lOk_r hl9), q2, q4, seg_snoc (by omega), seg_fup_out (Or.inr (Int.le_refl _)), fup_s, sg2]
                      exact List.Perm.append_right _ st0.1
                refine j_aload_n hG dX9_offer_178 rfl rfl ?_
                refine j_get hG fX9_17 dX9_offer_179 h180 rfl ?_
                refine j_iload hG dX9_offer_182 rfl ?_
                refine j_ald4 hG dX9_offer_184 h184 (by omega) (by decide) (gof_ t (by omega) (by omega)) ?_
                refine j_callV (rest := []) hG vX9_102 dX9_offer_185 (c_X8_isFull h176 hb9) h176 rfl rfl (by decide) (by decide) (Nat.le_of_ble_eq_true rfl) rfl rfl (Nat.zero_le _) (Nat.zero_le _) ?_
                rintro _ _ ⟨rfl, rfl⟩
                refine j_st (st' := [.int (iZ (b173))]) rfl ?_
                refine j_if_eq (tgt := 193) hG dX9_offer_188 (by decide) (by omega) (fun c190 => ?_) (fun c190 => ?_)
                · -- taken at 188
                  refine j_aload_n hG dX9_offer_193 rfl rfl ?_
                  refine j_get hG fX9_17 dX9_offer_194 h180 rfl ?_
                  refine j_iload hG dX9_offer_197 rfl ?_
                  refine j_ald4 hG dX9_offer_199 h184 (by omega) (by decide) (gof_ t (by omega) (by omega)) ?_
                  refine j_aload_n hG dX9_offer_200 rfl rfl ?_
                  refine j_get hG fX9_32 dX9_offer_201 h180 rfl ?_
                  refine j_callV (rest := []) hG vX9_106 dX9_offer_204 (c_X8_sort h176 h177 h185 hn9 (fun q => absurd (hd.2 _ _ (by omega) (by omega) (by omega) (by omega) q) (by omega)) hg9 hgs) h176 rfl rfl (by decide) (by decide) (Nat.le_of_ble_eq_true rfl) rfl rfl (Nat.zero_le _) (Nat.zero_le _) ?_
                  rintro _ f200 ⟨rfl, g191, g192, k193, k194, k195, k196, k197, k198, fr199⟩
                  refine j_st (st' := []) rfl ?_
                  have h201 := (fr199 T (h_ne h180 h177 oa_J) (h_ne h180 h185 oa_J)).trans h180
                  have h202 := (fr199 pl (h_ne h181 h177 oa_J) (h_ne h181 h185 oa_J)).trans h181
                  have h203 := (fr199 pm (h_ne h182 h177 (Ne.symm aJQ)) (h_ne h182 h185 (Ne.symm aJQ))).trans h182
                  have h204 := (fr199 cu (h_ne h183 h177 (Ne.symm aJQ)) (h_ne h183 h185 (Ne.symm aJQ))).trans h183
                  have h205 := (fr199 ofr (h_ne h184 h177 (Ne.symm aJQ)) (h_ne h184 h185 (Ne.symm aJQ))).trans h184
                  have h206 := (fr199 (ma t) (h_ne h186 h177 oa_J) (h_ne h186 h185 oa_J)).trans h186
                  have h207 := (fr199 it (h_ne h187 h177 aIJ) (h_ne h187 h185 aIJ)).trans h187
                  have h208 := (fr199 (ra t) (h_ne h188 h177 oa_J) (h_ne h188 h185 oa_J)).trans h188
                  have h209 := (fr199 (ca t) (fun q => absurd (hd.2 _ _ (by omega) (by omega) (by omega) (by omega) q) (by omega)) (fun q => absurd (hd.2 _ _ (by omega) (by omega) (by omega) (by omega) q) (by omega))).trans h189
                  have h210 := (fr199 (ra (t + 12)) (h_ne h176 h177 oa_J) (h_ne h176 h185 oa_J)).trans h176
                  refine j_iinc (a := (t : Int)) (lv' := [(0, .ref T), (1, .int (iZ (sN))), (2, .long (lZ (x))), (4, .int (iZ ((t : Int) + 1))), (5, .ref (ma t)), (6, .int (iZ (1)))]) hG dX9_offer_207 rfl (by decide) rfl ?_
                  refine j_goto (tgt := 3) hG dX9_offer_210 (by decide) ?_
                  refine j_lv (lv' := [(0, .ref T), (1, .int (iZ (sN))), (2, .long (lZ (x))), (4, .int (iZ (((t + 1 : Nat) : Int))))]) (by simp) ?_
                  have hgi2 : ∀ i, 0 ≤ i → i < 12 → fup gi (t : Int) 1 i = 0 ∨ fup gi (t : Int) 1 i = 1 := fun i i1 i2 => by
                    unfold fup; split
                    · omega
                    · exact hgi i i1 i2
                  obtain ⟨_, _, _, ro1x, rc1x, -⟩ := hRW.1 (t + 12) (by omega) (by omega)
                  have eT : tab M (fup src sN (src sN ++ [x])) t = seg g191 0 n172 := (isrt_of k198 (k197.trans (hf9.2 (by omega)).2)).symm
                  have hR2 : RWs E f200 ra ca (fup X1 (t + 12) (tab M (fup src sN (src sN ++ [x])) t, 0)) := by
                    refine RWs_upd2 hRW ⟨_, _, _, h210, k193, k195, by omega, hn9, eT.symm, by omega⟩ ⟨_, k194, k196⟩ (fun j j1 j2 je => ?_)
                    obtain ⟨_, _, _, z1, z2, -⟩ := hRW.1 j j1 j2
                    exact ⟨(Eq.trans (fr199 _ (h_ne z1 rc1x oa_J) (h_ne z1 hsc oa_J)) (Eq.trans (fr178 _ (fun q => absurd (hd.1 _ _ (by omega) (by omega) (by omega) (by omega) q) (by omega)) (h_ne z1 rc1x oa_J)) (Eq.trans (fr160 _ (fun q => absurd (hd.1 _ _ (by omega) (by omega) (by omega) (by omega) q) (by omega)) (h_ne z1 rc1x oa_J)) (fr146 _ (h_ne z1 hit oa_I))))), (Eq.trans (fr199 _ (fun q => absurd (hd.2 _ _ (by omega) (by omega) (by omega) (by omega) q) (by omega)) (fun q => absurd (hd.2 _ _ (by omega) (by omega) (by omega) (by omega) q) (by omega))) (Eq.trans (fr178 _ (h_ne z2 ro1x (Ne.symm oa_J)) (fun q => absurd (hd.2 _ _ (by omega) (by omega) (by omega) (by omega) q) (by omega))) (Eq.trans (fr160 _ (h_ne z2 ro1x (Ne.symm oa_J)) (fun q => absurd (hd.2 _ _ (by omega) (by omega) (by omega) (by omega) q) (by omega))) (fr146 _ (h_ne z2 hit (Ne.symm aIJ))))))⟩
                  refine ih (t + 1) _ _ g192 f200 h201 h202 h203 h204 h205 h207 k194 k196 hR2 (by omega) hgi2 (fun j hj => ?_) (fun s hs => ?_) (okF_succ hok (hf9.2 (by omega)).1) (fun q q0 q1 q2 => (Eq.trans (fr199 q (q2 (t + 12) (by omega) (by omega)) (q2 37 (by omega) (by omega))) (Eq.trans (fr178 q (q1 (t + 12) (by omega) (by omega)) (q2 (t + 12) (by omega) (by omega))) (Eq.trans (fr160 q (q1 (t + 12) (by omega) (by omega)) (q2 (t + 12) (by omega) (by omega))) (fr146 q q0)))).trans (hfr q q0 q1 q2)) (by omega)
                  · rw [fup_n _ _ (by omega)]; exact hX1 j hj
                  · by_cases e : s = t
                    · subst e
                      exact ⟨fun _ => fup_s _ _ _, fun h => absurd h (by rw [fup_s]; omega)⟩
                    · rw [fup_n _ _ (by omega), fup_n _ _ (by omega)]; exact hv s (by omega)
                · -- on at 188
                  refine j_iconst hG dX9_offer_191 ?_
                  obtain ⟨_, _, _, ro1x, rc1x, -⟩ := hRW.1 (t + 12) (by omega) (by omega)
                  have hgi2 : ∀ i, 0 ≤ i → i < 12 → fup gi (t : Int) 1 i = 0 ∨ fup gi (t : Int) 1 i = 1 := fun i i1 i2 => by
                    unfold fup; split
                    · omega
                    · exact hgi i i1 i2
                  have hR2 : RWs E f179 ra ca (fup X1 (t + 12) (seg g174 0 n172, b173)) := by
                    refine RWs_upd2 hRW ⟨_, _, _, h176, h177, hg9, by omega, hn9, rfl, rfl⟩ ⟨_, h185, hgs⟩ (fun j j1 j2 je => ?_)
                    obtain ⟨_, _, _, z1, z2, -⟩ := hRW.1 j j1 j2
                    exact ⟨(Eq.trans (fr178 _ (fun q => absurd (hd.1 _ _ (by omega) (by omega) (by omega) (by omega) q) (by omega)) (h_ne z1 rc1x oa_J)) (Eq.trans (fr160 _ (fun q => absurd (hd.1 _ _ (by omega) (by omega) (by omega) (by omega) q) (by omega)) (h_ne z1 rc1x oa_J)) (fr146 _ (h_ne z1 hit oa_I)))), (Eq.trans (fr178 _ (h_ne z2 ro1x (Ne.symm oa_J)) (fun q => absurd (hd.2 _ _ (by omega) (by omega) (by omega) (by omega) q) (by omega))) (Eq.trans (fr160 _ (h_ne z2 ro1x (Ne.symm oa_J)) (fun q => absurd (hd.2 _ _ (by omega) (by omega) (by omega) (by omega) q) (by omega))) (fr146 _ (h_ne z2 hit (Ne.symm aIJ)))))⟩
                  exact j_zret hG hZ dX9_offer_192 (Nat.zero_le _) (Nat.zero_le _) (nar_zr (by omega)) (hP 0 _ _ f179 h187 hgi2 hR2 (fun j hj => by rw [fup_n _ _ (by omega)]; exact hX1 j hj) (Or.inr ⟨rfl, fun h => hf9.1 (by omega) (h t (by omega))⟩) (fun q q0 q1 q2 => (Eq.trans (fr178 q (q1 (t + 12) (by omega) (by omega)) (q2 (t + 12) (by omega) (by omega))) (Eq.trans (fr160 q (q1 (t + 12) (by omega) (by omega)) (q2 (t + 12) (by omega) (by omega))) (fr146 q q0))).trans (hfr q q0 q1 q2)))
            · -- on at 106
              exfalso; omega
theorem c_X9_offer {l : Launch} {E : JE} {f : Hp} {T cu ofr mk it pl dr pm : Nat} {sz sN x : Int} {gcu gof gpm : Int → Option Nat} {ra ca ma : Int → Nat} {M : Int → Int → Int} {src : Int → List Int} {gi : Int → Int} {X : Int → List Int × Int} (hT : f T = oB 8 [.ref cu, .ref ofr, .ref mk, .ref it, .ref (ra 36), .ref (ca 37), .ref pl, .ref dr]) (hpl : f pl = oB 5 [.ref pm, .int (iZ (sz))]) (hpm : f pm = aQ (E.2.1 5) 12 (gpm)) (hcu : f cu = aQ (E.2.1 4) 12 (gcu)) (hof : f ofr = aQ (E.2.1 4) 12 (gof)) (hit : f it = aI (E.2.1 2) 12 (gi)) (hsz : 0 ≤ sz ∧ sz ≤ 12) (hsN : -2147483648 ≤ sN ∧ sN < 2147483648) (hd : rwD ra ca) (gcu_ : ∀ i, 0 ≤ i → i < 12 → gcu i = some (ra i)) (gof_ : ∀ i, 0 ≤ i → i < 12 → gof i = some (ra (i + 12))) (gpm_ : ∀ i, 0 ≤ i → i < 12 → gpm i = some (ma i)) (hMok : ∀ s : Nat, (s : Int) < sz → mkOk M s) (hsl : ∀ s, lOk (src s)) (hx : rOk x ∧ rV x ≤ 1000000000) (hokO : ∀ t : Nat, (t : Int) < sz → rawOk (rawT M src t (tabF M src t))) (hgi : ∀ i, 0 ≤ i → i < 12 → gi i = 0 ∨ gi i = 1) (hX0 : ∀ s : Nat, (s : Int) < sz → X s = (tab M src s, 0)) (h36 : X 36 = ([], 0)) (hRW : RWs E f ra ca X) (hM0 : ∀ i, 0 ≤ i → i < 12 → f (ma i) = oB 3 [.int (iZ (M i 0)), .int (iZ (M i 1)), .int (iZ (M i 2)), .int (iZ (M i 3)), .int (iZ (M i 4)), .int (iZ (M i 5))]) : KX9_offer l E [.ref T, .int (iZ (sN)), .long (lZ (x))] f (fun v f' => ∃ (z : Int) (gi' : Int → Int) (X' : Int → List Int × Int), v = some (.int (iZ z)) ∧ f' it = aI (E.2.1 2) 12 gi' ∧ (∀ i, 0 ≤ i → i < 12 → gi' i = 0 ∨ gi' i = 1) ∧ RWs E f' ra ca X' ∧ (∀ j, j < 12 ∨ 24 ≤ j → X' j = X j) ∧ ((z = 1 ∧ okF M (fup src sN (src sN ++ [x])) sz.toNat ∧ ∀ s : Nat, (s : Int) < sz → (gi' s = 1 → X' (s + 12) = (tab M (fup src sN (src sN ++ [x])) s, 0)) ∧ (gi' s = 0 → tab M src s = tab M (fup src sN (src sN ++ [x])) s)) ∨ (z = 0 ∧ ¬ okF M (fup src sN (src sN ++ [x])) sz.toNat)) ∧ ∀ q, q ≠ it → (∀ i, 0 ≤ i → i < 37 → q ≠ ra i) → (∀ i, 0 ≤ i → i < 38 → q ≠ ca i) → f' q = f q) := by
  refine ct_of (own := RX9) (lv := [(0, .ref T), (1, .int (iZ (sN))), (2, .long (lZ (x)))]) (by decide +kernel) rfl (Nat.le_of_ble_eq_true rfl) rfl ?_
  intro G hG hZ
  refine j_iconst hG dX9_offer_0 ?_
  refine j_istore (lv' := [(0, .ref T), (1, .int (iZ (sN))), (2, .long (lZ (x))), (4, .int (iZ (0)))]) hG dX9_offer_1 (by decide) rfl ?_
  obtain ⟨gs, hsc, hgs⟩ := hRW.2
  exact l_X9_offer (X0 := X) (f0 := f) hG hZ hsz hsN hd gcu_ gof_ gpm_ hMok hsl hx hokO hX0 h36 hit hRW hM0 (src_new hsl hx) (fun z gi' X' f' a1 a2 a3 a4 a5 a6 => ⟨z, gi', X', rfl, a1, a2, a3, a4, a5, a6⟩) ((sz - 0).toNat + 1) 0 gi X gs f hT hpl hpm hcu hof hit hsc hgs hRW (by omega) hgi (fun _ _ => rfl) (fun s hs => absurd hs (by omega)) (fun s hs => absurd hs (by omega)) (fun _ _ _ _ => rfl) (by omega)
