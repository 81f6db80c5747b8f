theorem row_lt {x y : Int} (hx : rOk x ∧ rV x ≤ 1000000000) (hy : rOk y) : x < y ↔ (rK x < rK y ∨ (rK x = rK y ∧ (rT x < rT y ∨ (rT x = rT y ∧ rV x < rV y)))) := by
  have h := pk_lx (rK_rng hx.1) (rT_rng hx.1) ⟨(rV_rng hx.1).1, hx.2⟩ hy
  rw [pkU hx.1] at h
  exact h
theorem row_eq {x y : Int} (hx : rOk x) (hy : rOk y) (a : rK x = rK y) (b : rT x = rT y) (c : rV x = rV y) : x = y := by
  rw [← pkU hx, ← pkU hy, a, b, c]
def dfs (sg : Int) (A B : List Int) : List Int := if sg < 0 then (dif A B).map (fun x => 2 * x + 0) else (dif B A).map (fun x => 2 * x + 1)
theorem dif_skip {x : Int} {A B : List Int} (h : ∀ y, B.head? = some y → x < y) : dif B (x :: A) = dif B A := by
  cases B with
  | nil => rw [dif_nil_l, dif_nil_l]
  | cons y B => rw [dif_cons, if_pos (h y rfl)]
theorem dfs_n {sg x : Int} {A B : List Int} (h : ∀ y, B.head? = some y → x < y) : dfs sg (x :: A) B = (if sg < 0 then [2 * x + 0] else []) ++ dfs sg A B := by
  unfold dfs
  by_cases c : sg < 0
  · rw [if_pos c, if_pos c, if_pos c, dif_emit h]; rfl
  · rw [if_neg c, if_neg c, if_neg c, dif_skip h]; rfl
theorem dfs_p {sg y : Int} {A B : List Int} (h : ∀ x, A.head? = some x → y < x) : dfs sg A (y :: B) = (if sg < 0 then [] else [2 * y + 1]) ++ dfs sg A B := by
  unfold dfs
  by_cases c : sg < 0
  · rw [if_pos c, if_pos c, if_pos c, dif_skip h]; rfl
  · rw [if_neg c, if_neg c, if_neg c, dif_emit h]; rfl
theorem dfs_0 {sg x : Int} {A B : List Int} : dfs sg (x :: A) (x :: B) = dfs sg A B := by
  have e : ∀ A B : List Int, dif (x :: A) (x :: B) = dif A B := fun A B => by rw [dif_cons, if_neg (by omega), if_pos rfl]
  unfold dfs
  rw [e, e]
theorem dfs_nil {sg : Int} : dfs sg [] [] = [] := by unfold dfs; split <;> rw [dif_nil_l] <;> rfl
theorem drop_hd {L : List Int} {j : Nat} {y : Int} (h : (L.drop j).head? = some y) : j < L.length ∧ y = L.getD j 0 := by
  by_cases c : j < L.length
  · rw [drop_at c] at h
    exact ⟨c, (Option.some.inj h).symm⟩
  · rw [List.drop_eq_nil_of_le (by omega)] at h
    cases h
theorem wrep_snoc {K U T S : Int → Int} {W : List Int} {c k u t s : Int} (h : wrep K U T S W) (hk : k = rK (c / 2)) (hu : u = rV (c / 2)) (ht : t = rT (c / 2)) (hs : s = if c % 2 = 1 then 1 else -1) : wrep (fup K (W.length : Int) k) (fup U (W.length : Int) u) (fup T (W.length : Int) t) (fup S (W.length : Int) s) (W ++ [c]) := fun i hi => by
  rw [List.length_append, List.length_singleton] at hi
  by_cases e : i = W.length
  · subst e
    have g : (W ++ [c]).getD W.length 0 = c := by rw [List.getD_eq_getElem?_getD, List.getElem?_append_right (Nat.le_refl _)]; simp
    rw [g, fup_s, fup_s, fup_s, fup_s]
    exact ⟨hk, hu, ht, hs⟩
  · have g : (W ++ [c]).getD i 0 = W.getD i 0 := by rw [List.getD_eq_getElem?_getD, List.getD_eq_getElem?_getD, List.getElem?_append_left (by omega)]
    rw [g, fup_n _ _ (by omega), fup_n _ _ (by omega), fup_n _ _ (by omega), fup_n _ _ (by omega)]
    exact h i (by omega)
theorem wrep_pre {K U T S : Int → Int} {W W2 : List Int} (h : wrep K U T S (W ++ W2)) : wrep K U T S W := fun i hi => by
  have := h i (by rw [List.length_append]; omega)
  rw [show (W ++ W2).getD i 0 = W.getD i 0 by rw [List.getD_eq_getElem?_getD, List.getD_eq_getElem?_getD, List.getElem?_append_left hi]] at this
  exact this
theorem MF_vid {E : JE} {rg : Nat → Nat} {f0 f : Hp} {m : Nat} {A : Nat → Nat} {V : Nat → Int} {G : Nat → Int → Int} {k : Nat} {x : Int} (h : MF E rg f0 f m A V G) (e : V k = x) : MF E rg f0 f m A (up V k x) G := by rw [up_id e]; exact h
theorem c_X12_order {l : Launch} {E : JE} {f : Hp} {rg : Nat → Nat} {f0 : Hp} {m : Nat} {A : Nat → Nat} {V : Nat → Int} {G : Nat → Int → Int} {p q x y : Int} (hW : MF E rg f0 f m A V G) (hx : rOk x ∧ rV x ≤ 1000000000) (hy : rOk y ∧ rV y ≤ 1000000000) (cx : G 18 p = rK x ∧ G 19 p = rV x ∧ G 20 p = rT x) (cy : G 22 q = rK y ∧ G 23 q = rV y ∧ G 24 q = rT y) (hp : 0 ≤ p ∧ p < 4800) (hq : 0 ≤ q ∧ q < 4800) : KX12_order l E [.ref m, .int (iZ (p)), .int (iZ (q))] f (fun v f' => (∃ z : Int, v = some (.int (iZ z)) ∧ ((z = -1 ∧ x < y) ∨ (z = 0 ∧ x = y) ∨ (z = 1 ∧ y < x))) ∧ f = f') := by
  refine ct_of (own := RX12) (lv := [(0, .ref m), (1, .int (iZ (p))), (2, .int (iZ (q)))]) (by decide +kernel) rfl (Nat.le_of_ble_eq_true rfl) rfl ?_
  intro G9 hG hZ
  have r1 := rK_rng hx.1
  have r2 := rT_rng hx.1
  have r3 := rV_rng hx.1
  have r4 := rK_rng hy.1
  have r5 := rT_rng hy.1
  have r6 := rV_rng hy.1
  refine j_aload_n hG dX12_order_0 rfl rfl ?_
  refine j_get (v := .ref (A 18)) hG fX12_48 dX12_order_1 hW.1 rfl ?_
  refine j_iload_n hG dX12_order_4 rfl rfl ?_
  refine j_iald hG dX12_order_5 (MF_a18 hW) (by omega) (by decide) ?_
  refine j_eq (show ((G 18) p : Int) = (rK x : Int) from cx.1) ?_
  refine j_aload_n hG dX12_order_6 rfl rfl ?_
  refine j_get (v := .ref (A 22)) hG fX12_60 dX12_order_7 hW.1 rfl ?_
  refine j_iload_n hG dX12_order_10 rfl rfl ?_
  refine j_iald hG dX12_order_11 (MF_a22 hW) (by omega) (by decide) ?_
  refine j_eq (show ((G 22) q : Int) = (rK y : Int) from cy.1) ?_
  refine j_icmp_eq (tgt := 36) hG dX12_order_12 (by decide) (by omega) (by omega) (fun c1 => ?_) (fun c1 => ?_)
  · -- taken at 12
    refine j_aload_n hG dX12_order_36 rfl rfl ?_
    refine j_get (v := .ref (A 20)) hG fX12_54 dX12_order_37 hW.1 rfl ?_
    refine j_iload_n hG dX12_order_40 rfl rfl ?_
    refine j_iald hG dX12_order_41 (MF_a20 hW) (by omega) (by decide) ?_
    refine j_eq (show ((G 20) p : Int) = (rT x : Int) from cx.2.2) ?_
    refine j_aload_n hG dX12_order_42 rfl rfl ?_
    refine j_get (v := .ref (A 24)) hG fX12_66 dX12_order_43 hW.1 rfl ?_
    refine j_iload_n hG dX12_order_46 rfl rfl ?_
    refine j_iald hG dX12_order_47 (MF_a24 hW) (by omega) (by decide) ?_
    refine j_eq (show ((G 24) q : Int) = (rT y : Int) from cy.2.2) ?_
    refine j_icmp_eq (tgt := 72) hG dX12_order_48 (by decide) (by omega) (by omega) (fun c2 => ?_) (fun c2 => ?_)
    · -- taken at 48
      refine j_aload_n hG dX12_order_72 rfl rfl ?_
      refine j_get (v := .ref (A 19)) hG fX12_51 dX12_order_73 hW.1 rfl ?_
      refine j_iload_n hG dX12_order_76 rfl rfl ?_
      refine j_iald hG dX12_order_77 (MF_a19 hW) (by omega) (by decide) ?_
      refine j_eq (show ((G 19) p : Int) = (rV x : Int) from cx.2.1) ?_
      refine j_aload_n hG dX12_order_78 rfl rfl ?_
      refine j_get (v := .ref (A 23)) hG fX12_63 dX12_order_79 hW.1 rfl ?_
      refine j_iload_n hG dX12_order_82 rfl rfl ?_
      refine j_iald hG dX12_order_83 (MF_a23 hW) (by omega) (by decide) ?_
      refine j_eq (show ((G 23) q : Int) = (rV y : Int) from cy.2.1) ?_
      refine j_icmp_eq (tgt := 110) hG dX12_order_84 (by decide) (by omega) (by omega) (fun c3 => ?_) (fun c3 => ?_)
      · -- taken at 84
        refine j_iconst hG dX12_order_110 ?_
        exact j_iret hG hZ dX12_order_111 (Nat.zero_le _) (Nat.zero_le _) (⟨⟨0, rfl, Or.inr (Or.inl ⟨rfl, row_eq hx.1 hy.1 (by omega) (by omega) (by omega)⟩)⟩, rfl⟩)
      · -- on at 84
        refine j_aload_n hG dX12_order_87 rfl rfl ?_
        refine j_get (v := .ref (A 19)) hG fX12_51 dX12_order_88 hW.1 rfl ?_
        refine j_iload_n hG dX12_order_91 rfl rfl ?_
        refine j_iald hG dX12_order_92 (MF_a19 hW) (by omega) (by decide) ?_
        refine j_eq (show ((G 19) p : Int) = (rV x : Int) from cx.2.1) ?_
        refine j_aload_n hG dX12_order_93 rfl rfl ?_
        refine j_get (v := .ref (A 23)) hG fX12_63 dX12_order_94 hW.1 rfl ?_
        refine j_iload_n hG dX12_order_97 rfl rfl ?_
        refine j_iald hG dX12_order_98 (MF_a23 hW) (by omega) (by decide) ?_
        refine j_eq (show ((G 23) q : Int) = (rV y : Int) from cy.2.1) ?_
        refine j_icmp_ge (tgt := 106) hG dX12_order_99 (by decide) (by omega) (by omega) (fun c4 => ?_) (fun c4 => ?_)
        · -- taken at 99
          refine j_iconst hG dX12_order_106 ?_
          refine j_goto (tgt := 111) hG dX12_order_107 (by decide) ?_
          exact j_iret hG hZ dX12_order_111 (Nat.zero_le _) (Nat.zero_le _) (⟨⟨1, rfl, Or.inr (Or.inr ⟨rfl, by rw [row_lt hy hx.1]; omega⟩)⟩, rfl⟩)
        · -- on at 99
          refine j_iconst hG dX12_order_102 ?_
          refine j_goto (tgt := 111) hG dX12_order_103 (by decide) ?_
          exact j_iret hG hZ dX12_order_111 (Nat.zero_le _) (Nat.zero_le _) (⟨⟨-1, rfl, Or.inl ⟨rfl, by rw [row_lt hx hy.1]; omega⟩⟩, rfl⟩)
    · -- on at 48
      refine j_aload_n hG dX12_order_51 rfl rfl ?_
      refine j_get (v := .ref (A 20)) hG fX12_54 dX12_order_52 hW.1 rfl ?_
      refine j_iload_n hG dX12_order_55 rfl rfl ?_
      refine j_iald hG dX12_order_56 (MF_a20 hW) (by omega) (by decide) ?_
      refine j_eq (show ((G 20) p : Int) = (rT x : Int) from cx.2.2) ?_
      refine j_aload_n hG dX12_order_57 rfl rfl ?_
      refine j_get (v := .ref (A 24)) hG fX12_66 dX12_order_58 hW.1 rfl ?_
      refine j_iload_n hG dX12_order_61 rfl rfl ?_
      refine j_iald hG dX12_order_62 (MF_a24 hW) (by omega) (by decide) ?_
      refine j_eq (show ((G 24) q : Int) = (rT y : Int) from cy.2.2) ?_
      refine j_icmp_ge (tgt := 70) hG dX12_order_63 (by decide) (by omega) (by omega) (fun c5 => ?_) (fun c5 => ?_)
      · -- taken at 63
        refine j_iconst hG dX12_order_70 ?_
        exact j_iret hG hZ dX12_order_71 (Nat.zero_le _) (Nat.zero_le _) (⟨⟨1, rfl, Or.inr (Or.inr ⟨rfl, by rw [row_lt hy hx.1]; omega⟩)⟩, rfl⟩)
      · -- on at 63
        refine j_iconst hG dX12_order_66 ?_
        refine j_goto (tgt := 71) hG dX12_order_67 (by decide) ?_
        exact j_iret hG hZ dX12_order_71 (Nat.zero_le _) (Nat.zero_le _) (⟨⟨-1, rfl, Or.inl ⟨rfl, by rw [row_lt hx hy.1]; omega⟩⟩, rfl⟩)
  · -- on at 12
    refine j_aload_n hG dX12_order_15 rfl rfl ?_
    refine j_get (v := .ref (A 18)) hG fX12_48 dX12_order_16 hW.1 rfl ?_
    refine j_iload_n hG dX12_order_19 rfl rfl ?_
    refine j_iald hG dX12_order_20 (MF_a18 hW) (by omega) (by decide) ?_
    refine j_eq (show ((G 18) p : Int) = (rK x : Int) from cx.1) ?_
    refine j_aload_n hG dX12_order_21 rfl rfl ?_
    refine j_get (v := .ref (A 22)) hG fX12_60 dX12_order_22 hW.1 rfl ?_
    refine j_iload_n hG dX12_order_25 rfl rfl ?_
    refine j_iald hG dX12_order_26 (MF_a22 hW) (by omega) (by decide) ?_
    refine j_eq (show ((G 22) q : Int) = (rK y : Int) from cy.1) ?_
    refine j_icmp_ge (tgt := 34) hG dX12_order_27 (by decide) (by omega) (by omega) (fun c6 => ?_) (fun c6 => ?_)
    · -- taken at 27
      refine j_iconst hG dX12_order_34 ?_
      exact j_iret hG hZ dX12_order_35 (Nat.zero_le _) (Nat.zero_le _) (⟨⟨1, rfl, Or.inr (Or.inr ⟨rfl, by rw [row_lt hy hx.1]; omega⟩)⟩, rfl⟩)
    · -- on at 27
      refine j_iconst hG dX12_order_30 ?_
      refine j_goto (tgt := 35) hG dX12_order_31 (by decide) ?_
      exact j_iret hG hZ dX12_order_35 (Nat.zero_le _) (Nat.zero_le _) (⟨⟨-1, rfl, Or.inl ⟨rfl, by rw [row_lt hx hy.1]; omega⟩⟩, rfl⟩)
def othW (G G' : Nat → Int → Int) : Prop := ∀ i, i ≠ 27 → i ≠ 28 → i ≠ 29 → i ≠ 30 → G' i = G i
def othU (V V' : Nat → Int) : Prop := ∀ i, i ≠ 26 → V' i = V i
theorem othW_s {G G1 : Nat → Int → Int} {a b c d : Int → Int} (h : othW G G1) : othW G (up (up (up (up G1 27 a) 28 b) 29 c) 30 d) := fun i e1 e2 e3 e4 => by
  rw [up_n _ _ e4, up_n _ _ e3, up_n _ _ e2, up_n _ _ e1]; exact h i e1 e2 e3 e4
theorem l_X12_changeN {G9 : JG} {l : Launch} {E : JE} {P : Option Value → Hp → Prop} (hG : jX G9 l E cX12_change RX12 6 rmX12_change) (hZ : jZ G9 (some .boolean) P) {rg : Nat → Nat} {f0 : Hp} {m : Nat} {A : Nat → Nat} {V : Nat → Int} {G : Nat → Int → Int} {t : Nat} {Lo Ln W : List Int} (ht : t < 12) (hLo : krep G t Lo) (hLn : nrep G t Ln) (lo : lOk Lo) (ln : lOk Ln) (l1 : Lo.length ≤ 400) (l2 : Ln.length ≤ 400) (hP : ∀ (z : Int) (f' : Hp) (V' : Nat → Int) (G' : Nat → Int → Int) (W' : List Int), MF E rg f0 f' m A V' G' → othW G G' → othU V V' → V' 26 = (W'.length : Int) → wrep (G' 27) (G' 28) (G' 29) (G' 30) W' → ((z = 1 ∧ W' = W ++ dfs (-1) Lo Ln ∧ W'.length ≤ 4000) ∨ (z = 0 ∧ (∃ W2, W ++ dfs (-1) Lo Ln = W' ++ W2) ∧ W'.length = 4000 ∧ ¬ ((W ++ dfs (-1) Lo Ln).length ≤ 4000))) → P (some (.int (iZ z))) f') :
    ∀ (d : Nat) (i j : Nat) (W1 : List Int) (V1 : Nat → Int) (G1 : Nat → Int → Int) (f1 : Hp), (hW0 : MF E rg f0 f1 m A V1 G1) → (ho : othW G G1) → (hv : othU V V1) → (h26 : V1 26 = (W1.length : Int)) → (hw : wrep (G1 27) (G1 28) (G1 29) (G1 30) W1) → (hl9 : W1.length ≤ 4000) → (hi : i ≤ Lo.length) → (hj : j ≤ Ln.length) → (hT9 : W1 ++ dfs (-1) (Lo.drop i) (Ln.drop j) = W ++ dfs (-1) Lo Ln) → ((Lo.length - i) + (Ln.length - j)) < d → J G9 0 0 f1 20 [(0, .ref m), (1, .int (iZ (-1))), (2, .int (iZ ((t : Int)))), (3, .int (iZ (400 * (t : Int) + (i : Int)))), (4, .int (iZ (400 * (t : Int) + (j : Int))))] [] := by
  intro d
  induction d with
  | zero => intro i j W1 V1 G1 f1 hW0 ho hv h26 hw hl9 hi hj hT9 hd9; exfalso; omega
  | succ d ih =>
    intro i j W1 V1 G1 f1 hW0 ho hv h26 hw hl9 hi hj hT9 hd9
    have hW := MF_vid hW0 h26
    have k17 : G1 17 t = (Lo.length : Int) := by rw [ho 17 (by decide) (by decide) (by decide) (by decide)]; exact hLo.1
    have k21 : G1 21 t = (Ln.length : Int) := by rw [ho 21 (by decide) (by decide) (by decide) (by decide)]; exact hLn.1
    have cxx : i < Lo.length → (G1 18 (400 * (t : Int) + (i : Int)) = rK (Lo.getD i 0) ∧ G1 19 (400 * (t : Int) + (i : Int)) = rV (Lo.getD i 0) ∧ G1 20 (400 * (t : Int) + (i : Int)) = rT (Lo.getD i 0)) := fun hi => by rw [ho 18 (by decide) (by decide) (by decide) (by decide), ho 19 (by decide) (by decide) (by decide) (by decide), ho 20 (by decide) (by decide) (by decide) (by decide)]; exact hLo.2 i hi
    have cyy : j < Ln.length → (G1 22 (400 * (t : Int) + (j : Int)) = rK (Ln.getD j 0) ∧ G1 23 (400 * (t : Int) + (j : Int)) = rV (Ln.getD j 0) ∧ G1 24 (400 * (t : Int) + (j : Int)) = rT (Ln.getD j 0)) := fun hj => by rw [ho 22 (by decide) (by decide) (by decide) (by decide), ho 23 (by decide) (by decide) (by decide) (by decide), ho 24 (by decide) (by decide) (by decide) (by decide)]; exact hLn.2 j hj
    refine j_iload_n hG dX12_change_20 rfl rfl ?_
    refine j_sipush hG dX12_change_21 (by decide) ?_
    refine j_iload_n hG dX12_change_24 rfl rfl ?_
    refine j_imul hG dX12_change_25 ?_
    refine j_aload_n hG dX12_change_26 rfl rfl ?_
    refine j_get (v := .ref (A 17)) hG fX12_45 dX12_change_27 hW.1 rfl ?_
    refine j_iload_n hG dX12_change_30 rfl rfl ?_
    refine j_iald hG dX12_change_31 (MF_a17 hW) (by omega) (by decide) ?_
    refine j_eq (show ((G1 17) (t : Int) : Int) = ((Lo.length : Int) : Int) from k17) ?_
    refine j_iadd hG dX12_change_32 ?_
    refine j_icmp_lt (tgt := 53) hG dX12_change_33 (by decide) (by omega) (by omega) (fun c1 => ?_) (fun c1 => ?_)
    · -- taken at 33
      have hj2 : ∀ (how : Int) , (how = -1 ∧ i < Lo.length ∧ (Ln.length ≤ j ∨ (Lo.getD i 0) < (Ln.getD j 0))) ∨ (how = 0 ∧ i < Lo.length ∧ j < Ln.length ∧ (Lo.getD i 0) = (Ln.getD j 0)) ∨ (how = 1 ∧ j < Ln.length ∧ (Lo.length ≤ i ∨ (Ln.getD j 0) < (Lo.getD i 0))) → J G9 0 0 f1 101 [(0, .ref m), (1, .int (iZ (-1))), (2, .int (iZ ((t : Int)))), (3, .int (iZ (400 * (t : Int) + (i : Int)))), (4, .int (iZ (400 * (t : Int) + (j : Int))))] [.int (iZ (how))] := by
        intro how  hh
        have hr9 : -1 ≤ how ∧ how ≤ 1 := by rcases hh with q | q | q <;> (have := q.1; omega)
        refine j_istore (lv' := [(0, .ref m), (1, .int (iZ (-1))), (2, .int (iZ ((t : Int)))), (3, .int (iZ (400 * (t : Int) + (i : Int)))), (4, .int (iZ (400 * (t : Int) + (j : Int)))), (5, .int (iZ (how)))]) hG dX12_change_101 (by decide) rfl ?_
        refine j_iload hG dX12_change_103 rfl ?_
        refine j_if_eq (tgt := 249) hG dX12_change_105 (by decide) (by omega) (fun c3 => ?_) (fun c3 => ?_)
        · -- taken at 105
          refine j_iload_n hG dX12_change_249 rfl rfl ?_
          refine j_iload hG dX12_change_250 rfl ?_
          refine j_if_gt (tgt := 259) hG dX12_change_252 (by decide) (by omega) (fun c4 => ?_) (fun c4 => ?_)
          · -- taken at 252
            exfalso; omega
          · -- on at 252
            refine j_iconst hG dX12_change_255 ?_
            refine j_goto (tgt := 260) hG dX12_change_256 (by decide) ?_
            refine j_iadd hG dX12_change_260 ?_
            refine j_istore_n (lv' := [(0, .ref m), (1, .int (iZ (-1))), (2, .int (iZ ((t : Int)))), (3, .int (iZ ((400 * (t : Int) + (i : Int)) + 1))), (4, .int (iZ (400 * (t : Int) + (j : Int)))), (5, .int (iZ (how)))]) hG dX12_change_261 rfl (by decide) rfl ?_
            refine j_iload hG dX12_change_262 rfl ?_
            refine j_iload hG dX12_change_264 rfl ?_
            refine j_if_lt (tgt := 273) hG dX12_change_266 (by decide) (by omega) (fun c5 => ?_) (fun c5 => ?_)
            · -- taken at 266
              exfalso; omega
            · -- on at 266
              refine j_iconst hG dX12_change_269 ?_
              refine j_goto (tgt := 274) hG dX12_change_270 (by decide) ?_
              refine j_iadd hG dX12_change_274 ?_
              refine j_istore (lv' := [(0, .ref m), (1, .int (iZ (-1))), (2, .int (iZ ((t : Int)))), (3, .int (iZ ((400 * (t : Int) + (i : Int)) + 1))), (4, .int (iZ ((400 * (t : Int) + (j : Int)) + 1))), (5, .int (iZ (how)))]) hG dX12_change_275 (by decide) rfl ?_
              refine j_goto (tgt := 20) hG dX12_change_277 (by decide) ?_
              have e9 := dfs_0 (sg := -1) (x := (Lo.getD i 0)) (A := Lo.drop (i + 1)) (B := Ln.drop (j + 1))
              rw [← drop_at (by omega)] at e9
              rw [show (Lo.getD i 0) = (Ln.getD j 0) by omega, ← drop_at (by omega)] at e9
              rw [e9] at hT9
              refine j_lv (lv' := [(0, .ref m), (1, .int (iZ (-1))), (2, .int (iZ ((t : Int)))), (3, .int (iZ ((400 * (t : Int) + (i : Int)) + 1))), (4, .int (iZ ((400 * (t : Int) + (j : Int)) + 1)))]) (by simp) ?_
              rw [show (400 * (t : Int) + (i : Int)) + 1 = 400 * (t : Int) + ((i + 1 : Nat) : Int) by omega]
              rw [show (400 * (t : Int) + (j : Int)) + 1 = 400 * (t : Int) + ((j + 1 : Nat) : Int) by omega]
              exact ih (i + 1) (j + 1) W1 V1 G1 f1 hW0 ho hv h26 hw hl9 (by omega) (by omega) hT9 (by omega)
        · -- on at 105
          refine j_iload hG dX12_change_108 rfl ?_
          refine j_if_ge (tgt := 117) hG dX12_change_110 (by decide) (by omega) (fun c6 => ?_) (fun c6 => ?_)
          · -- taken at 110
            refine j_iconst hG dX12_change_117 ?_
            refine j_iload_n hG dX12_change_118 rfl rfl ?_
            refine j_if_ge (tgt := 126) hG dX12_change_119 (by decide) (by omega) (fun c7 => ?_) (fun c7 => ?_)
            · -- taken at 119
              exfalso; omega
            · -- on at 119
              refine j_iconst hG dX12_change_122 ?_
              refine j_goto (tgt := 127) hG dX12_change_123 (by decide) ?_
              refine j_icmp_ne (tgt := 249) hG dX12_change_127 (by decide) (by omega) (by omega) (fun c8 => ?_) (fun c8 => ?_)
              · -- taken at 127
                refine j_iload_n hG dX12_change_249 rfl rfl ?_
                refine j_iload hG dX12_change_250 rfl ?_
                refine j_if_gt (tgt := 259) hG dX12_change_252 (by decide) (by omega) (fun c9 => ?_) (fun c9 => ?_)
                · -- taken at 252
                  refine j_iconst hG dX12_change_259 ?_
                  refine j_iadd hG dX12_change_260 ?_
                  refine j_istore_n (lv' := [(0, .ref m), (1, .int (iZ (-1))), (2, .int (iZ ((t : Int)))), (3, .int (iZ ((400 * (t : Int) + (i : Int)) + 0))), (4, .int (iZ (400 * (t : Int) + (j : Int)))), (5, .int (iZ (how)))]) hG dX12_change_261 rfl (by decide) rfl ?_
                  refine j_iload hG dX12_change_262 rfl ?_
                  refine j_iload hG dX12_change_264 rfl ?_
                  refine j_if_lt (tgt := 273) hG dX12_change_266 (by decide) (by omega) (fun c10 => ?_) (fun c10 => ?_)
                  · -- taken at 266
                    exfalso; omega
                  · -- on at 266
                    refine j_iconst hG dX12_change_269 ?_
                    refine j_goto (tgt := 274) hG dX12_change_270 (by decide) ?_
                    refine j_iadd hG dX12_change_274 ?_
                    refine j_istore (lv' := [(0, .ref m), (1, .int (iZ (-1))), (2, .int (iZ ((t : Int)))), (3, .int (iZ ((400 * (t : Int) + (i : Int)) + 0))), (4, .int (iZ ((400 * (t : Int) + (j : Int)) + 1))), (5, .int (iZ (how)))]) hG dX12_change_275 (by decide) rfl ?_
                    refine j_goto (tgt := 20) hG dX12_change_277 (by decide) ?_
                    have hh9 : ∀ x, (Lo.drop i).head? = some x → (Ln.getD j 0) < x := fun x hx => by have q := drop_hd hx; rw [q.2]; omega
                    have e9 := dfs_p (sg := -1) (B := Ln.drop (j + 1)) hh9
                    rw [← drop_at (by omega)] at e9
                    rw [if_pos (by decide)] at e9
                    rw [e9] at hT9
                    rw [List.nil_append] at hT9
                    refine j_lv (lv' := [(0, .ref m), (1, .int (iZ (-1))), (2, .int (iZ ((t : Int)))), (3, .int (iZ ((400 * (t : Int) + (i : Int)) + 0))), (4, .int (iZ ((400 * (t : Int) + (j : Int)) + 1)))]) (by simp) ?_
                    rw [show (400 * (t : Int) + (i : Int)) + 0 = 400 * (t : Int) + ((i : Nat) : Int) by omega]
                    rw [show (400 * (t : Int) + (j : Int)) + 1 = 400 * (t : Int) + ((j + 1 : Nat) : Int) by omega]
                    exact ih (i) (j + 1) W1 V1 G1 f1 hW0 ho hv h26 hw hl9 (by omega) (by omega) hT9 (by omega)
                · -- on at 252
                  exfalso; omega
              · -- on at 127
                exfalso; omega
          · -- on at 110
            refine j_iconst hG dX12_change_113 ?_
            refine j_goto (tgt := 118) hG dX12_change_114 (by decide) ?_
            refine j_iload_n hG dX12_change_118 rfl rfl ?_
            refine j_if_ge (tgt := 126) hG dX12_change_119 (by decide) (by omega) (fun c11 => ?_) (fun c11 => ?_)
            · -- taken at 119
              exfalso; omega
            · -- on at 119
              refine j_iconst hG dX12_change_122 ?_
              refine j_goto (tgt := 127) hG dX12_change_123 (by decide) ?_
              refine j_icmp_ne (tgt := 249) hG dX12_change_127 (by decide) (by omega) (by omega) (fun c12 => ?_) (fun c12 => ?_)
              · -- taken at 127
                exfalso; omega
              · -- on at 127
                refine j_aload_n hG dX12_change_130 rfl rfl ?_
                refine j_get (v := .int (iZ ((W1.length : Int)))) hG fX12_184 dX12_change_131 hW.1 rfl ?_
                refine j_sipush hG dX12_change_134 (by decide) ?_
                refine j_icmp_ne (tgt := 142) hG dX12_change_137 (by decide) (by omega) (by omega) (fun c13 => ?_) (fun c13 => ?_)
                · -- taken at 137
                  refine j_aload_n hG dX12_change_142 rfl rfl ?_
                  refine j_get (v := .ref (A 27)) hG fX12_69 dX12_change_143 hW.1 rfl ?_
                  refine j_aload_n hG dX12_change_146 rfl rfl ?_
                  refine j_get (v := .int (iZ ((W1.length : Int)))) hG fX12_184 dX12_change_147 hW.1 rfl ?_
                  refine j_iload_n hG dX12_change_150 rfl rfl ?_
                  refine j_if_ge (tgt := 163) hG dX12_change_151 (by decide) (by omega) (fun c14 => ?_) (fun c14 => ?_)
                  · -- taken at 151
                    exfalso; omega
                  · -- on at 151
                    refine j_aload_n hG dX12_change_154 rfl rfl ?_
                    refine j_get (v := .ref (A 18)) hG fX12_48 dX12_change_155 hW.1 rfl ?_
                    refine j_iload_n hG dX12_change_158 rfl rfl ?_
                    refine j_iald hG dX12_change_159 (MF_a18 hW) (by omega) (by decide) ?_
                    refine j_eq (show ((G1 18) (400 * (t : Int) + (i : Int)) : Int) = (rK (Lo.getD i 0) : Int) from (cxx (by omega)).1) ?_
                    refine j_goto (tgt := 170) hG dX12_change_160 (by decide) ?_
                    refine j_iast hG dX12_change_170 (MF_a27 hW) (by omega) (by decide) (fun f15 h16 fr17 => ?_)
                    have hW18 : MF E rg f0 f15 m A (up V1 26 (W1.length : Int)) (up G1 27 (fup (G1 27) (W1.length : Int) (rK (Lo.getD i 0)))) := MF_a hW 27 rfl h16 fr17
                    refine j_aload_n hG dX12_change_171 rfl rfl ?_
                    refine j_get (v := .ref (A 28)) hG fX12_72 dX12_change_172 hW18.1 rfl ?_
                    refine j_aload_n hG dX12_change_175 rfl rfl ?_
                    refine j_get (v := .int (iZ ((W1.length : Int)))) hG fX12_184 dX12_change_176 hW18.1 rfl ?_
                    refine j_iload_n hG dX12_change_179 rfl rfl ?_
                    refine j_if_ge (tgt := 192) hG dX12_change_180 (by decide) (by omega) (fun c19 => ?_) (fun c19 => ?_)
                    · -- taken at 180
                      exfalso; omega
                    · -- on at 180
                      refine j_aload_n hG dX12_change_183 rfl rfl ?_
                      refine j_get (v := .ref (A 19)) hG fX12_51 dX12_change_184 hW18.1 rfl ?_
                      refine j_iload_n hG dX12_change_187 rfl rfl ?_
                      refine j_iald hG dX12_change_188 (MF_a19 hW18) (by omega) (by decide) ?_
                      refine j_eq (show ((G1 19) (400 * (t : Int) + (i : Int)) : Int) = (rV (Lo.getD i 0) : Int) from (cxx (by omega)).2.1) ?_
                      refine j_goto (tgt := 199) hG dX12_change_189 (by decide) ?_
                      refine j_iast hG dX12_change_199 (MF_a28 hW18) (by omega) (by decide) (fun f20 h21 fr22 => ?_)
                      have hW23 : MF E rg f0 f20 m A (up V1 26 (W1.length : Int)) (up (up G1 27 (fup (G1 27) (W1.length : Int) (rK (Lo.getD i 0)))) 28 (fup (G1 28) (W1.length : Int) (rV (Lo.getD i 0)))) := MF_a hW18 28 rfl h21 fr22
                      refine j_aload_n hG dX12_change_200 rfl rfl ?_
                      refine j_get (v := .ref (A 29)) hG fX12_75 dX12_change_201 hW23.1 rfl ?_
                      refine j_aload_n hG dX12_change_204 rfl rfl ?_
                      refine j_get (v := .int (iZ ((W1.length : Int)))) hG fX12_184 dX12_change_205 hW23.1 rfl ?_
                      refine j_iload_n hG dX12_change_208 rfl rfl ?_
                      refine j_if_ge (tgt := 221) hG dX12_change_209 (by decide) (by omega) (fun c24 => ?_) (fun c24 => ?_)
                      · -- taken at 209
                        exfalso; omega
                      · -- on at 209
                        refine j_aload_n hG dX12_change_212 rfl rfl ?_
                        refine j_get (v := .ref (A 20)) hG fX12_54 dX12_change_213 hW23.1 rfl ?_
                        refine j_iload_n hG dX12_change_216 rfl rfl ?_
                        refine j_iald hG dX12_change_217 (MF_a20 hW23) (by omega) (by decide) ?_
                        refine j_eq (show ((G1 20) (400 * (t : Int) + (i : Int)) : Int) = (rT (Lo.getD i 0) : Int) from (cxx (by omega)).2.2) ?_
                        refine j_goto (tgt := 228) hG dX12_change_218 (by decide) ?_
                        refine j_iast hG dX12_change_228 (MF_a29 hW23) (by omega) (by decide) (fun f25 h26 fr27 => ?_)
                        have hW28 : MF E rg f0 f25 m A (up V1 26 (W1.length : Int)) (up (up (up G1 27 (fup (G1 27) (W1.length : Int) (rK (Lo.getD i 0)))) 28 (fup (G1 28) (W1.length : Int) (rV (Lo.getD i 0)))) 29 (fup (G1 29) (W1.length : Int) (rT (Lo.getD i 0)))) := MF_a hW23 29 rfl h26 fr27
                        refine j_aload_n hG dX12_change_229 rfl rfl ?_
                        refine j_get (v := .ref (A 30)) hG fX12_78 dX12_change_230 hW28.1 rfl ?_
                        refine j_aload_n hG dX12_change_233 rfl rfl ?_
                        refine j_get (v := .int (iZ ((W1.length : Int)))) hG fX12_184 dX12_change_234 hW28.1 rfl ?_
                        refine j_iload_n hG dX12_change_237 rfl rfl ?_
                        refine j_iast hG dX12_change_238 (MF_a30 hW28) (by omega) (by decide) (fun f29 h30 fr31 => ?_)
                        have hW32 : MF E rg f0 f29 m A (up V1 26 (W1.length : Int)) (up (up (up (up G1 27 (fup (G1 27) (W1.length : Int) (rK (Lo.getD i 0)))) 28 (fup (G1 28) (W1.length : Int) (rV (Lo.getD i 0)))) 29 (fup (G1 29) (W1.length : Int) (rT (Lo.getD i 0)))) 30 (fup (G1 30) (W1.length : Int) (-1))) := MF_a hW28 30 rfl h30 fr31
                        refine j_aload_n hG dX12_change_239 rfl rfl ?_
                        refine j_dup hG dX12_change_240 rfl ?_
                        refine j_get (v := .int (iZ ((W1.length : Int)))) hG fX12_184 dX12_change_241 hW32.1 rfl ?_
                        refine j_iconst hG dX12_change_244 ?_
                        refine j_iadd hG dX12_change_245 ?_
                        refine j_put hG pX12_184 dX12_change_246 hW32.1 rfl rfl (Nat.le_of_ble_eq_true rfl) (fun f33 h34 fr35 => ?_)
                        have hW36 : MF E rg f0 f33 m A (up (up V1 26 (W1.length : Int)) 26 ((W1.length : Int) + 1)) (up (up (up (up G1 27 (fup (G1 27) (W1.length : Int) (rK (Lo.getD i 0)))) 28 (fup (G1 28) (W1.length : Int) (rV (Lo.getD i 0)))) 29 (fup (G1 29) (W1.length : Int) (rT (Lo.getD i 0)))) 30 (fup (G1 30) (W1.length : Int) (-1))) := MF_p26 hW32 h34 fr35
                        rw [up_up] at hW36
                        refine j_iload_n hG dX12_change_249 rfl rfl ?_
                        refine j_iload hG dX12_change_250 rfl ?_
                        refine j_if_gt (tgt := 259) hG dX12_change_252 (by decide) (by omega) (fun c37 => ?_) (fun c37 => ?_)
                        · -- taken at 252
                          exfalso; omega
                        · -- on at 252
                          refine j_iconst hG dX12_change_255 ?_
                          refine j_goto (tgt := 260) hG dX12_change_256 (by decide) ?_
                          refine j_iadd hG dX12_change_260 ?_
                          refine j_istore_n (lv' := [(0, .ref m), (1, .int (iZ (-1))), (2, .int (iZ ((t : Int)))), (3, .int (iZ ((400 * (t : Int) + (i : Int)) + 1))), (4, .int (iZ (400 * (t : Int) + (j : Int)))), (5, .int (iZ (how)))]) hG dX12_change_261 rfl (by decide) rfl ?_
                          refine j_iload hG dX12_change_262 rfl ?_
                          refine j_iload hG dX12_change_264 rfl ?_
                          refine j_if_lt (tgt := 273) hG dX12_change_266 (by decide) (by omega) (fun c38 => ?_) (fun c38 => ?_)
                          · -- taken at 266
                            refine j_iconst hG dX12_change_273 ?_
                            refine j_iadd hG dX12_change_274 ?_
                            refine j_istore (lv' := [(0, .ref m), (1, .int (iZ (-1))), (2, .int (iZ ((t : Int)))), (3, .int (iZ ((400 * (t : Int) + (i : Int)) + 1))), (4, .int (iZ ((400 * (t : Int) + (j : Int)) + 0))), (5, .int (iZ (how)))]) hG dX12_change_275 (by decide) rfl ?_
                            refine j_goto (tgt := 20) hG dX12_change_277 (by decide) ?_
                            have hh9 : ∀ y, (Ln.drop j).head? = some y → (Lo.getD i 0) < y := fun y hy => by have q := drop_hd hy; rw [q.2]; omega
                            have e9 := dfs_n (sg := -1) (A := Lo.drop (i + 1)) hh9
                            rw [← drop_at (by omega)] at e9
                            rw [if_pos (by decide)] at e9
                            rw [e9] at hT9
                            refine j_lv (lv' := [(0, .ref m), (1, .int (iZ (-1))), (2, .int (iZ ((t : Int)))), (3, .int (iZ ((400 * (t : Int) + (i : Int)) + 1))), (4, .int (iZ ((400 * (t : Int) + (j : Int)) + 0)))]) (by simp) ?_
                            rw [show (400 * (t : Int) + (i : Int)) + 1 = 400 * (t : Int) + ((i + 1 : Nat) : Int) by omega]
                            rw [show (400 * (t : Int) + (j : Int)) + 0 = 400 * (t : Int) + ((j : Nat) : Int) by omega]
                            exact ih (i + 1) (j) (W1 ++ [2 * (Lo.getD i 0) + 0]) _ _ f33 hW36 (othW_s ho) (fun i hi => by rw [up_n _ _ hi]; exact hv i hi) (by show (W1.length : Int) + 1 = _; rw [List.length_append]; rfl) (wrep_snoc hw (by rw [show (2 * (Lo.getD i 0) + 0) / 2 = (Lo.getD i 0) by omega]) (by rw [show (2 * (Lo.getD i 0) + 0) / 2 = (Lo.getD i 0) by omega]) (by rw [show (2 * (Lo.getD i 0) + 0) / 2 = (Lo.getD i 0) by omega]) (by rw [if_neg (by omega)])) (by rw [List.length_append, List.length_singleton]; omega) (by omega) (by omega) (by rw [List.append_assoc]; exact hT9) (by omega)
                          · -- on at 266
                            exfalso; omega
                · -- on at 137
                  refine j_iconst hG dX12_change_140 ?_
                  have hh9 : ∀ y, (Ln.drop j).head? = some y → (Lo.getD i 0) < y := fun y hy => by have q := drop_hd hy; rw [q.2]; omega
                  have e9 := dfs_n (sg := -1) (A := Lo.drop (i + 1)) hh9
                  rw [← drop_at (by omega), if_pos (by decide)] at e9
                  have e8 := congrArg List.length hT9
                  rw [e9, List.length_append, List.length_append, List.length_append, List.length_singleton] at e8
                  exact j_zret hG hZ dX12_change_141 (Nat.zero_le _) (Nat.zero_le _) (nar_zr (by omega)) (hP 0 f1 V1 G1 W1 hW0 ho hv h26 hw (Or.inr ⟨rfl, ⟨_, hT9.symm⟩, by omega, by rw [List.length_append]; omega⟩))
      refine j_iload_n hG dX12_change_53 rfl rfl ?_
      refine j_sipush hG dX12_change_54 (by decide) ?_
      refine j_iload_n hG dX12_change_57 rfl rfl ?_
      refine j_imul hG dX12_change_58 ?_
      refine j_aload_n hG dX12_change_59 rfl rfl ?_
      refine j_get (v := .ref (A 17)) hG fX12_45 dX12_change_60 hW.1 rfl ?_
      refine j_iload_n hG dX12_change_63 rfl rfl ?_
      refine j_iald hG dX12_change_64 (MF_a17 hW) (by omega) (by decide) ?_
      refine j_eq (show ((G1 17) (t : Int) : Int) = ((Lo.length : Int) : Int) from k17) ?_
      refine j_iadd hG dX12_change_65 ?_
      refine j_icmp_ne (tgt := 73) hG dX12_change_66 (by decide) (by omega) (by omega) (fun c39 => ?_) (fun c39 => ?_)
      · -- taken at 66
        refine j_iload hG dX12_change_73 rfl ?_
        refine j_sipush hG dX12_change_75 (by decide) ?_
        refine j_iload_n hG dX12_change_78 rfl rfl ?_
        refine j_imul hG dX12_change_79 ?_
        refine j_aload_n hG dX12_change_80 rfl rfl ?_
        refine j_get (v := .ref (A 21)) hG fX12_57 dX12_change_81 hW.1 rfl ?_
        refine j_iload_n hG dX12_change_84 rfl rfl ?_
        refine j_iald hG dX12_change_85 (MF_a21 hW) (by omega) (by decide) ?_
        refine j_eq (show ((G1 21) (t : Int) : Int) = ((Ln.length : Int) : Int) from k21) ?_
        refine j_iadd hG dX12_change_86 ?_
        refine j_icmp_ne (tgt := 94) hG dX12_change_87 (by decide) (by omega) (by omega) (fun c40 => ?_) (fun c40 => ?_)
        · -- taken at 87
          have xo := lo _ (gd_mem (L := Lo) (i := i) (by omega))
          have yo := ln _ (gd_mem (L := Ln) (i := j) (by omega))
          have cx := cxx (by omega)
          have cy := cyy (by omega)
          refine j_aload_n hG dX12_change_94 rfl rfl ?_
          refine j_iload_n hG dX12_change_95 rfl rfl ?_
          refine j_iload hG dX12_change_96 rfl ?_
          refine j_callV (rest := []) hG vX12_180 dX12_change_98 (c_X12_order (x := (Lo.getD i 0)) (y := (Ln.getD j 0)) hW xo yo cx cy (by omega) (by omega)) hW.1 rfl rfl (by decide) (by decide) (Nat.le_of_ble_eq_true rfl) rfl rfl (Nat.zero_le _) (Nat.zero_le _) ?_
          rintro _ _ ⟨⟨z41, rfl, hz42⟩, rfl⟩
          refine j_st (st' := [.int (iZ (z41))]) rfl ?_
          exact hj2 (z41) (by rcases hz42 with q | q | q; exact Or.inl ⟨q.1, by omega⟩; exact Or.inr (Or.inl ⟨q.1, by omega⟩); exact Or.inr (Or.inr ⟨q.1, by omega⟩))
        · -- on at 87
          refine j_iconst hG dX12_change_90 ?_
          refine j_goto (tgt := 101) hG dX12_change_91 (by decide) ?_
          exact hj2 (-1) (Or.inl ⟨rfl, by omega⟩)
      · -- on at 66
        refine j_iconst hG dX12_change_69 ?_
        refine j_goto (tgt := 101) hG dX12_change_70 (by decide) ?_
        exact hj2 (1) (Or.inr (Or.inr ⟨rfl, by omega⟩))
    · -- on at 33
      refine j_iload hG dX12_change_36 rfl ?_
      refine j_sipush hG dX12_change_38 (by decide) ?_
      refine j_iload_n hG dX12_change_41 rfl rfl ?_
      refine j_imul hG dX12_change_42 ?_
      refine j_aload_n hG dX12_change_43 rfl rfl ?_
      refine j_get (v := .ref (A 21)) hG fX12_57 dX12_change_44 hW.1 rfl ?_
      refine j_iload_n hG dX12_change_47 rfl rfl ?_
      refine j_iald hG dX12_change_48 (MF_a21 hW) (by omega) (by decide) ?_
      refine j_eq (show ((G1 21) (t : Int) : Int) = ((Ln.length : Int) : Int) from k21) ?_
      refine j_iadd hG dX12_change_49 ?_
      refine j_icmp_ge (tgt := 280) hG dX12_change_50 (by decide) (by omega) (by omega) (fun c43 => ?_) (fun c43 => ?_)
      · -- taken at 50
        refine j_iconst hG dX12_change_280 ?_
        have e8 : Lo.drop i = [] := List.drop_eq_nil_of_le (by omega)
        have e7 : Ln.drop j = [] := List.drop_eq_nil_of_le (by omega)
        rw [e8, e7, dfs_nil, List.append_nil] at hT9
        exact j_zret hG hZ dX12_change_281 (Nat.zero_le _) (Nat.zero_le _) (nar_zr (by omega)) (hP 1 f1 V1 G1 W1 hW0 ho hv h26 hw (Or.inl ⟨rfl, hT9, hl9⟩))
      · -- on at 50
        have hj44 : ∀ (how : Int) , (how = -1 ∧ i < Lo.length ∧ (Ln.length ≤ j ∨ (Lo.getD i 0) < (Ln.getD j 0))) ∨ (how = 0 ∧ i < Lo.length ∧ j < Ln.length ∧ (Lo.getD i 0) = (Ln.getD j 0)) ∨ (how = 1 ∧ j < Ln.length ∧ (Lo.length ≤ i ∨ (Ln.getD j 0) < (Lo.getD i 0))) → J G9 0 0 f1 101 [(0, .ref m), (1, .int (iZ (-1))), (2, .int (iZ ((t : Int)))), (3, .int (iZ (400 * (t : Int) + (i : Int)))), (4, .int (iZ (400 * (t : Int) + (j : Int))))] [.int (iZ (how))] := by
          intro how  hh
          have hr9 : -1 ≤ how ∧ how ≤ 1 := by rcases hh with q | q | q <;> (have := q.1; omega)
          refine j_istore (lv' := [(0, .ref m), (1, .int (iZ (-1))), (2, .int (iZ ((t : Int)))), (3, .int (iZ (400 * (t : Int) + (i : Int)))), (4, .int (iZ (400 * (t : Int) + (j : Int)))), (5, .int (iZ (how)))]) hG dX12_change_101 (by decide) rfl ?_
          refine j_iload hG dX12_change_103 rfl ?_
          refine j_if_eq (tgt := 249) hG dX12_change_105 (by decide) (by omega) (fun c45 => ?_) (fun c45 => ?_)
          · -- taken at 105
            refine j_iload_n hG dX12_change_249 rfl rfl ?_
            refine j_iload hG dX12_change_250 rfl ?_
            refine j_if_gt (tgt := 259) hG dX12_change_252 (by decide) (by omega) (fun c46 => ?_) (fun c46 => ?_)
            · -- taken at 252
              exfalso; omega
            · -- on at 252
              refine j_iconst hG dX12_change_255 ?_
              refine j_goto (tgt := 260) hG dX12_change_256 (by decide) ?_
              refine j_iadd hG dX12_change_260 ?_
              refine j_istore_n (lv' := [(0, .ref m), (1, .int (iZ (-1))), (2, .int (iZ ((t : Int)))), (3, .int (iZ ((400 * (t : Int) + (i : Int)) + 1))), (4, .int (iZ (400 * (t : Int) + (j : Int)))), (5, .int (iZ (how)))]) hG dX12_change_261 rfl (by decide) rfl ?_
              refine j_iload hG dX12_change_262 rfl ?_
              refine j_iload hG dX12_change_264 rfl ?_
              refine j_if_lt (tgt := 273) hG dX12_change_266 (by decide) (by omega) (fun c47 => ?_) (fun c47 => ?_)
              · -- taken at 266
                exfalso; omega
              · -- on at 266
                refine j_iconst hG dX12_change_269 ?_
                refine j_goto (tgt := 274) hG dX12_change_270 (by decide) ?_
                refine j_iadd hG dX12_change_274 ?_
                refine j_istore (lv' := [(0, .ref m), (1, .int (iZ (-1))), (2, .int (iZ ((t : Int)))), (3, .int (iZ ((400 * (t : Int) + (i : Int)) + 1))), (4, .int (iZ ((400 * (t : Int) + (j : Int)) + 1))), (5, .int (iZ (how)))]) hG dX12_change_275 (by decide) rfl ?_
                refine j_goto (tgt := 20) hG dX12_change_277 (by decide) ?_
                have e9 := dfs_0 (sg := -1) (x := (Lo.getD i 0)) (A := Lo.drop (i + 1)) (B := Ln.drop (j + 1))
                rw [← drop_at (by omega)] at e9
                rw [show (Lo.getD i 0) = (Ln.getD j 0) by omega, ← drop_at (by omega)] at e9
                rw [e9] at hT9
                refine j_lv (lv' := [(0, .ref m), (1, .int (iZ (-1))), (2, .int (iZ ((t : Int)))), (3, .int (iZ ((400 * (t : Int) + (i : Int)) + 1))), (4, .int (iZ ((400 * (t : Int) + (j : Int)) + 1)))]) (by simp) ?_
                rw [show (400 * (t : Int) + (i : Int)) + 1 = 400 * (t : Int) + ((i + 1 : Nat) : Int) by omega]
                rw [show (400 * (t : Int) + (j : Int)) + 1 = 400 * (t : Int) + ((j + 1 : Nat) : Int) by omega]
                exact ih (i + 1) (j + 1) W1 V1 G1 f1 hW0 ho hv h26 hw hl9 (by omega) (by omega) hT9 (by omega)
          · -- on at 105
            refine j_iload hG dX12_change_108 rfl ?_
            refine j_if_ge (tgt := 117) hG dX12_change_110 (by decide) (by omega) (fun c48 => ?_) (fun c48 => ?_)
            · -- taken at 110
              refine j_iconst hG dX12_change_117 ?_
              refine j_iload_n hG dX12_change_118 rfl rfl ?_
              refine j_if_ge (tgt := 126) hG dX12_change_119 (by decide) (by omega) (fun c49 => ?_) (fun c49 => ?_)
              · -- taken at 119
                exfalso; omega
              · -- on at 119
                refine j_iconst hG dX12_change_122 ?_
                refine j_goto (tgt := 127) hG dX12_change_123 (by decide) ?_
                refine j_icmp_ne (tgt := 249) hG dX12_change_127 (by decide) (by omega) (by omega) (fun c50 => ?_) (fun c50 => ?_)
                · -- taken at 127
                  refine j_iload_n hG dX12_change_249 rfl rfl ?_
                  refine j_iload hG dX12_change_250 rfl ?_
                  refine j_if_gt (tgt := 259) hG dX12_change_252 (by decide) (by omega) (fun c51 => ?_) (fun c51 => ?_)
                  · -- taken at 252
                    refine j_iconst hG dX12_change_259 ?_
                    refine j_iadd hG dX12_change_260 ?_
                    refine j_istore_n (lv' := [(0, .ref m), (1, .int (iZ (-1))), (2, .int (iZ ((t : Int)))), (3, .int (iZ ((400 * (t : Int) + (i : Int)) + 0))), (4, .int (iZ (400 * (t : Int) + (j : Int)))), (5, .int (iZ (how)))]) hG dX12_change_261 rfl (by decide) rfl ?_
                    refine j_iload hG dX12_change_262 rfl ?_
                    refine j_iload hG dX12_change_264 rfl ?_
                    refine j_if_lt (tgt := 273) hG dX12_change_266 (by decide) (by omega) (fun c52 => ?_) (fun c52 => ?_)
                    · -- taken at 266
                      exfalso; omega
                    · -- on at 266
                      refine j_iconst hG dX12_change_269 ?_
                      refine j_goto (tgt := 274) hG dX12_change_270 (by decide) ?_
                      refine j_iadd hG dX12_change_274 ?_
                      refine j_istore (lv' := [(0, .ref m), (1, .int (iZ (-1))), (2, .int (iZ ((t : Int)))), (3, .int (iZ ((400 * (t : Int) + (i : Int)) + 0))), (4, .int (iZ ((400 * (t : Int) + (j : Int)) + 1))), (5, .int (iZ (how)))]) hG dX12_change_275 (by decide) rfl ?_
                      refine j_goto (tgt := 20) hG dX12_change_277 (by decide) ?_
                      have hh9 : ∀ x, (Lo.drop i).head? = some x → (Ln.getD j 0) < x := fun x hx => by have q := drop_hd hx; rw [q.2]; omega
                      have e9 := dfs_p (sg := -1) (B := Ln.drop (j + 1)) hh9
                      rw [← drop_at (by omega)] at e9
                      rw [if_pos (by decide)] at e9
                      rw [e9] at hT9
                      rw [List.nil_append] at hT9
                      refine j_lv (lv' := [(0, .ref m), (1, .int (iZ (-1))), (2, .int (iZ ((t : Int)))), (3, .int (iZ ((400 * (t : Int) + (i : Int)) + 0))), (4, .int (iZ ((400 * (t : Int) + (j : Int)) + 1)))]) (by simp) ?_
                      rw [show (400 * (t : Int) + (i : Int)) + 0 = 400 * (t : Int) + ((i : Nat) : Int) by omega]
                      rw [show (400 * (t : Int) + (j : Int)) + 1 = 400 * (t : Int) + ((j + 1 : Nat) : Int) by omega]
                      exact ih (i) (j + 1) W1 V1 G1 f1 hW0 ho hv h26 hw hl9 (by omega) (by omega) hT9 (by omega)
                  · -- on at 252
                    exfalso; omega
                · -- on at 127
                  exfalso; omega
            · -- on at 110
              refine j_iconst hG dX12_change_113 ?_
              refine j_goto (tgt := 118) hG dX12_change_114 (by decide) ?_
              refine j_iload_n hG dX12_change_118 rfl rfl ?_
              refine j_if_ge (tgt := 126) hG dX12_change_119 (by decide) (by omega) (fun c53 => ?_) (fun c53 => ?_)
              · -- taken at 119
                exfalso; omega
              · -- on at 119
                refine j_iconst hG dX12_change_122 ?_
                refine j_goto (tgt := 127) hG dX12_change_123 (by decide) ?_
                refine j_icmp_ne (tgt := 249) hG dX12_change_127 (by decide) (by omega) (by omega) (fun c54 => ?_) (fun c54 => ?_)
                · -- taken at 127
                  exfalso; omega
                · -- on at 127
                  refine j_aload_n hG dX12_change_130 rfl rfl ?_
                  refine j_get (v := .int (iZ ((W1.length : Int)))) hG fX12_184 dX12_change_131 hW.1 rfl ?_
                  refine j_sipush hG dX12_change_134 (by decide) ?_
                  refine j_icmp_ne (tgt := 142) hG dX12_change_137 (by decide) (by omega) (by omega) (fun c55 => ?_) (fun c55 => ?_)
                  · -- taken at 137
                    refine j_aload_n hG dX12_change_142 rfl rfl ?_
                    refine j_get (v := .ref (A 27)) hG fX12_69 dX12_change_143 hW.1 rfl ?_
                    refine j_aload_n hG dX12_change_146 rfl rfl ?_
                    refine j_get (v := .int (iZ ((W1.length : Int)))) hG fX12_184 dX12_change_147 hW.1 rfl ?_
                    refine j_iload_n hG dX12_change_150 rfl rfl ?_
                    refine j_if_ge (tgt := 163) hG dX12_change_151 (by decide) (by omega) (fun c56 => ?_) (fun c56 => ?_)
                    · -- taken at 151
                      exfalso; omega
                    · -- on at 151
                      refine j_aload_n hG dX12_change_154 rfl rfl ?_
                      refine j_get (v := .ref (A 18)) hG fX12_48 dX12_change_155 hW.1 rfl ?_
                      refine j_iload_n hG dX12_change_158 rfl rfl ?_
                      refine j_iald hG dX12_change_159 (MF_a18 hW) (by omega) (by decide) ?_
                      refine j_eq (show ((G1 18) (400 * (t : Int) + (i : Int)) : Int) = (rK (Lo.getD i 0) : Int) from (cxx (by omega)).1) ?_
                      refine j_goto (tgt := 170) hG dX12_change_160 (by decide) ?_
                      refine j_iast hG dX12_change_170 (MF_a27 hW) (by omega) (by decide) (fun f57 h58 fr59 => ?_)
                      have hW60 : MF E rg f0 f57 m A (up V1 26 (W1.length : Int)) (up G1 27 (fup (G1 27) (W1.length : Int) (rK (Lo.getD i 0)))) := MF_a hW 27 rfl h58 fr59
                      refine j_aload_n hG dX12_change_171 rfl rfl ?_
                      refine j_get (v := .ref (A 28)) hG fX12_72 dX12_change_172 hW60.1 rfl ?_
                      refine j_aload_n hG dX12_change_175 rfl rfl ?_
                      refine j_get (v := .int (iZ ((W1.length : Int)))) hG fX12_184 dX12_change_176 hW60.1 rfl ?_
                      refine j_iload_n hG dX12_change_179 rfl rfl ?_
                      refine j_if_ge (tgt := 192) hG dX12_change_180 (by decide) (by omega) (fun c61 => ?_) (fun c61 => ?_)
                      · -- taken at 180
                        exfalso; omega
                      · -- on at 180
                        refine j_aload_n hG dX12_change_183 rfl rfl ?_
                        refine j_get (v := .ref (A 19)) hG fX12_51 dX12_change_184 hW60.1 rfl ?_
                        refine j_iload_n hG dX12_change_187 rfl rfl ?_
                        refine j_iald hG dX12_change_188 (MF_a19 hW60) (by omega) (by decide) ?_
                        refine j_eq (show ((G1 19) (400 * (t : Int) + (i : Int)) : Int) = (rV (Lo.getD i 0) : Int) from (cxx (by omega)).2.1) ?_
                        refine j_goto (tgt := 199) hG dX12_change_189 (by decide) ?_
                        refine j_iast hG dX12_change_199 (MF_a28 hW60) (by omega) (by decide) (fun f62 h63 fr64 => ?_)
                        have hW65 : MF E rg f0 f62 m A (up V1 26 (W1.length : Int)) (up (up G1 27 (fup (G1 27) (W1.length : Int) (rK (Lo.getD i 0)))) 28 (fup (G1 28) (W1.length : Int) (rV (Lo.getD i 0)))) := MF_a hW60 28 rfl h63 fr64
                        refine j_aload_n hG dX12_change_200 rfl rfl ?_
                        refine j_get (v := .ref (A 29)) hG fX12_75 dX12_change_201 hW65.1 rfl ?_
                        refine j_aload_n hG dX12_change_204 rfl rfl ?_
                        refine j_get (v := .int (iZ ((W1.length : Int)))) hG fX12_184 dX12_change_205 hW65.1 rfl ?_
                        refine j_iload_n hG dX12_change_208 rfl rfl ?_
                        refine j_if_ge (tgt := 221) hG dX12_change_209 (by decide) (by omega) (fun c66 => ?_) (fun c66 => ?_)
                        · -- taken at 209
                          exfalso; omega
                        · -- on at 209
                          refine j_aload_n hG dX12_change_212 rfl rfl ?_
                          refine j_get (v := .ref (A 20)) hG fX12_54 dX12_change_213 hW65.1 rfl ?_
                          refine j_iload_n hG dX12_change_216 rfl rfl ?_
                          refine j_iald hG dX12_change_217 (MF_a20 hW65) (by omega) (by decide) ?_
                          refine j_eq (show ((G1 20) (400 * (t : Int) + (i : Int)) : Int) = (rT (Lo.getD i 0) : Int) from (cxx (by omega)).2.2) ?_
                          refine j_goto (tgt := 228) hG dX12_change_218 (by decide) ?_
                          refine j_iast hG dX12_change_228 (MF_a29 hW65) (by omega) (by decide) (fun f67 h68 fr69 => ?_)
                          have hW70 : MF E rg f0 f67 m A (up V1 26 (W1.length : Int)) (up (up (up G1 27 (fup (G1 27) (W1.length : Int) (rK (Lo.getD i 0)))) 28 (fup (G1 28) (W1.length : Int) (rV (Lo.getD i 0)))) 29 (fup (G1 29) (W1.length : Int) (rT (Lo.getD i 0)))) := MF_a hW65 29 rfl h68 fr69
                          refine j_aload_n hG dX12_change_229 rfl rfl ?_
                          refine j_get (v := .ref (A 30)) hG fX12_78 dX12_change_230 hW70.1 rfl ?_
                          refine j_aload_n hG dX12_change_233 rfl rfl ?_
                          refine j_get (v := .int (iZ ((W1.length : Int)))) hG fX12_184 dX12_change_234 hW70.1 rfl ?_
                          refine j_iload_n hG dX12_change_237 rfl rfl ?_
                          refine j_iast hG dX12_change_238 (MF_a30 hW70) (by omega) (by decide) (fun f71 h72 fr73 => ?_)
                          have hW74 : MF E rg f0 f71 m A (up V1 26 (W1.length : Int)) (up (up (up (up G1 27 (fup (G1 27) (W1.length : Int) (rK (Lo.getD i 0)))) 28 (fup (G1 28) (W1.length : Int) (rV (Lo.getD i 0)))) 29 (fup (G1 29) (W1.length : Int) (rT (Lo.getD i 0)))) 30 (fup (G1 30) (W1.length : Int) (-1))) := MF_a hW70 30 rfl h72 fr73
                          refine j_aload_n hG dX12_change_239 rfl rfl ?_
                          refine j_dup hG dX12_change_240 rfl ?_
                          refine j_get (v := .int (iZ ((W1.length : Int)))) hG fX12_184 dX12_change_241 hW74.1 rfl ?_
                          refine j_iconst hG dX12_change_244 ?_
                          refine j_iadd hG dX12_change_245 ?_
                          refine j_put hG pX12_184 dX12_change_246 hW74.1 rfl rfl (Nat.le_of_ble_eq_true rfl) (fun f75 h76 fr77 => ?_)
                          have hW78 : MF E rg f0 f75 m A (up (up V1 26 (W1.length : Int)) 26 ((W1.length : Int) + 1)) (up (up (up (up G1 27 (fup (G1 27) (W1.length : Int) (rK (Lo.getD i 0)))) 28 (fup (G1 28) (W1.length : Int) (rV (Lo.getD i 0)))) 29 (fup (G1 29) (W1.length : Int) (rT (Lo.getD i 0)))) 30 (fup (G1 30) (W1.length : Int) (-1))) := MF_p26 hW74 h76 fr77
                          rw [up_up] at hW78
                          refine j_iload_n hG dX12_change_249 rfl rfl ?_
                          refine j_iload hG dX12_change_250 rfl ?_
                          refine j_if_gt (tgt := 259) hG dX12_change_252 (by decide) (by omega) (fun c79 => ?_) (fun c79 => ?_)
                          · -- taken at 252
                            exfalso; omega
                          · -- on at 252
                            refine j_iconst hG dX12_change_255 ?_
                            refine j_goto (tgt := 260) hG dX12_change_256 (by decide) ?_
                            refine j_iadd hG dX12_change_260 ?_
                            refine j_istore_n (lv' := [(0, .ref m), (1, .int (iZ (-1))), (2, .int (iZ ((t : Int)))), (3, .int (iZ ((400 * (t : Int) + (i : Int)) + 1))), (4, .int (iZ (400 * (t : Int) + (j : Int)))), (5, .int (iZ (how)))]) hG dX12_change_261 rfl (by decide) rfl ?_
                            refine j_iload hG dX12_change_262 rfl ?_
                            refine j_iload hG dX12_change_264 rfl ?_
                            refine j_if_lt (tgt := 273) hG dX12_change_266 (by decide) (by omega) (fun c80 => ?_) (fun c80 => ?_)
                            · -- taken at 266
                              refine j_iconst hG dX12_change_273 ?_
                              refine j_iadd hG dX12_change_274 ?_
                              refine j_istore (lv' := [(0, .ref m), (1, .int (iZ (-1))), (2, .int (iZ ((t : Int)))), (3, .int (iZ ((400 * (t : Int) + (i : Int)) + 1))), (4, .int (iZ ((400 * (t : Int) + (j : Int)) + 0))), (5, .int (iZ (how)))]) hG dX12_change_275 (by decide) rfl ?_
                              refine j_goto (tgt := 20) hG dX12_change_277 (by decide) ?_
                              have hh9 : ∀ y, (Ln.drop j).head? = some y → (Lo.getD i 0) < y := fun y hy => by have q := drop_hd hy; rw [q.2]; omega
                              have e9 := dfs_n (sg := -1) (A := Lo.drop (i + 1)) hh9
                              rw [← drop_at (by omega)] at e9
                              rw [if_pos (by decide)] at e9
                              rw [e9] at hT9
                              refine j_lv (lv' := [(0, .ref m), (1, .int (iZ (-1))), (2, .int (iZ ((t : Int)))), (3, .int (iZ ((400 * (t : Int) + (i : Int)) + 1))), (4, .int (iZ ((400 * (t : Int) + (j : Int)) + 0)))]) (by simp) ?_
                              rw [show (400 * (t : Int) + (i : Int)) + 1 = 400 * (t : Int) + ((i + 1 : Nat) : Int) by omega]
                              rw [show (400 * (t : Int) + (j : Int)) + 0 = 400 * (t : Int) + ((j : Nat) : Int) by omega]
                              exact ih (i + 1) (j) (W1 ++ [2 * (Lo.getD i 0) + 0]) _ _ f75 hW78 (othW_s ho) (fun i hi => by rw [up_n _ _ hi]; exact hv i hi) (by show (W1.length : Int) + 1 = _; rw [List.length_append]; rfl) (wrep_snoc hw (by rw [show (2 * (Lo.getD i 0) + 0) / 2 = (Lo.getD i 0) by omega]) (by rw [show (2 * (Lo.getD i 0) + 0) / 2 = (Lo.getD i 0) by omega]) (by rw [show (2 * (Lo.getD i 0) + 0) / 2 = (Lo.getD i 0) by omega]) (by rw [if_neg (by omega)])) (by rw [List.length_append, List.length_singleton]; omega) (by omega) (by omega) (by rw [List.append_assoc]; exact hT9) (by omega)
                            · -- on at 266
                              exfalso; omega
                  · -- on at 137
                    refine j_iconst hG dX12_change_140 ?_
                    have hh9 : ∀ y, (Ln.drop j).head? = some y → (Lo.getD i 0) < y := fun y hy => by have q := drop_hd hy; rw [q.2]; omega
                    have e9 := dfs_n (sg := -1) (A := Lo.drop (i + 1)) hh9
                    rw [← drop_at (by omega), if_pos (by decide)] at e9
                    have e8 := congrArg List.length hT9
                    rw [e9, List.length_append, List.length_append, List.length_append, List.length_singleton] at e8
                    exact j_zret hG hZ dX12_change_141 (Nat.zero_le _) (Nat.zero_le _) (nar_zr (by omega)) (hP 0 f1 V1 G1 W1 hW0 ho hv h26 hw (Or.inr ⟨rfl, ⟨_, hT9.symm⟩, by omega, by rw [List.length_append]; omega⟩))
        refine j_iload_n hG dX12_change_53 rfl rfl ?_
        refine j_sipush hG dX12_change_54 (by decide) ?_
        refine j_iload_n hG dX12_change_57 rfl rfl ?_
        refine j_imul hG dX12_change_58 ?_
        refine j_aload_n hG dX12_change_59 rfl rfl ?_
        refine j_get (v := .ref (A 17)) hG fX12_45 dX12_change_60 hW.1 rfl ?_
        refine j_iload_n hG dX12_change_63 rfl rfl ?_
        refine j_iald hG dX12_change_64 (MF_a17 hW) (by omega) (by decide) ?_
        refine j_eq (show ((G1 17) (t : Int) : Int) = ((Lo.length : Int) : Int) from k17) ?_
        refine j_iadd hG dX12_change_65 ?_
        refine j_icmp_ne (tgt := 73) hG dX12_change_66 (by decide) (by omega) (by omega) (fun c81 => ?_) (fun c81 => ?_)
        · -- taken at 66
          refine j_iload hG dX12_change_73 rfl ?_
          refine j_sipush hG dX12_change_75 (by decide) ?_
          refine j_iload_n hG dX12_change_78 rfl rfl ?_
          refine j_imul hG dX12_change_79 ?_
          refine j_aload_n hG dX12_change_80 rfl rfl ?_
          refine j_get (v := .ref (A 21)) hG fX12_57 dX12_change_81 hW.1 rfl ?_
          refine j_iload_n hG dX12_change_84 rfl rfl ?_
          refine j_iald hG dX12_change_85 (MF_a21 hW) (by omega) (by decide) ?_
          refine j_eq (show ((G1 21) (t : Int) : Int) = ((Ln.length : Int) : Int) from k21) ?_
          refine j_iadd hG dX12_change_86 ?_
          refine j_icmp_ne (tgt := 94) hG dX12_change_87 (by decide) (by omega) (by omega) (fun c82 => ?_) (fun c82 => ?_)
          · -- taken at 87
            have xo := lo _ (gd_mem (L := Lo) (i := i) (by omega))
            have yo := ln _ (gd_mem (L := Ln) (i := j) (by omega))
            have cx := cxx (by omega)
            have cy := cyy (by omega)
            refine j_aload_n hG dX12_change_94 rfl rfl ?_
            refine j_iload_n hG dX12_change_95 rfl rfl ?_
            refine j_iload hG dX12_change_96 rfl ?_
            refine j_callV (rest := []) hG vX12_180 dX12_change_98 (c_X12_order (x := (Lo.getD i 0)) (y := (Ln.getD j 0)) hW xo yo cx cy (by omega) (by omega)) hW.1 rfl rfl (by decide) (by decide) (Nat.le_of_ble_eq_true rfl) rfl rfl (Nat.zero_le _) (Nat.zero_le _) ?_
            rintro _ _ ⟨⟨z83, rfl, hz84⟩, rfl⟩
            refine j_st (st' := [.int (iZ (z83))]) rfl ?_
            exact hj44 (z83) (by rcases hz84 with q | q | q; exact Or.inl ⟨q.1, by omega⟩; exact Or.inr (Or.inl ⟨q.1, by omega⟩); exact Or.inr (Or.inr ⟨q.1, by omega⟩))
          · -- on at 87
            refine j_iconst hG dX12_change_90 ?_
            refine j_goto (tgt := 101) hG dX12_change_91 (by decide) ?_
            exact hj44 (-1) (Or.inl ⟨rfl, by omega⟩)
        · -- on at 66
          refine j_iconst hG dX12_change_69 ?_
          refine j_goto (tgt := 101) hG dX12_change_70 (by decide) ?_
          exact hj44 (1) (Or.inr (Or.inr ⟨rfl, by omega⟩))
theorem c_X12_changeN {l : Launch} {E : JE} {f : Hp} {rg : Nat → Nat} {f0 : Hp} {m : Nat} {A : Nat → Nat} {V : Nat → Int} {G : Nat → Int → Int} {t : Nat} {Lo Ln W : List Int} (hW : MF E rg f0 f m A V G) (ht : t < 12) (h11 : V 11 = (t : Int) + 1) (hLo : krep G t Lo) (hLn : nrep G t Ln) (lo : lOk Lo) (ln : lOk Ln) (l1 : Lo.length ≤ 400) (l2 : Ln.length ≤ 400) (h26 : V 26 = (W.length : Int)) (hw : wrep (G 27) (G 28) (G 29) (G 30) W) (hl9 : W.length ≤ 4000) : KX12_change l E [.ref m, .int (iZ (-1))] f (fun v f' => ∃ (z : Int) (V' : Nat → Int) (G' : Nat → Int → Int) (W' : List Int), v = some (.int (iZ z)) ∧ MF E rg f0 f' m A V' G' ∧ othW G G' ∧ othU V V' ∧ V' 26 = (W'.length : Int) ∧ wrep (G' 27) (G' 28) (G' 29) (G' 30) W' ∧ ((z = 1 ∧ W' = W ++ dfs (-1) Lo Ln ∧ W'.length ≤ 4000) ∨ (z = 0 ∧ (∃ W2, W ++ dfs (-1) Lo Ln = W' ++ W2) ∧ W'.length = 4000 ∧ ¬ ((W ++ dfs (-1) Lo Ln).length ≤ 4000)))) := by
  refine ct_of (own := RX12) (lv := [(0, .ref m), (1, .int (iZ (-1)))]) (by decide +kernel) rfl (Nat.le_of_ble_eq_true rfl) rfl ?_
  intro G9 hG hZ
  refine j_aload_n hG dX12_change_0 rfl rfl ?_
  refine j_get (v := .int (iZ (V 11))) hG fX12_173 dX12_change_1 hW.1 rfl ?_
  refine j_iconst hG dX12_change_4 ?_
  refine j_isub hG dX12_change_5 ?_
  refine j_eq (show ((V 11) - 1 : Int) = ((t : Int) : Int) from (by omega)) ?_
  refine j_istore_n (lv' := [(0, .ref m), (1, .int (iZ (-1))), (2, .int (iZ ((t : Int))))]) hG dX12_change_6 rfl (by decide) rfl ?_
  refine j_sipush hG dX12_change_7 (by decide) ?_
  refine j_iload_n hG dX12_change_10 rfl rfl ?_
  refine j_imul hG dX12_change_11 ?_
  refine j_istore_n (lv' := [(0, .ref m), (1, .int (iZ (-1))), (2, .int (iZ ((t : Int)))), (3, .int (iZ (400 * (t : Int))))]) hG dX12_change_12 rfl (by decide) rfl ?_
  refine j_sipush hG dX12_change_13 (by decide) ?_
  refine j_iload_n hG dX12_change_16 rfl rfl ?_
  refine j_imul hG dX12_change_17 ?_
  refine j_istore (lv' := [(0, .ref m), (1, .int (iZ (-1))), (2, .int (iZ ((t : Int)))), (3, .int (iZ (400 * (t : Int)))), (4, .int (iZ (400 * (t : Int))))]) hG dX12_change_18 (by decide) rfl ?_
  rw [show 400 * (t : Int) = 400 * (t : Int) + ((0 : Nat) : Int) by omega]
  exact l_X12_changeN hG hZ ht hLo hLn lo ln l1 l2 (fun z f' V' G' W' a1 a2 a3 a4 a5 a6 => ⟨z, V', G', W', rfl, a1, a2, a3, a4, a5, a6⟩) (Lo.length + Ln.length + 1) 0 0 W V G f hW (fun _ _ _ _ _ => rfl) (fun _ _ => rfl) h26 hw hl9 (by omega) (by omega) rfl (by omega)
theorem l_X12_changeP {G9 : JG} {l : Launch} {E : JE} {P : Option Value → Hp → Prop} (hG : jX G9 l E cX12_change RX12 6 rmX12_change) (hZ : jZ G9 (some .boolean) P) {rg : Nat → Nat} {f0 : Hp} {m : Nat} {A : Nat → Nat} {V : Nat → Int} {G : Nat → Int → Int} {t : Nat} {Lo Ln W : List Int} (ht : t < 12) (hLo : krep G t Lo) (hLn : nrep G t Ln) (lo : lOk Lo) (ln : lOk Ln) (l1 : Lo.length ≤ 400) (l2 : Ln.length ≤ 400) (hP : ∀ (z : Int) (f' : Hp) (V' : Nat → Int) (G' : Nat → Int → Int) (W' : List Int), MF E rg f0 f' m A V' G' → othW G G' → othU V V' → V' 26 = (W'.length : Int) → wrep (G' 27) (G' 28) (G' 29) (G' 30) W' → ((z = 1 ∧ W' = W ++ dfs (1) Lo Ln ∧ W'.length ≤ 4000) ∨ (z = 0 ∧ (∃ W2, W ++ dfs (1) Lo Ln = W' ++ W2) ∧ W'.length = 4000 ∧ ¬ ((W ++ dfs (1) Lo Ln).length ≤ 4000))) → P (some (.int (iZ z))) f') :
    ∀ (d : Nat) (i j : Nat) (W1 : List Int) (V1 : Nat → Int) (G1 : Nat → Int → Int) (f1 : Hp), (hW0 : MF E rg f0 f1 m A V1 G1) → (ho : othW G G1) → (hv : othU V V1) → (h26 : V1 26 = (W1.length : Int)) → (hw : wrep (G1 27) (G1 28) (G1 29) (G1 30) W1) → (hl9 : W1.length ≤ 4000) → (hi : i ≤ Lo.length) → (hj : j ≤ Ln.length) → (hT9 : W1 ++ dfs (1) (Lo.drop i) (Ln.drop j) = W ++ dfs (1) Lo Ln) → ((Lo.length - i) + (Ln.length - j)) < d → J G9 0 0 f1 20 [(0, .ref m), (1, .int (iZ (1))), (2, .int (iZ ((t : Int)))), (3, .int (iZ (400 * (t : Int) + (i : Int)))), (4, .int (iZ (400 * (t : Int) + (j : Int))))] [] := by
  intro d
  induction d with
  | zero => intro i j W1 V1 G1 f1 hW0 ho hv h26 hw hl9 hi hj hT9 hd9; exfalso; omega
  | succ d ih =>
    intro i j W1 V1 G1 f1 hW0 ho hv h26 hw hl9 hi hj hT9 hd9
    have hW := MF_vid hW0 h26
    have k17 : G1 17 t = (Lo.length : Int) := by rw [ho 17 (by decide) (by decide) (by decide) (by decide)]; exact hLo.1
    have k21 : G1 21 t = (Ln.length : Int) := by rw [ho 21 (by decide) (by decide) (by decide) (by decide)]; exact hLn.1
    have cxx : i < Lo.length → (G1 18 (400 * (t : Int) + (i : Int)) = rK (Lo.getD i 0) ∧ G1 19 (400 * (t : Int) + (i : Int)) = rV (Lo.getD i 0) ∧ G1 20 (400 * (t : Int) + (i : Int)) = rT (Lo.getD i 0)) := fun hi => by rw [ho 18 (by decide) (by decide) (by decide) (by decide), ho 19 (by decide) (by decide) (by decide) (by decide), ho 20 (by decide) (by decide) (by decide) (by decide)]; exact hLo.2 i hi
    have cyy : j < Ln.length → (G1 22 (400 * (t : Int) + (j : Int)) = rK (Ln.getD j 0) ∧ G1 23 (400 * (t : Int) + (j : Int)) = rV (Ln.getD j 0) ∧ G1 24 (400 * (t : Int) + (j : Int)) = rT (Ln.getD j 0)) := fun hj => by rw [ho 22 (by decide) (by decide) (by decide) (by decide), ho 23 (by decide) (by decide) (by decide) (by decide), ho 24 (by decide) (by decide) (by decide) (by decide)]; exact hLn.2 j hj
    refine j_iload_n hG dX12_change_20 rfl rfl ?_
    refine j_sipush hG dX12_change_21 (by decide) ?_
    refine j_iload_n hG dX12_change_24 rfl rfl ?_
    refine j_imul hG dX12_change_25 ?_
    refine j_aload_n hG dX12_change_26 rfl rfl ?_
    refine j_get (v := .ref (A 17)) hG fX12_45 dX12_change_27 hW.1 rfl ?_
    refine j_iload_n hG dX12_change_30 rfl rfl ?_
    refine j_iald hG dX12_change_31 (MF_a17 hW) (by omega) (by decide) ?_
    refine j_eq (show ((G1 17) (t : Int) : Int) = ((Lo.length : Int) : Int) from k17) ?_
    refine j_iadd hG dX12_change_32 ?_
    refine j_icmp_lt (tgt := 53) hG dX12_change_33 (by decide) (by omega) (by omega) (fun c1 => ?_) (fun c1 => ?_)
    · -- taken at 33
      have hj2 : ∀ (how : Int) , (how = -1 ∧ i < Lo.length ∧ (Ln.length ≤ j ∨ (Lo.getD i 0) < (Ln.getD j 0))) ∨ (how = 0 ∧ i < Lo.length ∧ j < Ln.length ∧ (Lo.getD i 0) = (Ln.getD j 0)) ∨ (how = 1 ∧ j < Ln.length ∧ (Lo.length ≤ i ∨ (Ln.getD j 0) < (Lo.getD i 0))) → J G9 0 0 f1 101 [(0, .ref m), (1, .int (iZ (1))), (2, .int (iZ ((t : Int)))), (3, .int (iZ (400 * (t : Int) + (i : Int)))), (4, .int (iZ (400 * (t : Int) + (j : Int))))] [.int (iZ (how))] := by
        intro how  hh
        have hr9 : -1 ≤ how ∧ how ≤ 1 := by rcases hh with q | q | q <;> (have := q.1; omega)
        refine j_istore (lv' := [(0, .ref m), (1, .int (iZ (1))), (2, .int (iZ ((t : Int)))), (3, .int (iZ (400 * (t : Int) + (i : Int)))), (4, .int (iZ (400 * (t : Int) + (j : Int)))), (5, .int (iZ (how)))]) hG dX12_change_101 (by decide) rfl ?_
        refine j_iload hG dX12_change_103 rfl ?_
        refine j_if_eq (tgt := 249) hG dX12_change_105 (by decide) (by omega) (fun c3 => ?_) (fun c3 => ?_)
        · -- taken at 105
          refine j_iload_n hG dX12_change_249 rfl rfl ?_
          refine j_iload hG dX12_change_250 rfl ?_
          refine j_if_gt (tgt := 259) hG dX12_change_252 (by decide) (by omega) (fun c4 => ?_) (fun c4 => ?_)
          · -- taken at 252
            exfalso; omega
          · -- on at 252
            refine j_iconst hG dX12_change_255 ?_
            refine j_goto (tgt := 260) hG dX12_change_256 (by decide) ?_
            refine j_iadd hG dX12_change_260 ?_
            refine j_istore_n (lv' := [(0, .ref m), (1, .int (iZ (1))), (2, .int (iZ ((t : Int)))), (3, .int (iZ ((400 * (t : Int) + (i : Int)) + 1))), (4, .int (iZ (400 * (t : Int) + (j : Int)))), (5, .int (iZ (how)))]) hG dX12_change_261 rfl (by decide) rfl ?_
            refine j_iload hG dX12_change_262 rfl ?_
            refine j_iload hG dX12_change_264 rfl ?_
            refine j_if_lt (tgt := 273) hG dX12_change_266 (by decide) (by omega) (fun c5 => ?_) (fun c5 => ?_)
            · -- taken at 266
              exfalso; omega
            · -- on at 266
              refine j_iconst hG dX12_change_269 ?_
              refine j_goto (tgt := 274) hG dX12_change_270 (by decide) ?_
              refine j_iadd hG dX12_change_274 ?_
              refine j_istore (lv' := [(0, .ref m), (1, .int (iZ (1))), (2, .int (iZ ((t : Int)))), (3, .int (iZ ((400 * (t : Int) + (i : Int)) + 1))), (4, .int (iZ ((400 * (t : Int) + (j : Int)) + 1))), (5, .int (iZ (how)))]) hG dX12_change_275 (by decide) rfl ?_
              refine j_goto (tgt := 20) hG dX12_change_277 (by decide) ?_
              have e9 := dfs_0 (sg := 1) (x := (Lo.getD i 0)) (A := Lo.drop (i + 1)) (B := Ln.drop (j + 1))
              rw [← drop_at (by omega)] at e9
              rw [show (Lo.getD i 0) = (Ln.getD j 0) by omega, ← drop_at (by omega)] at e9
              rw [e9] at hT9
              refine j_lv (lv' := [(0, .ref m), (1, .int (iZ (1))), (2, .int (iZ ((t : Int)))), (3, .int (iZ ((400 * (t : Int) + (i : Int)) + 1))), (4, .int (iZ ((400 * (t : Int) + (j : Int)) + 1)))]) (by simp) ?_
              rw [show (400 * (t : Int) + (i : Int)) + 1 = 400 * (t : Int) + ((i + 1 : Nat) : Int) by omega]
              rw [show (400 * (t : Int) + (j : Int)) + 1 = 400 * (t : Int) + ((j + 1 : Nat) : Int) by omega]
              exact ih (i + 1) (j + 1) W1 V1 G1 f1 hW0 ho hv h26 hw hl9 (by omega) (by omega) hT9 (by omega)
        · -- on at 105
          refine j_iload hG dX12_change_108 rfl ?_
          refine j_if_ge (tgt := 117) hG dX12_change_110 (by decide) (by omega) (fun c6 => ?_) (fun c6 => ?_)
          · -- taken at 110
            refine j_iconst hG dX12_change_117 ?_
            refine j_iload_n hG dX12_change_118 rfl rfl ?_
            refine j_if_ge (tgt := 126) hG dX12_change_119 (by decide) (by omega) (fun c7 => ?_) (fun c7 => ?_)
            · -- taken at 119
              refine j_iconst hG dX12_change_126 ?_
              refine j_icmp_ne (tgt := 249) hG dX12_change_127 (by decide) (by omega) (by omega) (fun c8 => ?_) (fun c8 => ?_)
              · -- taken at 127
                exfalso; omega
              · -- on at 127
                refine j_aload_n hG dX12_change_130 rfl rfl ?_
                refine j_get (v := .int (iZ ((W1.length : Int)))) hG fX12_184 dX12_change_131 hW.1 rfl ?_
                refine j_sipush hG dX12_change_134 (by decide) ?_
                refine j_icmp_ne (tgt := 142) hG dX12_change_137 (by decide) (by omega) (by omega) (fun c9 => ?_) (fun c9 => ?_)
                · -- taken at 137
                  refine j_aload_n hG dX12_change_142 rfl rfl ?_
                  refine j_get (v := .ref (A 27)) hG fX12_69 dX12_change_143 hW.1 rfl ?_
                  refine j_aload_n hG dX12_change_146 rfl rfl ?_
                  refine j_get (v := .int (iZ ((W1.length : Int)))) hG fX12_184 dX12_change_147 hW.1 rfl ?_
                  refine j_iload_n hG dX12_change_150 rfl rfl ?_
                  refine j_if_ge (tgt := 163) hG dX12_change_151 (by decide) (by omega) (fun c10 => ?_) (fun c10 => ?_)
                  · -- taken at 151
                    refine j_aload_n hG dX12_change_163 rfl rfl ?_
                    refine j_get (v := .ref (A 22)) hG fX12_60 dX12_change_164 hW.1 rfl ?_
                    refine j_iload hG dX12_change_167 rfl ?_
                    refine j_iald hG dX12_change_169 (MF_a22 hW) (by omega) (by decide) ?_
                    refine j_eq (show ((G1 22) (400 * (t : Int) + (j : Int)) : Int) = (rK (Ln.getD j 0) : Int) from (cyy (by omega)).1) ?_
                    refine j_iast hG dX12_change_170 (MF_a27 hW) (by omega) (by decide) (fun f11 h12 fr13 => ?_)
                    have hW14 : MF E rg f0 f11 m A (up V1 26 (W1.length : Int)) (up G1 27 (fup (G1 27) (W1.length : Int) (rK (Ln.getD j 0)))) := MF_a hW 27 rfl h12 fr13
                    refine j_aload_n hG dX12_change_171 rfl rfl ?_
                    refine j_get (v := .ref (A 28)) hG fX12_72 dX12_change_172 hW14.1 rfl ?_
                    refine j_aload_n hG dX12_change_175 rfl rfl ?_
                    refine j_get (v := .int (iZ ((W1.length : Int)))) hG fX12_184 dX12_change_176 hW14.1 rfl ?_
                    refine j_iload_n hG dX12_change_179 rfl rfl ?_
                    refine j_if_ge (tgt := 192) hG dX12_change_180 (by decide) (by omega) (fun c15 => ?_) (fun c15 => ?_)
                    · -- taken at 180
                      refine j_aload_n hG dX12_change_192 rfl rfl ?_
                      refine j_get (v := .ref (A 23)) hG fX12_63 dX12_change_193 hW14.1 rfl ?_
                      refine j_iload hG dX12_change_196 rfl ?_
                      refine j_iald hG dX12_change_198 (MF_a23 hW14) (by omega) (by decide) ?_
                      refine j_eq (show ((G1 23) (400 * (t : Int) + (j : Int)) : Int) = (rV (Ln.getD j 0) : Int) from (cyy (by omega)).2.1) ?_
                      refine j_iast hG dX12_change_199 (MF_a28 hW14) (by omega) (by decide) (fun f16 h17 fr18 => ?_)
                      have hW19 : MF E rg f0 f16 m A (up V1 26 (W1.length : Int)) (up (up G1 27 (fup (G1 27) (W1.length : Int) (rK (Ln.getD j 0)))) 28 (fup (G1 28) (W1.length : Int) (rV (Ln.getD j 0)))) := MF_a hW14 28 rfl h17 fr18
                      refine j_aload_n hG dX12_change_200 rfl rfl ?_
                      refine j_get (v := .ref (A 29)) hG fX12_75 dX12_change_201 hW19.1 rfl ?_
                      refine j_aload_n hG dX12_change_204 rfl rfl ?_
                      refine j_get (v := .int (iZ ((W1.length : Int)))) hG fX12_184 dX12_change_205 hW19.1 rfl ?_
                      refine j_iload_n hG dX12_change_208 rfl rfl ?_
                      refine j_if_ge (tgt := 221) hG dX12_change_209 (by decide) (by omega) (fun c20 => ?_) (fun c20 => ?_)
                      · -- taken at 209
                        refine j_aload_n hG dX12_change_221 rfl rfl ?_
                        refine j_get (v := .ref (A 24)) hG fX12_66 dX12_change_222 hW19.1 rfl ?_
                        refine j_iload hG dX12_change_225 rfl ?_
                        refine j_iald hG dX12_change_227 (MF_a24 hW19) (by omega) (by decide) ?_
                        refine j_eq (show ((G1 24) (400 * (t : Int) + (j : Int)) : Int) = (rT (Ln.getD j 0) : Int) from (cyy (by omega)).2.2) ?_
                        refine j_iast hG dX12_change_228 (MF_a29 hW19) (by omega) (by decide) (fun f21 h22 fr23 => ?_)
                        have hW24 : MF E rg f0 f21 m A (up V1 26 (W1.length : Int)) (up (up (up G1 27 (fup (G1 27) (W1.length : Int) (rK (Ln.getD j 0)))) 28 (fup (G1 28) (W1.length : Int) (rV (Ln.getD j 0)))) 29 (fup (G1 29) (W1.length : Int) (rT (Ln.getD j 0)))) := MF_a hW19 29 rfl h22 fr23
                        refine j_aload_n hG dX12_change_229 rfl rfl ?_
                        refine j_get (v := .ref (A 30)) hG fX12_78 dX12_change_230 hW24.1 rfl ?_
                        refine j_aload_n hG dX12_change_233 rfl rfl ?_
                        refine j_get (v := .int (iZ ((W1.length : Int)))) hG fX12_184 dX12_change_234 hW24.1 rfl ?_
                        refine j_iload_n hG dX12_change_237 rfl rfl ?_
                        refine j_iast hG dX12_change_238 (MF_a30 hW24) (by omega) (by decide) (fun f25 h26 fr27 => ?_)
                        have hW28 : MF E rg f0 f25 m A (up V1 26 (W1.length : Int)) (up (up (up (up G1 27 (fup (G1 27) (W1.length : Int) (rK (Ln.getD j 0)))) 28 (fup (G1 28) (W1.length : Int) (rV (Ln.getD j 0)))) 29 (fup (G1 29) (W1.length : Int) (rT (Ln.getD j 0)))) 30 (fup (G1 30) (W1.length : Int) 1)) := MF_a hW24 30 rfl h26 fr27
                        refine j_aload_n hG dX12_change_239 rfl rfl ?_
                        refine j_dup hG dX12_change_240 rfl ?_
                        refine j_get (v := .int (iZ ((W1.length : Int)))) hG fX12_184 dX12_change_241 hW28.1 rfl ?_
                        refine j_iconst hG dX12_change_244 ?_
                        refine j_iadd hG dX12_change_245 ?_
                        refine j_put hG pX12_184 dX12_change_246 hW28.1 rfl rfl (Nat.le_of_ble_eq_true rfl) (fun f29 h30 fr31 => ?_)
                        have hW32 : MF E rg f0 f29 m A (up (up V1 26 (W1.length : Int)) 26 ((W1.length : Int) + 1)) (up (up (up (up G1 27 (fup (G1 27) (W1.length : Int) (rK (Ln.getD j 0)))) 28 (fup (G1 28) (W1.length : Int) (rV (Ln.getD j 0)))) 29 (fup (G1 29) (W1.length : Int) (rT (Ln.getD j 0)))) 30 (fup (G1 30) (W1.length : Int) 1)) := MF_p26 hW28 h30 fr31
                        rw [up_up] at hW32
                        refine j_iload_n hG dX12_change_249 rfl rfl ?_
                        refine j_iload hG dX12_change_250 rfl ?_
                        refine j_if_gt (tgt := 259) hG dX12_change_252 (by decide) (by omega) (fun c33 => ?_) (fun c33 => ?_)
                        · -- taken at 252
                          refine j_iconst hG dX12_change_259 ?_
                          refine j_iadd hG dX12_change_260 ?_
                          refine j_istore_n (lv' := [(0, .ref m), (1, .int (iZ (1))), (2, .int (iZ ((t : Int)))), (3, .int (iZ ((400 * (t : Int) + (i : Int)) + 0))), (4, .int (iZ (400 * (t : Int) + (j : Int)))), (5, .int (iZ (how)))]) hG dX12_change_261 rfl (by decide) rfl ?_
                          refine j_iload hG dX12_change_262 rfl ?_
                          refine j_iload hG dX12_change_264 rfl ?_
                          refine j_if_lt (tgt := 273) hG dX12_change_266 (by decide) (by omega) (fun c34 => ?_) (fun c34 => ?_)
                          · -- taken at 266
                            exfalso; omega
                          · -- on at 266
                            refine j_iconst hG dX12_change_269 ?_
                            refine j_goto (tgt := 274) hG dX12_change_270 (by decide) ?_
                            refine j_iadd hG dX12_change_274 ?_
                            refine j_istore (lv' := [(0, .ref m), (1, .int (iZ (1))), (2, .int (iZ ((t : Int)))), (3, .int (iZ ((400 * (t : Int) + (i : Int)) + 0))), (4, .int (iZ ((400 * (t : Int) + (j : Int)) + 1))), (5, .int (iZ (how)))]) hG dX12_change_275 (by decide) rfl ?_
                            refine j_goto (tgt := 20) hG dX12_change_277 (by decide) ?_
                            have hh9 : ∀ x, (Lo.drop i).head? = some x → (Ln.getD j 0) < x := fun x hx => by have q := drop_hd hx; rw [q.2]; omega
                            have e9 := dfs_p (sg := 1) (B := Ln.drop (j + 1)) hh9
                            rw [← drop_at (by omega)] at e9
                            rw [if_neg (by decide)] at e9
                            rw [e9] at hT9
                            refine j_lv (lv' := [(0, .ref m), (1, .int (iZ (1))), (2, .int (iZ ((t : Int)))), (3, .int (iZ ((400 * (t : Int) + (i : Int)) + 0))), (4, .int (iZ ((400 * (t : Int) + (j : Int)) + 1)))]) (by simp) ?_
                            rw [show (400 * (t : Int) + (i : Int)) + 0 = 400 * (t : Int) + ((i : Nat) : Int) by omega]
                            rw [show (400 * (t : Int) + (j : Int)) + 1 = 400 * (t : Int) + ((j + 1 : Nat) : Int) by omega]
                            exact ih (i) (j + 1) (W1 ++ [2 * (Ln.getD j 0) + 1]) _ _ f29 hW32 (othW_s ho) (fun i hi => by rw [up_n _ _ hi]; exact hv i hi) (by show (W1.length : Int) + 1 = _; rw [List.length_append]; rfl) (wrep_snoc hw (by rw [show (2 * (Ln.getD j 0) + 1) / 2 = (Ln.getD j 0) by omega]) (by rw [show (2 * (Ln.getD j 0) + 1) / 2 = (Ln.getD j 0) by omega]) (by rw [show (2 * (Ln.getD j 0) + 1) / 2 = (Ln.getD j 0) by omega]) (by rw [if_pos (by omega)])) (by rw [List.length_append, List.length_singleton]; omega) (by omega) (by omega) (by rw [List.append_assoc]; exact hT9) (by omega)
                        · -- on at 252
                          exfalso; omega
                      · -- on at 209
                        exfalso; omega
                    · -- on at 180
                      exfalso; omega
                  · -- on at 151
                    exfalso; omega
                · -- on at 137
                  refine j_iconst hG dX12_change_140 ?_
                  have hh9 : ∀ x, (Lo.drop i).head? = some x → (Ln.getD j 0) < x := fun x hx => by have q := drop_hd hx; rw [q.2]; omega
                  have e9 := dfs_p (sg := 1) (B := Ln.drop (j + 1)) hh9
                  rw [← drop_at (by omega), if_neg (by decide)] at e9
                  have e8 := congrArg List.length hT9
                  rw [e9, List.length_append, List.length_append, List.length_append, List.length_singleton] at e8
                  exact j_zret hG hZ dX12_change_141 (Nat.zero_le _) (Nat.zero_le _) (nar_zr (by omega)) (hP 0 f1 V1 G1 W1 hW0 ho hv h26 hw (Or.inr ⟨rfl, ⟨_, hT9.symm⟩, by omega, by rw [List.length_append]; omega⟩))
            · -- on at 119
              exfalso; omega
          · -- on at 110
            refine j_iconst hG dX12_change_113 ?_
            refine j_goto (tgt := 118) hG dX12_change_114 (by decide) ?_
            refine j_iload_n hG dX12_change_118 rfl rfl ?_
            refine j_if_ge (tgt := 126) hG dX12_change_119 (by decide) (by omega) (fun c35 => ?_) (fun c35 => ?_)
            · -- taken at 119
              refine j_iconst hG dX12_change_126 ?_
              refine j_icmp_ne (tgt := 249) hG dX12_change_127 (by decide) (by omega) (by omega) (fun c36 => ?_) (fun c36 => ?_)
              · -- taken at 127
                refine j_iload_n hG dX12_change_249 rfl rfl ?_
                refine j_iload hG dX12_change_250 rfl ?_
                refine j_if_gt (tgt := 259) hG dX12_change_252 (by decide) (by omega) (fun c37 => ?_) (fun c37 => ?_)
                · -- taken at 252
                  exfalso; omega
                · -- on at 252
                  refine j_iconst hG dX12_change_255 ?_
                  refine j_goto (tgt := 260) hG dX12_change_256 (by decide) ?_
                  refine j_iadd hG dX12_change_260 ?_
                  refine j_istore_n (lv' := [(0, .ref m), (1, .int (iZ (1))), (2, .int (iZ ((t : Int)))), (3, .int (iZ ((400 * (t : Int) + (i : Int)) + 1))), (4, .int (iZ (400 * (t : Int) + (j : Int)))), (5, .int (iZ (how)))]) hG dX12_change_261 rfl (by decide) rfl ?_
                  refine j_iload hG dX12_change_262 rfl ?_
                  refine j_iload hG dX12_change_264 rfl ?_
                  refine j_if_lt (tgt := 273) hG dX12_change_266 (by decide) (by omega) (fun c38 => ?_) (fun c38 => ?_)
                  · -- taken at 266
                    refine j_iconst hG dX12_change_273 ?_
                    refine j_iadd hG dX12_change_274 ?_
                    refine j_istore (lv' := [(0, .ref m), (1, .int (iZ (1))), (2, .int (iZ ((t : Int)))), (3, .int (iZ ((400 * (t : Int) + (i : Int)) + 1))), (4, .int (iZ ((400 * (t : Int) + (j : Int)) + 0))), (5, .int (iZ (how)))]) hG dX12_change_275 (by decide) rfl ?_
                    refine j_goto (tgt := 20) hG dX12_change_277 (by decide) ?_
                    have hh9 : ∀ y, (Ln.drop j).head? = some y → (Lo.getD i 0) < y := fun y hy => by have q := drop_hd hy; rw [q.2]; omega
                    have e9 := dfs_n (sg := 1) (A := Lo.drop (i + 1)) hh9
                    rw [← drop_at (by omega)] at e9
                    rw [if_neg (by decide)] at e9
                    rw [e9] at hT9
                    rw [List.nil_append] at hT9
                    refine j_lv (lv' := [(0, .ref m), (1, .int (iZ (1))), (2, .int (iZ ((t : Int)))), (3, .int (iZ ((400 * (t : Int) + (i : Int)) + 1))), (4, .int (iZ ((400 * (t : Int) + (j : Int)) + 0)))]) (by simp) ?_
                    rw [show (400 * (t : Int) + (i : Int)) + 1 = 400 * (t : Int) + ((i + 1 : Nat) : Int) by omega]
                    rw [show (400 * (t : Int) + (j : Int)) + 0 = 400 * (t : Int) + ((j : Nat) : Int) by omega]
                    exact ih (i + 1) (j) W1 V1 G1 f1 hW0 ho hv h26 hw hl9 (by omega) (by omega) hT9 (by omega)
                  · -- on at 266
                    exfalso; omega
              · -- on at 127
                exfalso; omega
            · -- on at 119
              exfalso; omega
      refine j_iload_n hG dX12_change_53 rfl rfl ?_
      refine j_sipush hG dX12_change_54 (by decide) ?_
      refine j_iload_n hG dX12_change_57 rfl rfl ?_
      refine j_imul hG dX12_change_58 ?_
      refine j_aload_n hG dX12_change_59 rfl rfl ?_
      refine j_get (v := .ref (A 17)) hG fX12_45 dX12_change_60 hW.1 rfl ?_
      refine j_iload_n hG dX12_change_63 rfl rfl ?_
      refine j_iald hG dX12_change_64 (MF_a17 hW) (by omega) (by decide) ?_
      refine j_eq (show ((G1 17) (t : Int) : Int) = ((Lo.length : Int) : Int) from k17) ?_
      refine j_iadd hG dX12_change_65 ?_
      refine j_icmp_ne (tgt := 73) hG dX12_change_66 (by decide) (by omega) (by omega) (fun c39 => ?_) (fun c39 => ?_)
      · -- taken at 66
        refine j_iload hG dX12_change_73 rfl ?_
        refine j_sipush hG dX12_change_75 (by decide) ?_
        refine j_iload_n hG dX12_change_78 rfl rfl ?_
        refine j_imul hG dX12_change_79 ?_
        refine j_aload_n hG dX12_change_80 rfl rfl ?_
        refine j_get (v := .ref (A 21)) hG fX12_57 dX12_change_81 hW.1 rfl ?_
        refine j_iload_n hG dX12_change_84 rfl rfl ?_
        refine j_iald hG dX12_change_85 (MF_a21 hW) (by omega) (by decide) ?_
        refine j_eq (show ((G1 21) (t : Int) : Int) = ((Ln.length : Int) : Int) from k21) ?_
        refine j_iadd hG dX12_change_86 ?_
        refine j_icmp_ne (tgt := 94) hG dX12_change_87 (by decide) (by omega) (by omega) (fun c40 => ?_) (fun c40 => ?_)
        · -- taken at 87
          have xo := lo _ (gd_mem (L := Lo) (i := i) (by omega))
          have yo := ln _ (gd_mem (L := Ln) (i := j) (by omega))
          have cx := cxx (by omega)
          have cy := cyy (by omega)
          refine j_aload_n hG dX12_change_94 rfl rfl ?_
          refine j_iload_n hG dX12_change_95 rfl rfl ?_
          refine j_iload hG dX12_change_96 rfl ?_
          refine j_callV (rest := []) hG vX12_180 dX12_change_98 (c_X12_order (x := (Lo.getD i 0)) (y := (Ln.getD j 0)) hW xo yo cx cy (by omega) (by omega)) hW.1 rfl rfl (by decide) (by decide) (Nat.le_of_ble_eq_true rfl) rfl rfl (Nat.zero_le _) (Nat.zero_le _) ?_
          rintro _ _ ⟨⟨z41, rfl, hz42⟩, rfl⟩
          refine j_st (st' := [.int (iZ (z41))]) rfl ?_
          exact hj2 (z41) (by rcases hz42 with q | q | q; exact Or.inl ⟨q.1, by omega⟩; exact Or.inr (Or.inl ⟨q.1, by omega⟩); exact Or.inr (Or.inr ⟨q.1, by omega⟩))
        · -- on at 87
          refine j_iconst hG dX12_change_90 ?_
          refine j_goto (tgt := 101) hG dX12_change_91 (by decide) ?_
          exact hj2 (-1) (Or.inl ⟨rfl, by omega⟩)
      · -- on at 66
        refine j_iconst hG dX12_change_69 ?_
        refine j_goto (tgt := 101) hG dX12_change_70 (by decide) ?_
        exact hj2 (1) (Or.inr (Or.inr ⟨rfl, by omega⟩))
    · -- on at 33
      refine j_iload hG dX12_change_36 rfl ?_
      refine j_sipush hG dX12_change_38 (by decide) ?_
      refine j_iload_n hG dX12_change_41 rfl rfl ?_
      refine j_imul hG dX12_change_42 ?_
      refine j_aload_n hG dX12_change_43 rfl rfl ?_
      refine j_get (v := .ref (A 21)) hG fX12_57 dX12_change_44 hW.1 rfl ?_
      refine j_iload_n hG dX12_change_47 rfl rfl ?_
      refine j_iald hG dX12_change_48 (MF_a21 hW) (by omega) (by decide) ?_
      refine j_eq (show ((G1 21) (t : Int) : Int) = ((Ln.length : Int) : Int) from k21) ?_
      refine j_iadd hG dX12_change_49 ?_
      refine j_icmp_ge (tgt := 280) hG dX12_change_50 (by decide) (by omega) (by omega) (fun c43 => ?_) (fun c43 => ?_)
      · -- taken at 50
        refine j_iconst hG dX12_change_280 ?_
        have e8 : Lo.drop i = [] := List.drop_eq_nil_of_le (by omega)
        have e7 : Ln.drop j = [] := List.drop_eq_nil_of_le (by omega)
        rw [e8, e7, dfs_nil, List.append_nil] at hT9
        exact j_zret hG hZ dX12_change_281 (Nat.zero_le _) (Nat.zero_le _) (nar_zr (by omega)) (hP 1 f1 V1 G1 W1 hW0 ho hv h26 hw (Or.inl ⟨rfl, hT9, hl9⟩))
      · -- on at 50
        have hj44 : ∀ (how : Int) , (how = -1 ∧ i < Lo.length ∧ (Ln.length ≤ j ∨ (Lo.getD i 0) < (Ln.getD j 0))) ∨ (how = 0 ∧ i < Lo.length ∧ j < Ln.length ∧ (Lo.getD i 0) = (Ln.getD j 0)) ∨ (how = 1 ∧ j < Ln.length ∧ (Lo.length ≤ i ∨ (Ln.getD j 0) < (Lo.getD i 0))) → J G9 0 0 f1 101 [(0, .ref m), (1, .int (iZ (1))), (2, .int (iZ ((t : Int)))), (3, .int (iZ (400 * (t : Int) + (i : Int)))), (4, .int (iZ (400 * (t : Int) + (j : Int))))] [.int (iZ (how))] := by
          intro how  hh
          have hr9 : -1 ≤ how ∧ how ≤ 1 := by rcases hh with q | q | q <;> (have := q.1; omega)
          refine j_istore (lv' := [(0, .ref m), (1, .int (iZ (1))), (2, .int (iZ ((t : Int)))), (3, .int (iZ (400 * (t : Int) + (i : Int)))), (4, .int (iZ (400 * (t : Int) + (j : Int)))), (5, .int (iZ (how)))]) hG dX12_change_101 (by decide) rfl ?_
          refine j_iload hG dX12_change_103 rfl ?_
          refine j_if_eq (tgt := 249) hG dX12_change_105 (by decide) (by omega) (fun c45 => ?_) (fun c45 => ?_)
          · -- taken at 105
            refine j_iload_n hG dX12_change_249 rfl rfl ?_
            refine j_iload hG dX12_change_250 rfl ?_
            refine j_if_gt (tgt := 259) hG dX12_change_252 (by decide) (by omega) (fun c46 => ?_) (fun c46 => ?_)
            · -- taken at 252
              exfalso; omega
            · -- on at 252
              refine j_iconst hG dX12_change_255 ?_
              refine j_goto (tgt := 260) hG dX12_change_256 (by decide) ?_
              refine j_iadd hG dX12_change_260 ?_
              refine j_istore_n (lv' := [(0, .ref m), (1, .int (iZ (1))), (2, .int (iZ ((t : Int)))), (3, .int (iZ ((400 * (t : Int) + (i : Int)) + 1))), (4, .int (iZ (400 * (t : Int) + (j : Int)))), (5, .int (iZ (how)))]) hG dX12_change_261 rfl (by decide) rfl ?_
              refine j_iload hG dX12_change_262 rfl ?_
              refine j_iload hG dX12_change_264 rfl ?_
              refine j_if_lt (tgt := 273) hG dX12_change_266 (by decide) (by omega) (fun c47 => ?_) (fun c47 => ?_)
              · -- taken at 266
                exfalso; omega
              · -- on at 266
                refine j_iconst hG dX12_change_269 ?_
                refine j_goto (tgt := 274) hG dX12_change_270 (by decide) ?_
                refine j_iadd hG dX12_change_274 ?_
                refine j_istore (lv' := [(0, .ref m), (1, .int (iZ (1))), (2, .int (iZ ((t : Int)))), (3, .int (iZ ((400 * (t : Int) + (i : Int)) + 1))), (4, .int (iZ ((400 * (t : Int) + (j : Int)) + 1))), (5, .int (iZ (how)))]) hG dX12_change_275 (by decide) rfl ?_
                refine j_goto (tgt := 20) hG dX12_change_277 (by decide) ?_
                have e9 := dfs_0 (sg := 1) (x := (Lo.getD i 0)) (A := Lo.drop (i + 1)) (B := Ln.drop (j + 1))
                rw [← drop_at (by omega)] at e9
                rw [show (Lo.getD i 0) = (Ln.getD j 0) by omega, ← drop_at (by omega)] at e9
                rw [e9] at hT9
                refine j_lv (lv' := [(0, .ref m), (1, .int (iZ (1))), (2, .int (iZ ((t : Int)))), (3, .int (iZ ((400 * (t : Int) + (i : Int)) + 1))), (4, .int (iZ ((400 * (t : Int) + (j : Int)) + 1)))]) (by simp) ?_
                rw [show (400 * (t : Int) + (i : Int)) + 1 = 400 * (t : Int) + ((i + 1 : Nat) : Int) by omega]
                rw [show (400 * (t : Int) + (j : Int)) + 1 = 400 * (t : Int) + ((j + 1 : Nat) : Int) by omega]
                exact ih (i + 1) (j + 1) W1 V1 G1 f1 hW0 ho hv h26 hw hl9 (by omega) (by omega) hT9 (by omega)
          · -- on at 105
            refine j_iload hG dX12_change_108 rfl ?_
            refine j_if_ge (tgt := 117) hG dX12_change_110 (by decide) (by omega) (fun c48 => ?_) (fun c48 => ?_)
            · -- taken at 110
              refine j_iconst hG dX12_change_117 ?_
              refine j_iload_n hG dX12_change_118 rfl rfl ?_
              refine j_if_ge (tgt := 126) hG dX12_change_119 (by decide) (by omega) (fun c49 => ?_) (fun c49 => ?_)
              · -- taken at 119
                refine j_iconst hG dX12_change_126 ?_
                refine j_icmp_ne (tgt := 249) hG dX12_change_127 (by decide) (by omega) (by omega) (fun c50 => ?_) (fun c50 => ?_)
                · -- taken at 127
                  exfalso; omega
                · -- on at 127
                  refine j_aload_n hG dX12_change_130 rfl rfl ?_
                  refine j_get (v := .int (iZ ((W1.length : Int)))) hG fX12_184 dX12_change_131 hW.1 rfl ?_
                  refine j_sipush hG dX12_change_134 (by decide) ?_
                  refine j_icmp_ne (tgt := 142) hG dX12_change_137 (by decide) (by omega) (by omega) (fun c51 => ?_) (fun c51 => ?_)
                  · -- taken at 137
                    refine j_aload_n hG dX12_change_142 rfl rfl ?_
                    refine j_get (v := .ref (A 27)) hG fX12_69 dX12_change_143 hW.1 rfl ?_
                    refine j_aload_n hG dX12_change_146 rfl rfl ?_
                    refine j_get (v := .int (iZ ((W1.length : Int)))) hG fX12_184 dX12_change_147 hW.1 rfl ?_
                    refine j_iload_n hG dX12_change_150 rfl rfl ?_
                    refine j_if_ge (tgt := 163) hG dX12_change_151 (by decide) (by omega) (fun c52 => ?_) (fun c52 => ?_)
                    · -- taken at 151
                      refine j_aload_n hG dX12_change_163 rfl rfl ?_
                      refine j_get (v := .ref (A 22)) hG fX12_60 dX12_change_164 hW.1 rfl ?_
                      refine j_iload hG dX12_change_167 rfl ?_
                      refine j_iald hG dX12_change_169 (MF_a22 hW) (by omega) (by decide) ?_
                      refine j_eq (show ((G1 22) (400 * (t : Int) + (j : Int)) : Int) = (rK (Ln.getD j 0) : Int) from (cyy (by omega)).1) ?_
                      refine j_iast hG dX12_change_170 (MF_a27 hW) (by omega) (by decide) (fun f53 h54 fr55 => ?_)
                      have hW56 : MF E rg f0 f53 m A (up V1 26 (W1.length : Int)) (up G1 27 (fup (G1 27) (W1.length : Int) (rK (Ln.getD j 0)))) := MF_a hW 27 rfl h54 fr55
                      refine j_aload_n hG dX12_change_171 rfl rfl ?_
                      refine j_get (v := .ref (A 28)) hG fX12_72 dX12_change_172 hW56.1 rfl ?_
                      refine j_aload_n hG dX12_change_175 rfl rfl ?_
                      refine j_get (v := .int (iZ ((W1.length : Int)))) hG fX12_184 dX12_change_176 hW56.1 rfl ?_
                      refine j_iload_n hG dX12_change_179 rfl rfl ?_
                      refine j_if_ge (tgt := 192) hG dX12_change_180 (by decide) (by omega) (fun c57 => ?_) (fun c57 => ?_)
                      · -- taken at 180
                        refine j_aload_n hG dX12_change_192 rfl rfl ?_
                        refine j_get (v := .ref (A 23)) hG fX12_63 dX12_change_193 hW56.1 rfl ?_
                        refine j_iload hG dX12_change_196 rfl ?_
                        refine j_iald hG dX12_change_198 (MF_a23 hW56) (by omega) (by decide) ?_
                        refine j_eq (show ((G1 23) (400 * (t : Int) + (j : Int)) : Int) = (rV (Ln.getD j 0) : Int) from (cyy (by omega)).2.1) ?_
                        refine j_iast hG dX12_change_199 (MF_a28 hW56) (by omega) (by decide) (fun f58 h59 fr60 => ?_)
                        have hW61 : MF E rg f0 f58 m A (up V1 26 (W1.length : Int)) (up (up G1 27 (fup (G1 27) (W1.length : Int) (rK (Ln.getD j 0)))) 28 (fup (G1 28) (W1.length : Int) (rV (Ln.getD j 0)))) := MF_a hW56 28 rfl h59 fr60
                        refine j_aload_n hG dX12_change_200 rfl rfl ?_
                        refine j_get (v := .ref (A 29)) hG fX12_75 dX12_change_201 hW61.1 rfl ?_
                        refine j_aload_n hG dX12_change_204 rfl rfl ?_
                        refine j_get (v := .int (iZ ((W1.length : Int)))) hG fX12_184 dX12_change_205 hW61.1 rfl ?_
                        refine j_iload_n hG dX12_change_208 rfl rfl ?_
                        refine j_if_ge (tgt := 221) hG dX12_change_209 (by decide) (by omega) (fun c62 => ?_) (fun c62 => ?_)
                        · -- taken at 209
                          refine j_aload_n hG dX12_change_221 rfl rfl ?_
                          refine j_get (v := .ref (A 24)) hG fX12_66 dX12_change_222 hW61.1 rfl ?_
                          refine j_iload hG dX12_change_225 rfl ?_
                          refine j_iald hG dX12_change_227 (MF_a24 hW61) (by omega) (by decide) ?_
                          refine j_eq (show ((G1 24) (400 * (t : Int) + (j : Int)) : Int) = (rT (Ln.getD j 0) : Int) from (cyy (by omega)).2.2) ?_
                          refine j_iast hG dX12_change_228 (MF_a29 hW61) (by omega) (by decide) (fun f63 h64 fr65 => ?_)
                          have hW66 : MF E rg f0 f63 m A (up V1 26 (W1.length : Int)) (up (up (up G1 27 (fup (G1 27) (W1.length : Int) (rK (Ln.getD j 0)))) 28 (fup (G1 28) (W1.length : Int) (rV (Ln.getD j 0)))) 29 (fup (G1 29) (W1.length : Int) (rT (Ln.getD j 0)))) := MF_a hW61 29 rfl h64 fr65
                          refine j_aload_n hG dX12_change_229 rfl rfl ?_
                          refine j_get (v := .ref (A 30)) hG fX12_78 dX12_change_230 hW66.1 rfl ?_
                          refine j_aload_n hG dX12_change_233 rfl rfl ?_
                          refine j_get (v := .int (iZ ((W1.length : Int)))) hG fX12_184 dX12_change_234 hW66.1 rfl ?_
                          refine j_iload_n hG dX12_change_237 rfl rfl ?_
                          refine j_iast hG dX12_change_238 (MF_a30 hW66) (by omega) (by decide) (fun f67 h68 fr69 => ?_)
                          have hW70 : MF E rg f0 f67 m A (up V1 26 (W1.length : Int)) (up (up (up (up G1 27 (fup (G1 27) (W1.length : Int) (rK (Ln.getD j 0)))) 28 (fup (G1 28) (W1.length : Int) (rV (Ln.getD j 0)))) 29 (fup (G1 29) (W1.length : Int) (rT (Ln.getD j 0)))) 30 (fup (G1 30) (W1.length : Int) 1)) := MF_a hW66 30 rfl h68 fr69
                          refine j_aload_n hG dX12_change_239 rfl rfl ?_
                          refine j_dup hG dX12_change_240 rfl ?_
                          refine j_get (v := .int (iZ ((W1.length : Int)))) hG fX12_184 dX12_change_241 hW70.1 rfl ?_
                          refine j_iconst hG dX12_change_244 ?_
                          refine j_iadd hG dX12_change_245 ?_
                          refine j_put hG pX12_184 dX12_change_246 hW70.1 rfl rfl (Nat.le_of_ble_eq_true rfl) (fun f71 h72 fr73 => ?_)
                          have hW74 : MF E rg f0 f71 m A (up (up V1 26 (W1.length : Int)) 26 ((W1.length : Int) + 1)) (up (up (up (up G1 27 (fup (G1 27) (W1.length : Int) (rK (Ln.getD j 0)))) 28 (fup (G1 28) (W1.length : Int) (rV (Ln.getD j 0)))) 29 (fup (G1 29) (W1.length : Int) (rT (Ln.getD j 0)))) 30 (fup (G1 30) (W1.length : Int) 1)) := MF_p26 hW70 h72 fr73
                          rw [up_up] at hW74
                          refine j_iload_n hG dX12_change_249 rfl rfl ?_
                          refine j_iload hG dX12_change_250 rfl ?_
                          refine j_if_gt (tgt := 259) hG dX12_change_252 (by decide) (by omega) (fun c75 => ?_) (fun c75 => ?_)
                          · -- taken at 252
                            refine j_iconst hG dX12_change_259 ?_
                            refine j_iadd hG dX12_change_260 ?_
                            refine j_istore_n (lv' := [(0, .ref m), (1, .int (iZ (1))), (2, .int (iZ ((t : Int)))), (3, .int (iZ ((400 * (t : Int) + (i : Int)) + 0))), (4, .int (iZ (400 * (t : Int) + (j : Int)))), (5, .int (iZ (how)))]) hG dX12_change_261 rfl (by decide) rfl ?_
                            refine j_iload hG dX12_change_262 rfl ?_
                            refine j_iload hG dX12_change_264 rfl ?_
                            refine j_if_lt (tgt := 273) hG dX12_change_266 (by decide) (by omega) (fun c76 => ?_) (fun c76 => ?_)
                            · -- taken at 266
                              exfalso; omega
                            · -- on at 266
                              refine j_iconst hG dX12_change_269 ?_
                              refine j_goto (tgt := 274) hG dX12_change_270 (by decide) ?_
                              refine j_iadd hG dX12_change_274 ?_
                              refine j_istore (lv' := [(0, .ref m), (1, .int (iZ (1))), (2, .int (iZ ((t : Int)))), (3, .int (iZ ((400 * (t : Int) + (i : Int)) + 0))), (4, .int (iZ ((400 * (t : Int) + (j : Int)) + 1))), (5, .int (iZ (how)))]) hG dX12_change_275 (by decide) rfl ?_
                              refine j_goto (tgt := 20) hG dX12_change_277 (by decide) ?_
                              have hh9 : ∀ x, (Lo.drop i).head? = some x → (Ln.getD j 0) < x := fun x hx => by have q := drop_hd hx; rw [q.2]; omega
                              have e9 := dfs_p (sg := 1) (B := Ln.drop (j + 1)) hh9
                              rw [← drop_at (by omega)] at e9
                              rw [if_neg (by decide)] at e9
                              rw [e9] at hT9
                              refine j_lv (lv' := [(0, .ref m), (1, .int (iZ (1))), (2, .int (iZ ((t : Int)))), (3, .int (iZ ((400 * (t : Int) + (i : Int)) + 0))), (4, .int (iZ ((400 * (t : Int) + (j : Int)) + 1)))]) (by simp) ?_
                              rw [show (400 * (t : Int) + (i : Int)) + 0 = 400 * (t : Int) + ((i : Nat) : Int) by omega]
                              rw [show (400 * (t : Int) + (j : Int)) + 1 = 400 * (t : Int) + ((j + 1 : Nat) : Int) by omega]
                              exact ih (i) (j + 1) (W1 ++ [2 * (Ln.getD j 0) + 1]) _ _ f71 hW74 (othW_s ho) (fun i hi => by rw [up_n _ _ hi]; exact hv i hi) (by show (W1.length : Int) + 1 = _; rw [List.length_append]; rfl) (wrep_snoc hw (by rw [show (2 * (Ln.getD j 0) + 1) / 2 = (Ln.getD j 0) by omega]) (by rw [show (2 * (Ln.getD j 0) + 1) / 2 = (Ln.getD j 0) by omega]) (by rw [show (2 * (Ln.getD j 0) + 1) / 2 = (Ln.getD j 0) by omega]) (by rw [if_pos (by omega)])) (by rw [List.length_append, List.length_singleton]; omega) (by omega) (by omega) (by rw [List.append_assoc]; exact hT9) (by omega)
                          · -- on at 252
                            exfalso; omega
                        · -- on at 209
                          exfalso; omega
                      · -- on at 180
                        exfalso; omega
                    · -- on at 151
                      exfalso; omega
                  · -- on at 137
                    refine j_iconst hG dX12_change_140 ?_
                    have hh9 : ∀ x, (Lo.drop i).head? = some x → (Ln.getD j 0) < x := fun x hx => by have q := drop_hd hx; rw [q.2]; omega
                    have e9 := dfs_p (sg := 1) (B := Ln.drop (j + 1)) hh9
                    rw [← drop_at (by omega), if_neg (by decide)] at e9
                    have e8 := congrArg List.length hT9
                    rw [e9, List.length_append, List.length_append, List.length_append, List.length_singleton] at e8
                    exact j_zret hG hZ dX12_change_141 (Nat.zero_le _) (Nat.zero_le _) (nar_zr (by omega)) (hP 0 f1 V1 G1 W1 hW0 ho hv h26 hw (Or.inr ⟨rfl, ⟨_, hT9.symm⟩, by omega, by rw [List.length_append]; omega⟩))
              · -- on at 119
                exfalso; omega
            · -- on at 110
              refine j_iconst hG dX12_change_113 ?_
              refine j_goto (tgt := 118) hG dX12_change_114 (by decide) ?_
              refine j_iload_n hG dX12_change_118 rfl rfl ?_
              refine j_if_ge (tgt := 126) hG dX12_change_119 (by decide) (by omega) (fun c77 => ?_) (fun c77 => ?_)
              · -- taken at 119
                refine j_iconst hG dX12_change_126 ?_
                refine j_icmp_ne (tgt := 249) hG dX12_change_127 (by decide) (by omega) (by omega) (fun c78 => ?_) (fun c78 => ?_)
                · -- taken at 127
                  refine j_iload_n hG dX12_change_249 rfl rfl ?_
                  refine j_iload hG dX12_change_250 rfl ?_
                  refine j_if_gt (tgt := 259) hG dX12_change_252 (by decide) (by omega) (fun c79 => ?_) (fun c79 => ?_)
                  · -- taken at 252
                    exfalso; omega
                  · -- on at 252
                    refine j_iconst hG dX12_change_255 ?_
                    refine j_goto (tgt := 260) hG dX12_change_256 (by decide) ?_
                    refine j_iadd hG dX12_change_260 ?_
                    refine j_istore_n (lv' := [(0, .ref m), (1, .int (iZ (1))), (2, .int (iZ ((t : Int)))), (3, .int (iZ ((400 * (t : Int) + (i : Int)) + 1))), (4, .int (iZ (400 * (t : Int) + (j : Int)))), (5, .int (iZ (how)))]) hG dX12_change_261 rfl (by decide) rfl ?_
                    refine j_iload hG dX12_change_262 rfl ?_
                    refine j_iload hG dX12_change_264 rfl ?_
                    refine j_if_lt (tgt := 273) hG dX12_change_266 (by decide) (by omega) (fun c80 => ?_) (fun c80 => ?_)
                    · -- taken at 266
                      refine j_iconst hG dX12_change_273 ?_
                      refine j_iadd hG dX12_change_274 ?_
                      refine j_istore (lv' := [(0, .ref m), (1, .int (iZ (1))), (2, .int (iZ ((t : Int)))), (3, .int (iZ ((400 * (t : Int) + (i : Int)) + 1))), (4, .int (iZ ((400 * (t : Int) + (j : Int)) + 0))), (5, .int (iZ (how)))]) hG dX12_change_275 (by decide) rfl ?_
                      refine j_goto (tgt := 20) hG dX12_change_277 (by decide) ?_
                      have hh9 : ∀ y, (Ln.drop j).head? = some y → (Lo.getD i 0) < y := fun y hy => by have q := drop_hd hy; rw [q.2]; omega
                      have e9 := dfs_n (sg := 1) (A := Lo.drop (i + 1)) hh9
                      rw [← drop_at (by omega)] at e9
                      rw [if_neg (by decide)] at e9
                      rw [e9] at hT9
                      rw [List.nil_append] at hT9
                      refine j_lv (lv' := [(0, .ref m), (1, .int (iZ (1))), (2, .int (iZ ((t : Int)))), (3, .int (iZ ((400 * (t : Int) + (i : Int)) + 1))), (4, .int (iZ ((400 * (t : Int) + (j : Int)) + 0)))]) (by simp) ?_
                      rw [show (400 * (t : Int) + (i : Int)) + 1 = 400 * (t : Int) + ((i + 1 : Nat) : Int) by omega]
                      rw [show (400 * (t : Int) + (j : Int)) + 0 = 400 * (t : Int) + ((j : Nat) : Int) by omega]
                      exact ih (i + 1) (j) W1 V1 G1 f1 hW0 ho hv h26 hw hl9 (by omega) (by omega) hT9 (by omega)
                    · -- on at 266
                      exfalso; omega
                · -- on at 127
                  exfalso; omega
              · -- on at 119
                exfalso; omega
        refine j_iload_n hG dX12_change_53 rfl rfl ?_
        refine j_sipush hG dX12_change_54 (by decide) ?_
        refine j_iload_n hG dX12_change_57 rfl rfl ?_
        refine j_imul hG dX12_change_58 ?_
        refine j_aload_n hG dX12_change_59 rfl rfl ?_
        refine j_get (v := .ref (A 17)) hG fX12_45 dX12_change_60 hW.1 rfl ?_
        refine j_iload_n hG dX12_change_63 rfl rfl ?_
        refine j_iald hG dX12_change_64 (MF_a17 hW) (by omega) (by decide) ?_
        refine j_eq (show ((G1 17) (t : Int) : Int) = ((Lo.length : Int) : Int) from k17) ?_
        refine j_iadd hG dX12_change_65 ?_
        refine j_icmp_ne (tgt := 73) hG dX12_change_66 (by decide) (by omega) (by omega) (fun c81 => ?_) (fun c81 => ?_)
        · -- taken at 66
          refine j_iload hG dX12_change_73 rfl ?_
          refine j_sipush hG dX12_change_75 (by decide) ?_
          refine j_iload_n hG dX12_change_78 rfl rfl ?_
          refine j_imul hG dX12_change_79 ?_
          refine j_aload_n hG dX12_change_80 rfl rfl ?_
          refine j_get (v := .ref (A 21)) hG fX12_57 dX12_change_81 hW.1 rfl ?_
          refine j_iload_n hG dX12_change_84 rfl rfl ?_
          refine j_iald hG dX12_change_85 (MF_a21 hW) (by omega) (by decide) ?_
          refine j_eq (show ((G1 21) (t : Int) : Int) = ((Ln.length : Int) : Int) from k21) ?_
          refine j_iadd hG dX12_change_86 ?_
          refine j_icmp_ne (tgt := 94) hG dX12_change_87 (by decide) (by omega) (by omega) (fun c82 => ?_) (fun c82 => ?_)
          · -- taken at 87
            have xo := lo _ (gd_mem (L := Lo) (i := i) (by omega))
            have yo := ln _ (gd_mem (L := Ln) (i := j) (by omega))
            have cx := cxx (by omega)
            have cy := cyy (by omega)
            refine j_aload_n hG dX12_change_94 rfl rfl ?_
            refine j_iload_n hG dX12_change_95 rfl rfl ?_
            refine j_iload hG dX12_change_96 rfl ?_
            refine j_callV (rest := []) hG vX12_180 dX12_change_98 (c_X12_order (x := (Lo.getD i 0)) (y := (Ln.getD j 0)) hW xo yo cx cy (by omega) (by omega)) hW.1 rfl rfl (by decide) (by decide) (Nat.le_of_ble_eq_true rfl) rfl rfl (Nat.zero_le _) (Nat.zero_le _) ?_
            rintro _ _ ⟨⟨z83, rfl, hz84⟩, rfl⟩
            refine j_st (st' := [.int (iZ (z83))]) rfl ?_
            exact hj44 (z83) (by rcases hz84 with q | q | q; exact Or.inl ⟨q.1, by omega⟩; exact Or.inr (Or.inl ⟨q.1, by omega⟩); exact Or.inr (Or.inr ⟨q.1, by omega⟩))
          · -- on at 87
            refine j_iconst hG dX12_change_90 ?_
            refine j_goto (tgt := 101) hG dX12_change_91 (by decide) ?_
            exact hj44 (-1) (Or.inl ⟨rfl, by omega⟩)
        · -- on at 66
          refine j_iconst hG dX12_change_69 ?_
          refine j_goto (tgt := 101) hG dX12_change_70 (by decide) ?_
          exact hj44 (1) (Or.inr (Or.inr ⟨rfl, by omega⟩))
theorem c_X12_changeP {l : Launch} {E : JE} {f : Hp} {rg : Nat → Nat} {f0 : Hp} {m : Nat} {A : Nat → Nat} {V : Nat → Int} {G : Nat → Int → Int} {t : Nat} {Lo Ln W : List Int} (hW : MF E rg f0 f m A V G) (ht : t < 12) (h11 : V 11 = (t : Int) + 1) (hLo : krep G t Lo) (hLn : nrep G t Ln) (lo : lOk Lo) (ln : lOk Ln) (l1 : Lo.length ≤ 400) (l2 : Ln.length ≤ 400) (h26 : V 26 = (W.length : Int)) (hw : wrep (G 27) (G 28) (G 29) (G 30) W) (hl9 : W.length ≤ 4000) : KX12_change l E [.ref m, .int (iZ (1))] f (fun v f' => ∃ (z : Int) (V' : Nat → Int) (G' : Nat → Int → Int) (W' : List Int), v = some (.int (iZ z)) ∧ MF E rg f0 f' m A V' G' ∧ othW G G' ∧ othU V V' ∧ V' 26 = (W'.length : Int) ∧ wrep (G' 27) (G' 28) (G' 29) (G' 30) W' ∧ ((z = 1 ∧ W' = W ++ dfs (1) Lo Ln ∧ W'.length ≤ 4000) ∨ (z = 0 ∧ (∃ W2, W ++ dfs (1) Lo Ln = W' ++ W2) ∧ W'.length = 4000 ∧ ¬ ((W ++ dfs (1) Lo Ln).length ≤ 4000)))) := by
  refine ct_of (own := RX12) (lv := [(0, .ref m), (1, .int (iZ (1)))]) (by decide +kernel) rfl (Nat.le_of_ble_eq_true rfl) rfl ?_
  intro G9 hG hZ
  refine j_aload_n hG dX12_change_0 rfl rfl ?_
  refine j_get (v := .int (iZ (V 11))) hG fX12_173 dX12_change_1 hW.1 rfl ?_
  refine j_iconst hG dX12_change_4 ?_
  refine j_isub hG dX12_change_5 ?_
  refine j_eq (show ((V 11) - 1 : Int) = ((t : Int) : Int) from (by omega)) ?_
  refine j_istore_n (lv' := [(0, .ref m), (1, .int (iZ (1))), (2, .int (iZ ((t : Int))))]) hG dX12_change_6 rfl (by decide) rfl ?_
  refine j_sipush hG dX12_change_7 (by decide) ?_
  refine j_iload_n hG dX12_change_10 rfl rfl ?_
  refine j_imul hG dX12_change_11 ?_
  refine j_istore_n (lv' := [(0, .ref m), (1, .int (iZ (1))), (2, .int (iZ ((t : Int)))), (3, .int (iZ (400 * (t : Int))))]) hG dX12_change_12 rfl (by decide) rfl ?_
  refine j_sipush hG dX12_change_13 (by decide) ?_
  refine j_iload_n hG dX12_change_16 rfl rfl ?_
  refine j_imul hG dX12_change_17 ?_
  refine j_istore (lv' := [(0, .ref m), (1, .int (iZ (1))), (2, .int (iZ ((t : Int)))), (3, .int (iZ (400 * (t : Int)))), (4, .int (iZ (400 * (t : Int))))]) hG dX12_change_18 (by decide) rfl ?_
  rw [show 400 * (t : Int) = 400 * (t : Int) + ((0 : Nat) : Int) by omega]
  exact l_X12_changeP hG hZ ht hLo hLn lo ln l1 l2 (fun z f' V' G' W' a1 a2 a3 a4 a5 a6 => ⟨z, V', G', W', rfl, a1, a2, a3, a4, a5, a6⟩) (Lo.length + Ln.length + 1) 0 0 W V G f hW (fun _ _ _ _ _ => rfl) (fun _ _ => rfl) h26 hw hl9 (by omega) (by omega) rfl (by omega)
