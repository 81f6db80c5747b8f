def othA (G G' : Nat → Int → Int) : Prop := ∀ i, i ≠ 21 → i ≠ 22 → i ≠ 23 → i ≠ 24 → G' i = G i
theorem okF_pre {M : Int → Int → Int} {src : Int → List Int} {n k : Nat} (h : okF M src n) (hk : k ≤ n) : okF M src k := fun t ht => h t (by omega)
theorem okF_sc {M : Int → Int → Int} {src : Int → List Int} {n : Nat} (h : okF M src n) (hn : rawOk (rawT M src n (tabF M src n))) : okF M src (n + 1) := fun t ht => by
  by_cases e : t = n
  · subst e; exact hn
  · exact h t (by omega)
theorem tabF_rep {M : Int → Int → Int} {src : Int → List Int} {G : Nat → Int → Int} {t : Nat} (hM : ∀ s : Nat, s < t → mkOk M s) (hs : ∀ s, lOk (src s)) (ho : okF M src t) (hr : ∀ s : Nat, s < t → nrep G s (tab M src s)) : ∀ a : Int, 0 ≤ a → a < (t : Int) → nrep G a (tabF M src t a) ∧ lOk (tabF M src t a) ∧ (tabF M src t a).length ≤ 400 := fun a a1 a2 => by
  obtain ⟨s, rfl⟩ := Int.eq_ofNat_of_zero_le a1
  have hst : s < t := by omega
  rw [tabF_lt M src t s hst]
  have := tab_l hM hs ho s hst
  exact ⟨hr s hst, this.1, this.2⟩
theorem l_X12_makeAll {G9 : JG} {l : Launch} {E : JE} {P : Option Value → Hp → Prop} (hG : jX G9 l E cX12_makeAll RX12 3 rmX12_makeAll) (hZ : jZ G9 (some .boolean) P) {rg : Nat → Nat} {f0 : Hp} {m : Nat} {A : Nat → Nat} {V : Nat → Int} {G : Nat → Int → Int} {n sz : Nat} {ls lr : Int → Int} {la : Int} {M : Int → Int → Int} (h11 : V 11 = (sz : Int)) (hsz : sz ≤ 12) (hMo : ∀ t : Nat, t < sz → mkOk M t) (htr : ∀ t : Nat, t < sz → trel M (G 12) (G 13) (G 14) (G 15) (G 16) t) (hlg : ∀ j : Nat, j < n → G 3 j = ls j ∧ G 4 j = rK (lr j) ∧ G 5 j = rV (lr j) ∧ G 6 j = rT (lr j)) (hlt : ∀ j : Nat, j < n → G 7 j = if lateB lr la j = true then 1 else 0) (hlo : ∀ j : Nat, j < n → (rOk (lr j) ∧ rV (lr j) ≤ 1000000000) ∧ 0 ≤ ls j ∧ ls j ≤ 2) (hn : n ≤ 150) (hP : ∀ (z : Int) (f' : Hp) (V' : Nat → Int) (G' : Nat → Int → Int), MF E rg f0 f' m A V' G' → othA G G' → othV V V' → ((z = 1 ∧ okF M (srcN ls lr la n) sz ∧ ∀ t : Nat, t < sz → nrep G' t (tab M (srcN ls lr la n) t)) ∨ (z = 0 ∧ ¬ okF M (srcN ls lr la n) sz)) → P (some (.int (iZ z))) f') :
    ∀ (d : Nat) (t : Nat) (V1 : Nat → Int) (G1 : Nat → Int → Int) (f1 : Hp), (hW : MF E rg f0 f1 m A V1 G1) → (ho : othA G G1) → (hv : othV V V1) → (ht : t ≤ sz) → (hst : (V1 25 = 0 ∧ okF M (srcN ls lr la n) t ∧ ∀ s : Nat, s < t → nrep G1 s (tab M (srcN ls lr la n) s)) ∨ (V1 25 = 1 ∧ ¬ okF M (srcN ls lr la n) sz)) → (sz - t) < d → J G9 0 0 f1 7 [(0, .ref m), (1, .int (iZ ((n : Int)))), (2, .int (iZ ((t : Int))))] [] := by
  intro d
  induction d with
  | zero => intro t V1 G1 f1 hW ho hv ht hst hd9; exfalso; omega
  | succ d ih =>
    intro t V1 G1 f1 hW ho hv ht hst hd9
    have h9 : V1 25 = 0 ∨ V1 25 = 1 := by rcases hst with q | q; exact Or.inl q.1; exact Or.inr q.1
    refine j_iload_n hG dX12_makeAll_7 rfl rfl ?_
    refine j_aload_n hG dX12_makeAll_8 rfl rfl ?_
    refine j_get (v := .int (iZ (V1 11))) hG fX12_173 dX12_makeAll_9 hW.1 rfl ?_
    refine j_eq (show (V1 11 : Int) = ((sz : Int) : Int) from (by rw [hv 11 (by decide)]; exact h11)) ?_
    refine j_icmp_ge (tgt := 34) hG dX12_makeAll_12 (by decide) (by omega) (by omega) (fun c1 => ?_) (fun c1 => ?_)
    · -- taken at 12
      refine j_aload_n hG dX12_makeAll_34 rfl rfl ?_
      refine j_get (v := .int (iZ (V1 25))) hG fX12_147 dX12_makeAll_35 hW.1 rfl ?_
      refine j_if_ne (tgt := 45) hG dX12_makeAll_38 (by decide) (by omega) (fun c2 => ?_) (fun c2 => ?_)
      · -- taken at 38
        refine j_iconst hG dX12_makeAll_45 ?_
        obtain ⟨-, hk1⟩ := hst.resolve_left (fun q => by have := q.1; omega)
        exact j_zret hG hZ dX12_makeAll_46 (Nat.zero_le _) (Nat.zero_le _) (nar_zr (by omega)) (hP 0 f1 V1 G1 hW ho hv (Or.inr ⟨rfl, hk1⟩))
      · -- on at 38
        refine j_iconst hG dX12_makeAll_41 ?_
        refine j_goto (tgt := 46) hG dX12_makeAll_42 (by decide) ?_
        obtain ⟨-, hk1, hk2⟩ := hst.resolve_right (fun q => by have := q.1; omega)
        have e9 : t = sz := by omega
        subst e9
        exact j_zret hG hZ dX12_makeAll_46 (Nat.zero_le _) (Nat.zero_le _) (nar_zr (by omega)) (hP 1 f1 V1 G1 hW ho hv (Or.inl ⟨rfl, hk1, hk2⟩))
    · -- on at 12
      refine j_aload_n hG dX12_makeAll_15 rfl rfl ?_
      refine j_get (v := .int (iZ (V1 25))) hG fX12_147 dX12_makeAll_16 hW.1 rfl ?_
      refine j_if_ne (tgt := 34) hG dX12_makeAll_19 (by decide) (by omega) (fun c3 => ?_) (fun c3 => ?_)
      · -- taken at 19
        refine j_aload_n hG dX12_makeAll_34 rfl rfl ?_
        refine j_get (v := .int (iZ (V1 25))) hG fX12_147 dX12_makeAll_35 hW.1 rfl ?_
        refine j_if_ne (tgt := 45) hG dX12_makeAll_38 (by decide) (by omega) (fun c4 => ?_) (fun c4 => ?_)
        · -- taken at 38
          refine j_iconst hG dX12_makeAll_45 ?_
          obtain ⟨-, hk1⟩ := hst.resolve_left (fun q => by have := q.1; omega)
          exact j_zret hG hZ dX12_makeAll_46 (Nat.zero_le _) (Nat.zero_le _) (nar_zr (by omega)) (hP 0 f1 V1 G1 hW ho hv (Or.inr ⟨rfl, hk1⟩))
        · -- on at 38
          refine j_iconst hG dX12_makeAll_41 ?_
          refine j_goto (tgt := 46) hG dX12_makeAll_42 (by decide) ?_
          obtain ⟨-, hk1, hk2⟩ := hst.resolve_right (fun q => by have := q.1; omega)
          have e9 : t = sz := by omega
          subst e9
          exact j_zret hG hZ dX12_makeAll_46 (Nat.zero_le _) (Nat.zero_le _) (nar_zr (by omega)) (hP 1 f1 V1 G1 hW ho hv (Or.inl ⟨rfl, hk1, hk2⟩))
      · -- on at 19
        obtain ⟨h250, hk1, hk2⟩ := hst.resolve_right (fun q => by have := q.1; omega)
        refine j_aload_n hG dX12_makeAll_22 rfl rfl ?_
        refine j_iload_n hG dX12_makeAll_23 rfl rfl ?_
        refine j_iload_n hG dX12_makeAll_24 rfl rfl ?_
        refine j_callV (rest := []) hG vX12_176 dX12_makeAll_25 (c_X12_make (t := t) (n := n) (M := M) (ls := ls) (lr := lr) (la := la) hW (by omega) (hMo t (by omega)) (by rw [ho 12 (by decide) (by decide) (by decide) (by decide), ho 13 (by decide) (by decide) (by decide) (by decide), ho 14 (by decide) (by decide) (by decide) (by decide), ho 15 (by decide) (by decide) (by decide) (by decide), ho 16 (by decide) (by decide) (by decide) (by decide)]; exact htr t (by omega)) h250 (fun j hj => by rw [ho 3 (by decide) (by decide) (by decide) (by decide), ho 4 (by decide) (by decide) (by decide) (by decide), ho 5 (by decide) (by decide) (by decide) (by decide), ho 6 (by decide) (by decide) (by decide) (by decide)]; exact hlg j hj) (fun j hj => by rw [ho 7 (by decide) (by decide) (by decide) (by decide)]; exact hlt j hj) hlo hn (tabF_rep (fun s hs => hMo s (by omega)) (srcN_l n (fun j hj => (hlo j hj).1)) hk1 hk2)) hW.1 rfl rfl (by decide) (by decide) (Nat.le_of_ble_eq_true rfl) rfl rfl (Nat.zero_le _) (Nat.zero_le _) ?_
        rintro _ f11 ⟨rfl, V5, G6, hW7, hacc8, ho9, hv10⟩
        refine j_st (st' := []) rfl ?_
        refine j_iinc (a := (t : Int)) (lv' := [(0, .ref m), (1, .int (iZ ((n : Int)))), (2, .int (iZ ((t : Int) + 1)))]) hG dX12_makeAll_28 rfl (by decide) rfl ?_
        refine j_goto (tgt := 7) hG dX12_makeAll_31 (by decide) ?_
        refine j_lv (lv' := [(0, .ref m), (1, .int (iZ ((n : Int)))), (2, .int (iZ (((t + 1 : Nat) : Int))))]) (by simp) ?_
        refine ih (t + 1) V5 G6 f11 hW7 (fun i a b c d => (ho9.1 i a b c d).trans (ho i a b c d)) (othV_tr hv hv10) (by omega) ?_ (by omega)
        rcases hacc8 with ⟨q1, q2, q3⟩ | ⟨q1, q2⟩
        · refine Or.inl ⟨q1, okF_sc hk1 q2, fun s hs => ?_⟩
          by_cases e : s = t
          · subst e; exact q3
          · have l9 := (tab_l (fun s hs => hMo s (by omega)) (srcN_l n (fun j hj => (hlo j hj).1)) hk1 s (by omega)).2
            exact nrep_oth ho9 (Or.inl (by omega)) l9 (hk2 s (by omega))
        · exact Or.inr ⟨q1, fun q => q2 (q t (by omega))⟩
theorem c_X12_makeAll {l : Launch} {E : JE} {f : Hp} {rg : Nat → Nat} {f0 : Hp} {m : Nat} {A : Nat → Nat} {V : Nat → Int} {G : Nat → Int → Int} {n sz : Nat} {ls lr : Int → Int} {la : Int} {M : Int → Int → Int} (hW : MF E rg f0 f m A V G) (h11 : V 11 = (sz : Int)) (hsz : sz ≤ 12) (hMo : ∀ t : Nat, t < sz → mkOk M t) (htr : ∀ t : Nat, t < sz → trel M (G 12) (G 13) (G 14) (G 15) (G 16) t) (hlg : ∀ j : Nat, j < n → G 3 j = ls j ∧ G 4 j = rK (lr j) ∧ G 5 j = rV (lr j) ∧ G 6 j = rT (lr j)) (hlt : ∀ j : Nat, j < n → G 7 j = if lateB lr la j = true then 1 else 0) (hlo : ∀ j : Nat, j < n → (rOk (lr j) ∧ rV (lr j) ≤ 1000000000) ∧ 0 ≤ ls j ∧ ls j ≤ 2) (hn : n ≤ 150) : KX12_makeAll l E [.ref m, .int (iZ ((n : Int)))] f (fun v f' => ∃ z : Int, v = some (.int (iZ z)) ∧ ∃ (V' : Nat → Int) (G' : Nat → Int → Int), MF E rg f0 f' m A V' G' ∧ othA G G' ∧ othV V V' ∧ ((z = 1 ∧ okF M (srcN ls lr la n) sz ∧ ∀ t : Nat, t < sz → nrep G' t (tab M (srcN ls lr la n) t)) ∨ (z = 0 ∧ ¬ okF M (srcN ls lr la n) sz))) := by
  refine ct_of (own := RX12) (lv := [(0, .ref m), (1, .int (iZ ((n : Int))))]) (by decide +kernel) rfl (Nat.le_of_ble_eq_true rfl) rfl ?_
  intro G9 hG hZ
  refine j_aload_n hG dX12_makeAll_0 rfl rfl ?_
  refine j_iconst hG dX12_makeAll_1 ?_
  refine j_put hG pX12_147 dX12_makeAll_2 hW.1 (nar_zr (Or.inl rfl)) (fit_z (Or.inl rfl)) (Nat.le_of_ble_eq_true rfl) (fun f1 h2 fr3 => ?_)
  have hW4 : MF E rg f0 f1 m A (up V 25 0) G := MF_p25 hW h2 fr3
  refine j_iconst hG dX12_makeAll_5 ?_
  refine j_istore_n (lv' := [(0, .ref m), (1, .int (iZ ((n : Int)))), (2, .int (iZ (0)))]) hG dX12_makeAll_6 rfl (by decide) rfl ?_
  exact l_X12_makeAll hG hZ h11 hsz hMo htr hlg hlt hlo hn (fun z f' V' G' a1 a2 a3 a4 => ⟨z, rfl, V', G', a1, a2, a3, a4⟩) (sz + 1) 0 _ G f1 hW4 (fun _ _ _ _ _ => rfl) (fun i hi => up_n _ _ hi) (by omega) (Or.inl ⟨rfl, fun t ht => absurd ht (Nat.not_lt_zero t), fun s hs => absurd hs (Nat.not_lt_zero s)⟩) (by omega)
def krep (G : Nat → Int → Int) (t : Int) (L : List Int) : Prop := G 17 t = (L.length : Int) ∧ rep (G 18) (G 19) (G 20) (400 * t) L
def othK (G G' : Nat → Int → Int) : Prop := ∀ i, i ≠ 17 → i ≠ 18 → i ≠ 19 → i ≠ 20 → G' i = G i
theorem keep_old {G : Nat → Int → Int} {s : Nat} {L : List Int} {a x y z : Int} (hL : L.length ≤ 400) (h : krep G s L) (ha : 400 * (s : Int) + 400 ≤ a) : krep (up (up (up G 18 (fup (G 18) a x)) 19 (fup (G 19) a y)) 20 (fup (G 20) a z)) s L := ⟨h.1, fun i hi => by
  show fup (G 18) a x (400 * (s : Int) + i) = _ ∧ fup (G 19) a y (400 * (s : Int) + i) = _ ∧ fup (G 20) a z (400 * (s : Int) + i) = _
  rw [fup_n _ _ (by omega), fup_n _ _ (by omega), fup_n _ _ (by omega)]; exact h.2 i hi⟩
theorem othK_s {G G1 : Nat → Int → Int} {a x y z : Int} (h : othK G G1) : othK G (up (up (up G1 18 (fup (G1 18) a x)) 19 (fup (G1 19) a y)) 20 (fup (G1 20) a z)) := fun i a b c d => by
  rw [up_n _ _ d, up_n _ _ c, up_n _ _ b]; exact h i a b c d
theorem l_X12_keep_i {G9 : JG} {l : Launch} {E : JE} {P : Option Value → Hp → Prop} (hG : jX G9 l E cX12_keep RX12 3 rmX12_keep) (hZ : jZ G9 none P) {rg : Nat → Nat} {f0 : Hp} {m : Nat} {A : Nat → Nat} {V : Nat → Int} {G : Nat → Int → Int} {sz : Nat} {X : Nat → List Int} (h11 : V 11 = (sz : Int)) (hsz : sz ≤ 12) (hX : ∀ t : Nat, t < sz → nrep G t (X t) ∧ (X t).length ≤ 400) {t : Nat} (ht : t < sz) (hN : ∀ (f' : Hp) (G' : Nat → Int → Int), MF E rg f0 f' m A V G' → othK G G' → (∀ s : Nat, s < t + 1 → krep G' s (X s)) → J G9 0 0 f' 86 [(0, .ref m), (1, .int (iZ ((t : Int))))] []) :
    ∀ (d : Nat) (i : Nat) (G1 : Nat → Int → Int) (f1 : Hp), (hW : MF E rg f0 f1 m A V G1) → (ho : othK G G1) → (hi : i ≤ (X t).length) → (hpr : ∀ s : Nat, s < t → krep G1 s (X s)) → (h17 : G1 17 t = ((X t).length : Int)) → (hcu : ∀ j : Nat, j < i → G1 18 (400 * (t : Int) + j) = rK ((X t).getD j 0) ∧ G1 19 (400 * (t : Int) + j) = rV ((X t).getD j 0) ∧ G1 20 (400 * (t : Int) + j) = rT ((X t).getD j 0)) → ((X t).length - i) < d → J G9 0 0 f1 28 [(0, .ref m), (1, .int (iZ ((t : Int)))), (2, .int (iZ (400 * (t : Int) + (i : Int))))] [] := by
  intro d
  induction d with
  | zero => intro i G1 f1 hW ho hi hpr h17 hcu hd9; exfalso; omega
  | succ d ih =>
    intro i G1 f1 hW ho hi hpr h17 hcu hd9
    have n21 : G1 21 t = ((X t).length : Int) := by rw [ho 21 (by decide) (by decide) (by decide) (by decide)]; exact (hX t ht).1.1
    have l4 := (hX t ht).2
    refine j_iload_n hG dX12_keep_28 rfl rfl ?_
    refine j_sipush hG dX12_keep_29 (by decide) ?_
    refine j_iload_n hG dX12_keep_32 rfl rfl ?_
    refine j_imul hG dX12_keep_33 ?_
    refine j_aload_n hG dX12_keep_34 rfl rfl ?_
    refine j_get (v := .ref (A 21)) hG fX12_57 dX12_keep_35 hW.1 rfl ?_
    refine j_iload_n hG dX12_keep_38 rfl rfl ?_
    refine j_iald hG dX12_keep_39 (MF_a21 hW) (by omega) (by decide) ?_
    refine j_eq (show ((G1 21) (t : Int) : Int) = (((X t).length : Int) : Int) from n21) ?_
    refine j_iadd hG dX12_keep_40 ?_
    refine j_icmp_ge (tgt := 86) hG dX12_keep_41 (by decide) (by omega) (by omega) (fun c1 => ?_) (fun c1 => ?_)
    · -- taken at 41
      refine j_lv (lv' := [(0, .ref m), (1, .int (iZ ((t : Int))))]) (by simp) ?_
      have e9 : i = (X t).length := by omega
      subst e9
      refine hN f1 G1 hW ho (fun s hs => ?_)
      by_cases e : s = t
      · subst e; exact ⟨h17, hcu⟩
      · exact hpr s (by omega)
    · -- on at 41
      have x9 : G1 22 (400 * (t : Int) + (i : Int)) = rK ((X t).getD i 0) ∧ G1 23 (400 * (t : Int) + (i : Int)) = rV ((X t).getD i 0) ∧ G1 24 (400 * (t : Int) + (i : Int)) = rT ((X t).getD i 0) := by rw [ho 22 (by decide) (by decide) (by decide) (by decide), ho 23 (by decide) (by decide) (by decide) (by decide), ho 24 (by decide) (by decide) (by decide) (by decide)]; exact (hX t ht).1.2 i (by omega)
      refine j_aload_n hG dX12_keep_44 rfl rfl ?_
      refine j_get (v := .ref (A 18)) hG fX12_48 dX12_keep_45 hW.1 rfl ?_
      refine j_iload_n hG dX12_keep_48 rfl rfl ?_
      refine j_aload_n hG dX12_keep_49 rfl rfl ?_
      refine j_get (v := .ref (A 22)) hG fX12_60 dX12_keep_50 hW.1 rfl ?_
      refine j_iload_n hG dX12_keep_53 rfl rfl ?_
      refine j_iald hG dX12_keep_54 (MF_a22 hW) (by omega) (by decide) ?_
      refine j_eq (show ((G1 22) (400 * (t : Int) + (i : Int)) : Int) = (rK ((X t).getD i 0) : Int) from x9.1) ?_
      refine j_iast hG dX12_keep_55 (MF_a18 hW) (by omega) (by decide) (fun f2 h3 fr4 => ?_)
      have hW5 : MF E rg f0 f2 m A V (up G1 18 (fup (G1 18) (400 * (t : Int) + (i : Int)) (rK ((X t).getD i 0)))) := MF_a hW 18 rfl h3 fr4
      refine j_aload_n hG dX12_keep_56 rfl rfl ?_
      refine j_get (v := .ref (A 19)) hG fX12_51 dX12_keep_57 hW5.1 rfl ?_
      refine j_iload_n hG dX12_keep_60 rfl rfl ?_
      refine j_aload_n hG dX12_keep_61 rfl rfl ?_
      refine j_get (v := .ref (A 23)) hG fX12_63 dX12_keep_62 hW5.1 rfl ?_
      refine j_iload_n hG dX12_keep_65 rfl rfl ?_
      refine j_iald hG dX12_keep_66 (MF_a23 hW5) (by omega) (by decide) ?_
      refine j_eq (show ((G1 23) (400 * (t : Int) + (i : Int)) : Int) = (rV ((X t).getD i 0) : Int) from x9.2.1) ?_
      refine j_iast hG dX12_keep_67 (MF_a19 hW5) (by omega) (by decide) (fun f6 h7 fr8 => ?_)
      have hW9 : MF E rg f0 f6 m A V (up (up G1 18 (fup (G1 18) (400 * (t : Int) + (i : Int)) (rK ((X t).getD i 0)))) 19 (fup (G1 19) (400 * (t : Int) + (i : Int)) (rV ((X t).getD i 0)))) := MF_a hW5 19 rfl h7 fr8
      refine j_aload_n hG dX12_keep_68 rfl rfl ?_
      refine j_get (v := .ref (A 20)) hG fX12_54 dX12_keep_69 hW9.1 rfl ?_
      refine j_iload_n hG dX12_keep_72 rfl rfl ?_
      refine j_aload_n hG dX12_keep_73 rfl rfl ?_
      refine j_get (v := .ref (A 24)) hG fX12_66 dX12_keep_74 hW9.1 rfl ?_
      refine j_iload_n hG dX12_keep_77 rfl rfl ?_
      refine j_iald hG dX12_keep_78 (MF_a24 hW9) (by omega) (by decide) ?_
      refine j_eq (show ((G1 24) (400 * (t : Int) + (i : Int)) : Int) = (rT ((X t).getD i 0) : Int) from x9.2.2) ?_
      refine j_iast hG dX12_keep_79 (MF_a20 hW9) (by omega) (by decide) (fun f10 h11 fr12 => ?_)
      have hW13 : MF E rg f0 f10 m A V (up (up (up G1 18 (fup (G1 18) (400 * (t : Int) + (i : Int)) (rK ((X t).getD i 0)))) 19 (fup (G1 19) (400 * (t : Int) + (i : Int)) (rV ((X t).getD i 0)))) 20 (fup (G1 20) (400 * (t : Int) + (i : Int)) (rT ((X t).getD i 0)))) := MF_a hW9 20 rfl h11 fr12
      refine j_iinc (a := 400 * (t : Int) + (i : Int)) (lv' := [(0, .ref m), (1, .int (iZ ((t : Int)))), (2, .int (iZ ((400 * (t : Int) + (i : Int)) + 1)))]) hG dX12_keep_80 rfl (by decide) rfl ?_
      refine j_goto (tgt := 28) hG dX12_keep_83 (by decide) ?_
      refine j_lv (lv' := [(0, .ref m), (1, .int (iZ ((t : Int)))), (2, .int (iZ (400 * (t : Int) + (i : Int) + 1)))]) (by simp) ?_
      rw [show 400 * (t : Int) + (i : Int) + 1 = 400 * (t : Int) + ((i + 1 : Nat) : Int) by omega]
      refine ih (i + 1) _ f10 hW13 (othK_s ho) (by omega) (fun s hs => keep_old (hX s (by omega)).2 (hpr s hs) (by omega)) h17 (fun j hj => ?_) (by omega)
      show fup (G1 18) (400 * (t : Int) + (i : Int)) (rK ((X t).getD i 0)) (400 * (t : Int) + j) = _ ∧ fup (G1 19) (400 * (t : Int) + (i : Int)) (rV ((X t).getD i 0)) (400 * (t : Int) + j) = _ ∧ fup (G1 20) (400 * (t : Int) + (i : Int)) (rT ((X t).getD i 0)) (400 * (t : Int) + j) = _
      by_cases e : j = i
      · subst e; rw [fup_s, fup_s, fup_s]; exact ⟨rfl, rfl, rfl⟩
      · rw [fup_n _ _ (by omega), fup_n _ _ (by omega), fup_n _ _ (by omega)]; exact hcu j (by omega)
theorem l_X12_keep {G9 : JG} {l : Launch} {E : JE} {P : Option Value → Hp → Prop} (hG : jX G9 l E cX12_keep RX12 3 rmX12_keep) (hZ : jZ G9 none P) {rg : Nat → Nat} {f0 : Hp} {m : Nat} {A : Nat → Nat} {V : Nat → Int} {G : Nat → Int → Int} {sz : Nat} {X : Nat → List Int} (h11 : V 11 = (sz : Int)) (hsz : sz ≤ 12) (hX : ∀ t : Nat, t < sz → nrep G t (X t) ∧ (X t).length ≤ 400) (hP : ∀ (f' : Hp) (G' : Nat → Int → Int), MF E rg f0 f' m A V G' → othK G G' → (∀ s : Nat, s < sz → krep G' s (X s)) → P none f') :
    ∀ (d : Nat) (t : Nat) (G1 : Nat → Int → Int) (f1 : Hp), (hW : MF E rg f0 f1 m A V G1) → (ho : othK G G1) → (ht : t ≤ sz) → (hpr : ∀ s : Nat, s < t → krep G1 s (X s)) → (sz - t) < d → J G9 0 0 f1 2 [(0, .ref m), (1, .int (iZ ((t : Int))))] [] := by
  intro d
  induction d with
  | zero => intro t G1 f1 hW ho ht hpr hd9; exfalso; omega
  | succ d ih =>
    intro t G1 f1 hW ho ht hpr hd9
    refine j_iload_n hG dX12_keep_2 rfl rfl ?_
    refine j_aload_n hG dX12_keep_3 rfl rfl ?_
    refine j_get (v := .int (iZ (V 11))) hG fX12_173 dX12_keep_4 hW.1 rfl ?_
    refine j_eq (show (V 11 : Int) = ((sz : Int) : Int) from h11) ?_
    refine j_icmp_ge (tgt := 92) hG dX12_keep_7 (by decide) (by omega) (by omega) (fun c1 => ?_) (fun c1 => ?_)
    · -- taken at 7
      have e9 : t = sz := by omega
      subst e9
      exact j_vret hG hZ dX12_keep_92 (Nat.zero_le _) (Nat.zero_le _) (hP f1 G1 hW ho hpr)
    · -- on at 7
      have n21 : G1 21 t = ((X t).length : Int) := by rw [ho 21 (by decide) (by decide) (by decide) (by decide)]; exact (hX t (by omega)).1.1
      refine j_aload_n hG dX12_keep_10 rfl rfl ?_
      refine j_get (v := .ref (A 17)) hG fX12_45 dX12_keep_11 hW.1 rfl ?_
      refine j_iload_n hG dX12_keep_14 rfl rfl ?_
      refine j_aload_n hG dX12_keep_15 rfl rfl ?_
      refine j_get (v := .ref (A 21)) hG fX12_57 dX12_keep_16 hW.1 rfl ?_
      refine j_iload_n hG dX12_keep_19 rfl rfl ?_
      refine j_iald hG dX12_keep_20 (MF_a21 hW) (by omega) (by decide) ?_
      refine j_eq (show ((G1 21) (t : Int) : Int) = (((X t).length : Int) : Int) from n21) ?_
      refine j_iast hG dX12_keep_21 (MF_a17 hW) (by omega) (by decide) (fun f2 h3 fr4 => ?_)
      have hW5 : MF E rg f0 f2 m A V (up G1 17 (fup (G1 17) (t : Int) ((X t).length : Int))) := MF_a hW 17 rfl h3 fr4
      refine j_sipush hG dX12_keep_22 (by decide) ?_
      refine j_iload_n hG dX12_keep_25 rfl rfl ?_
      refine j_imul hG dX12_keep_26 ?_
      refine j_istore_n (lv' := [(0, .ref m), (1, .int (iZ ((t : Int)))), (2, .int (iZ (400 * (t : Int))))]) hG dX12_keep_27 rfl (by decide) rfl ?_
      have l4 := (hX t (by omega)).2
      rw [show 400 * (t : Int) = 400 * (t : Int) + ((0 : Nat) : Int) by omega]
      refine l_X12_keep_i hG hZ h11 hsz hX (t := t) (by omega) (fun f2 G2 w2 o2 k2 => ?_) ((X t).length + 1) 0 _ f2 hW5 (fun i a b c d => by rw [up_n _ _ a]; exact ho i a b c d) (by omega) (fun s hs => ⟨by show fup (G1 17) (t : Int) ((X t).length : Int) (s : Int) = _; rw [fup_n _ _ (by omega)]; exact (hpr s hs).1, (hpr s hs).2⟩) (fup_s _ _ _) (fun j hj => absurd hj (Nat.not_lt_zero j)) (by omega)
      refine j_iinc (a := (t : Int)) (lv' := [(0, .ref m), (1, .int (iZ ((t : Int) + 1)))]) hG dX12_keep_86 rfl (by decide) rfl ?_
      refine j_goto (tgt := 2) hG dX12_keep_89 (by decide) ?_
      refine j_lv (lv' := [(0, .ref m), (1, .int (iZ (((t + 1 : Nat) : Int))))]) (by simp) ?_
      exact ih (t + 1) G2 f2 w2 o2 (by omega) k2 (by omega)
theorem c_X12_keep {l : Launch} {E : JE} {f : Hp} {rg : Nat → Nat} {f0 : Hp} {m : Nat} {A : Nat → Nat} {V : Nat → Int} {G : Nat → Int → Int} {sz : Nat} {X : Nat → List Int} (hW : MF E rg f0 f m A V G) (h11 : V 11 = (sz : Int)) (hsz : sz ≤ 12) (hX : ∀ t : Nat, t < sz → nrep G t (X t) ∧ (X t).length ≤ 400) : KX12_keep l E [.ref m] f (fun v f' => v = none ∧ ∃ G' : Nat → Int → Int, MF E rg f0 f' m A V G' ∧ othK G G' ∧ ∀ s : Nat, s < sz → krep G' s (X s)) := by
  refine ct_of (own := RX12) (lv := [(0, .ref m)]) (by decide +kernel) rfl (Nat.le_of_ble_eq_true rfl) rfl ?_
  intro G9 hG hZ
  refine j_iconst hG dX12_keep_0 ?_
  refine j_istore_n (lv' := [(0, .ref m), (1, .int (iZ (0)))]) hG dX12_keep_1 rfl (by decide) rfl ?_
  exact l_X12_keep hG hZ h11 hsz hX (fun f' G' a1 a2 a3 => ⟨rfl, G', a1, a2, a3⟩) (sz + 1) 0 G f hW (fun _ _ _ _ _ => rfl) (by omega) (fun s hs => absurd hs (Nat.not_lt_zero s)) (by omega)
