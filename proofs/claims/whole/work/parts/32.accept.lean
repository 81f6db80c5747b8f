def swp {α : Type} (g : Int → α) (t : Int) : Int → α := fun i => if i = t then g (t + 12) else if i = t + 12 then g t else g i
theorem swp_1 {α : Type} (g : Int → α) (t : Int) : swp g t t = g (t + 12) := if_pos rfl
theorem swp_2 {α : Type} (g : Int → α) (t : Int) : swp g t (t + 12) = g t := by unfold swp; rw [if_neg (by omega), if_pos rfl]
theorem swp_o {α : Type} (g : Int → α) {t i : Int} (h1 : i ≠ t) (h2 : i ≠ t + 12) : swp g t i = g i := by unfold swp; rw [if_neg h1, if_neg h2]
theorem swp_id {α : Type} (g : Int → α) (t i : Int) : swp g t i = g (swp (fun j => j) t i) := by unfold swp; split; rfl; split <;> rfl
theorem swp_rng {t i b : Int} (ht : 0 ≤ t ∧ t < 12) (hi : 0 ≤ i ∧ i < b) (hb : 24 ≤ b) : 0 ≤ swp (fun j => j) t i ∧ swp (fun j => j) t i < b := by unfold swp; dsimp only; split; omega; split <;> omega
theorem swp_inj {t i j : Int} (h : swp (fun j => j) t i = swp (fun j => j) t j) : i = j := by
  unfold swp at h
  dsimp only at h
  split at h <;> split at h <;> (try split at h) <;> (try split at h) <;> omega
theorem rwD_swp {ra ca : Int → Nat} {t : Int} (ht : 0 ≤ t ∧ t < 12) (h : rwD ra ca) : rwD (swp ra t) (swp ca t) := by
  refine ⟨fun i j i1 i2 j1 j2 e => ?_, fun i j i1 i2 j1 j2 e => ?_⟩
  · rw [swp_id ra, swp_id ra t j] at e
    have a1 := swp_rng ht ⟨i1, i2⟩ (by omega)
    have a2 := swp_rng ht ⟨j1, j2⟩ (by omega)
    exact swp_inj (h.1 _ _ a1.1 a1.2 a2.1 a2.2 e)
  · rw [swp_id ca, swp_id ca t j] at e
    have a1 := swp_rng ht ⟨i1, i2⟩ (by omega)
    have a2 := swp_rng ht ⟨j1, j2⟩ (by omega)
    exact swp_inj (h.2 _ _ a1.1 a1.2 a2.1 a2.2 e)
theorem RWs_swp {E : JE} {f : Hp} {ra ca : Int → Nat} {X : Int → List Int × Int} {t : Int} (ht : 0 ≤ t ∧ t < 12) (h : RWs E f ra ca X) : RWs E f (swp ra t) (swp ca t) (swp X t) := by
  refine ⟨fun i i1 i2 => ?_, ?_⟩
  · rw [swp_id ra, swp_id ca, swp_id X]
    have a1 := swp_rng ht ⟨i1, i2⟩ (by omega)
    exact h.1 _ a1.1 a1.2
  · rw [swp_o ca (by omega) (by omega)]; exact h.2
theorem l_X9_acceptOffer {G : JG} {l : Launch} {E : JE} {P : Option Value → Hp → Prop} (hG : jX G l E cX9_acceptOffer RX9 3 rmX9_acceptOffer) (hZ : jZ G none P) {T cu ofr mk it pl dr pm : Nat} {sz : Int} {gi : Int → Int} {ra ca : Int → Nat} {X0 : Int → List Int × Int} {f0 : Hp} (hsz : 0 ≤ sz ∧ sz ≤ 12) (hco : cu ≠ ofr) (hgi : ∀ i, 0 ≤ i → i < 12 → gi i = 0 ∨ gi i = 1) (hP : ∀ (f' : Hp) (ra' ca' : Int → Nat) (X' : Int → List Int × Int) (gcu' gof' : Int → Option Nat), rwD ra' ca' → RWs E f' ra' ca' X' → f' cu = aQ (E.2.1 4) 12 gcu' → f' ofr = aQ (E.2.1 4) 12 gof' → (∀ i, 0 ≤ i → i < 12 → gcu' i = some (ra' i)) → (∀ i, 0 ≤ i → i < 12 → gof' i = some (ra' (i + 12))) → (∀ j, 24 ≤ j → ra' j = ra j) → (∀ j, 24 ≤ j → ca' j = ca j) → (∀ j, 0 ≤ j → j < 12 → X' j = if j < sz ∧ gi j = 1 then X0 (j + 12) else X0 j) → (∀ j, 24 ≤ j → X' j = X0 j) → (∀ RX : Nat → Prop, (∀ i, 0 ≤ i → i < 37 → RX (ra i)) → ∀ i, 0 ≤ i → i < 37 → RX (ra' i)) → (∀ RX : Nat → Prop, (∀ i, 0 ≤ i → i < 38 → RX (ca i)) → ∀ i, 0 ≤ i → i < 38 → RX (ca' i)) → (∀ q, q ≠ cu → q ≠ ofr → f' q = f0 q) → P none f') :
    ∀ (d : Nat) (t : Int) (ra1 ca1 : Int → Nat) (X1 : Int → List Int × Int) (gcu gof : Int → Option Nat) (f1 : Hp), (hT : f1 T = oB 8 [.ref cu, .ref ofr, .ref mk, .ref it, .ref (ra 36), .ref (ca 37), .ref pl, .ref dr]) → (hpl : f1 pl = oB 5 [.ref pm, .int (iZ (sz))]) → (hcu : f1 cu = aQ (E.2.1 4) 12 (gcu)) → (hof : f1 ofr = aQ (E.2.1 4) 12 (gof)) → (hit : f1 it = aI (E.2.1 2) 12 (gi)) → (ht : 0 ≤ t ∧ t ≤ sz) → (hd : rwD ra1 ca1) → (hRW : RWs E f1 ra1 ca1 X1) → (gcu_ : ∀ i, 0 ≤ i → i < 12 → gcu i = some (ra1 i)) → (gof_ : ∀ i, 0 ≤ i → i < 12 → gof i = some (ra1 (i + 12))) → (hr1 : ∀ j, 24 ≤ j → ra1 j = ra j) → (hr2 : ∀ j, 24 ≤ j → ca1 j = ca j) → (hX1 : ∀ j, 0 ≤ j → j < 12 → X1 j = if j < t ∧ gi j = 1 then X0 (j + 12) else X0 j) → (hX2 : ∀ j, t + 12 ≤ j → j < 24 → X1 j = X0 j) → (hX3 : ∀ j, 24 ≤ j → X1 j = X0 j) → (hcl1 : ∀ RX : Nat → Prop, (∀ i, 0 ≤ i → i < 37 → RX (ra i)) → ∀ i, 0 ≤ i → i < 37 → RX (ra1 i)) → (hcl2 : ∀ RX : Nat → Prop, (∀ i, 0 ≤ i → i < 38 → RX (ca i)) → ∀ i, 0 ≤ i → i < 38 → RX (ca1 i)) → (hfr : ∀ q, q ≠ cu → q ≠ ofr → f1 q = f0 q) → ((sz - t).toNat) < d → J G 0 0 f1 2 [(0, .ref T), (1, .int (iZ (t)))] [] := by
  intro d
  induction d with
  | zero => intro t ra1 ca1 X1 gcu gof f1 hT hpl hcu hof hit ht hd hRW gcu_ gof_ hr1 hr2 hX1 hX2 hX3 hcl1 hcl2 hfr hd9; exfalso; omega
  | succ d ih =>
    intro t ra1 ca1 X1 gcu gof f1 hT hpl hcu hof hit ht hd hRW gcu_ gof_ hr1 hr2 hX1 hX2 hX3 hcl1 hcl2 hfr hd9
    refine j_iload_n hG dX9_acceptOffer_2 rfl rfl ?_
    refine j_aload_n hG dX9_acceptOffer_3 rfl rfl ?_
    refine j_get hG fX9_39 dX9_acceptOffer_4 hT rfl ?_
    refine j_callV (rest := [.int (iZ (t))]) hG vX9_46 dX9_acceptOffer_7 (c_X5_size hpl) hpl rfl rfl (by decide) (by decide) (Nat.le_of_ble_eq_true rfl) rfl rfl (Nat.zero_le _) (Nat.zero_le _) ?_
    rintro _ _ ⟨rfl, rfl⟩
    refine j_st (st' := [.int (iZ (sz)), .int (iZ (t))]) rfl ?_
    refine j_icmp_ge (tgt := 54) hG dX9_acceptOffer_10 (by decide) (by omega) (by omega) (fun c1 => ?_) (fun c1 => ?_)
    · -- taken at 10
      have e9 : t = sz := by omega
      subst e9
      exact j_vret hG hZ dX9_acceptOffer_54 (Nat.zero_le _) (Nat.zero_le _) (hP f1 ra1 ca1 X1 gcu gof hd hRW hcu hof gcu_ gof_ hr1 hr2 hX1 hX3 hcl1 hcl2 hfr)
    · -- on at 10
      refine j_aload_n hG dX9_acceptOffer_13 rfl rfl ?_
      refine j_get hG fX9_24 dX9_acceptOffer_14 hT rfl ?_
      refine j_iload_n hG dX9_acceptOffer_17 rfl rfl ?_
      have hg9 := hgi t (by omega) (by omega)
      refine j_zald hG dX9_acceptOffer_18 hit (by omega) (by decide) ?_
      refine j_if_eq (tgt := 48) hG dX9_acceptOffer_19 (by decide) (by omega) (fun c2 => ?_) (fun c2 => ?_)
      · -- taken at 19
        refine j_iinc (a := t) (lv' := [(0, .ref T), (1, .int (iZ (t + 1)))]) hG dX9_acceptOffer_48 rfl (by decide) rfl ?_
        refine j_goto (tgt := 2) hG dX9_acceptOffer_51 (by decide) ?_
        refine j_lv (lv' := [(0, .ref T), (1, .int (iZ (t + 1)))]) (by simp) ?_
        refine ih (t + 1) ra1 ca1 X1 gcu gof f1 hT hpl hcu hof hit (by omega) hd hRW gcu_ gof_ hr1 hr2 (fun j j1 j2 => ?_) (fun j j1 j2 => hX2 j (by omega) j2) hX3 hcl1 hcl2 hfr (by omega)
        rw [hX1 j j1 j2]
        by_cases e : j < t ∧ gi j = 1
        · rw [if_pos e, if_pos (by omega)]
        · rw [if_neg e, if_neg ?_]
          intro q
          by_cases e2 : j = t
          · subst e2; omega
          · exact e ⟨by omega, q.2⟩
      · -- on at 19
        refine j_aload_n hG dX9_acceptOffer_22 rfl rfl ?_
        refine j_get hG fX9_11 dX9_acceptOffer_23 hT rfl ?_
        refine j_iload_n hG dX9_acceptOffer_26 rfl rfl ?_
        obtain ⟨n1, b1, g1, ro1, rc1, -⟩ := hRW.1 t (by omega) (by omega)
        obtain ⟨n2, b2, g2, ro2, rc2, -⟩ := hRW.1 (t + 12) (by omega) (by omega)
        refine j_ald4 hG dX9_acceptOffer_27 hcu (by omega) (by decide) (gcu_ t (by omega) (by omega)) ?_
        refine j_astore_n (lv' := [(0, .ref T), (1, .int (iZ (t))), (2, .ref (ra1 t))]) hG dX9_acceptOffer_28 rfl (by decide) rfl ?_
        refine j_aload_n hG dX9_acceptOffer_29 rfl rfl ?_
        refine j_get hG fX9_11 dX9_acceptOffer_30 hT rfl ?_
        refine j_iload_n hG dX9_acceptOffer_33 rfl rfl ?_
        refine j_aload_n hG dX9_acceptOffer_34 rfl rfl ?_
        refine j_get hG fX9_17 dX9_acceptOffer_35 hT rfl ?_
        refine j_iload_n hG dX9_acceptOffer_38 rfl rfl ?_
        refine j_ald4 hG dX9_acceptOffer_39 hof (by omega) (by decide) (gof_ t (by omega) (by omega)) ?_
        refine j_ast4 hG dX9_acceptOffer_40 hcu (by omega) (by decide) ro2 (fun f3 h4 fr5 => ?_)
        have h6 := (fr5 T (h_ne hT hcu oa_Q)).trans hT
        have h7 := (fr5 pl (h_ne hpl hcu oa_Q)).trans hpl
        have h8 := (fr5 ofr (Ne.symm hco)).trans hof
        have h9 := (fr5 it (h_ne hit hcu aIQ)).trans hit
        have h10 := (fr5 (ra1 t) (h_ne ro1 hcu oa_Q)).trans ro1
        have h11 := (fr5 (ra1 (t + 12)) (h_ne ro2 hcu oa_Q)).trans ro2
        refine j_aload_n hG dX9_acceptOffer_41 rfl rfl ?_
        refine j_get hG fX9_17 dX9_acceptOffer_42 h6 rfl ?_
        refine j_iload_n hG dX9_acceptOffer_45 rfl rfl ?_
        refine j_aload_n hG dX9_acceptOffer_46 rfl rfl ?_
        refine j_ast4 hG dX9_acceptOffer_47 h8 (by omega) (by decide) h10 (fun f12 h13 fr14 => ?_)
        have h15 := (fr14 T (h_ne h6 h8 oa_Q)).trans h6
        have h16 := (fr14 pl (h_ne h7 h8 oa_Q)).trans h7
        have h17 := (fr14 it (h_ne h9 h8 aIQ)).trans h9
        have h18 := (fr14 (ra1 t) (h_ne h10 h8 oa_Q)).trans h10
        have h19 := (fr14 (ra1 (t + 12)) (h_ne h11 h8 oa_Q)).trans h11
        have h20 := (fr14 cu hco).trans h4
        refine j_iinc (a := t) (lv' := [(0, .ref T), (1, .int (iZ (t + 1))), (2, .ref (ra1 t))]) hG dX9_acceptOffer_48 rfl (by decide) rfl ?_
        refine j_goto (tgt := 2) hG dX9_acceptOffer_51 (by decide) ?_
        refine j_lv (lv' := [(0, .ref T), (1, .int (iZ (t + 1)))]) (by simp) ?_
        have hR2 : RWs E f12 ra1 ca1 X1 := RWs_kept hRW (fun i i1 i2 => ⟨fun i3 => ?_, ?_⟩)
        rotate_left
        · obtain ⟨_, _, _, z1, z2, -⟩ := hRW.1 i i1 i3
          exact (Eq.trans (fr14 _ (h_ne z1 hof oa_Q)) (fr5 _ (h_ne z1 hcu oa_Q)))
        · by_cases i3 : i < 37
          · obtain ⟨_, _, _, z1, z2, -⟩ := hRW.1 i i1 i3
            exact (Eq.trans (fr14 _ (h_ne z2 hof aJQ)) (fr5 _ (h_ne z2 hcu aJQ)))
          · obtain ⟨_, z2, -⟩ := hRW.2
            have e : i = 37 := by omega
            subst e
            exact (Eq.trans (fr14 _ (h_ne z2 hof aJQ)) (fr5 _ (h_ne z2 hcu aJQ)))
        refine ih (t + 1) (swp ra1 t) (swp ca1 t) (swp X1 t) _ _ f12 h15 h16 h20 h13 h17 (by omega) (rwD_swp (by omega) hd) (RWs_swp (by omega) hR2) (fun i i1 i2 => ?_) (fun i i1 i2 => ?_) (fun j j1 => ?_) (fun j j1 => ?_) (fun j j1 j2 => ?_) (fun j j1 j2 => ?_) (fun j j1 => ?_) (fun RX hX i i1 i2 => ?_) (fun RX hX i i1 i2 => ?_) (fun q q1 q2 => (Eq.trans (fr14 q q2) (fr5 q q1)).trans (hfr q q1 q2)) (by omega)
        · by_cases e : i = t
          · subst e; rw [fup_s, swp_1]
          · rw [fup_n _ _ e, swp_o _ e (by omega)]; exact gcu_ i i1 i2
        · by_cases e : i = t
          · subst e; rw [fup_s, swp_2]
          · rw [fup_n _ _ e, swp_o _ (by omega) (by omega)]; exact gof_ i i1 i2
        · rw [swp_o _ (by omega) (by omega)]; exact hr1 j j1
        · rw [swp_o _ (by omega) (by omega)]; exact hr2 j j1
        · by_cases e : j = t
          · subst e; rw [swp_1, if_pos ⟨by omega, by omega⟩]; exact hX2 _ (by omega) (by omega)
          · rw [swp_o _ e (by omega), hX1 j j1 j2]
            by_cases e2 : j < t ∧ gi j = 1
            · rw [if_pos e2, if_pos (by omega)]
            · rw [if_neg e2, if_neg (by omega)]
        · rw [swp_o _ (by omega) (by omega)]; exact hX2 j (by omega) j2
        · rw [swp_o _ (by omega) (by omega)]; exact hX3 j j1
        · rw [swp_id]; have a1 := swp_rng (t := t) (by omega) ⟨i1, i2⟩ (by omega); exact hcl1 RX hX _ a1.1 a1.2
        · rw [swp_id]; have a1 := swp_rng (t := t) (by omega) ⟨i1, i2⟩ (by omega); exact hcl2 RX hX _ a1.1 a1.2
theorem c_X9_acceptOffer {l : Launch} {E : JE} {f : Hp} {T cu ofr mk it pl dr pm : Nat} {sz : Int} {gcu gof : Int → Option Nat} {gi : Int → Int} {ra ca : Int → Nat} {X : Int → List Int × Int} (hT : f T = oB 8 [.ref cu, .ref ofr, .ref mk, .ref it, .ref (ra 36), .ref (ca 37), .ref pl, .ref dr]) (hpl : f pl = oB 5 [.ref pm, .int (iZ (sz))]) (hcu : f cu = aQ (E.2.1 4) 12 (gcu)) (hof : f ofr = aQ (E.2.1 4) 12 (gof)) (hit : f it = aI (E.2.1 2) 12 (gi)) (hsz : 0 ≤ sz ∧ sz ≤ 12) (hco : cu ≠ ofr) (hgi : ∀ i, 0 ≤ i → i < 12 → gi i = 0 ∨ gi i = 1) (hd : rwD ra ca) (hRW : RWs E f ra ca X) (gcu_ : ∀ i, 0 ≤ i → i < 12 → gcu i = some (ra i)) (gof_ : ∀ i, 0 ≤ i → i < 12 → gof i = some (ra (i + 12))) : KX9_acceptOffer l E [.ref T] f (fun v f' => v = none ∧ ∃ (ra' ca' : Int → Nat) (X' : Int → List Int × Int) (gcu' gof' : Int → Option Nat), rwD ra' ca' ∧ RWs E f' ra' ca' X' ∧ f' cu = aQ (E.2.1 4) 12 gcu' ∧ f' ofr = aQ (E.2.1 4) 12 gof' ∧ (∀ i, 0 ≤ i → i < 12 → gcu' i = some (ra' i)) ∧ (∀ i, 0 ≤ i → i < 12 → gof' i = some (ra' (i + 12))) ∧ (∀ j, 24 ≤ j → ra' j = ra j) ∧ (∀ j, 24 ≤ j → ca' j = ca j) ∧ (∀ j, 0 ≤ j → j < 12 → X' j = if j < sz ∧ gi j = 1 then X (j + 12) else X j) ∧ (∀ j, 24 ≤ j → X' j = X j) ∧ (∀ RX : Nat → Prop, (∀ i, 0 ≤ i → i < 37 → RX (ra i)) → ∀ i, 0 ≤ i → i < 37 → RX (ra' i)) ∧ (∀ RX : Nat → Prop, (∀ i, 0 ≤ i → i < 38 → RX (ca i)) → ∀ i, 0 ≤ i → i < 38 → RX (ca' i)) ∧ (∀ q, q ≠ cu → q ≠ ofr → f' q = f q)) := by
  refine ct_of (own := RX9) (lv := [(0, .ref T)]) (by decide +kernel) rfl (Nat.le_of_ble_eq_true rfl) rfl ?_
  intro G hG hZ
  refine j_iconst hG dX9_acceptOffer_0 ?_
  refine j_istore_n (lv' := [(0, .ref T), (1, .int (iZ (0)))]) hG dX9_acceptOffer_1 rfl (by decide) rfl ?_
  exact l_X9_acceptOffer (X0 := X) (f0 := f) (ra := ra) (ca := ca) hG hZ hsz hco hgi (fun f' ra' ca' X' gcu' gof' a1 a2 a3 a4 a5 a6 a7 a8 a9 a10 a11 a12 a13 => ⟨rfl, ra', ca', X', gcu', gof', a1, a2, a3, a4, a5, a6, a7, a8, a9, a10, a11, a12, a13⟩) ((sz - 0).toNat + 1) 0 ra ca X gcu gof f hT hpl hcu hof hit (by omega) hd hRW gcu_ gof_ (fun _ _ => rfl) (fun _ _ => rfl) (fun j j1 j2 => by rw [if_neg (by omega)]) (fun _ _ _ => rfl) (fun _ _ => rfl) (fun RX h => h) (fun RX h => h) (fun _ _ _ => rfl) (by omega)
