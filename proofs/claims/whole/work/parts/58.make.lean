theorem src_skip {ls lr : Int → Int} {la num : Int} {k : Nat} (h : ls k ≠ num ∨ lateB lr la k = true) : srcN ls lr la (k + 1) num = srcN ls lr la k num := by
  cases e : lateB lr la k with
  | true => rw [rd_late e]
  | false => rw [rd_on e, fup_n _ _ (fun q => (h.resolve_right (by rw [e]; decide)) q.symm)]
theorem src_take {ls lr : Int → Int} {la num : Int} {k : Nat} (h : ls k = num) (e : lateB lr la k = false) : srcN ls lr la (k + 1) num = srcN ls lr la k num ++ [lr k] := by
  rw [rd_on e, ← h, fup_s]
theorem late01 {z : Int} {b : Bool} (h : z = if b = true then 1 else 0) : (z = 0 ∨ z = 1) ∧ (z ≠ 0 → b = true) ∧ (z = 0 → b = false) := by
  cases b with
  | true => rw [if_pos rfl] at h; exact ⟨Or.inr h, fun _ => rfl, fun q => by omega⟩
  | false => rw [if_neg (by decide)] at h; exact ⟨Or.inl h, fun q => by omega, fun _ => rfl⟩
theorem un3_k {l : List Int} (h : lOk l) : ∀ p ∈ l.map un3, kOk p := fun p hp => by
  obtain ⟨x, hx, rfl⟩ := List.mem_map.mp hp
  exact ⟨rK_rng (h x hx).1, rT_rng (h x hx).1⟩
theorem oth_z {G : Nat → Int → Int} {t : Int} : oth G (up G 21 (fup (G 21) t 0)) t := ⟨fun i a _ _ _ => up_n _ _ a, fun j hj => fup_n _ _ hj, fun _ _ => ⟨rfl, rfl, rfl⟩⟩
theorem macc_z {V : Nat → Int} {G : Nat → Int → Int} {t : Int} (h : V 25 = 0) : macc V (up G 21 (fup (G 21) t 0)) t [] := Or.inl ⟨h, ⟨by simp, fun p hp => by cases hp⟩, fup_s _ _ _, fun i hi => absurd hi (Nat.not_lt_zero i)⟩
theorem raw_each {kd col rel num : Int} {A B : List Int} (h : 1 ≤ kd ∧ kd ≤ 6) : rawOf kd col rel num A B = A.flatMap (each1 kd col rel num) := by
  unfold rawOf
  rw [if_neg (by omega), if_neg (by omega), if_neg (by omega), if_neg (by omega)]
theorem raw_heap {kd col rel num : Int} {A B : List Int} (h : 7 ≤ kd ∧ kd ≤ 10) : rawOf kd col rel num A B = hp kd 0 0 A := by
  unfold rawOf hp
  by_cases c : kd = 10
  · rw [if_neg (by omega), if_pos c, if_pos c]
  · rw [if_pos (by omega), if_neg c]
theorem raw_two {kd col rel num : Int} {A B : List Int} (h : kd = 11 ∨ kd = 12) : rawOf kd col rel num A B = A.flatMap (of2 kd B) := by
  unfold rawOf
  rcases h with h | h
  · rw [if_neg (by omega), if_neg (by omega), if_pos h]
    congr 1
    funext x
    unfold of2
    rw [if_pos h]
  · rw [if_neg (by omega), if_neg (by omega), if_neg (by omega), if_pos h, wout_flat, h]
theorem l_X12_make {G9 : JG} {l : Launch} {E : JE} {P : Option Value → Hp → Prop} (hG : jX G9 l E cX12_make RX12 4 rmX12_make) (hZ : jZ G9 none P) {rg : Nat → Nat} {f0 : Hp} {m : Nat} {A : Nat → Nat} {V : Nat → Int} {G : Nat → Int → Int} {t n : Nat} {ls lr : Int → Int} {la : Int} {num : Int} (ht0 : 0 ≤ (t : Int) ∧ (t : Int) < 12) (h13 : G 13 t = num) (hnum : 0 ≤ num ∧ num ≤ 2) (hlg : ∀ j : Nat, j < n → G 3 j = ls j ∧ G 4 j = rK (lr j) ∧ G 5 j = rV (lr j) ∧ G 6 j = rT (lr j)) (hlt : ∀ j : Nat, j < n → G 7 j = if lateB lr la j = true then 1 else 0) (hlo : ∀ j : Nat, j < n → (rOk (lr j) ∧ rV (lr j) ≤ 1000000000) ∧ 0 ≤ ls j ∧ ls j ≤ 2) (hn : n ≤ 150) (hP : ∀ (f' : Hp) (V' : Nat → Int) (G' : Nat → Int → Int), MF E rg f0 f' m A V' G' → macc V' G' (t : Int) ((srcN ls lr la n num).map un3) → oth G G' (t : Int) → othV V V' → P none f') :
    ∀ (d : Nat) (k : Nat) (V1 : Nat → Int) (G1 : Nat → Int → Int) (f1 : Hp), (hW : MF E rg f0 f1 m A V1 G1) → (ho : oth G G1 (t : Int)) → (hv : othV V V1) → (hk : k ≤ n) → (hacc : macc V1 G1 (t : Int) ((srcN ls lr la k num).map un3)) → (n - k) < d → J G9 0 0 f1 18 [(0, .ref m), (1, .int (iZ ((t : Int)))), (2, .int (iZ ((n : Int)))), (3, .int (iZ ((k : Int))))] [] := by
  intro d
  induction d with
  | zero => intro k V1 G1 f1 hW ho hv hk hacc hd9; exfalso; omega
  | succ d ih =>
    intro k V1 G1 f1 hW ho hv hk hacc hd9
    refine j_iload_n hG dX12_make_18 rfl rfl ?_
    refine j_iload_n hG dX12_make_19 rfl rfl ?_
    refine j_icmp_ge (tgt := 77) hG dX12_make_20 (by decide) (by omega) (by omega) (fun c1 => ?_) (fun c1 => ?_)
    · -- taken at 20
      refine j_goto (tgt := 123) hG dX12_make_77 (by decide) ?_
      have e9 : k = n := by omega
      subst e9
      exact j_vret hG hZ dX12_make_123 (Nat.zero_le _) (Nat.zero_le _) (hP f1 V1 G1 hW hacc ho hv)
    · -- on at 20
      have q9 : G1 3 k = ls k ∧ G1 4 k = rK (lr k) ∧ G1 5 k = rV (lr k) ∧ G1 6 k = rT (lr k) := by rw [ho.1 3 (by decide) (by decide) (by decide) (by decide), ho.1 4 (by decide) (by decide) (by decide) (by decide), ho.1 5 (by decide) (by decide) (by decide) (by decide), ho.1 6 (by decide) (by decide) (by decide) (by decide)]; exact hlg k (by omega)
      have q8 := hlo k (by omega)
      have q7 : G1 7 k = if lateB lr la k = true then 1 else 0 := by rw [ho.1 7 (by decide) (by decide) (by decide) (by decide)]; exact hlt k (by omega)
      have q6 := late01 q7
      have xr1 := rK_rng q8.1.1
      have xr2 := rT_rng q8.1.1
      have xr3 := rV_rng q8.1.1
      refine j_aload_n hG dX12_make_23 rfl rfl ?_
      refine j_get (v := .ref (A 3)) hG fX12_7 dX12_make_24 hW.1 rfl ?_
      refine j_iload_n hG dX12_make_27 rfl rfl ?_
      refine j_iald hG dX12_make_28 (MF_a3 hW) (by omega) (by decide) ?_
      refine j_eq (show ((G1 3) (k : Int) : Int) = (ls (k : Int) : Int) from q9.1) ?_
      refine j_aload_n hG dX12_make_29 rfl rfl ?_
      refine j_get (v := .ref (A 13)) hG fX12_33 dX12_make_30 hW.1 rfl ?_
      refine j_iload_n hG dX12_make_33 rfl rfl ?_
      refine j_iald hG dX12_make_34 (MF_a13 hW) (by omega) (by decide) ?_
      refine j_eq (show ((G1 13) (t : Int) : Int) = (num : Int) from (by rw [ho.1 13 (by decide) (by decide) (by decide) (by decide)]; exact h13)) ?_
      refine j_icmp_ne (tgt := 71) hG dX12_make_35 (by decide) (by omega) (by omega) (fun c2 => ?_) (fun c2 => ?_)
      · -- taken at 35
        refine j_iinc (a := (k : Int)) (lv' := [(0, .ref m), (1, .int (iZ ((t : Int)))), (2, .int (iZ ((n : Int)))), (3, .int (iZ ((k : Int) + 1)))]) hG dX12_make_71 rfl (by decide) rfl ?_
        refine j_goto (tgt := 18) hG dX12_make_74 (by decide) ?_
        refine j_lv (lv' := [(0, .ref m), (1, .int (iZ ((t : Int)))), (2, .int (iZ ((n : Int)))), (3, .int (iZ (((k + 1 : Nat) : Int))))]) (by simp) ?_
        exact ih (k + 1) V1 G1 f1 hW ho hv (by omega) (by rw [src_skip (by first | exact Or.inr hl9 | exact Or.inl (by omega))]; exact hacc) (by omega)
      · -- on at 35
        refine j_aload_n hG dX12_make_38 rfl rfl ?_
        refine j_get (v := .ref (A 7)) hG fX12_22 dX12_make_39 hW.1 rfl ?_
        refine j_iload_n hG dX12_make_42 rfl rfl ?_
        refine j_zald hG dX12_make_43 (MF_a7 hW) (by omega) (by decide) ?_
        refine j_if_ne (tgt := 71) hG dX12_make_44 (by decide) (by omega) (fun c3 => ?_) (fun c3 => ?_)
        · -- taken at 44
          have hl9 := q6.2.1 c3
          refine j_iinc (a := (k : Int)) (lv' := [(0, .ref m), (1, .int (iZ ((t : Int)))), (2, .int (iZ ((n : Int)))), (3, .int (iZ ((k : Int) + 1)))]) hG dX12_make_71 rfl (by decide) rfl ?_
          refine j_goto (tgt := 18) hG dX12_make_74 (by decide) ?_
          refine j_lv (lv' := [(0, .ref m), (1, .int (iZ ((t : Int)))), (2, .int (iZ ((n : Int)))), (3, .int (iZ (((k + 1 : Nat) : Int))))]) (by simp) ?_
          exact ih (k + 1) V1 G1 f1 hW ho hv (by omega) (by rw [src_skip (by first | exact Or.inr hl9 | exact Or.inl (by omega))]; exact hacc) (by omega)
        · -- on at 44
          have hl9 := q6.2.2 c3
          refine j_aload_n hG dX12_make_47 rfl rfl ?_
          refine j_iload_n hG dX12_make_48 rfl rfl ?_
          refine j_aload_n hG dX12_make_49 rfl rfl ?_
          refine j_get (v := .ref (A 4)) hG fX12_13 dX12_make_50 hW.1 rfl ?_
          refine j_iload_n hG dX12_make_53 rfl rfl ?_
          refine j_iald hG dX12_make_54 (MF_a4 hW) (by omega) (by decide) ?_
          refine j_eq (show ((G1 4) (k : Int) : Int) = (rK (lr (k : Int)) : Int) from q9.2.1) ?_
          refine j_aload_n hG dX12_make_55 rfl rfl ?_
          refine j_get (v := .ref (A 5)) hG fX12_16 dX12_make_56 hW.1 rfl ?_
          refine j_iload_n hG dX12_make_59 rfl rfl ?_
          refine j_iald hG dX12_make_60 (MF_a5 hW) (by omega) (by decide) ?_
          refine j_eq (show ((G1 5) (k : Int) : Int) = (rV (lr (k : Int)) : Int) from q9.2.2.1) ?_
          refine j_i2l hG dX12_make_61 (by omega) ?_
          refine j_aload_n hG dX12_make_62 rfl rfl ?_
          refine j_get (v := .ref (A 6)) hG fX12_19 dX12_make_63 hW.1 rfl ?_
          refine j_iload_n hG dX12_make_66 rfl rfl ?_
          refine j_iald hG dX12_make_67 (MF_a6 hW) (by omega) (by decide) ?_
          refine j_eq (show ((G1 6) (k : Int) : Int) = (rT (lr (k : Int)) : Int) from q9.2.2.2) ?_
          refine j_callV (rest := []) hG vX12_159 dX12_make_68 (c_X12_add (t := (t : Int)) (k := rK (lr (k : Int))) (u := rV (lr (k : Int))) (tm := rT (lr (k : Int))) (r := (srcN ls lr la k num).map un3) hW ht0 (by omega) (by omega) (by omega) (un3_k (srcN_l k (fun j hj => (hlo j (by omega)).1) num)) hacc) hW.1 rfl rfl (by decide) (by decide) (Nat.le_of_ble_eq_true rfl) rfl rfl (Nat.zero_le _) (Nat.zero_le _) ?_
          rintro _ f10 ⟨rfl, V4, G5, hW6, hacc7, ho8, hv9⟩
          refine j_st (st' := []) rfl ?_
          have ho11 := oth_tr ho ho8
          have hv12 := othV_tr hv hv9
          refine j_iinc (a := (k : Int)) (lv' := [(0, .ref m), (1, .int (iZ ((t : Int)))), (2, .int (iZ ((n : Int)))), (3, .int (iZ ((k : Int) + 1)))]) hG dX12_make_71 rfl (by decide) rfl ?_
          refine j_goto (tgt := 18) hG dX12_make_74 (by decide) ?_
          refine j_lv (lv' := [(0, .ref m), (1, .int (iZ ((t : Int)))), (2, .int (iZ ((n : Int)))), (3, .int (iZ (((k + 1 : Nat) : Int))))]) (by simp) ?_
          exact ih (k + 1) V4 G5 f10 hW6 ho11 hv12 (by omega) (by rw [src_take (by omega) hl9, List.map_append]; exact hacc7) (by omega)
theorem c_X12_make {l : Launch} {E : JE} {f : Hp} {rg : Nat → Nat} {f0 : Hp} {m : Nat} {A : Nat → Nat} {V : Nat → Int} {G : Nat → Int → Int} {t n : Nat} {ls lr : Int → Int} {la : Int} {M : Int → Int → Int} (hW : MF E rg f0 f m A V G) (ht12 : t < 12) (hmk : mkOk M t) (htr : trel M (G 12) (G 13) (G 14) (G 15) (G 16) t) (h25 : V 25 = 0) (hlg : ∀ j : Nat, j < n → G 3 j = ls j ∧ G 4 j = rK (lr j) ∧ G 5 j = rV (lr j) ∧ G 6 j = rT (lr j)) (hlt : ∀ j : Nat, j < n → G 7 j = if lateB lr la j = true then 1 else 0) (hlo : ∀ j : Nat, j < n → (rOk (lr j) ∧ rV (lr j) ≤ 1000000000) ∧ 0 ≤ ls j ∧ ls j ≤ 2) (hn : n ≤ 150) (hT : ∀ a : Int, 0 ≤ a → a < (t : Int) → nrep G a (tabF M (srcN ls lr la n) t a) ∧ lOk (tabF M (srcN ls lr la n) t a) ∧ (tabF M (srcN ls lr la n) t a).length ≤ 400) : KX12_make l E [.ref m, .int (iZ ((t : Int))), .int (iZ ((n : Int)))] f (fun v f' => v = none ∧ ∃ (V' : Nat → Int) (G' : Nat → Int → Int), MF E rg f0 f' m A V' G' ∧ macc V' G' (t : Int) (rawT M (srcN ls lr la n) (t : Int) (tabF M (srcN ls lr la n) t)) ∧ oth G G' (t : Int) ∧ othV V V') := by
  refine ct_of (own := RX12) (lv := [(0, .ref m), (1, .int (iZ ((t : Int)))), (2, .int (iZ ((n : Int))))]) (by decide +kernel) rfl (Nat.le_of_ble_eq_true rfl) rfl ?_
  intro G9 hG hZ
  refine j_aload_n hG dX12_make_0 rfl rfl ?_
  refine j_get (v := .ref (A 21)) hG fX12_57 dX12_make_1 hW.1 rfl ?_
  refine j_iload_n hG dX12_make_4 rfl rfl ?_
  refine j_iconst hG dX12_make_5 ?_
  refine j_iast hG dX12_make_6 (MF_a21 hW) (by omega) (by decide) (fun f1 h2 fr3 => ?_)
  have hW4 : MF E rg f0 f1 m A V (up G 21 (fup (G 21) (t : Int) 0)) := MF_a hW 21 rfl h2 fr3
  obtain ⟨G1, eG⟩ : ∃ G1, G1 = up G 21 (fup (G 21) (t : Int) 0) := ⟨_, rfl⟩
  rw [← eG] at hW4
  have ho : oth G G1 (t : Int) := by rw [eG]; exact oth_z
  have hacc : macc V G1 (t : Int) [] := by rw [eG]; exact macc_z h25
  have k12 : G1 12 t = M t 0 := by rw [ho.1 12 (by decide) (by decide) (by decide) (by decide)]; exact htr.1
  have mk9 := hmk
  refine j_aload_n hG dX12_make_7 rfl rfl ?_
  refine j_get (v := .ref (A 12)) hG fX12_30 dX12_make_8 hW4.1 rfl ?_
  refine j_iload_n hG dX12_make_11 rfl rfl ?_
  refine j_iald hG dX12_make_12 (MF_a12 hW4) (by omega) (by decide) ?_
  refine j_eq (show ((G1 12) (t : Int) : Int) = (M (t : Int) 0 : Int) from k12) ?_
  have kk := mk9.1.1
  refine j_if_ne (tgt := 80) hG dX12_make_13 (by decide) (by omega) (fun c5 => ?_) (fun c5 => ?_)
  · -- taken at 13
    refine j_aload_n hG dX12_make_80 rfl rfl ?_
    refine j_get (v := .ref (A 12)) hG fX12_30 dX12_make_81 hW4.1 rfl ?_
    refine j_iload_n hG dX12_make_84 rfl rfl ?_
    refine j_iald hG dX12_make_85 (MF_a12 hW4) (by omega) (by decide) ?_
    refine j_eq (show ((G1 12) (t : Int) : Int) = (M (t : Int) 0 : Int) from k12) ?_
    have kk := mk9.1.1
    refine j_bipush hG dX12_make_86 (by decide) ?_
    refine j_icmp_gt (tgt := 99) hG dX12_make_88 (by decide) (by omega) (by omega) (fun c6 => ?_) (fun c6 => ?_)
    · -- taken at 88
      refine j_aload_n hG dX12_make_99 rfl rfl ?_
      refine j_get (v := .ref (A 12)) hG fX12_30 dX12_make_100 hW4.1 rfl ?_
      refine j_iload_n hG dX12_make_103 rfl rfl ?_
      refine j_iald hG dX12_make_104 (MF_a12 hW4) (by omega) (by decide) ?_
      refine j_eq (show ((G1 12) (t : Int) : Int) = (M (t : Int) 0 : Int) from k12) ?_
      have kk := mk9.1.1
      refine j_bipush hG dX12_make_105 (by decide) ?_
      refine j_icmp_gt (tgt := 118) hG dX12_make_107 (by decide) (by omega) (by omega) (fun c7 => ?_) (fun c7 => ?_)
      · -- taken at 107
        refine j_aload_n hG dX12_make_118 rfl rfl ?_
        refine j_iload_n hG dX12_make_119 rfl rfl ?_
        have a9 := hmk.2.2.1 (by omega)
        have hTa := hT (M t 1) a9.1 (by omega)
        have hA1 := nrep_oth ho (Or.inl (by omega)) hTa.2.2 hTa.1
        have k13 : G1 13 t = M t 1 := by rw [ho.1 13 (by decide) (by decide) (by decide) (by decide)]; exact htr.2.2.1 (by omega)
        have b9 := hmk.2.2.2.1 (by omega)
        have hTb := hT (M t 2) b9.1 (by omega)
        have hB1 := nrep_oth ho (Or.inl (by omega)) hTb.2.2 hTb.1
        have k14 : G1 14 t = M t 2 := by rw [ho.1 14 (by decide) (by decide) (by decide) (by decide)]; exact htr.2.2.2.1 (by omega)
        refine j_callV (rest := []) hG vX12_170 dX12_make_120 (c_X12_makeOfTwo hW4 (by omega) (by omega) k12 k13 (by omega) k14 (by omega) hA1 hTa.2.1 hTa.2.2 hB1 hTb.2.1 hTb.2.2 hacc) hW4.1 rfl rfl (by decide) (by decide) (Nat.le_of_ble_eq_true rfl) rfl rfl (Nat.zero_le _) (Nat.zero_le _) ?_
        rintro _ f14 ⟨rfl, V8, G9, hW10, hacc11, ho12, hv13⟩
        refine j_st (st' := []) rfl ?_
        exact j_vret hG hZ dX12_make_123 (Nat.zero_le _) (Nat.zero_le _) (⟨rfl, V8, G9, hW10, by unfold rawT; rw [if_neg (by omega), raw_two (by omega)]; exact hacc11, oth_tr ho ho12, hv13⟩)
      · -- on at 107
        refine j_aload_n hG dX12_make_110 rfl rfl ?_
        refine j_iload_n hG dX12_make_111 rfl rfl ?_
        have a9 := hmk.2.2.1 (by omega)
        have hTa := hT (M t 1) a9.1 (by omega)
        have hA1 := nrep_oth ho (Or.inl (by omega)) hTa.2.2 hTa.1
        have k13 : G1 13 t = M t 1 := by rw [ho.1 13 (by decide) (by decide) (by decide) (by decide)]; exact htr.2.2.1 (by omega)
        refine j_callV (rest := []) hG vX12_167 dX12_make_112 (c_X12_makeHeaps hW4 (by omega) (by omega) k12 k13 (by omega) hA1 hTa.2.1 hTa.2.2 hacc) hW4.1 rfl rfl (by decide) (by decide) (Nat.le_of_ble_eq_true rfl) rfl rfl (Nat.zero_le _) (Nat.zero_le _) ?_
        rintro _ f21 ⟨rfl, V15, G16, hW17, hacc18, ho19, hv20⟩
        refine j_st (st' := []) rfl ?_
        refine j_goto (tgt := 123) hG dX12_make_115 (by decide) ?_
        exact j_vret hG hZ dX12_make_123 (Nat.zero_le _) (Nat.zero_le _) (⟨rfl, V15, G16, hW17, by unfold rawT; rw [if_neg (by omega), raw_heap (by omega)]; exact hacc18, oth_tr ho ho19, hv20⟩)
    · -- on at 88
      refine j_aload_n hG dX12_make_91 rfl rfl ?_
      refine j_iload_n hG dX12_make_92 rfl rfl ?_
      have a9 := hmk.2.2.1 (by omega)
      have hTa := hT (M t 1) a9.1 (by omega)
      have hA1 := nrep_oth ho (Or.inl (by omega)) hTa.2.2 hTa.1
      have k13 : G1 13 t = M t 1 := by rw [ho.1 13 (by decide) (by decide) (by decide) (by decide)]; exact htr.2.2.1 (by omega)
      have k14 : G1 14 t = M t 5 := by rw [ho.1 14 (by decide) (by decide) (by decide) (by decide)]; exact htr.2.2.2.2.1 (by omega)
      have k15 : M t 0 = 1 → G1 15 t = M t 3 ∧ G1 16 t = M t 4 := fun q => by rw [ho.1 15 (by decide) (by decide) (by decide) (by decide), ho.1 16 (by decide) (by decide) (by decide) (by decide)]; exact htr.2.2.2.2.2 q
      refine j_callV (rest := []) hG vX12_163 dX12_make_93 (c_X12_makeEach hW4 (by omega) (by omega) k12 k13 k14 (by omega) k15 hmk.1.2 hA1 hTa.2.1 hTa.2.2 hacc) hW4.1 rfl rfl (by decide) (by decide) (Nat.le_of_ble_eq_true rfl) rfl rfl (Nat.zero_le _) (Nat.zero_le _) ?_
      rintro _ f28 ⟨rfl, V22, G23, hW24, hacc25, ho26, hv27⟩
      refine j_st (st' := []) rfl ?_
      refine j_goto (tgt := 123) hG dX12_make_96 (by decide) ?_
      exact j_vret hG hZ dX12_make_123 (Nat.zero_le _) (Nat.zero_le _) (⟨rfl, V22, G23, hW24, by unfold rawT; rw [if_neg (by omega), raw_each (by omega)]; exact hacc25, oth_tr ho ho26, hv27⟩)
  · -- on at 13
    refine j_iconst hG dX12_make_16 ?_
    refine j_istore_n (lv' := [(0, .ref m), (1, .int (iZ ((t : Int)))), (2, .int (iZ ((n : Int)))), (3, .int (iZ (0)))]) hG dX12_make_17 rfl (by decide) rfl ?_
    have n9 := hmk.2.1 (by omega)
    have k13 : G1 13 t = M t 5 := by rw [ho.1 13 (by decide) (by decide) (by decide) (by decide)]; exact htr.2.1 (by omega)
    have e0 : rawT M (srcN ls lr la n) (t : Int) (tabF M (srcN ls lr la n) t) = (srcN ls lr la n (M t 5)).map un3 := by unfold rawT; rw [if_pos (by omega)]
    exact l_X12_make (G := G1) (V := V) hG hZ (by omega) k13 (by omega) (fun j hj => by rw [ho.1 3 (by decide) (by decide) (by decide) (by decide), ho.1 4 (by decide) (by decide) (by decide) (by decide), ho.1 5 (by decide) (by decide) (by decide) (by decide), ho.1 6 (by decide) (by decide) (by decide) (by decide)]; exact hlg j hj) (fun j hj => by rw [ho.1 7 (by decide) (by decide) (by decide) (by decide)]; exact hlt j hj) hlo hn (fun f' V' G' a1 a2 a3 a4 => ⟨rfl, V', G', a1, by rw [e0]; exact a2, oth_tr ho a3, a4⟩) (n + 1) 0 V G1 f1 hW4 oth_rf (fun _ _ => rfl) (by omega) hacc (by omega)
