def hp (kd s m : Int) (L : List Int) : List Tr := if kd = 10 then lstK L else grp kd s m L
theorem rG_eq {x y : Int} (hx : rOk x) (hy : rOk y) : rG y = rG x ↔ rK y = rK x ∧ rT y = rT x := by
  unfold rOk at *
  unfold rG rK rT
  omega
theorem drop_at {L : List Int} {i : Nat} (h : i < L.length) : L.drop i = L.getD i 0 :: L.drop (i + 1) := by
  rw [List.drop_eq_getElem_cons h, List.getD_eq_getElem?_getD, List.getElem?_eq_getElem h]; rfl
theorem sameK_at {L : List Int} {i : Nat} {x : Int} : sameK x (L.drop i) = decide (i < L.length ∧ rK (L.getD i 0) = rK x) := by
  by_cases h : i < L.length
  · rw [drop_at h]
    unfold sameK
    simp [h]
  · rw [List.drop_eq_nil_of_le (by omega)]
    unfold sameK
    rw [decide_eq_false (fun q => h q.1)]
theorem sameG_at {L : List Int} {i : Nat} {x : Int} : sameG x (L.drop i) = decide (i < L.length ∧ rG (L.getD i 0) = rG x) := by
  by_cases h : i < L.length
  · rw [drop_at h]
    unfold sameG
    simp [h]
  · rw [List.drop_eq_nil_of_le (by omega)]
    unfold sameG
    rw [decide_eq_false (fun q => h q.1)]
theorem hp_same {kd s m : Int} {L : List Int} {i : Nat} (h : i < L.length) (hl : lOk L) (hs : i + 1 < L.length ∧ rK (L.getD (i + 1) 0) = rK (L.getD i 0) ∧ (kd = 10 ∨ rT (L.getD (i + 1) 0) = rT (L.getD i 0))) : hp kd s m (L.drop i) = hp kd (s + rV (L.getD i 0)) (m + 1) (L.drop (i + 1)) := by
  rw [drop_at h]
  unfold hp
  by_cases c : kd = 10
  · rw [if_pos c, if_pos c, lstK, sameK_at, if_pos (decide_eq_true ⟨hs.1, hs.2.1⟩)]
  · rw [if_neg c, if_neg c, grp, sameG_at, if_pos (decide_eq_true ⟨hs.1, (rG_eq (hl _ (gd_mem h)).1 (hl _ (gd_mem hs.1)).1).mpr ⟨hs.2.1, hs.2.2.resolve_left c⟩⟩)]
theorem hp_new {kd s m : Int} {L : List Int} {i : Nat} (h : i < L.length) (hl : lOk L) (hs : ¬ (i + 1 < L.length ∧ rK (L.getD (i + 1) 0) = rK (L.getD i 0) ∧ (kd = 10 ∨ rT (L.getD (i + 1) 0) = rT (L.getD i 0)))) : hp kd s m (L.drop i) = (rK (L.getD i 0), rT (L.getD i 0), if kd = 7 then s + rV (L.getD i 0) else if kd = 8 then m + 1 else rV (L.getD i 0)) :: hp kd 0 0 (L.drop (i + 1)) := by
  rw [drop_at h]
  unfold hp
  by_cases c : kd = 10
  · rw [if_pos c, if_pos c, lstK, sameK_at, if_neg (fun q => by have q := of_decide_eq_true q; exact hs ⟨q.1, q.2, Or.inl c⟩), if_neg (by omega), if_neg (by omega)]
  · rw [if_neg c, if_neg c, grp, sameG_at, if_neg (fun q => by have q := of_decide_eq_true q; have q2 := (rG_eq (hl _ (gd_mem h)).1 (hl _ (gd_mem q.1)).1).mp q.2; exact hs ⟨q.1, q2.1, Or.inr q2.2⟩)]
theorem hp_nil {kd s m : Int} : hp kd s m [] = [] := by unfold hp; split <;> rfl
theorem kOk_snoc {r : List Tr} {p : Tr} (h : ∀ q ∈ r, kOk q) (hp : kOk p) : ∀ q ∈ r ++ [p], kOk q := fun q hq => by
  rcases List.mem_append.mp hq with h1 | h1
  · exact h q h1
  · rw [List.mem_singleton.mp h1]; exact hp
theorem l_X12_makeHeaps {G9 : JG} {l : Launch} {E : JE} {P : Option Value → Hp → Prop} (hG : jX G9 l E cX12_makeHeaps RX12 10 rmX12_makeHeaps) (hZ : jZ G9 none P) {rg : Nat → Nat} {f0 : Hp} {m : Nat} {A : Nat → Nat} {V : Nat → Int} {G : Nat → Int → Int} {t a : Int} {La : List Int} {kd : Int} (ht0 : 0 ≤ t ∧ t < 12) (ha : 0 ≤ a ∧ a < t) (h12 : G 12 t = kd) (h13 : G 13 t = a) (hkd : 7 ≤ kd ∧ kd ≤ 10) (hLa : nrep G a La) (hlo : lOk La) (hll : La.length ≤ 400) (hP : ∀ (f' : Hp) (V' : Nat → Int) (G' : Nat → Int → Int), MF E rg f0 f' m A V' G' → macc V' G' t (hp kd 0 0 La) → oth G G' t → othV V V' → P none f') :
    ∀ (d : Nat) (i : Nat) (r : List Tr) (sm n : Int) (V1 : Nat → Int) (G1 : Nat → Int → Int) (f1 : Hp), (hW : MF E rg f0 f1 m A V1 G1) → (ho : oth G G1 t) → (hv : othV V V1) → (hi : i ≤ La.length) → (hk9 : ∀ p ∈ r, kOk p) → (hacc : macc V1 G1 t r) → (hr9 : r ++ hp kd sm n (La.drop i) = hp kd 0 0 La) → (hs9 : -1147483648 * (i : Int) ≤ sm ∧ sm ≤ 1147483648 * (i : Int)) → (hn9 : 0 ≤ n ∧ n ≤ (i : Int)) → (La.length - i) < d → J G9 0 0 f1 33 [(0, .ref m), (1, .int (iZ (t))), (2, .int (iZ (a))), (3, .int (iZ (400 * a + (La.length : Int)))), (4, .long (lZ (sm))), (6, .int (iZ (n))), (7, .int (iZ (400 * a + (i : Int))))] [] := by
  intro d
  induction d with
  | zero => intro i r sm n V1 G1 f1 hW ho hv hi hk9 hacc hr9 hs9 hn9 hd9; exfalso; omega
  | succ d ih =>
    intro i r sm n V1 G1 f1 hW ho hv hi hk9 hacc hr9 hs9 hn9 hd9
    have hA1 := nrep_oth ho (Or.inl ha.2) hll hLa
    have k12 : G1 12 t = kd := by rw [ho.1 12 (by decide) (by decide) (by decide) (by decide)]; exact h12
    refine j_iload hG dX12_makeHeaps_33 rfl ?_
    refine j_iload_n hG dX12_makeHeaps_35 rfl rfl ?_
    refine j_icmp_ge (tgt := 208) hG dX12_makeHeaps_36 (by decide) (by omega) (by omega) (fun c1 => ?_) (fun c1 => ?_)
    · -- taken at 36
      have e9 : i = La.length := by omega
      subst e9
      rw [List.drop_length, hp_nil, List.append_nil] at hr9
      rw [hr9] at hacc
      exact j_vret hG hZ dX12_makeHeaps_208 (Nat.zero_le _) (Nat.zero_le _) (hP f1 V1 G1 hW hacc ho hv)
    · -- on at 36
      have x9 := hA1.2 i (by omega)
      have hxo := hlo _ (gd_mem (L := La) (i := i) (by omega))
      have xr1 := rK_rng hxo.1
      have xr2 := rT_rng hxo.1
      have xr3 := rV_rng hxo.1
      refine j_lload hG dX12_makeHeaps_39 rfl ?_
      refine j_aload_n hG dX12_makeHeaps_41 rfl rfl ?_
      refine j_get (v := .ref (A 23)) hG fX12_63 dX12_makeHeaps_42 hW.1 rfl ?_
      refine j_iload hG dX12_makeHeaps_45 rfl ?_
      refine j_iald hG dX12_makeHeaps_47 (MF_a23 hW) (by omega) (by decide) ?_
      refine j_eq (show ((G1 23) (400 * a + (i : Int)) : Int) = (rV (La.getD i 0) : Int) from x9.2.1) ?_
      refine j_i2l hG dX12_makeHeaps_48 (by omega) ?_
      refine j_ladd hG dX12_makeHeaps_49 ?_
      refine j_lstore (lv' := [(0, .ref m), (1, .int (iZ (t))), (2, .int (iZ (a))), (3, .int (iZ (400 * a + (La.length : Int)))), (4, .long (lZ (sm + (rV (La.getD i 0))))), (6, .int (iZ (n))), (7, .int (iZ (400 * a + (i : Int))))]) hG dX12_makeHeaps_50 (by decide) rfl ?_
      refine j_iinc (a := n) (lv' := [(0, .ref m), (1, .int (iZ (t))), (2, .int (iZ (a))), (3, .int (iZ (400 * a + (La.length : Int)))), (4, .long (lZ (sm + (rV (La.getD i 0))))), (6, .int (iZ (n + 1))), (7, .int (iZ (400 * a + (i : Int))))]) hG dX12_makeHeaps_52 rfl (by decide) rfl ?_
      have hj2 : ∀ (b9 : Int) , (b9 = 1 ∧ (i + 1 < La.length ∧ rK (La.getD (i + 1) 0) = rK (La.getD i 0))) ∨ (b9 = 0 ∧ ¬ (i + 1 < La.length ∧ rK (La.getD (i + 1) 0) = rK (La.getD i 0))) → J G9 0 0 f1 87 [(0, .ref m), (1, .int (iZ (t))), (2, .int (iZ (a))), (3, .int (iZ (400 * a + (La.length : Int)))), (4, .long (lZ (sm + (rV (La.getD i 0))))), (6, .int (iZ (n + 1))), (7, .int (iZ (400 * a + (i : Int))))] [.int (iZ (b9))] := by
        intro b9  hb9
        refine j_istore (lv' := [(0, .ref m), (1, .int (iZ (t))), (2, .int (iZ (a))), (3, .int (iZ (400 * a + (La.length : Int)))), (4, .long (lZ (sm + (rV (La.getD i 0))))), (6, .int (iZ (n + 1))), (7, .int (iZ (400 * a + (i : Int)))), (8, .int (iZ (b9)))]) hG dX12_makeHeaps_87 (by decide) rfl ?_
        have hj3 : ∀ (c9 : Int) , (c9 = 1 ∧ (i + 1 < La.length ∧ rK (La.getD (i + 1) 0) = rK (La.getD i 0) ∧ (kd = 10 ∨ rT (La.getD (i + 1) 0) = rT (La.getD i 0)))) ∨ (c9 = 0 ∧ ¬ (i + 1 < La.length ∧ rK (La.getD (i + 1) 0) = rK (La.getD i 0) ∧ (kd = 10 ∨ rT (La.getD (i + 1) 0) = rT (La.getD i 0)))) → J G9 0 0 f1 129 [(0, .ref m), (1, .int (iZ (t))), (2, .int (iZ (a))), (3, .int (iZ (400 * a + (La.length : Int)))), (4, .long (lZ (sm + (rV (La.getD i 0))))), (6, .int (iZ (n + 1))), (7, .int (iZ (400 * a + (i : Int)))), (8, .int (iZ (b9)))] [.int (iZ (c9))] := by
          intro c9  hc9
          refine j_istore (lv' := [(0, .ref m), (1, .int (iZ (t))), (2, .int (iZ (a))), (3, .int (iZ (400 * a + (La.length : Int)))), (4, .long (lZ (sm + (rV (La.getD i 0))))), (6, .int (iZ (n + 1))), (7, .int (iZ (400 * a + (i : Int)))), (8, .int (iZ (b9))), (9, .int (iZ (c9)))]) hG dX12_makeHeaps_129 (by decide) rfl ?_
          refine j_iload hG dX12_makeHeaps_131 rfl ?_
          refine j_if_ne (tgt := 202) hG dX12_makeHeaps_133 (by decide) (by omega) (fun c4 => ?_) (fun c4 => ?_)
          · -- taken at 133
            have hsm : i + 1 < La.length ∧ rK (La.getD (i + 1) 0) = rK (La.getD i 0) ∧ (kd = 10 ∨ rT (La.getD (i + 1) 0) = rT (La.getD i 0)) := by rcases hc9 with q | q; exact q.2; exact absurd q.1 (by omega)
            refine j_iinc (a := 400 * a + (i : Int)) (lv' := [(0, .ref m), (1, .int (iZ (t))), (2, .int (iZ (a))), (3, .int (iZ (400 * a + (La.length : Int)))), (4, .long (lZ (sm + (rV (La.getD i 0))))), (6, .int (iZ (n + 1))), (7, .int (iZ ((400 * a + (i : Int)) + 1))), (8, .int (iZ (b9))), (9, .int (iZ (c9)))]) hG dX12_makeHeaps_202 rfl (by decide) rfl ?_
            refine j_goto (tgt := 33) hG dX12_makeHeaps_205 (by decide) ?_
            rw [hp_same (by omega) hlo hsm] at hr9
            refine j_lv (lv' := [(0, .ref m), (1, .int (iZ (t))), (2, .int (iZ (a))), (3, .int (iZ (400 * a + (La.length : Int)))), (4, .long (lZ (sm + (rV (La.getD i 0))))), (6, .int (iZ (n + 1))), (7, .int (iZ (400 * a + (i : Int) + 1)))]) (by simp) ?_
            rw [show 400 * a + (i : Int) + 1 = 400 * a + ((i + 1 : Nat) : Int) by omega]
            exact ih (i + 1) r _ _ V1 G1 f1 hW ho hv (by omega) hk9 hacc hr9 (by omega) (by omega) (by omega)
          · -- on at 133
            have hsm : ¬ (i + 1 < La.length ∧ rK (La.getD (i + 1) 0) = rK (La.getD i 0) ∧ (kd = 10 ∨ rT (La.getD (i + 1) 0) = rT (La.getD i 0))) := by rcases hc9 with q | q; exact absurd q.1 (by omega); exact q.2
            refine j_aload_n hG dX12_makeHeaps_136 rfl rfl ?_
            refine j_iload_n hG dX12_makeHeaps_137 rfl rfl ?_
            refine j_aload_n hG dX12_makeHeaps_138 rfl rfl ?_
            refine j_get (v := .ref (A 22)) hG fX12_60 dX12_makeHeaps_139 hW.1 rfl ?_
            refine j_iload hG dX12_makeHeaps_142 rfl ?_
            refine j_iald hG dX12_makeHeaps_144 (MF_a22 hW) (by omega) (by decide) ?_
            refine j_eq (show ((G1 22) (400 * a + (i : Int)) : Int) = (rK (La.getD i 0) : Int) from x9.1) ?_
            refine j_aload_n hG dX12_makeHeaps_145 rfl rfl ?_
            refine j_get (v := .ref (A 12)) hG fX12_30 dX12_makeHeaps_146 hW.1 rfl ?_
            refine j_iload_n hG dX12_makeHeaps_149 rfl rfl ?_
            refine j_iald hG dX12_makeHeaps_150 (MF_a12 hW) (by omega) (by decide) ?_
            refine j_eq (show ((G1 12) t : Int) = (kd : Int) from k12) ?_
            refine j_bipush hG dX12_makeHeaps_151 (by decide) ?_
            refine j_icmp_ne (tgt := 161) hG dX12_makeHeaps_153 (by decide) (by omega) (by omega) (fun c5 => ?_) (fun c5 => ?_)
            · -- taken at 153
              refine j_aload_n hG dX12_makeHeaps_161 rfl rfl ?_
              refine j_get (v := .ref (A 12)) hG fX12_30 dX12_makeHeaps_162 hW.1 rfl ?_
              refine j_iload_n hG dX12_makeHeaps_165 rfl rfl ?_
              refine j_iald hG dX12_makeHeaps_166 (MF_a12 hW) (by omega) (by decide) ?_
              refine j_eq (show ((G1 12) t : Int) = (kd : Int) from k12) ?_
              refine j_bipush hG dX12_makeHeaps_167 (by decide) ?_
              refine j_icmp_ne (tgt := 178) hG dX12_makeHeaps_169 (by decide) (by omega) (by omega) (fun c6 => ?_) (fun c6 => ?_)
              · -- taken at 169
                refine j_aload_n hG dX12_makeHeaps_178 rfl rfl ?_
                refine j_get (v := .ref (A 23)) hG fX12_63 dX12_makeHeaps_179 hW.1 rfl ?_
                refine j_iload hG dX12_makeHeaps_182 rfl ?_
                refine j_iald hG dX12_makeHeaps_184 (MF_a23 hW) (by omega) (by decide) ?_
                refine j_eq (show ((G1 23) (400 * a + (i : Int)) : Int) = (rV (La.getD i 0) : Int) from x9.2.1) ?_
                refine j_i2l hG dX12_makeHeaps_185 (by omega) ?_
                refine j_aload_n hG dX12_makeHeaps_186 rfl rfl ?_
                refine j_get (v := .ref (A 24)) hG fX12_66 dX12_makeHeaps_187 hW.1 rfl ?_
                refine j_iload hG dX12_makeHeaps_190 rfl ?_
                refine j_iald hG dX12_makeHeaps_192 (MF_a24 hW) (by omega) (by decide) ?_
                refine j_eq (show ((G1 24) (400 * a + (i : Int)) : Int) = (rT (La.getD i 0) : Int) from x9.2.2) ?_
                refine j_callV (rest := []) hG vX12_159 dX12_makeHeaps_193 (c_X12_add (t := t) (k := rK (La.getD i 0)) (u := rV (La.getD i 0)) (tm := rT (La.getD i 0)) (r := r) hW ht0 (by omega) (by omega) (by omega) hk9 hacc) hW.1 rfl rfl (by decide) (by decide) (Nat.le_of_ble_eq_true rfl) rfl rfl (Nat.zero_le _) (Nat.zero_le _) ?_
                rintro _ f13 ⟨rfl, V7, G8, hW9, hacc10, ho11, hv12⟩
                refine j_st (st' := []) rfl ?_
                have ho14 := oth_tr ho ho11
                have hv15 := othV_tr hv hv12
                refine j_lconst (y := 0) hG dX12_makeHeaps_196 (by decide) ?_
                refine j_lstore (lv' := [(0, .ref m), (1, .int (iZ (t))), (2, .int (iZ (a))), (3, .int (iZ (400 * a + (La.length : Int)))), (4, .long (lZ (0))), (6, .int (iZ (n + 1))), (7, .int (iZ (400 * a + (i : Int)))), (8, .int (iZ (b9))), (9, .int (iZ (c9)))]) hG dX12_makeHeaps_197 (by decide) rfl ?_
                refine j_iconst hG dX12_makeHeaps_199 ?_
                refine j_istore (lv' := [(0, .ref m), (1, .int (iZ (t))), (2, .int (iZ (a))), (3, .int (iZ (400 * a + (La.length : Int)))), (4, .long (lZ (0))), (6, .int (iZ (0))), (7, .int (iZ (400 * a + (i : Int)))), (8, .int (iZ (b9))), (9, .int (iZ (c9)))]) hG dX12_makeHeaps_200 (by decide) rfl ?_
                refine j_iinc (a := 400 * a + (i : Int)) (lv' := [(0, .ref m), (1, .int (iZ (t))), (2, .int (iZ (a))), (3, .int (iZ (400 * a + (La.length : Int)))), (4, .long (lZ (0))), (6, .int (iZ (0))), (7, .int (iZ ((400 * a + (i : Int)) + 1))), (8, .int (iZ (b9))), (9, .int (iZ (c9)))]) hG dX12_makeHeaps_202 rfl (by decide) rfl ?_
                refine j_goto (tgt := 33) hG dX12_makeHeaps_205 (by decide) ?_
                have e9 : (rK (La.getD i 0), rT (La.getD i 0), if kd = 7 then sm + rV (La.getD i 0) else if kd = 8 then n + 1 else rV (La.getD i 0)) = ((rK (La.getD i 0), rT (La.getD i 0), rV (La.getD i 0)) : Tr) := by (repeat (first | rw [if_pos (by omega)] | rw [if_neg (by omega)]))
                rw [hp_new (by omega) hlo hsm, e9] at hr9
                refine j_lv (lv' := [(0, .ref m), (1, .int (iZ (t))), (2, .int (iZ (a))), (3, .int (iZ (400 * a + (La.length : Int)))), (4, .long (lZ (0))), (6, .int (iZ (0))), (7, .int (iZ (400 * a + (i : Int) + 1)))]) (by simp) ?_
                rw [show 400 * a + (i : Int) + 1 = 400 * a + ((i + 1 : Nat) : Int) by omega]
                exact ih (i + 1) (r ++ [(rK (La.getD i 0), rT (La.getD i 0), rV (La.getD i 0))]) 0 0 V7 G8 f13 hW9 ho14 hv15 (by omega) (kOk_snoc hk9 ⟨by simp only []; omega, by simp only []; omega⟩) hacc10 (by rw [List.append_assoc]; exact hr9) (by omega) (by omega) (by omega)
              · -- on at 169
                refine j_iload hG dX12_makeHeaps_172 rfl ?_
                refine j_i2l hG dX12_makeHeaps_174 (by omega) ?_
                refine j_goto (tgt := 186) hG dX12_makeHeaps_175 (by decide) ?_
                refine j_aload_n hG dX12_makeHeaps_186 rfl rfl ?_
                refine j_get (v := .ref (A 24)) hG fX12_66 dX12_makeHeaps_187 hW.1 rfl ?_
                refine j_iload hG dX12_makeHeaps_190 rfl ?_
                refine j_iald hG dX12_makeHeaps_192 (MF_a24 hW) (by omega) (by decide) ?_
                refine j_eq (show ((G1 24) (400 * a + (i : Int)) : Int) = (rT (La.getD i 0) : Int) from x9.2.2) ?_
                refine j_callV (rest := []) hG vX12_159 dX12_makeHeaps_193 (c_X12_add (t := t) (k := rK (La.getD i 0)) (u := n + 1) (tm := rT (La.getD i 0)) (r := r) hW ht0 (by omega) (by omega) (by omega) hk9 hacc) hW.1 rfl rfl (by decide) (by decide) (Nat.le_of_ble_eq_true rfl) rfl rfl (Nat.zero_le _) (Nat.zero_le _) ?_
                rintro _ f22 ⟨rfl, V16, G17, hW18, hacc19, ho20, hv21⟩
                refine j_st (st' := []) rfl ?_
                have ho23 := oth_tr ho ho20
                have hv24 := othV_tr hv hv21
                refine j_lconst (y := 0) hG dX12_makeHeaps_196 (by decide) ?_
                refine j_lstore (lv' := [(0, .ref m), (1, .int (iZ (t))), (2, .int (iZ (a))), (3, .int (iZ (400 * a + (La.length : Int)))), (4, .long (lZ (0))), (6, .int (iZ (n + 1))), (7, .int (iZ (400 * a + (i : Int)))), (8, .int (iZ (b9))), (9, .int (iZ (c9)))]) hG dX12_makeHeaps_197 (by decide) rfl ?_
                refine j_iconst hG dX12_makeHeaps_199 ?_
                refine j_istore (lv' := [(0, .ref m), (1, .int (iZ (t))), (2, .int (iZ (a))), (3, .int (iZ (400 * a + (La.length : Int)))), (4, .long (lZ (0))), (6, .int (iZ (0))), (7, .int (iZ (400 * a + (i : Int)))), (8, .int (iZ (b9))), (9, .int (iZ (c9)))]) hG dX12_makeHeaps_200 (by decide) rfl ?_
                refine j_iinc (a := 400 * a + (i : Int)) (lv' := [(0, .ref m), (1, .int (iZ (t))), (2, .int (iZ (a))), (3, .int (iZ (400 * a + (La.length : Int)))), (4, .long (lZ (0))), (6, .int (iZ (0))), (7, .int (iZ ((400 * a + (i : Int)) + 1))), (8, .int (iZ (b9))), (9, .int (iZ (c9)))]) hG dX12_makeHeaps_202 rfl (by decide) rfl ?_
                refine j_goto (tgt := 33) hG dX12_makeHeaps_205 (by decide) ?_
                have e9 : (rK (La.getD i 0), rT (La.getD i 0), if kd = 7 then sm + rV (La.getD i 0) else if kd = 8 then n + 1 else rV (La.getD i 0)) = ((rK (La.getD i 0), rT (La.getD i 0), n + 1) : Tr) := by (repeat (first | rw [if_pos (by omega)] | rw [if_neg (by omega)]))
                rw [hp_new (by omega) hlo hsm, e9] at hr9
                refine j_lv (lv' := [(0, .ref m), (1, .int (iZ (t))), (2, .int (iZ (a))), (3, .int (iZ (400 * a + (La.length : Int)))), (4, .long (lZ (0))), (6, .int (iZ (0))), (7, .int (iZ (400 * a + (i : Int) + 1)))]) (by simp) ?_
                rw [show 400 * a + (i : Int) + 1 = 400 * a + ((i + 1 : Nat) : Int) by omega]
                exact ih (i + 1) (r ++ [(rK (La.getD i 0), rT (La.getD i 0), n + 1)]) 0 0 V16 G17 f22 hW18 ho23 hv24 (by omega) (kOk_snoc hk9 ⟨by simp only []; omega, by simp only []; omega⟩) hacc19 (by rw [List.append_assoc]; exact hr9) (by omega) (by omega) (by omega)
            · -- on at 153
              refine j_lload hG dX12_makeHeaps_156 rfl ?_
              refine j_goto (tgt := 186) hG dX12_makeHeaps_158 (by decide) ?_
              refine j_aload_n hG dX12_makeHeaps_186 rfl rfl ?_
              refine j_get (v := .ref (A 24)) hG fX12_66 dX12_makeHeaps_187 hW.1 rfl ?_
              refine j_iload hG dX12_makeHeaps_190 rfl ?_
              refine j_iald hG dX12_makeHeaps_192 (MF_a24 hW) (by omega) (by decide) ?_
              refine j_eq (show ((G1 24) (400 * a + (i : Int)) : Int) = (rT (La.getD i 0) : Int) from x9.2.2) ?_
              refine j_callV (rest := []) hG vX12_159 dX12_makeHeaps_193 (c_X12_add (t := t) (k := rK (La.getD i 0)) (u := sm + (rV (La.getD i 0))) (tm := rT (La.getD i 0)) (r := r) hW ht0 (by omega) (by omega) (by omega) hk9 hacc) hW.1 rfl rfl (by decide) (by decide) (Nat.le_of_ble_eq_true rfl) rfl rfl (Nat.zero_le _) (Nat.zero_le _) ?_
              rintro _ f31 ⟨rfl, V25, G26, hW27, hacc28, ho29, hv30⟩
              refine j_st (st' := []) rfl ?_
              have ho32 := oth_tr ho ho29
              have hv33 := othV_tr hv hv30
              refine j_lconst (y := 0) hG dX12_makeHeaps_196 (by decide) ?_
              refine j_lstore (lv' := [(0, .ref m), (1, .int (iZ (t))), (2, .int (iZ (a))), (3, .int (iZ (400 * a + (La.length : Int)))), (4, .long (lZ (0))), (6, .int (iZ (n + 1))), (7, .int (iZ (400 * a + (i : Int)))), (8, .int (iZ (b9))), (9, .int (iZ (c9)))]) hG dX12_makeHeaps_197 (by decide) rfl ?_
              refine j_iconst hG dX12_makeHeaps_199 ?_
              refine j_istore (lv' := [(0, .ref m), (1, .int (iZ (t))), (2, .int (iZ (a))), (3, .int (iZ (400 * a + (La.length : Int)))), (4, .long (lZ (0))), (6, .int (iZ (0))), (7, .int (iZ (400 * a + (i : Int)))), (8, .int (iZ (b9))), (9, .int (iZ (c9)))]) hG dX12_makeHeaps_200 (by decide) rfl ?_
              refine j_iinc (a := 400 * a + (i : Int)) (lv' := [(0, .ref m), (1, .int (iZ (t))), (2, .int (iZ (a))), (3, .int (iZ (400 * a + (La.length : Int)))), (4, .long (lZ (0))), (6, .int (iZ (0))), (7, .int (iZ ((400 * a + (i : Int)) + 1))), (8, .int (iZ (b9))), (9, .int (iZ (c9)))]) hG dX12_makeHeaps_202 rfl (by decide) rfl ?_
              refine j_goto (tgt := 33) hG dX12_makeHeaps_205 (by decide) ?_
              have e9 : (rK (La.getD i 0), rT (La.getD i 0), if kd = 7 then sm + rV (La.getD i 0) else if kd = 8 then n + 1 else rV (La.getD i 0)) = ((rK (La.getD i 0), rT (La.getD i 0), sm + (rV (La.getD i 0))) : Tr) := by (repeat (first | rw [if_pos (by omega)] | rw [if_neg (by omega)]))
              rw [hp_new (by omega) hlo hsm, e9] at hr9
              refine j_lv (lv' := [(0, .ref m), (1, .int (iZ (t))), (2, .int (iZ (a))), (3, .int (iZ (400 * a + (La.length : Int)))), (4, .long (lZ (0))), (6, .int (iZ (0))), (7, .int (iZ (400 * a + (i : Int) + 1)))]) (by simp) ?_
              rw [show 400 * a + (i : Int) + 1 = 400 * a + ((i + 1 : Nat) : Int) by omega]
              exact ih (i + 1) (r ++ [(rK (La.getD i 0), rT (La.getD i 0), sm + (rV (La.getD i 0)))]) 0 0 V25 G26 f31 hW27 ho32 hv33 (by omega) (kOk_snoc hk9 ⟨by simp only []; omega, by simp only []; omega⟩) hacc28 (by rw [List.append_assoc]; exact hr9) (by omega) (by omega) (by omega)
        refine j_iload hG dX12_makeHeaps_89 rfl ?_
        refine j_if_eq (tgt := 128) hG dX12_makeHeaps_91 (by decide) (by omega) (fun c34 => ?_) (fun c34 => ?_)
        · -- taken at 91
          refine j_iconst hG dX12_makeHeaps_128 ?_
          exact hj3 (0) (Or.inr ⟨rfl, by omega⟩)
        · -- on at 91
          refine j_aload_n hG dX12_makeHeaps_94 rfl rfl ?_
          refine j_get (v := .ref (A 12)) hG fX12_30 dX12_makeHeaps_95 hW.1 rfl ?_
          refine j_iload_n hG dX12_makeHeaps_98 rfl rfl ?_
          refine j_iald hG dX12_makeHeaps_99 (MF_a12 hW) (by omega) (by decide) ?_
          refine j_eq (show ((G1 12) t : Int) = (kd : Int) from k12) ?_
          refine j_bipush hG dX12_makeHeaps_100 (by decide) ?_
          refine j_icmp_eq (tgt := 124) hG dX12_makeHeaps_102 (by decide) (by omega) (by omega) (fun c35 => ?_) (fun c35 => ?_)
          · -- taken at 102
            refine j_iconst hG dX12_makeHeaps_124 ?_
            refine j_goto (tgt := 129) hG dX12_makeHeaps_125 (by decide) ?_
            exact hj3 (1) (Or.inl ⟨rfl, by omega⟩)
          · -- on at 102
            have i9 : i + 1 < La.length := by omega
            have y9 := hA1.2 (i + 1) (by omega)
            rw [show 400 * a + ((i + 1 : Nat) : Int) = 400 * a + (i : Int) + 1 by omega] at y9
            have hyo := hlo _ (gd_mem (L := La) (i := i + 1) (by omega))
            have yr1 := rK_rng hyo.1
            have yr2 := rT_rng hyo.1
            refine j_aload_n hG dX12_makeHeaps_105 rfl rfl ?_
            refine j_get (v := .ref (A 24)) hG fX12_66 dX12_makeHeaps_106 hW.1 rfl ?_
            refine j_iload hG dX12_makeHeaps_109 rfl ?_
            refine j_iconst hG dX12_makeHeaps_111 ?_
            refine j_iadd hG dX12_makeHeaps_112 ?_
            refine j_iald hG dX12_makeHeaps_113 (MF_a24 hW) (by omega) (by decide) ?_
            refine j_aload_n hG dX12_makeHeaps_114 rfl rfl ?_
            refine j_get (v := .ref (A 24)) hG fX12_66 dX12_makeHeaps_115 hW.1 rfl ?_
            refine j_iload hG dX12_makeHeaps_118 rfl ?_
            refine j_iald hG dX12_makeHeaps_120 (MF_a24 hW) (by omega) (by decide) ?_
            refine j_eq (show ((G1 24) (400 * a + (i : Int)) : Int) = (rT (La.getD i 0) : Int) from x9.2.2) ?_
            refine j_icmp_ne (tgt := 128) hG dX12_makeHeaps_121 (by decide) (by omega) (by omega) (fun c36 => ?_) (fun c36 => ?_)
            · -- taken at 121
              refine j_iconst hG dX12_makeHeaps_128 ?_
              exact hj3 (0) (Or.inr ⟨rfl, by omega⟩)
            · -- on at 121
              refine j_iconst hG dX12_makeHeaps_124 ?_
              refine j_goto (tgt := 129) hG dX12_makeHeaps_125 (by decide) ?_
              exact hj3 (1) (Or.inl ⟨rfl, by omega⟩)
      refine j_iload hG dX12_makeHeaps_55 rfl ?_
      refine j_iconst hG dX12_makeHeaps_57 ?_
      refine j_iadd hG dX12_makeHeaps_58 ?_
      refine j_iload_n hG dX12_makeHeaps_59 rfl rfl ?_
      refine j_icmp_ge (tgt := 86) hG dX12_makeHeaps_60 (by decide) (by omega) (by omega) (fun c37 => ?_) (fun c37 => ?_)
      · -- taken at 60
        refine j_iconst hG dX12_makeHeaps_86 ?_
        exact hj2 (0) (Or.inr ⟨rfl, by omega⟩)
      · -- on at 60
        have y9 := hA1.2 (i + 1) (by omega)
        rw [show 400 * a + ((i + 1 : Nat) : Int) = 400 * a + (i : Int) + 1 by omega] at y9
        have hyo := hlo _ (gd_mem (L := La) (i := i + 1) (by omega))
        have yr1 := rK_rng hyo.1
        have yr2 := rT_rng hyo.1
        refine j_aload_n hG dX12_makeHeaps_63 rfl rfl ?_
        refine j_get (v := .ref (A 22)) hG fX12_60 dX12_makeHeaps_64 hW.1 rfl ?_
        refine j_iload hG dX12_makeHeaps_67 rfl ?_
        refine j_iconst hG dX12_makeHeaps_69 ?_
        refine j_iadd hG dX12_makeHeaps_70 ?_
        refine j_iald hG dX12_makeHeaps_71 (MF_a22 hW) (by omega) (by decide) ?_
        refine j_aload_n hG dX12_makeHeaps_72 rfl rfl ?_
        refine j_get (v := .ref (A 22)) hG fX12_60 dX12_makeHeaps_73 hW.1 rfl ?_
        refine j_iload hG dX12_makeHeaps_76 rfl ?_
        refine j_iald hG dX12_makeHeaps_78 (MF_a22 hW) (by omega) (by decide) ?_
        refine j_eq (show ((G1 22) (400 * a + (i : Int)) : Int) = (rK (La.getD i 0) : Int) from x9.1) ?_
        refine j_icmp_ne (tgt := 86) hG dX12_makeHeaps_79 (by decide) (by omega) (by omega) (fun c38 => ?_) (fun c38 => ?_)
        · -- taken at 79
          refine j_iconst hG dX12_makeHeaps_86 ?_
          exact hj2 (0) (Or.inr ⟨rfl, by omega⟩)
        · -- on at 79
          refine j_iconst hG dX12_makeHeaps_82 ?_
          refine j_goto (tgt := 87) hG dX12_makeHeaps_83 (by decide) ?_
          exact hj2 (1) (Or.inl ⟨rfl, by omega⟩)
theorem c_X12_makeHeaps {l : Launch} {E : JE} {f : Hp} {rg : Nat → Nat} {f0 : Hp} {m : Nat} {A : Nat → Nat} {V : Nat → Int} {G : Nat → Int → Int} {t a kd : Int} {La : List Int} (hW : MF E rg f0 f m A V G) (ht0 : 0 ≤ t ∧ t < 12) (ha : 0 ≤ a ∧ a < t) (h12 : G 12 t = kd) (h13 : G 13 t = a) (hkd : 7 ≤ kd ∧ kd ≤ 10) (hLa : nrep G a La) (hlo : lOk La) (hll : La.length ≤ 400) (hacc : macc V G t []) : KX12_makeHeaps l E [.ref m, .int (iZ (t))] f (fun v f' => v = none ∧ ∃ (V' : Nat → Int) (G' : Nat → Int → Int), MF E rg f0 f' m A V' G' ∧ macc V' G' t (hp kd 0 0 La) ∧ oth G G' t ∧ othV V V') := by
  refine ct_of (own := RX12) (lv := [(0, .ref m), (1, .int (iZ (t)))]) (by decide +kernel) rfl (Nat.le_of_ble_eq_true rfl) rfl ?_
  intro G9 hG hZ
  refine j_aload_n hG dX12_makeHeaps_0 rfl rfl ?_
  refine j_get (v := .ref (A 13)) hG fX12_33 dX12_makeHeaps_1 hW.1 rfl ?_
  refine j_iload_n hG dX12_makeHeaps_4 rfl rfl ?_
  refine j_iald hG dX12_makeHeaps_5 (MF_a13 hW) (by omega) (by decide) ?_
  refine j_eq (show ((G 13) t : Int) = (a : Int) from h13) ?_
  refine j_istore_n (lv' := [(0, .ref m), (1, .int (iZ (t))), (2, .int (iZ (a)))]) hG dX12_makeHeaps_6 rfl (by decide) rfl ?_
  refine j_sipush hG dX12_makeHeaps_7 (by decide) ?_
  refine j_iload_n hG dX12_makeHeaps_10 rfl rfl ?_
  refine j_imul hG dX12_makeHeaps_11 ?_
  refine j_aload_n hG dX12_makeHeaps_12 rfl rfl ?_
  refine j_get (v := .ref (A 21)) hG fX12_57 dX12_makeHeaps_13 hW.1 rfl ?_
  refine j_iload_n hG dX12_makeHeaps_16 rfl rfl ?_
  refine j_iald hG dX12_makeHeaps_17 (MF_a21 hW) (by omega) (by decide) ?_
  refine j_eq (show ((G 21) a : Int) = ((La.length : Int) : Int) from hLa.1) ?_
  refine j_iadd hG dX12_makeHeaps_18 ?_
  refine j_istore_n (lv' := [(0, .ref m), (1, .int (iZ (t))), (2, .int (iZ (a))), (3, .int (iZ ((400 * a) + (La.length : Int))))]) hG dX12_makeHeaps_19 rfl (by decide) rfl ?_
  refine j_lconst (y := 0) hG dX12_makeHeaps_20 (by decide) ?_
  refine j_lstore (lv' := [(0, .ref m), (1, .int (iZ (t))), (2, .int (iZ (a))), (3, .int (iZ ((400 * a) + (La.length : Int)))), (4, .long (lZ (0)))]) hG dX12_makeHeaps_21 (by decide) rfl ?_
  refine j_iconst hG dX12_makeHeaps_23 ?_
  refine j_istore (lv' := [(0, .ref m), (1, .int (iZ (t))), (2, .int (iZ (a))), (3, .int (iZ ((400 * a) + (La.length : Int)))), (4, .long (lZ (0))), (6, .int (iZ (0)))]) hG dX12_makeHeaps_24 (by decide) rfl ?_
  refine j_sipush hG dX12_makeHeaps_26 (by decide) ?_
  refine j_iload_n hG dX12_makeHeaps_29 rfl rfl ?_
  refine j_imul hG dX12_makeHeaps_30 ?_
  refine j_istore (lv' := [(0, .ref m), (1, .int (iZ (t))), (2, .int (iZ (a))), (3, .int (iZ ((400 * a) + (La.length : Int)))), (4, .long (lZ (0))), (6, .int (iZ (0))), (7, .int (iZ (400 * a)))]) hG dX12_makeHeaps_31 (by decide) rfl ?_
  refine j_lv (lv' := [(0, .ref m), (1, .int (iZ (t))), (2, .int (iZ (a))), (3, .int (iZ ((400 * a) + (La.length : Int)))), (4, .long (lZ (0))), (6, .int (iZ (0))), (7, .int (iZ (400 * a + ((0 : Nat) : Int))))]) (by simp) ?_
  exact l_X12_makeHeaps hG hZ ht0 ha h12 h13 hkd hLa hlo hll (fun f' V' G' a1 a2 a3 a4 => ⟨rfl, V', G', a1, a2, a3, a4⟩) (La.length + 1) 0 [] 0 0 V G f hW oth_rf (fun _ _ => rfl) (by omega) (fun p hp => by cases hp) hacc rfl (by omega) (by omega) (by omega)
