theorem flat_snoc {L : List Int} {e : Int → List Tr} {i : Nat} (h : i < L.length) : (L.take (i + 1)).flatMap e = (L.take i).flatMap e ++ e (L.getD i 0) := by
  rw [take_snoc h, List.flatMap_append]
  simp
theorem take_l {L : List Int} (h : lOk L) (i : Nat) : ∀ x ∈ L.take i, rOk x := fun x hx => (h x (List.mem_of_mem_take hx)).1
theorem each_fk {L : List Int} {kd col rel num : Int} (h : ∀ x ∈ L, rOk x) (h5 : kd = 5 → 1 ≤ num) : ∀ p ∈ L.flatMap (each1 kd col rel num), kOk p := fun p hp => by
  obtain ⟨x, hx, hp⟩ := List.mem_flatMap.mp hp
  exact each_k (h x hx) h5 p hp
theorem mulb {a b : Int} (ha : -1000000000 ≤ a ∧ a ≤ 1147483648) (hb : -1000 ≤ b ∧ b ≤ 1000) : -4611686018427387904 ≤ a * b ∧ a * b ≤ 4611686018427387904 := by
  have h1 : 0 ≤ (a + 1147483648) * (b + 1000) := Int.mul_nonneg (by omega) (by omega)
  have h2 : 0 ≤ (1147483648 - a) * (1000 - b) := Int.mul_nonneg (by omega) (by omega)
  have h3 : 0 ≤ (a + 1147483648) * (1000 - b) := Int.mul_nonneg (by omega) (by omega)
  have h4 : 0 ≤ (1147483648 - a) * (b + 1000) := Int.mul_nonneg (by omega) (by omega)
  rw [Int.add_mul, Int.mul_add, Int.mul_add] at h1
  rw [Int.sub_mul, Int.mul_sub, Int.mul_sub] at h2
  rw [Int.add_mul, Int.mul_sub, Int.mul_sub] at h3
  rw [Int.sub_mul, Int.mul_add, Int.mul_add] at h4
  omega
theorem l_X12_makeEach {G9 : JG} {l : Launch} {E : JE} {P : Option Value → Hp → Prop} (hG : jX G9 l E cX12_makeEach RX12 5 rmX12_makeEach) (hZ : jZ G9 none P) {rg : Nat → Nat} {f0 : Hp} {m : Nat} {A : Nat → Nat} {V : Nat → Int} {G : Nat → Int → Int} {t a : Int} {La : List Int} {kd col rel num : Int} (ht0 : 0 ≤ t ∧ t < 12) (ha : 0 ≤ a ∧ a < t) (h12 : G 12 t = kd) (h13 : G 13 t = a) (h14 : G 14 t = num) (hkd : 1 ≤ kd ∧ kd ≤ 6) (h15 : kd = 1 → G 15 t = col ∧ G 16 t = rel) (hmk : (0 ≤ col ∧ col ≤ 2) ∧ (0 ≤ rel ∧ rel < 65536) ∧ (-1000 ≤ num ∧ num ≤ 1000) ∧ (kd = 4 → 0 ≤ num) ∧ (kd = 5 → 1 ≤ num)) (hLa : nrep G a La) (hlo : lOk La) (hll : La.length ≤ 400) (hP : ∀ (f' : Hp) (V' : Nat → Int) (G' : Nat → Int → Int), MF E rg f0 f' m A V' G' → macc V' G' t (La.flatMap (each1 kd col rel num)) → oth G G' t → othV V V' → P none f') :
    ∀ (d : Nat) (i : Nat) (V1 : Nat → Int) (G1 : Nat → Int → Int) (f1 : Hp), (hW : MF E rg f0 f1 m A V1 G1) → (ho : oth G G1 t) → (hv : othV V V1) → (hi : i ≤ La.length) → (hacc : macc V1 G1 t ((La.take i).flatMap (each1 kd col rel num))) → (La.length - i) < d → J G9 0 0 f1 13 [(0, .ref m), (1, .int (iZ (t))), (2, .int (iZ (a))), (3, .int (iZ (400 * a + (i : Int))))] [] := by
  intro d
  induction d with
  | zero => intro i V1 G1 f1 hW ho hv hi hacc hd9; exfalso; omega
  | succ d ih =>
    intro i V1 G1 f1 hW ho hv hi hacc hd9
    have hA1 := nrep_oth ho (Or.inl ha.2) hll hLa
    have k12 : G1 12 t = kd := by rw [ho.1 12 (by decide) (by decide) (by decide) (by decide)]; exact h12
    have k14 : G1 14 t = num := by rw [ho.1 14 (by decide) (by decide) (by decide) (by decide)]; exact h14
    refine j_iload_n hG dX12_makeEach_13 rfl rfl ?_
    refine j_sipush hG dX12_makeEach_14 (by decide) ?_
    refine j_iload_n hG dX12_makeEach_17 rfl rfl ?_
    refine j_imul hG dX12_makeEach_18 ?_
    refine j_aload_n hG dX12_makeEach_19 rfl rfl ?_
    refine j_get (v := .ref (A 21)) hG fX12_57 dX12_makeEach_20 hW.1 rfl ?_
    refine j_iload_n hG dX12_makeEach_23 rfl rfl ?_
    refine j_iald hG dX12_makeEach_24 (MF_a21 hW) (by omega) (by decide) ?_
    refine j_eq (show ((G1 21) a : Int) = ((La.length : Int) : Int) from hA1.1) ?_
    refine j_iadd hG dX12_makeEach_25 ?_
    refine j_icmp_ge (tgt := 374) hG dX12_makeEach_26 (by decide) (by omega) (by omega) (fun c1 => ?_) (fun c1 => ?_)
    · -- taken at 26
      have e9 : i = La.length := by omega
      subst e9
      rw [List.take_length] at hacc
      exact j_vret hG hZ dX12_makeEach_374 (Nat.zero_le _) (Nat.zero_le _) (hP f1 V1 G1 hW hacc ho hv)
    · -- on at 26
      have x9 := hA1.2 i (by omega)
      have hxo := hlo _ (gd_mem (L := La) (i := i) (by omega))
      have xr1 := rK_rng hxo.1
      have xr2 := rT_rng hxo.1
      have xr3 := rV_rng hxo.1
      refine j_aload_n hG dX12_makeEach_29 rfl rfl ?_
      refine j_get (v := .ref (A 12)) hG fX12_30 dX12_makeEach_30 hW.1 rfl ?_
      refine j_iload_n hG dX12_makeEach_33 rfl rfl ?_
      refine j_iald hG dX12_makeEach_34 (MF_a12 hW) (by omega) (by decide) ?_
      refine j_eq (show ((G1 12) t : Int) = (kd : Int) from k12) ?_
      rcases (show (kd < 1 ∨ 5 < kd) ∨ kd = 1 ∨ kd = 2 ∨ kd = 3 ∨ kd = 4 ∨ kd = 5 by omega) with c2 | c2 | c2 | c2 | c2 | c2
      · -- case None at 35
        refine j_tswOut (tgt := 349) hG dX12_makeEach_35 c2 (by omega) (by decide) ?_
        refine j_aload_n hG dX12_makeEach_349 rfl rfl ?_
        refine j_iload_n hG dX12_makeEach_350 rfl rfl ?_
        refine j_aload_n hG dX12_makeEach_351 rfl rfl ?_
        refine j_get (v := .ref (A 22)) hG fX12_60 dX12_makeEach_352 hW.1 rfl ?_
        refine j_iload_n hG dX12_makeEach_355 rfl rfl ?_
        refine j_iald hG dX12_makeEach_356 (MF_a22 hW) (by omega) (by decide) ?_
        refine j_eq (show ((G1 22) (400 * a + (i : Int)) : Int) = (rK (La.getD i 0) : Int) from x9.1) ?_
        refine j_aload_n hG dX12_makeEach_357 rfl rfl ?_
        refine j_get (v := .ref (A 23)) hG fX12_63 dX12_makeEach_358 hW.1 rfl ?_
        refine j_iload_n hG dX12_makeEach_361 rfl rfl ?_
        refine j_iald hG dX12_makeEach_362 (MF_a23 hW) (by omega) (by decide) ?_
        refine j_eq (show ((G1 23) (400 * a + (i : Int)) : Int) = (rV (La.getD i 0) : Int) from x9.2.1) ?_
        refine j_i2l hG dX12_makeEach_363 (by omega) ?_
        refine j_iconst hG dX12_makeEach_364 ?_
        refine j_callV (rest := []) hG vX12_159 dX12_makeEach_365 (c_X12_add (t := t) (k := rK (La.getD i 0)) (u := rV (La.getD i 0)) (tm := 0) (r := (La.take i).flatMap (each1 kd col rel num)) hW ht0 (by omega) (by omega) (by omega) (each_fk (take_l hlo i) hmk.2.2.2.2) hacc) hW.1 rfl rfl (by decide) (by decide) (Nat.le_of_ble_eq_true rfl) rfl rfl (Nat.zero_le _) (Nat.zero_le _) ?_
        rintro _ f9 ⟨rfl, V3, G4, hW5, hacc6, ho7, hv8⟩
        refine j_st (st' := []) rfl ?_
        have ho10 := oth_tr ho ho7
        have hv11 := othV_tr hv hv8
        refine j_iinc (a := 400 * a + (i : Int)) (lv' := [(0, .ref m), (1, .int (iZ (t))), (2, .int (iZ (a))), (3, .int (iZ ((400 * a + (i : Int)) + 1)))]) hG dX12_makeEach_368 rfl (by decide) rfl ?_
        refine j_goto (tgt := 13) hG dX12_makeEach_371 (by decide) ?_
        have e9 : each1 kd col rel num (La.getD i 0) = [(rK (La.getD i 0), 0, rV (La.getD i 0))] := by unfold each1; (repeat (first | rw [if_pos (by omega)] | rw [if_neg (by omega)]))
        refine j_lv (lv' := [(0, .ref m), (1, .int (iZ (t))), (2, .int (iZ (a))), (3, .int (iZ (400 * a + (i : Int) + 1)))]) (by simp) ?_
        rw [show 400 * a + (i : Int) + 1 = 400 * a + ((i + 1 : Nat) : Int) by omega]
        exact ih (i + 1) V3 G4 f9 hW5 ho10 hv11 (by omega) (by rw [flat_snoc (by omega), e9]; exact hacc6) (by omega)
      · -- case 1 at 35
        refine j_tswIn (tgt := 68) (off := 33) hG (1) dX12_makeEach_35 c2 (by decide) (by decide) rfl (by decide) ?_
        have k15 : G1 15 t = col ∧ G1 16 t = rel := by rw [ho.1 15 (by decide) (by decide) (by decide) (by decide), ho.1 16 (by decide) (by decide) (by decide) (by decide)]; exact h15 (by omega)
        have hj12 : ∀ (v9 : Int) , v9 = rP (La.getD i 0) col → J G9 0 0 f1 111 [(0, .ref m), (1, .int (iZ (t))), (2, .int (iZ (a))), (3, .int (iZ (400 * a + (i : Int))))] [.int (iZ (v9))] := by
          intro v9  hx9
          have rp9 : -2147483648 ≤ v9 ∧ v9 < 2147483648 := by rw [hx9]; unfold rP; split; omega; split; omega; split <;> omega
          refine j_istore (lv' := [(0, .ref m), (1, .int (iZ (t))), (2, .int (iZ (a))), (3, .int (iZ (400 * a + (i : Int)))), (4, .int (iZ (v9)))]) hG dX12_makeEach_111 (by decide) rfl ?_
          refine j_aload_n hG dX12_makeEach_113 rfl rfl ?_
          refine j_get (v := .ref (A 16)) hG fX12_42 dX12_makeEach_114 hW.1 rfl ?_
          refine j_iload_n hG dX12_makeEach_117 rfl rfl ?_
          refine j_iald hG dX12_makeEach_118 (MF_a16 hW) (by omega) (by decide) ?_
          refine j_eq (show ((G1 16) t : Int) = (rel : Int) from k15.2) ?_
          refine j_bipush hG dX12_makeEach_119 (by decide) ?_
          refine j_icmp_ne (tgt := 138) hG dX12_makeEach_121 (by decide) (by omega) (by omega) (fun c13 => ?_) (fun c13 => ?_)
          · -- taken at 121
            refine j_aload_n hG dX12_makeEach_138 rfl rfl ?_
            refine j_get (v := .ref (A 16)) hG fX12_42 dX12_makeEach_139 hW.1 rfl ?_
            refine j_iload_n hG dX12_makeEach_142 rfl rfl ?_
            refine j_iald hG dX12_makeEach_143 (MF_a16 hW) (by omega) (by decide) ?_
            refine j_eq (show ((G1 16) t : Int) = (rel : Int) from k15.2) ?_
            refine j_bipush hG dX12_makeEach_144 (by decide) ?_
            refine j_icmp_ne (tgt := 163) hG dX12_makeEach_146 (by decide) (by omega) (by omega) (fun c14 => ?_) (fun c14 => ?_)
            · -- taken at 146
              refine j_iload hG dX12_makeEach_163 rfl ?_
              refine j_aload_n hG dX12_makeEach_165 rfl rfl ?_
              refine j_get (v := .ref (A 14)) hG fX12_36 dX12_makeEach_166 hW.1 rfl ?_
              refine j_iload_n hG dX12_makeEach_169 rfl rfl ?_
              refine j_iald hG dX12_makeEach_170 (MF_a14 hW) (by omega) (by decide) ?_
              refine j_eq (show ((G1 14) t : Int) = (num : Int) from k14) ?_
              refine j_icmp_ne (tgt := 368) hG dX12_makeEach_171 (by decide) (by omega) (by omega) (fun c15 => ?_) (fun c15 => ?_)
              · -- taken at 171
                have hb9 : holdsB rel num (rP (La.getD i 0) col) = false := by rw [← hx9]; unfold holdsB; (repeat (first | rw [if_pos (by omega)] | rw [if_neg (by omega)])); exact decide_eq_false (by omega)
                refine j_iinc (a := 400 * a + (i : Int)) (lv' := [(0, .ref m), (1, .int (iZ (t))), (2, .int (iZ (a))), (3, .int (iZ ((400 * a + (i : Int)) + 1))), (4, .int (iZ (v9)))]) hG dX12_makeEach_368 rfl (by decide) rfl ?_
                refine j_goto (tgt := 13) hG dX12_makeEach_371 (by decide) ?_
                have e9 : each1 kd col rel num (La.getD i 0) = [] := by unfold each1; rw [if_pos (by omega), if_neg (by rw [hb9]; decide)]
                refine j_lv (lv' := [(0, .ref m), (1, .int (iZ (t))), (2, .int (iZ (a))), (3, .int (iZ (400 * a + (i : Int) + 1)))]) (by simp) ?_
                rw [show 400 * a + (i : Int) + 1 = 400 * a + ((i + 1 : Nat) : Int) by omega]
                exact ih (i + 1) V1 G1 f1 hW ho hv (by omega) (by rw [flat_snoc (by omega), e9, List.append_nil]; exact hacc) (by omega)
              · -- on at 171
                have hb9 : holdsB rel num (rP (La.getD i 0) col) = true := by rw [← hx9]; unfold holdsB; (repeat (first | rw [if_pos (by omega)] | rw [if_neg (by omega)])); exact decide_eq_true (by omega)
                refine j_aload_n hG dX12_makeEach_174 rfl rfl ?_
                refine j_iload_n hG dX12_makeEach_175 rfl rfl ?_
                refine j_aload_n hG dX12_makeEach_176 rfl rfl ?_
                refine j_get (v := .ref (A 22)) hG fX12_60 dX12_makeEach_177 hW.1 rfl ?_
                refine j_iload_n hG dX12_makeEach_180 rfl rfl ?_
                refine j_iald hG dX12_makeEach_181 (MF_a22 hW) (by omega) (by decide) ?_
                refine j_eq (show ((G1 22) (400 * a + (i : Int)) : Int) = (rK (La.getD i 0) : Int) from x9.1) ?_
                refine j_aload_n hG dX12_makeEach_182 rfl rfl ?_
                refine j_get (v := .ref (A 23)) hG fX12_63 dX12_makeEach_183 hW.1 rfl ?_
                refine j_iload_n hG dX12_makeEach_186 rfl rfl ?_
                refine j_iald hG dX12_makeEach_187 (MF_a23 hW) (by omega) (by decide) ?_
                refine j_eq (show ((G1 23) (400 * a + (i : Int)) : Int) = (rV (La.getD i 0) : Int) from x9.2.1) ?_
                refine j_i2l hG dX12_makeEach_188 (by omega) ?_
                refine j_aload_n hG dX12_makeEach_189 rfl rfl ?_
                refine j_get (v := .ref (A 24)) hG fX12_66 dX12_makeEach_190 hW.1 rfl ?_
                refine j_iload_n hG dX12_makeEach_193 rfl rfl ?_
                refine j_iald hG dX12_makeEach_194 (MF_a24 hW) (by omega) (by decide) ?_
                refine j_eq (show ((G1 24) (400 * a + (i : Int)) : Int) = (rT (La.getD i 0) : Int) from x9.2.2) ?_
                refine j_callV (rest := []) hG vX12_159 dX12_makeEach_195 (c_X12_add (t := t) (k := rK (La.getD i 0)) (u := rV (La.getD i 0)) (tm := rT (La.getD i 0)) (r := (La.take i).flatMap (each1 kd col rel num)) hW ht0 (by omega) (by omega) (by omega) (each_fk (take_l hlo i) hmk.2.2.2.2) hacc) hW.1 rfl rfl (by decide) (by decide) (Nat.le_of_ble_eq_true rfl) rfl rfl (Nat.zero_le _) (Nat.zero_le _) ?_
                rintro _ f22 ⟨rfl, V16, G17, hW18, hacc19, ho20, hv21⟩
                refine j_st (st' := []) rfl ?_
                have ho23 := oth_tr ho ho20
                have hv24 := othV_tr hv hv21
                refine j_goto (tgt := 368) hG dX12_makeEach_198 (by decide) ?_
                refine j_iinc (a := 400 * a + (i : Int)) (lv' := [(0, .ref m), (1, .int (iZ (t))), (2, .int (iZ (a))), (3, .int (iZ ((400 * a + (i : Int)) + 1))), (4, .int (iZ (v9)))]) hG dX12_makeEach_368 rfl (by decide) rfl ?_
                refine j_goto (tgt := 13) hG dX12_makeEach_371 (by decide) ?_
                have e9 : each1 kd col rel num (La.getD i 0) = [(rK (La.getD i 0), rT (La.getD i 0), rV (La.getD i 0))] := by unfold each1; rw [if_pos (by omega), if_pos hb9]
                refine j_lv (lv' := [(0, .ref m), (1, .int (iZ (t))), (2, .int (iZ (a))), (3, .int (iZ (400 * a + (i : Int) + 1)))]) (by simp) ?_
                rw [show 400 * a + (i : Int) + 1 = 400 * a + ((i + 1 : Nat) : Int) by omega]
                exact ih (i + 1) V16 G17 f22 hW18 ho23 hv24 (by omega) (by rw [flat_snoc (by omega), e9]; exact hacc19) (by omega)
            · -- on at 146
              refine j_iload hG dX12_makeEach_149 rfl ?_
              refine j_aload_n hG dX12_makeEach_151 rfl rfl ?_
              refine j_get (v := .ref (A 14)) hG fX12_36 dX12_makeEach_152 hW.1 rfl ?_
              refine j_iload_n hG dX12_makeEach_155 rfl rfl ?_
              refine j_iald hG dX12_makeEach_156 (MF_a14 hW) (by omega) (by decide) ?_
              refine j_eq (show ((G1 14) t : Int) = (num : Int) from k14) ?_
              refine j_icmp_le (tgt := 368) hG dX12_makeEach_157 (by decide) (by omega) (by omega) (fun c25 => ?_) (fun c25 => ?_)
              · -- taken at 157
                have hb9 : holdsB rel num (rP (La.getD i 0) col) = false := by rw [← hx9]; unfold holdsB; (repeat (first | rw [if_pos (by omega)] | rw [if_neg (by omega)])); exact decide_eq_false (by omega)
                refine j_iinc (a := 400 * a + (i : Int)) (lv' := [(0, .ref m), (1, .int (iZ (t))), (2, .int (iZ (a))), (3, .int (iZ ((400 * a + (i : Int)) + 1))), (4, .int (iZ (v9)))]) hG dX12_makeEach_368 rfl (by decide) rfl ?_
                refine j_goto (tgt := 13) hG dX12_makeEach_371 (by decide) ?_
                have e9 : each1 kd col rel num (La.getD i 0) = [] := by unfold each1; rw [if_pos (by omega), if_neg (by rw [hb9]; decide)]
                refine j_lv (lv' := [(0, .ref m), (1, .int (iZ (t))), (2, .int (iZ (a))), (3, .int (iZ (400 * a + (i : Int) + 1)))]) (by simp) ?_
                rw [show 400 * a + (i : Int) + 1 = 400 * a + ((i + 1 : Nat) : Int) by omega]
                exact ih (i + 1) V1 G1 f1 hW ho hv (by omega) (by rw [flat_snoc (by omega), e9, List.append_nil]; exact hacc) (by omega)
              · -- on at 157
                have hb9 : holdsB rel num (rP (La.getD i 0) col) = true := by rw [← hx9]; unfold holdsB; (repeat (first | rw [if_pos (by omega)] | rw [if_neg (by omega)])); exact decide_eq_true (by omega)
                refine j_goto (tgt := 174) hG dX12_makeEach_160 (by decide) ?_
                refine j_aload_n hG dX12_makeEach_174 rfl rfl ?_
                refine j_iload_n hG dX12_makeEach_175 rfl rfl ?_
                refine j_aload_n hG dX12_makeEach_176 rfl rfl ?_
                refine j_get (v := .ref (A 22)) hG fX12_60 dX12_makeEach_177 hW.1 rfl ?_
                refine j_iload_n hG dX12_makeEach_180 rfl rfl ?_
                refine j_iald hG dX12_makeEach_181 (MF_a22 hW) (by omega) (by decide) ?_
                refine j_eq (show ((G1 22) (400 * a + (i : Int)) : Int) = (rK (La.getD i 0) : Int) from x9.1) ?_
                refine j_aload_n hG dX12_makeEach_182 rfl rfl ?_
                refine j_get (v := .ref (A 23)) hG fX12_63 dX12_makeEach_183 hW.1 rfl ?_
                refine j_iload_n hG dX12_makeEach_186 rfl rfl ?_
                refine j_iald hG dX12_makeEach_187 (MF_a23 hW) (by omega) (by decide) ?_
                refine j_eq (show ((G1 23) (400 * a + (i : Int)) : Int) = (rV (La.getD i 0) : Int) from x9.2.1) ?_
                refine j_i2l hG dX12_makeEach_188 (by omega) ?_
                refine j_aload_n hG dX12_makeEach_189 rfl rfl ?_
                refine j_get (v := .ref (A 24)) hG fX12_66 dX12_makeEach_190 hW.1 rfl ?_
                refine j_iload_n hG dX12_makeEach_193 rfl rfl ?_
                refine j_iald hG dX12_makeEach_194 (MF_a24 hW) (by omega) (by decide) ?_
                refine j_eq (show ((G1 24) (400 * a + (i : Int)) : Int) = (rT (La.getD i 0) : Int) from x9.2.2) ?_
                refine j_callV (rest := []) hG vX12_159 dX12_makeEach_195 (c_X12_add (t := t) (k := rK (La.getD i 0)) (u := rV (La.getD i 0)) (tm := rT (La.getD i 0)) (r := (La.take i).flatMap (each1 kd col rel num)) hW ht0 (by omega) (by omega) (by omega) (each_fk (take_l hlo i) hmk.2.2.2.2) hacc) hW.1 rfl rfl (by decide) (by decide) (Nat.le_of_ble_eq_true rfl) rfl rfl (Nat.zero_le _) (Nat.zero_le _) ?_
                rintro _ f32 ⟨rfl, V26, G27, hW28, hacc29, ho30, hv31⟩
                refine j_st (st' := []) rfl ?_
                have ho33 := oth_tr ho ho30
                have hv34 := othV_tr hv hv31
                refine j_goto (tgt := 368) hG dX12_makeEach_198 (by decide) ?_
                refine j_iinc (a := 400 * a + (i : Int)) (lv' := [(0, .ref m), (1, .int (iZ (t))), (2, .int (iZ (a))), (3, .int (iZ ((400 * a + (i : Int)) + 1))), (4, .int (iZ (v9)))]) hG dX12_makeEach_368 rfl (by decide) rfl ?_
                refine j_goto (tgt := 13) hG dX12_makeEach_371 (by decide) ?_
                have e9 : each1 kd col rel num (La.getD i 0) = [(rK (La.getD i 0), rT (La.getD i 0), rV (La.getD i 0))] := by unfold each1; rw [if_pos (by omega), if_pos hb9]
                refine j_lv (lv' := [(0, .ref m), (1, .int (iZ (t))), (2, .int (iZ (a))), (3, .int (iZ (400 * a + (i : Int) + 1)))]) (by simp) ?_
                rw [show 400 * a + (i : Int) + 1 = 400 * a + ((i + 1 : Nat) : Int) by omega]
                exact ih (i + 1) V26 G27 f32 hW28 ho33 hv34 (by omega) (by rw [flat_snoc (by omega), e9]; exact hacc29) (by omega)
          · -- on at 121
            refine j_iload hG dX12_makeEach_124 rfl ?_
            refine j_aload_n hG dX12_makeEach_126 rfl rfl ?_
            refine j_get (v := .ref (A 14)) hG fX12_36 dX12_makeEach_127 hW.1 rfl ?_
            refine j_iload_n hG dX12_makeEach_130 rfl rfl ?_
            refine j_iald hG dX12_makeEach_131 (MF_a14 hW) (by omega) (by decide) ?_
            refine j_eq (show ((G1 14) t : Int) = (num : Int) from k14) ?_
            refine j_icmp_ge (tgt := 368) hG dX12_makeEach_132 (by decide) (by omega) (by omega) (fun c35 => ?_) (fun c35 => ?_)
            · -- taken at 132
              have hb9 : holdsB rel num (rP (La.getD i 0) col) = false := by rw [← hx9]; unfold holdsB; (repeat (first | rw [if_pos (by omega)] | rw [if_neg (by omega)])); exact decide_eq_false (by omega)
              refine j_iinc (a := 400 * a + (i : Int)) (lv' := [(0, .ref m), (1, .int (iZ (t))), (2, .int (iZ (a))), (3, .int (iZ ((400 * a + (i : Int)) + 1))), (4, .int (iZ (v9)))]) hG dX12_makeEach_368 rfl (by decide) rfl ?_
              refine j_goto (tgt := 13) hG dX12_makeEach_371 (by decide) ?_
              have e9 : each1 kd col rel num (La.getD i 0) = [] := by unfold each1; rw [if_pos (by omega), if_neg (by rw [hb9]; decide)]
              refine j_lv (lv' := [(0, .ref m), (1, .int (iZ (t))), (2, .int (iZ (a))), (3, .int (iZ (400 * a + (i : Int) + 1)))]) (by simp) ?_
              rw [show 400 * a + (i : Int) + 1 = 400 * a + ((i + 1 : Nat) : Int) by omega]
              exact ih (i + 1) V1 G1 f1 hW ho hv (by omega) (by rw [flat_snoc (by omega), e9, List.append_nil]; exact hacc) (by omega)
            · -- on at 132
              have hb9 : holdsB rel num (rP (La.getD i 0) col) = true := by rw [← hx9]; unfold holdsB; (repeat (first | rw [if_pos (by omega)] | rw [if_neg (by omega)])); exact decide_eq_true (by omega)
              refine j_goto (tgt := 174) hG dX12_makeEach_135 (by decide) ?_
              refine j_aload_n hG dX12_makeEach_174 rfl rfl ?_
              refine j_iload_n hG dX12_makeEach_175 rfl rfl ?_
              refine j_aload_n hG dX12_makeEach_176 rfl rfl ?_
              refine j_get (v := .ref (A 22)) hG fX12_60 dX12_makeEach_177 hW.1 rfl ?_
              refine j_iload_n hG dX12_makeEach_180 rfl rfl ?_
              refine j_iald hG dX12_makeEach_181 (MF_a22 hW) (by omega) (by decide) ?_
              refine j_eq (show ((G1 22) (400 * a + (i : Int)) : Int) = (rK (La.getD i 0) : Int) from x9.1) ?_
              refine j_aload_n hG dX12_makeEach_182 rfl rfl ?_
              refine j_get (v := .ref (A 23)) hG fX12_63 dX12_makeEach_183 hW.1 rfl ?_
              refine j_iload_n hG dX12_makeEach_186 rfl rfl ?_
              refine j_iald hG dX12_makeEach_187 (MF_a23 hW) (by omega) (by decide) ?_
              refine j_eq (show ((G1 23) (400 * a + (i : Int)) : Int) = (rV (La.getD i 0) : Int) from x9.2.1) ?_
              refine j_i2l hG dX12_makeEach_188 (by omega) ?_
              refine j_aload_n hG dX12_makeEach_189 rfl rfl ?_
              refine j_get (v := .ref (A 24)) hG fX12_66 dX12_makeEach_190 hW.1 rfl ?_
              refine j_iload_n hG dX12_makeEach_193 rfl rfl ?_
              refine j_iald hG dX12_makeEach_194 (MF_a24 hW) (by omega) (by decide) ?_
              refine j_eq (show ((G1 24) (400 * a + (i : Int)) : Int) = (rT (La.getD i 0) : Int) from x9.2.2) ?_
              refine j_callV (rest := []) hG vX12_159 dX12_makeEach_195 (c_X12_add (t := t) (k := rK (La.getD i 0)) (u := rV (La.getD i 0)) (tm := rT (La.getD i 0)) (r := (La.take i).flatMap (each1 kd col rel num)) hW ht0 (by omega) (by omega) (by omega) (each_fk (take_l hlo i) hmk.2.2.2.2) hacc) hW.1 rfl rfl (by decide) (by decide) (Nat.le_of_ble_eq_true rfl) rfl rfl (Nat.zero_le _) (Nat.zero_le _) ?_
              rintro _ f42 ⟨rfl, V36, G37, hW38, hacc39, ho40, hv41⟩
              refine j_st (st' := []) rfl ?_
              have ho43 := oth_tr ho ho40
              have hv44 := othV_tr hv hv41
              refine j_goto (tgt := 368) hG dX12_makeEach_198 (by decide) ?_
              refine j_iinc (a := 400 * a + (i : Int)) (lv' := [(0, .ref m), (1, .int (iZ (t))), (2, .int (iZ (a))), (3, .int (iZ ((400 * a + (i : Int)) + 1))), (4, .int (iZ (v9)))]) hG dX12_makeEach_368 rfl (by decide) rfl ?_
              refine j_goto (tgt := 13) hG dX12_makeEach_371 (by decide) ?_
              have e9 : each1 kd col rel num (La.getD i 0) = [(rK (La.getD i 0), rT (La.getD i 0), rV (La.getD i 0))] := by unfold each1; rw [if_pos (by omega), if_pos hb9]
              refine j_lv (lv' := [(0, .ref m), (1, .int (iZ (t))), (2, .int (iZ (a))), (3, .int (iZ (400 * a + (i : Int) + 1)))]) (by simp) ?_
              rw [show 400 * a + (i : Int) + 1 = 400 * a + ((i + 1 : Nat) : Int) by omega]
              exact ih (i + 1) V36 G37 f42 hW38 ho43 hv44 (by omega) (by rw [flat_snoc (by omega), e9]; exact hacc39) (by omega)
        refine j_aload_n hG dX12_makeEach_68 rfl rfl ?_
        refine j_get (v := .ref (A 15)) hG fX12_39 dX12_makeEach_69 hW.1 rfl ?_
        refine j_iload_n hG dX12_makeEach_72 rfl rfl ?_
        refine j_iald hG dX12_makeEach_73 (MF_a15 hW) (by omega) (by decide) ?_
        refine j_eq (show ((G1 15) t : Int) = (col : Int) from k15.1) ?_
        refine j_if_ne (tgt := 86) hG dX12_makeEach_74 (by decide) (by omega) (fun c45 => ?_) (fun c45 => ?_)
        · -- taken at 74
          refine j_aload_n hG dX12_makeEach_86 rfl rfl ?_
          refine j_get (v := .ref (A 15)) hG fX12_39 dX12_makeEach_87 hW.1 rfl ?_
          refine j_iload_n hG dX12_makeEach_90 rfl rfl ?_
          refine j_iald hG dX12_makeEach_91 (MF_a15 hW) (by omega) (by decide) ?_
          refine j_eq (show ((G1 15) t : Int) = (col : Int) from k15.1) ?_
          refine j_iconst hG dX12_makeEach_92 ?_
          refine j_icmp_ne (tgt := 105) hG dX12_makeEach_93 (by decide) (by omega) (by omega) (fun c46 => ?_) (fun c46 => ?_)
          · -- taken at 93
            refine j_aload_n hG dX12_makeEach_105 rfl rfl ?_
            refine j_get (v := .ref (A 24)) hG fX12_66 dX12_makeEach_106 hW.1 rfl ?_
            refine j_iload_n hG dX12_makeEach_109 rfl rfl ?_
            refine j_iald hG dX12_makeEach_110 (MF_a24 hW) (by omega) (by decide) ?_
            refine j_eq (show ((G1 24) (400 * a + (i : Int)) : Int) = (rT (La.getD i 0) : Int) from x9.2.2) ?_
            exact hj12 (rT (La.getD i 0)) (by unfold rP; (repeat (first | rw [if_pos (by omega)] | rw [if_neg (by omega)])))
          · -- on at 93
            refine j_aload_n hG dX12_makeEach_96 rfl rfl ?_
            refine j_get (v := .ref (A 23)) hG fX12_63 dX12_makeEach_97 hW.1 rfl ?_
            refine j_iload_n hG dX12_makeEach_100 rfl rfl ?_
            refine j_iald hG dX12_makeEach_101 (MF_a23 hW) (by omega) (by decide) ?_
            refine j_eq (show ((G1 23) (400 * a + (i : Int)) : Int) = (rV (La.getD i 0) : Int) from x9.2.1) ?_
            refine j_goto (tgt := 111) hG dX12_makeEach_102 (by decide) ?_
            exact hj12 (rV (La.getD i 0)) (by unfold rP; (repeat (first | rw [if_pos (by omega)] | rw [if_neg (by omega)])))
        · -- on at 74
          refine j_aload_n hG dX12_makeEach_77 rfl rfl ?_
          refine j_get (v := .ref (A 22)) hG fX12_60 dX12_makeEach_78 hW.1 rfl ?_
          refine j_iload_n hG dX12_makeEach_81 rfl rfl ?_
          refine j_iald hG dX12_makeEach_82 (MF_a22 hW) (by omega) (by decide) ?_
          refine j_eq (show ((G1 22) (400 * a + (i : Int)) : Int) = (rK (La.getD i 0) : Int) from x9.1) ?_
          refine j_goto (tgt := 111) hG dX12_makeEach_83 (by decide) ?_
          exact hj12 (rK (La.getD i 0)) (by unfold rP; (repeat (first | rw [if_pos (by omega)] | rw [if_neg (by omega)])))
      · -- case 2 at 35
        refine j_tswIn (tgt := 201) (off := 166) hG (2) dX12_makeEach_35 c2 (by decide) (by decide) rfl (by decide) ?_
        refine j_aload_n hG dX12_makeEach_201 rfl rfl ?_
        refine j_iload_n hG dX12_makeEach_202 rfl rfl ?_
        refine j_aload_n hG dX12_makeEach_203 rfl rfl ?_
        refine j_get (v := .ref (A 22)) hG fX12_60 dX12_makeEach_204 hW.1 rfl ?_
        refine j_iload_n hG dX12_makeEach_207 rfl rfl ?_
        refine j_iald hG dX12_makeEach_208 (MF_a22 hW) (by omega) (by decide) ?_
        refine j_eq (show ((G1 22) (400 * a + (i : Int)) : Int) = (rK (La.getD i 0) : Int) from x9.1) ?_
        refine j_aload_n hG dX12_makeEach_209 rfl rfl ?_
        refine j_get (v := .ref (A 23)) hG fX12_63 dX12_makeEach_210 hW.1 rfl ?_
        refine j_iload_n hG dX12_makeEach_213 rfl rfl ?_
        refine j_iald hG dX12_makeEach_214 (MF_a23 hW) (by omega) (by decide) ?_
        refine j_eq (show ((G1 23) (400 * a + (i : Int)) : Int) = (rV (La.getD i 0) : Int) from x9.2.1) ?_
        refine j_i2l hG dX12_makeEach_215 (by omega) ?_
        refine j_aload_n hG dX12_makeEach_216 rfl rfl ?_
        refine j_get (v := .ref (A 14)) hG fX12_36 dX12_makeEach_217 hW.1 rfl ?_
        refine j_iload_n hG dX12_makeEach_220 rfl rfl ?_
        refine j_iald hG dX12_makeEach_221 (MF_a14 hW) (by omega) (by decide) ?_
        refine j_eq (show ((G1 14) t : Int) = (num : Int) from k14) ?_
        refine j_i2l hG dX12_makeEach_222 (by omega) ?_
        refine j_ladd hG dX12_makeEach_223 ?_
        refine j_aload_n hG dX12_makeEach_224 rfl rfl ?_
        refine j_get (v := .ref (A 24)) hG fX12_66 dX12_makeEach_225 hW.1 rfl ?_
        refine j_iload_n hG dX12_makeEach_228 rfl rfl ?_
        refine j_iald hG dX12_makeEach_229 (MF_a24 hW) (by omega) (by decide) ?_
        refine j_eq (show ((G1 24) (400 * a + (i : Int)) : Int) = (rT (La.getD i 0) : Int) from x9.2.2) ?_
        refine j_callV (rest := []) hG vX12_159 dX12_makeEach_230 (c_X12_add (t := t) (k := rK (La.getD i 0)) (u := (rV (La.getD i 0)) + num) (tm := rT (La.getD i 0)) (r := (La.take i).flatMap (each1 kd col rel num)) hW ht0 (by omega) (by omega) (by omega) (each_fk (take_l hlo i) hmk.2.2.2.2) hacc) hW.1 rfl rfl (by decide) (by decide) (Nat.le_of_ble_eq_true rfl) rfl rfl (Nat.zero_le _) (Nat.zero_le _) ?_
        rintro _ f53 ⟨rfl, V47, G48, hW49, hacc50, ho51, hv52⟩
        refine j_st (st' := []) rfl ?_
        have ho54 := oth_tr ho ho51
        have hv55 := othV_tr hv hv52
        refine j_goto (tgt := 368) hG dX12_makeEach_233 (by decide) ?_
        refine j_iinc (a := 400 * a + (i : Int)) (lv' := [(0, .ref m), (1, .int (iZ (t))), (2, .int (iZ (a))), (3, .int (iZ ((400 * a + (i : Int)) + 1)))]) hG dX12_makeEach_368 rfl (by decide) rfl ?_
        refine j_goto (tgt := 13) hG dX12_makeEach_371 (by decide) ?_
        have e9 : each1 kd col rel num (La.getD i 0) = [(rK (La.getD i 0), rT (La.getD i 0), (rV (La.getD i 0)) + num)] := by unfold each1; (repeat (first | rw [if_pos (by omega)] | rw [if_neg (by omega)]))
        refine j_lv (lv' := [(0, .ref m), (1, .int (iZ (t))), (2, .int (iZ (a))), (3, .int (iZ (400 * a + (i : Int) + 1)))]) (by simp) ?_
        rw [show 400 * a + (i : Int) + 1 = 400 * a + ((i + 1 : Nat) : Int) by omega]
        exact ih (i + 1) V47 G48 f53 hW49 ho54 hv55 (by omega) (by rw [flat_snoc (by omega), e9]; exact hacc50) (by omega)
      · -- case 3 at 35
        refine j_tswIn (tgt := 236) (off := 201) hG (3) dX12_makeEach_35 c2 (by decide) (by decide) rfl (by decide) ?_
        refine j_aload_n hG dX12_makeEach_236 rfl rfl ?_
        refine j_iload_n hG dX12_makeEach_237 rfl rfl ?_
        refine j_aload_n hG dX12_makeEach_238 rfl rfl ?_
        refine j_get (v := .ref (A 22)) hG fX12_60 dX12_makeEach_239 hW.1 rfl ?_
        refine j_iload_n hG dX12_makeEach_242 rfl rfl ?_
        refine j_iald hG dX12_makeEach_243 (MF_a22 hW) (by omega) (by decide) ?_
        refine j_eq (show ((G1 22) (400 * a + (i : Int)) : Int) = (rK (La.getD i 0) : Int) from x9.1) ?_
        refine j_aload_n hG dX12_makeEach_244 rfl rfl ?_
        refine j_get (v := .ref (A 23)) hG fX12_63 dX12_makeEach_245 hW.1 rfl ?_
        refine j_iload_n hG dX12_makeEach_248 rfl rfl ?_
        refine j_iald hG dX12_makeEach_249 (MF_a23 hW) (by omega) (by decide) ?_
        refine j_eq (show ((G1 23) (400 * a + (i : Int)) : Int) = (rV (La.getD i 0) : Int) from x9.2.1) ?_
        refine j_i2l hG dX12_makeEach_250 (by omega) ?_
        refine j_aload_n hG dX12_makeEach_251 rfl rfl ?_
        refine j_get (v := .ref (A 14)) hG fX12_36 dX12_makeEach_252 hW.1 rfl ?_
        refine j_iload_n hG dX12_makeEach_255 rfl rfl ?_
        refine j_iald hG dX12_makeEach_256 (MF_a14 hW) (by omega) (by decide) ?_
        refine j_eq (show ((G1 14) t : Int) = (num : Int) from k14) ?_
        refine j_i2l hG dX12_makeEach_257 (by omega) ?_
        have w9 := mulb (a := rV (La.getD i 0)) (b := num) (by omega) (by omega)
        refine j_lmul hG dX12_makeEach_258 ?_
        refine j_aload_n hG dX12_makeEach_259 rfl rfl ?_
        refine j_get (v := .ref (A 24)) hG fX12_66 dX12_makeEach_260 hW.1 rfl ?_
        refine j_iload_n hG dX12_makeEach_263 rfl rfl ?_
        refine j_iald hG dX12_makeEach_264 (MF_a24 hW) (by omega) (by decide) ?_
        refine j_eq (show ((G1 24) (400 * a + (i : Int)) : Int) = (rT (La.getD i 0) : Int) from x9.2.2) ?_
        refine j_callV (rest := []) hG vX12_159 dX12_makeEach_265 (c_X12_add (t := t) (k := rK (La.getD i 0)) (u := (rV (La.getD i 0)) * num) (tm := rT (La.getD i 0)) (r := (La.take i).flatMap (each1 kd col rel num)) hW ht0 (by omega) (by omega) w9 (each_fk (take_l hlo i) hmk.2.2.2.2) hacc) hW.1 rfl rfl (by decide) (by decide) (Nat.le_of_ble_eq_true rfl) rfl rfl (Nat.zero_le _) (Nat.zero_le _) ?_
        rintro _ f62 ⟨rfl, V56, G57, hW58, hacc59, ho60, hv61⟩
        refine j_st (st' := []) rfl ?_
        have ho63 := oth_tr ho ho60
        have hv64 := othV_tr hv hv61
        refine j_goto (tgt := 368) hG dX12_makeEach_268 (by decide) ?_
        refine j_iinc (a := 400 * a + (i : Int)) (lv' := [(0, .ref m), (1, .int (iZ (t))), (2, .int (iZ (a))), (3, .int (iZ ((400 * a + (i : Int)) + 1)))]) hG dX12_makeEach_368 rfl (by decide) rfl ?_
        refine j_goto (tgt := 13) hG dX12_makeEach_371 (by decide) ?_
        have e9 : each1 kd col rel num (La.getD i 0) = [(rK (La.getD i 0), rT (La.getD i 0), (rV (La.getD i 0)) * num)] := by unfold each1; (repeat (first | rw [if_pos (by omega)] | rw [if_neg (by omega)]))
        refine j_lv (lv' := [(0, .ref m), (1, .int (iZ (t))), (2, .int (iZ (a))), (3, .int (iZ (400 * a + (i : Int) + 1)))]) (by simp) ?_
        rw [show 400 * a + (i : Int) + 1 = 400 * a + ((i + 1 : Nat) : Int) by omega]
        exact ih (i + 1) V56 G57 f62 hW58 ho63 hv64 (by omega) (by rw [flat_snoc (by omega), e9]; exact hacc59) (by omega)
      · -- case 4 at 35
        refine j_tswIn (tgt := 271) (off := 236) hG (4) dX12_makeEach_35 c2 (by decide) (by decide) rfl (by decide) ?_
        refine j_aload_n hG dX12_makeEach_271 rfl rfl ?_
        refine j_iload_n hG dX12_makeEach_272 rfl rfl ?_
        refine j_aload_n hG dX12_makeEach_273 rfl rfl ?_
        refine j_get (v := .ref (A 22)) hG fX12_60 dX12_makeEach_274 hW.1 rfl ?_
        refine j_iload_n hG dX12_makeEach_277 rfl rfl ?_
        refine j_iald hG dX12_makeEach_278 (MF_a22 hW) (by omega) (by decide) ?_
        refine j_eq (show ((G1 22) (400 * a + (i : Int)) : Int) = (rK (La.getD i 0) : Int) from x9.1) ?_
        refine j_aload_n hG dX12_makeEach_279 rfl rfl ?_
        refine j_get (v := .ref (A 14)) hG fX12_36 dX12_makeEach_280 hW.1 rfl ?_
        refine j_iload_n hG dX12_makeEach_283 rfl rfl ?_
        refine j_iald hG dX12_makeEach_284 (MF_a14 hW) (by omega) (by decide) ?_
        refine j_eq (show ((G1 14) t : Int) = (num : Int) from k14) ?_
        refine j_iadd hG dX12_makeEach_285 ?_
        refine j_bipush hG dX12_makeEach_286 (by decide) ?_
        refine j_irem hG dX12_makeEach_288 (by omega) (by omega) ?_
        refine j_aload_n hG dX12_makeEach_289 rfl rfl ?_
        refine j_get (v := .ref (A 23)) hG fX12_63 dX12_makeEach_290 hW.1 rfl ?_
        refine j_iload_n hG dX12_makeEach_293 rfl rfl ?_
        refine j_iald hG dX12_makeEach_294 (MF_a23 hW) (by omega) (by decide) ?_
        refine j_eq (show ((G1 23) (400 * a + (i : Int)) : Int) = (rV (La.getD i 0) : Int) from x9.2.1) ?_
        refine j_i2l hG dX12_makeEach_295 (by omega) ?_
        refine j_aload_n hG dX12_makeEach_296 rfl rfl ?_
        refine j_get (v := .ref (A 24)) hG fX12_66 dX12_makeEach_297 hW.1 rfl ?_
        refine j_iload_n hG dX12_makeEach_300 rfl rfl ?_
        refine j_iald hG dX12_makeEach_301 (MF_a24 hW) (by omega) (by decide) ?_
        refine j_eq (show ((G1 24) (400 * a + (i : Int)) : Int) = (rT (La.getD i 0) : Int) from x9.2.2) ?_
        refine j_callV (rest := []) hG vX12_159 dX12_makeEach_302 (c_X12_add (t := t) (k := ((rK (La.getD i 0)) + num) % 32) (u := rV (La.getD i 0)) (tm := rT (La.getD i 0)) (r := (La.take i).flatMap (each1 kd col rel num)) hW ht0 (by omega) (by omega) (by omega) (each_fk (take_l hlo i) hmk.2.2.2.2) hacc) hW.1 rfl rfl (by decide) (by decide) (Nat.le_of_ble_eq_true rfl) rfl rfl (Nat.zero_le _) (Nat.zero_le _) ?_
        rintro _ f71 ⟨rfl, V65, G66, hW67, hacc68, ho69, hv70⟩
        refine j_st (st' := []) rfl ?_
        have ho72 := oth_tr ho ho69
        have hv73 := othV_tr hv hv70
        refine j_goto (tgt := 368) hG dX12_makeEach_305 (by decide) ?_
        refine j_iinc (a := 400 * a + (i : Int)) (lv' := [(0, .ref m), (1, .int (iZ (t))), (2, .int (iZ (a))), (3, .int (iZ ((400 * a + (i : Int)) + 1)))]) hG dX12_makeEach_368 rfl (by decide) rfl ?_
        refine j_goto (tgt := 13) hG dX12_makeEach_371 (by decide) ?_
        have e9 : each1 kd col rel num (La.getD i 0) = [(((rK (La.getD i 0)) + num) % 32, rT (La.getD i 0), rV (La.getD i 0))] := by unfold each1; (repeat (first | rw [if_pos (by omega)] | rw [if_neg (by omega)]))
        refine j_lv (lv' := [(0, .ref m), (1, .int (iZ (t))), (2, .int (iZ (a))), (3, .int (iZ (400 * a + (i : Int) + 1)))]) (by simp) ?_
        rw [show 400 * a + (i : Int) + 1 = 400 * a + ((i + 1 : Nat) : Int) by omega]
        exact ih (i + 1) V65 G66 f71 hW67 ho72 hv73 (by omega) (by rw [flat_snoc (by omega), e9]; exact hacc68) (by omega)
      · -- case 5 at 35
        refine j_tswIn (tgt := 308) (off := 273) hG (5) dX12_makeEach_35 c2 (by decide) (by decide) rfl (by decide) ?_
        refine j_aload_n hG dX12_makeEach_308 rfl rfl ?_
        refine j_iload_n hG dX12_makeEach_309 rfl rfl ?_
        refine j_aload_n hG dX12_makeEach_310 rfl rfl ?_
        refine j_get (v := .ref (A 22)) hG fX12_60 dX12_makeEach_311 hW.1 rfl ?_
        refine j_iload_n hG dX12_makeEach_314 rfl rfl ?_
        refine j_iald hG dX12_makeEach_315 (MF_a22 hW) (by omega) (by decide) ?_
        refine j_eq (show ((G1 22) (400 * a + (i : Int)) : Int) = (rK (La.getD i 0) : Int) from x9.1) ?_
        refine j_aload_n hG dX12_makeEach_316 rfl rfl ?_
        refine j_get (v := .ref (A 23)) hG fX12_63 dX12_makeEach_317 hW.1 rfl ?_
        refine j_iload_n hG dX12_makeEach_320 rfl rfl ?_
        refine j_iald hG dX12_makeEach_321 (MF_a23 hW) (by omega) (by decide) ?_
        refine j_eq (show ((G1 23) (400 * a + (i : Int)) : Int) = (rV (La.getD i 0) : Int) from x9.2.1) ?_
        refine j_i2l hG dX12_makeEach_322 (by omega) ?_
        refine j_aload_n hG dX12_makeEach_323 rfl rfl ?_
        refine j_get (v := .ref (A 24)) hG fX12_66 dX12_makeEach_324 hW.1 rfl ?_
        refine j_iload_n hG dX12_makeEach_327 rfl rfl ?_
        refine j_iald hG dX12_makeEach_328 (MF_a24 hW) (by omega) (by decide) ?_
        refine j_eq (show ((G1 24) (400 * a + (i : Int)) : Int) = (rT (La.getD i 0) : Int) from x9.2.2) ?_
        refine j_aload_n hG dX12_makeEach_329 rfl rfl ?_
        refine j_get (v := .ref (A 24)) hG fX12_66 dX12_makeEach_330 hW.1 rfl ?_
        refine j_iload_n hG dX12_makeEach_333 rfl rfl ?_
        refine j_iald hG dX12_makeEach_334 (MF_a24 hW) (by omega) (by decide) ?_
        refine j_eq (show ((G1 24) (400 * a + (i : Int)) : Int) = (rT (La.getD i 0) : Int) from x9.2.2) ?_
        refine j_aload_n hG dX12_makeEach_335 rfl rfl ?_
        refine j_get (v := .ref (A 14)) hG fX12_36 dX12_makeEach_336 hW.1 rfl ?_
        refine j_iload_n hG dX12_makeEach_339 rfl rfl ?_
        refine j_iald hG dX12_makeEach_340 (MF_a14 hW) (by omega) (by decide) ?_
        refine j_eq (show ((G1 14) t : Int) = (num : Int) from k14) ?_
        have w8 := md_le (a := rT (La.getD i 0)) (b := num) (by omega) (by omega)
        refine j_irem hG dX12_makeEach_341 (by omega) (by omega) ?_
        refine j_isub hG dX12_makeEach_342 ?_
        refine j_callV (rest := []) hG vX12_159 dX12_makeEach_343 (c_X12_add (t := t) (k := rK (La.getD i 0)) (u := rV (La.getD i 0)) (tm := (rT (La.getD i 0)) - ((rT (La.getD i 0)) % num)) (r := (La.take i).flatMap (each1 kd col rel num)) hW ht0 (by omega) (by omega) (by omega) (each_fk (take_l hlo i) hmk.2.2.2.2) hacc) hW.1 rfl rfl (by decide) (by decide) (Nat.le_of_ble_eq_true rfl) rfl rfl (Nat.zero_le _) (Nat.zero_le _) ?_
        rintro _ f80 ⟨rfl, V74, G75, hW76, hacc77, ho78, hv79⟩
        refine j_st (st' := []) rfl ?_
        have ho81 := oth_tr ho ho78
        have hv82 := othV_tr hv hv79
        refine j_goto (tgt := 368) hG dX12_makeEach_346 (by decide) ?_
        refine j_iinc (a := 400 * a + (i : Int)) (lv' := [(0, .ref m), (1, .int (iZ (t))), (2, .int (iZ (a))), (3, .int (iZ ((400 * a + (i : Int)) + 1)))]) hG dX12_makeEach_368 rfl (by decide) rfl ?_
        refine j_goto (tgt := 13) hG dX12_makeEach_371 (by decide) ?_
        have e9 : each1 kd col rel num (La.getD i 0) = [(rK (La.getD i 0), (rT (La.getD i 0)) - ((rT (La.getD i 0)) % num), rV (La.getD i 0))] := by unfold each1; (repeat (first | rw [if_pos (by omega)] | rw [if_neg (by omega)]))
        refine j_lv (lv' := [(0, .ref m), (1, .int (iZ (t))), (2, .int (iZ (a))), (3, .int (iZ (400 * a + (i : Int) + 1)))]) (by simp) ?_
        rw [show 400 * a + (i : Int) + 1 = 400 * a + ((i + 1 : Nat) : Int) by omega]
        exact ih (i + 1) V74 G75 f80 hW76 ho81 hv82 (by omega) (by rw [flat_snoc (by omega), e9]; exact hacc77) (by omega)
theorem c_X12_makeEach {l : Launch} {E : JE} {f : Hp} {rg : Nat → Nat} {f0 : Hp} {m : Nat} {A : Nat → Nat} {V : Nat → Int} {G : Nat → Int → Int} {t a kd col rel num : Int} {La : List Int} (hW : MF E rg f0 f m A V G) (ht0 : 0 ≤ t ∧ t < 12) (ha : 0 ≤ a ∧ a < t) (h12 : G 12 t = kd) (h13 : G 13 t = a) (h14 : G 14 t = num) (hkd : 1 ≤ kd ∧ kd ≤ 6) (h15 : kd = 1 → G 15 t = col ∧ G 16 t = rel) (hmk : (0 ≤ col ∧ col ≤ 2) ∧ (0 ≤ rel ∧ rel < 65536) ∧ (-1000 ≤ num ∧ num ≤ 1000) ∧ (kd = 4 → 0 ≤ num) ∧ (kd = 5 → 1 ≤ num)) (hLa : nrep G a La) (hlo : lOk La) (hll : La.length ≤ 400) (hacc : macc V G t []) : KX12_makeEach l E [.ref m, .int (iZ (t))] f (fun v f' => v = none ∧ ∃ (V' : Nat → Int) (G' : Nat → Int → Int), MF E rg f0 f' m A V' G' ∧ macc V' G' t (La.flatMap (each1 kd col rel num)) ∧ oth G G' t ∧ othV V V') := by
  refine ct_of (own := RX12) (lv := [(0, .ref m), (1, .int (iZ (t)))]) (by decide +kernel) rfl (Nat.le_of_ble_eq_true rfl) rfl ?_
  intro G9 hG hZ
  refine j_aload_n hG dX12_makeEach_0 rfl rfl ?_
  refine j_get (v := .ref (A 13)) hG fX12_33 dX12_makeEach_1 hW.1 rfl ?_
  refine j_iload_n hG dX12_makeEach_4 rfl rfl ?_
  refine j_iald hG dX12_makeEach_5 (MF_a13 hW) (by omega) (by decide) ?_
  refine j_eq (show ((G 13) t : Int) = (a : Int) from h13) ?_
  refine j_istore_n (lv' := [(0, .ref m), (1, .int (iZ (t))), (2, .int (iZ (a)))]) hG dX12_makeEach_6 rfl (by decide) rfl ?_
  refine j_sipush hG dX12_makeEach_7 (by decide) ?_
  refine j_iload_n hG dX12_makeEach_10 rfl rfl ?_
  refine j_imul hG dX12_makeEach_11 ?_
  refine j_istore_n (lv' := [(0, .ref m), (1, .int (iZ (t))), (2, .int (iZ (a))), (3, .int (iZ (400 * a)))]) hG dX12_makeEach_12 rfl (by decide) rfl ?_
  rw [show 400 * a = 400 * a + ((0 : Nat) : Int) by omega]
  exact l_X12_makeEach hG hZ ht0 ha h12 h13 h14 hkd h15 hmk hLa hlo hll (fun f' V' G' a1 a2 a3 a4 => ⟨rfl, V', G', a1, a2, a3, a4⟩) (La.length + 1) 0 V G f hW oth_rf (fun _ _ => rfl) (by omega) hacc (by omega)
