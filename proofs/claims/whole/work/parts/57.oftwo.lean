def of2 (kd : Int) (B : List Int) (x : Int) : List Tr := if kd = 11 then pr1 B x else if hasK B (rK x) = true then [] else [(rK x, rT x, rV x)]
theorem pr1_snoc {B : List Int} {x y : Int} : pr1 (B ++ [y]) x = pr1 B x ++ (if rK y = rK x then [(rK x, max (rT x) (rT y), rV x + rV y)] else []) := by
  unfold pr1
  rw [List.filter_append, List.map_append]
  congr 1
  by_cases c : rK y = rK x
  · rw [if_pos c, List.filter_cons_of_pos (by simp [c])]; rfl
  · rw [if_neg c, List.filter_cons_of_neg (by simp [c])]; rfl
theorem pr1_k {B : List Int} {x : Int} (hx : rOk x) (hB : ∀ y ∈ B, rOk y) : ∀ p ∈ pr1 B x, kOk p := fun p hp => by
  unfold pr1 at hp
  obtain ⟨y, hy, rfl⟩ := List.mem_map.mp hp
  have h1 := rT_rng hx
  have h2 := rT_rng (hB y (List.mem_filter.mp hy).1)
  exact ⟨rK_rng hx, by simp only []; omega⟩
theorem of2_k {A B : List Int} {kd : Int} (hA : ∀ x ∈ A, rOk x) (hB : ∀ y ∈ B, rOk y) : ∀ p ∈ A.flatMap (of2 kd B), kOk p := fun p hp => by
  obtain ⟨x, hx, hp⟩ := List.mem_flatMap.mp hp
  unfold of2 at hp
  split at hp
  · exact pr1_k (hA x hx) hB p hp
  · split at hp
    · cases hp
    · rw [List.mem_singleton.mp hp]; exact ⟨rK_rng (hA x hx), rT_rng (hA x hx)⟩
theorem kOk_app {r r2 : List Tr} (h : ∀ q ∈ r, kOk q) (h2 : ∀ q ∈ r2, kOk q) : ∀ q ∈ r ++ r2, kOk q := fun q hq => by
  rcases List.mem_append.mp hq with h1 | h1
  · exact h q h1
  · exact h2 q h1
theorem wout_flat {B : List Int} : ∀ A : List Int, wout A B = A.flatMap (of2 12 B)
  | [] => rfl
  | x :: xs => by
    rw [List.flatMap_cons, ← wout_flat xs]
    unfold wout of2
    rw [if_neg (by decide)]
    by_cases c : hasK B (rK x) = true
    · rw [if_pos c, List.filter_cons_of_neg (by simp [c])]; rfl
    · rw [if_neg c, List.filter_cons_of_pos (by simp [c])]; rfl
def in2 (kd : Int) (B : List Int) (x : Int) : List Tr := if kd = 11 then pr1 B x else []
theorem in2_snoc {kd : Int} {B : List Int} {x : Int} {j : Nat} (h : j < B.length) : in2 kd (B.take (j + 1)) x = in2 kd (B.take j) x ++ (if kd = 11 ∧ rK (B.getD j 0) = rK x then [(rK x, max (rT x) (rT (B.getD j 0)), rV x + rV (B.getD j 0))] else []) := by
  unfold in2
  by_cases c : kd = 11
  · rw [if_pos c, if_pos c, take_snoc h, pr1_snoc]
    congr 1
    by_cases c2 : rK (B.getD j 0) = rK x
    · rw [if_pos c2, if_pos ⟨c, c2⟩]
    · rw [if_neg c2, if_neg (fun q => c2 q.2)]
  · rw [if_neg c, if_neg c, if_neg (fun q => c q.1)]; rfl
def has2 (B : List Int) (k : Int) : Int := if hasK B k = true then 1 else 0
theorem has2_1 {B : List Int} {k : Int} (h : has2 B k ≠ 0) : hasK B k = true := by
  apply Decidable.byContradiction
  intro q
  apply h
  unfold has2; rw [if_neg q]
theorem has2_0 {B : List Int} {k : Int} (h : has2 B k = 0) : ¬ hasK B k = true := fun q => by
  unfold has2 at h; rw [if_pos q] at h; exact absurd h (by decide)
theorem has2_snoc {B : List Int} {k : Int} {j : Nat} (h : j < B.length) : has2 (B.take (j + 1)) k = if rK (B.getD j 0) = k then 1 else has2 (B.take j) k := by
  unfold has2
  rw [take_snoc h, hasK_snoc]
  by_cases c : rK (B.getD j 0) = k
  · rw [if_pos c, if_pos (by rw [decide_eq_true c.symm]; rfl)]
  · rw [if_neg c, decide_eq_false (fun q => c q.symm), Bool.false_or]
theorem in2_k {kd : Int} {B : List Int} {x : Int} (hx : rOk x) (hB : ∀ y ∈ B, rOk y) : ∀ p ∈ in2 kd B x, kOk p := fun p hp => by
  unfold in2 at hp
  split at hp
  · exact pr1_k hx hB p hp
  · cases hp
theorem l_X12_makeOfTwo_i {G9 : JG} {l : Launch} {E : JE} {P : Option Value → Hp → Prop} (hG : jX G9 l E cX12_makeOfTwo RX12 7 rmX12_makeOfTwo) (hZ : jZ G9 none P) {rg : Nat → Nat} {f0 : Hp} {m : Nat} {A : Nat → Nat} {V : Nat → Int} {G : Nat → Int → Int} {t a : Int} {La : List Int} {Lb : List Int} {b kd x : Int} {i : Nat} {r0 : List Tr} (ht0 : 0 ≤ t ∧ t < 12) (ha : 0 ≤ a ∧ a < t) (h12 : G 12 t = kd) (h13 : G 13 t = a) (hb : 0 ≤ b ∧ b < t) (h14 : G 14 t = b) (hkd : kd = 11 ∨ kd = 12) (hLa : nrep G a La) (hlo : lOk La) (hll : La.length ≤ 400) (hLb : nrep G b Lb) (hlob : lOk Lb) (hllb : Lb.length ≤ 400) (hil : i < La.length) (hx : x = La.getD i 0) (hxo : rOk x ∧ rV x ≤ 1000000000) (hr0 : ∀ p ∈ r0, kOk p) (hN : ∀ (f' : Hp) (V' : Nat → Int) (G' : Nat → Int → Int), MF E rg f0 f' m A V' G' → macc V' G' t (r0 ++ in2 kd Lb x) → oth G G' t → othV V V' → J G9 0 0 f' 168 [(0, .ref m), (1, .int (iZ (t))), (2, .int (iZ (a))), (3, .int (iZ (b))), (4, .int (iZ (400 * a + (i : Int)))), (5, .int (iZ (has2 Lb (rK x))))] []) :
    ∀ (d : Nat) (j : Nat) (V1 : Nat → Int) (G1 : Nat → Int → Int) (f1 : Hp), (hW : MF E rg f0 f1 m A V1 G1) → (ho : oth G G1 t) → (hv : othV V V1) → (hj : j ≤ Lb.length) → (hacc : macc V1 G1 t (r0 ++ in2 kd (Lb.take j) x)) → (Lb.length - j) < d → J G9 0 0 f1 48 [(0, .ref m), (1, .int (iZ (t))), (2, .int (iZ (a))), (3, .int (iZ (b))), (4, .int (iZ (400 * a + (i : Int)))), (5, .int (iZ (has2 (Lb.take j) (rK x)))), (6, .int (iZ (400 * b + (j : Int))))] [] := by
  intro d
  induction d with
  | zero => intro j V1 G1 f1 hW ho hv hj hacc hd9; exfalso; omega
  | succ d ih =>
    intro j V1 G1 f1 hW ho hv hj hacc hd9
    have hA1 := nrep_oth ho (Or.inl ha.2) hll hLa
    have hB1 := nrep_oth ho (Or.inl hb.2) hllb hLb
    have k12 : G1 12 t = kd := by rw [ho.1 12 (by decide) (by decide) (by decide) (by decide)]; exact h12
    have xr1 := rK_rng hxo.1
    have xr2 := rT_rng hxo.1
    have xr3 := rV_rng hxo.1
    refine j_iload hG dX12_makeOfTwo_48 rfl ?_
    refine j_sipush hG dX12_makeOfTwo_50 (by decide) ?_
    refine j_iload_n hG dX12_makeOfTwo_53 rfl rfl ?_
    refine j_imul hG dX12_makeOfTwo_54 ?_
    refine j_aload_n hG dX12_makeOfTwo_55 rfl rfl ?_
    refine j_get (v := .ref (A 21)) hG fX12_57 dX12_makeOfTwo_56 hW.1 rfl ?_
    refine j_iload_n hG dX12_makeOfTwo_59 rfl rfl ?_
    refine j_iald hG dX12_makeOfTwo_60 (MF_a21 hW) (by omega) (by decide) ?_
    refine j_eq (show ((G1 21) b : Int) = ((Lb.length : Int) : Int) from hB1.1) ?_
    refine j_iadd hG dX12_makeOfTwo_61 ?_
    refine j_icmp_ge (tgt := 168) hG dX12_makeOfTwo_62 (by decide) (by omega) (by omega) (fun c1 => ?_) (fun c1 => ?_)
    · -- taken at 62
      have e9 : j = Lb.length := by omega
      subst e9
      rw [List.take_length] at hacc ⊢
      refine j_lv (lv' := [(0, .ref m), (1, .int (iZ (t))), (2, .int (iZ (a))), (3, .int (iZ (b))), (4, .int (iZ (400 * a + (i : Int)))), (5, .int (iZ (has2 Lb (rK x))))]) (by simp) ?_
      exact hN f1 V1 G1 hW hacc ho hv
    · -- on at 62
      have x9 := hA1.2 i hil
      rw [← hx] at x9
      have y9 := hB1.2 j (by omega)
      have hyo := hlob _ (gd_mem (L := Lb) (i := j) (by omega))
      have yr1 := rK_rng hyo.1
      have yr2 := rT_rng hyo.1
      have yr3 := rV_rng hyo.1
      refine j_aload_n hG dX12_makeOfTwo_65 rfl rfl ?_
      refine j_get (v := .ref (A 22)) hG fX12_60 dX12_makeOfTwo_66 hW.1 rfl ?_
      refine j_iload hG dX12_makeOfTwo_69 rfl ?_
      refine j_iald hG dX12_makeOfTwo_71 (MF_a22 hW) (by omega) (by decide) ?_
      refine j_eq (show ((G1 22) (400 * b + (j : Int)) : Int) = (rK (Lb.getD j 0) : Int) from y9.1) ?_
      refine j_aload_n hG dX12_makeOfTwo_72 rfl rfl ?_
      refine j_get (v := .ref (A 22)) hG fX12_60 dX12_makeOfTwo_73 hW.1 rfl ?_
      refine j_iload hG dX12_makeOfTwo_76 rfl ?_
      refine j_iald hG dX12_makeOfTwo_78 (MF_a22 hW) (by omega) (by decide) ?_
      refine j_eq (show ((G1 22) (400 * a + (i : Int)) : Int) = (rK x : Int) from x9.1) ?_
      refine j_icmp_eq (tgt := 85) hG dX12_makeOfTwo_79 (by decide) (by omega) (by omega) (fun c2 => ?_) (fun c2 => ?_)
      · -- taken at 79
        refine j_iconst hG dX12_makeOfTwo_85 ?_
        refine j_istore (lv' := [(0, .ref m), (1, .int (iZ (t))), (2, .int (iZ (a))), (3, .int (iZ (b))), (4, .int (iZ (400 * a + (i : Int)))), (5, .int (iZ (1))), (6, .int (iZ (400 * b + (j : Int))))]) hG dX12_makeOfTwo_86 (by decide) rfl ?_
        refine j_aload_n hG dX12_makeOfTwo_88 rfl rfl ?_
        refine j_get (v := .ref (A 12)) hG fX12_30 dX12_makeOfTwo_89 hW.1 rfl ?_
        refine j_iload_n hG dX12_makeOfTwo_92 rfl rfl ?_
        refine j_iald hG dX12_makeOfTwo_93 (MF_a12 hW) (by omega) (by decide) ?_
        refine j_eq (show ((G1 12) t : Int) = (kd : Int) from k12) ?_
        refine j_bipush hG dX12_makeOfTwo_94 (by decide) ?_
        refine j_icmp_ne (tgt := 162) hG dX12_makeOfTwo_96 (by decide) (by omega) (by omega) (fun c3 => ?_) (fun c3 => ?_)
        · -- taken at 96
          refine j_iinc (a := 400 * b + (j : Int)) (lv' := [(0, .ref m), (1, .int (iZ (t))), (2, .int (iZ (a))), (3, .int (iZ (b))), (4, .int (iZ (400 * a + (i : Int)))), (5, .int (iZ (1))), (6, .int (iZ ((400 * b + (j : Int)) + 1)))]) hG dX12_makeOfTwo_162 rfl (by decide) rfl ?_
          refine j_goto (tgt := 48) hG dX12_makeOfTwo_165 (by decide) ?_
          have h9 : has2 (Lb.take (j + 1)) (rK x) = 1 := by rw [has2_snoc (by omega), if_pos (by omega)]
          have e9 : in2 kd (Lb.take (j + 1)) x = in2 kd (Lb.take j) x := by rw [in2_snoc (by omega), if_neg (fun q => by omega), List.append_nil]
          refine j_lv (lv' := [(0, .ref m), (1, .int (iZ (t))), (2, .int (iZ (a))), (3, .int (iZ (b))), (4, .int (iZ (400 * a + (i : Int)))), (5, .int (iZ (1))), (6, .int (iZ (400 * b + (j : Int) + 1)))]) (by simp) ?_
          rw [show 400 * b + (j : Int) + 1 = 400 * b + ((j + 1 : Nat) : Int) by omega]
          rw [← h9]
          exact ih (j + 1) V1 G1 f1 hW ho hv (by omega) (by rw [e9]; exact hacc) (by omega)
        · -- on at 96
          refine j_aload_n hG dX12_makeOfTwo_99 rfl rfl ?_
          refine j_iload_n hG dX12_makeOfTwo_100 rfl rfl ?_
          refine j_aload_n hG dX12_makeOfTwo_101 rfl rfl ?_
          refine j_get (v := .ref (A 22)) hG fX12_60 dX12_makeOfTwo_102 hW.1 rfl ?_
          refine j_iload hG dX12_makeOfTwo_105 rfl ?_
          refine j_iald hG dX12_makeOfTwo_107 (MF_a22 hW) (by omega) (by decide) ?_
          refine j_eq (show ((G1 22) (400 * a + (i : Int)) : Int) = (rK x : Int) from x9.1) ?_
          refine j_aload_n hG dX12_makeOfTwo_108 rfl rfl ?_
          refine j_get (v := .ref (A 23)) hG fX12_63 dX12_makeOfTwo_109 hW.1 rfl ?_
          refine j_iload hG dX12_makeOfTwo_112 rfl ?_
          refine j_iald hG dX12_makeOfTwo_114 (MF_a23 hW) (by omega) (by decide) ?_
          refine j_eq (show ((G1 23) (400 * a + (i : Int)) : Int) = (rV x : Int) from x9.2.1) ?_
          refine j_i2l hG dX12_makeOfTwo_115 (by omega) ?_
          refine j_aload_n hG dX12_makeOfTwo_116 rfl rfl ?_
          refine j_get (v := .ref (A 23)) hG fX12_63 dX12_makeOfTwo_117 hW.1 rfl ?_
          refine j_iload hG dX12_makeOfTwo_120 rfl ?_
          refine j_iald hG dX12_makeOfTwo_122 (MF_a23 hW) (by omega) (by decide) ?_
          refine j_eq (show ((G1 23) (400 * b + (j : Int)) : Int) = (rV (Lb.getD j 0) : Int) from y9.2.1) ?_
          refine j_i2l hG dX12_makeOfTwo_123 (by omega) ?_
          refine j_ladd hG dX12_makeOfTwo_124 ?_
          have hj4 : ∀ (tm : Int) , max (rT x) (rT (Lb.getD j 0)) = tm → J G9 0 0 f1 159 [(0, .ref m), (1, .int (iZ (t))), (2, .int (iZ (a))), (3, .int (iZ (b))), (4, .int (iZ (400 * a + (i : Int)))), (5, .int (iZ (1))), (6, .int (iZ (400 * b + (j : Int))))] [.int (iZ (tm)), .long (lZ ((rV x) + (rV (Lb.getD j 0)))), .int (iZ (rK x)), .int (iZ (t)), .ref m] := by
            intro tm  hm9
            refine j_callV (rest := []) hG vX12_159 dX12_makeOfTwo_159 (c_X12_add (t := t) (k := rK x) (u := (rV x) + (rV (Lb.getD j 0))) (tm := tm) (r := r0 ++ in2 kd (Lb.take j) x) hW ht0 (by omega) (by omega) (by omega) (kOk_app hr0 (in2_k hxo.1 (take_l hlob j))) hacc) hW.1 rfl rfl (by decide) (by decide) (Nat.le_of_ble_eq_true rfl) rfl rfl (Nat.zero_le _) (Nat.zero_le _) ?_
            rintro _ f11 ⟨rfl, V5, G6, hW7, hacc8, ho9, hv10⟩
            refine j_st (st' := []) rfl ?_
            have ho12 := oth_tr ho ho9
            have hv13 := othV_tr hv hv10
            refine j_iinc (a := 400 * b + (j : Int)) (lv' := [(0, .ref m), (1, .int (iZ (t))), (2, .int (iZ (a))), (3, .int (iZ (b))), (4, .int (iZ (400 * a + (i : Int)))), (5, .int (iZ (1))), (6, .int (iZ ((400 * b + (j : Int)) + 1)))]) hG dX12_makeOfTwo_162 rfl (by decide) rfl ?_
            refine j_goto (tgt := 48) hG dX12_makeOfTwo_165 (by decide) ?_
            have h9 : has2 (Lb.take (j + 1)) (rK x) = 1 := by rw [has2_snoc (by omega), if_pos (by omega)]
            have e9 : in2 kd (Lb.take (j + 1)) x = in2 kd (Lb.take j) x ++ [(rK x, tm, (rV x) + (rV (Lb.getD j 0)))] := by rw [in2_snoc (by omega), if_pos ⟨by omega, by omega⟩]; rw [hm9]
            refine j_lv (lv' := [(0, .ref m), (1, .int (iZ (t))), (2, .int (iZ (a))), (3, .int (iZ (b))), (4, .int (iZ (400 * a + (i : Int)))), (5, .int (iZ (1))), (6, .int (iZ (400 * b + (j : Int) + 1)))]) (by simp) ?_
            rw [show 400 * b + (j : Int) + 1 = 400 * b + ((j + 1 : Nat) : Int) by omega]
            rw [← h9]
            exact ih (j + 1) V5 G6 f11 hW7 ho12 hv13 (by omega) (by rw [e9, ← List.append_assoc]; exact hacc8) (by omega)
          refine j_aload_n hG dX12_makeOfTwo_125 rfl rfl ?_
          refine j_get (v := .ref (A 24)) hG fX12_66 dX12_makeOfTwo_126 hW.1 rfl ?_
          refine j_iload hG dX12_makeOfTwo_129 rfl ?_
          refine j_iald hG dX12_makeOfTwo_131 (MF_a24 hW) (by omega) (by decide) ?_
          refine j_eq (show ((G1 24) (400 * a + (i : Int)) : Int) = (rT x : Int) from x9.2.2) ?_
          refine j_aload_n hG dX12_makeOfTwo_132 rfl rfl ?_
          refine j_get (v := .ref (A 24)) hG fX12_66 dX12_makeOfTwo_133 hW.1 rfl ?_
          refine j_iload hG dX12_makeOfTwo_136 rfl ?_
          refine j_iald hG dX12_makeOfTwo_138 (MF_a24 hW) (by omega) (by decide) ?_
          refine j_eq (show ((G1 24) (400 * b + (j : Int)) : Int) = (rT (Lb.getD j 0) : Int) from y9.2.2) ?_
          refine j_icmp_le (tgt := 152) hG dX12_makeOfTwo_139 (by decide) (by omega) (by omega) (fun c14 => ?_) (fun c14 => ?_)
          · -- taken at 139
            refine j_aload_n hG dX12_makeOfTwo_152 rfl rfl ?_
            refine j_get (v := .ref (A 24)) hG fX12_66 dX12_makeOfTwo_153 hW.1 rfl ?_
            refine j_iload hG dX12_makeOfTwo_156 rfl ?_
            refine j_iald hG dX12_makeOfTwo_158 (MF_a24 hW) (by omega) (by decide) ?_
            refine j_eq (show ((G1 24) (400 * b + (j : Int)) : Int) = (rT (Lb.getD j 0) : Int) from y9.2.2) ?_
            exact hj4 (rT (Lb.getD j 0)) (by omega)
          · -- on at 139
            refine j_aload_n hG dX12_makeOfTwo_142 rfl rfl ?_
            refine j_get (v := .ref (A 24)) hG fX12_66 dX12_makeOfTwo_143 hW.1 rfl ?_
            refine j_iload hG dX12_makeOfTwo_146 rfl ?_
            refine j_iald hG dX12_makeOfTwo_148 (MF_a24 hW) (by omega) (by decide) ?_
            refine j_eq (show ((G1 24) (400 * a + (i : Int)) : Int) = (rT x : Int) from x9.2.2) ?_
            refine j_goto (tgt := 159) hG dX12_makeOfTwo_149 (by decide) ?_
            exact hj4 (rT x) (by omega)
      · -- on at 79
        refine j_goto (tgt := 162) hG dX12_makeOfTwo_82 (by decide) ?_
        refine j_iinc (a := 400 * b + (j : Int)) (lv' := [(0, .ref m), (1, .int (iZ (t))), (2, .int (iZ (a))), (3, .int (iZ (b))), (4, .int (iZ (400 * a + (i : Int)))), (5, .int (iZ (has2 (Lb.take j) (rK x)))), (6, .int (iZ ((400 * b + (j : Int)) + 1)))]) hG dX12_makeOfTwo_162 rfl (by decide) rfl ?_
        refine j_goto (tgt := 48) hG dX12_makeOfTwo_165 (by decide) ?_
        have h9 : has2 (Lb.take (j + 1)) (rK x) = has2 (Lb.take j) (rK x) := by rw [has2_snoc (by omega), if_neg (by omega)]
        have e9 : in2 kd (Lb.take (j + 1)) x = in2 kd (Lb.take j) x := by rw [in2_snoc (by omega), if_neg (fun q => by omega), List.append_nil]
        refine j_lv (lv' := [(0, .ref m), (1, .int (iZ (t))), (2, .int (iZ (a))), (3, .int (iZ (b))), (4, .int (iZ (400 * a + (i : Int)))), (5, .int (iZ (has2 (Lb.take j) (rK x)))), (6, .int (iZ (400 * b + (j : Int) + 1)))]) (by simp) ?_
        rw [show 400 * b + (j : Int) + 1 = 400 * b + ((j + 1 : Nat) : Int) by omega]
        rw [← h9]
        exact ih (j + 1) V1 G1 f1 hW ho hv (by omega) (by rw [e9]; exact hacc) (by omega)
theorem l_X12_makeOfTwo {G9 : JG} {l : Launch} {E : JE} {P : Option Value → Hp → Prop} (hG : jX G9 l E cX12_makeOfTwo RX12 7 rmX12_makeOfTwo) (hZ : jZ G9 none P) {rg : Nat → Nat} {f0 : Hp} {m : Nat} {A : Nat → Nat} {V : Nat → Int} {G : Nat → Int → Int} {t a : Int} {La : List Int} {Lb : List Int} {b kd : Int} (ht0 : 0 ≤ t ∧ t < 12) (ha : 0 ≤ a ∧ a < t) (h12 : G 12 t = kd) (h13 : G 13 t = a) (hb : 0 ≤ b ∧ b < t) (h14 : G 14 t = b) (hkd : kd = 11 ∨ kd = 12) (hLa : nrep G a La) (hlo : lOk La) (hll : La.length ≤ 400) (hLb : nrep G b Lb) (hlob : lOk Lb) (hllb : Lb.length ≤ 400) (hP : ∀ (f' : Hp) (V' : Nat → Int) (G' : Nat → Int → Int), MF E rg f0 f' m A V' G' → macc V' G' t (La.flatMap (of2 kd Lb)) → oth G G' t → othV V V' → P none f') :
    ∀ (d : Nat) (i : Nat) (V1 : Nat → Int) (G1 : Nat → Int → Int) (f1 : Hp), (hW : MF E rg f0 f1 m A V1 G1) → (ho : oth G G1 t) → (hv : othV V V1) → (hi : i ≤ La.length) → (hacc : macc V1 G1 t ((La.take i).flatMap (of2 kd Lb))) → (La.length - i) < d → J G9 0 0 f1 21 [(0, .ref m), (1, .int (iZ (t))), (2, .int (iZ (a))), (3, .int (iZ (b))), (4, .int (iZ (400 * a + (i : Int))))] [] := by
  intro d
  induction d with
  | zero => intro i V1 G1 f1 hW ho hv hi hacc hd9; exfalso; omega
  | succ d ih =>
    intro i V1 G1 f1 hW ho hv hi hacc hd9
    have hA1 := nrep_oth ho (Or.inl ha.2) hll hLa
    refine j_iload hG dX12_makeOfTwo_21 rfl ?_
    refine j_sipush hG dX12_makeOfTwo_23 (by decide) ?_
    refine j_iload_n hG dX12_makeOfTwo_26 rfl rfl ?_
    refine j_imul hG dX12_makeOfTwo_27 ?_
    refine j_aload_n hG dX12_makeOfTwo_28 rfl rfl ?_
    refine j_get (v := .ref (A 21)) hG fX12_57 dX12_makeOfTwo_29 hW.1 rfl ?_
    refine j_iload_n hG dX12_makeOfTwo_32 rfl rfl ?_
    refine j_iald hG dX12_makeOfTwo_33 (MF_a21 hW) (by omega) (by decide) ?_
    refine j_eq (show ((G1 21) a : Int) = ((La.length : Int) : Int) from hA1.1) ?_
    refine j_iadd hG dX12_makeOfTwo_34 ?_
    refine j_icmp_ge (tgt := 217) hG dX12_makeOfTwo_35 (by decide) (by omega) (by omega) (fun c1 => ?_) (fun c1 => ?_)
    · -- taken at 35
      have e9 : i = La.length := by omega
      subst e9
      rw [List.take_length] at hacc
      exact j_vret hG hZ dX12_makeOfTwo_217 (Nat.zero_le _) (Nat.zero_le _) (hP f1 V1 G1 hW hacc ho hv)
    · -- on at 35
      refine j_iconst hG dX12_makeOfTwo_38 ?_
      refine j_istore (lv' := [(0, .ref m), (1, .int (iZ (t))), (2, .int (iZ (a))), (3, .int (iZ (b))), (4, .int (iZ (400 * a + (i : Int)))), (5, .int (iZ (0)))]) hG dX12_makeOfTwo_39 (by decide) rfl ?_
      refine j_sipush hG dX12_makeOfTwo_41 (by decide) ?_
      refine j_iload_n hG dX12_makeOfTwo_44 rfl rfl ?_
      refine j_imul hG dX12_makeOfTwo_45 ?_
      refine j_istore (lv' := [(0, .ref m), (1, .int (iZ (t))), (2, .int (iZ (a))), (3, .int (iZ (b))), (4, .int (iZ (400 * a + (i : Int)))), (5, .int (iZ (0))), (6, .int (iZ (400 * b)))]) hG dX12_makeOfTwo_46 (by decide) rfl ?_
      obtain ⟨x, hx⟩ : ∃ x, x = La.getD i 0 := ⟨_, rfl⟩
      have hxo : rOk x ∧ rV x ≤ 1000000000 := by rw [hx]; exact hlo _ (gd_mem (by omega))
      have hr0 := of2_k (kd := kd) (take_l hlo i) (lOk_r hlob)
      rw [show 400 * b = 400 * b + ((0 : Nat) : Int) by omega]
      rw [show (0 : Int) = has2 (Lb.take 0) (rK x) from rfl]
      refine l_X12_makeOfTwo_i (r0 := (La.take i).flatMap (of2 kd Lb)) hG hZ ht0 ha h12 h13 hb h14 hkd hLa hlo hll hLb hlob hllb (by omega) hx hxo hr0 (fun f2 V2 G2 w2 a2 o2 v2 => ?_) (Lb.length + 1) 0 V1 G1 f1 hW ho hv (by omega) (by rw [show in2 kd (Lb.take 0) x = [] by unfold in2; split <;> rfl, List.append_nil]; exact hacc) (by omega)
      have hA2 := nrep_oth o2 (Or.inl ha.2) hll hLa
      have x9 := hA2.2 i (by omega)
      rw [← hx] at x9
      have k12 : G2 12 t = kd := by rw [o2.1 12 (by decide) (by decide) (by decide) (by decide)]; exact h12
      have xr1 := rK_rng hxo.1
      have xr2 := rT_rng hxo.1
      have xr3 := rV_rng hxo.1
      have hh9 : has2 Lb (rK x) = 0 ∨ has2 Lb (rK x) = 1 := by unfold has2; split; exact Or.inr rfl; exact Or.inl rfl
      refine j_aload_n hG dX12_makeOfTwo_168 rfl rfl ?_
      refine j_get (v := .ref (A 12)) hG fX12_30 dX12_makeOfTwo_169 w2.1 rfl ?_
      refine j_iload_n hG dX12_makeOfTwo_172 rfl rfl ?_
      refine j_iald hG dX12_makeOfTwo_173 (MF_a12 w2) (by omega) (by decide) ?_
      refine j_eq (show ((G2 12) t : Int) = (kd : Int) from k12) ?_
      refine j_bipush hG dX12_makeOfTwo_174 (by decide) ?_
      refine j_icmp_ne (tgt := 211) hG dX12_makeOfTwo_176 (by decide) (by omega) (by omega) (fun c2 => ?_) (fun c2 => ?_)
      · -- taken at 176
        have e8 : of2 kd Lb x = in2 kd Lb x := by unfold of2 in2; rw [if_pos (by omega), if_pos (by omega)]
        refine j_iinc (a := 400 * a + (i : Int)) (lv' := [(0, .ref m), (1, .int (iZ (t))), (2, .int (iZ (a))), (3, .int (iZ (b))), (4, .int (iZ ((400 * a + (i : Int)) + 1))), (5, .int (iZ (has2 Lb (rK x))))]) hG dX12_makeOfTwo_211 rfl (by decide) rfl ?_
        refine j_goto (tgt := 21) hG dX12_makeOfTwo_214 (by decide) ?_
        refine j_lv (lv' := [(0, .ref m), (1, .int (iZ (t))), (2, .int (iZ (a))), (3, .int (iZ (b))), (4, .int (iZ (400 * a + (i : Int) + 1)))]) (by simp) ?_
        rw [show 400 * a + (i : Int) + 1 = 400 * a + ((i + 1 : Nat) : Int) by omega]
        exact ih (i + 1) V2 G2 f2 w2 o2 v2 (by omega) (by rw [flat_snoc (by omega), ← hx]; rw [e8]; first | exact a2 | (rw [List.append_nil]; exact a2)) (by omega)
      · -- on at 176
        have e7 : in2 kd Lb x = [] := by unfold in2; rw [if_neg (by omega)]
        rw [e7, List.append_nil] at a2
        refine j_iload hG dX12_makeOfTwo_179 rfl ?_
        refine j_if_ne (tgt := 211) hG dX12_makeOfTwo_181 (by decide) (by omega) (fun c3 => ?_) (fun c3 => ?_)
        · -- taken at 181
          have nh : hasK Lb (rK x) = true := has2_1 (by omega)
          have e8 : of2 kd Lb x = [] := by unfold of2; rw [if_neg (by omega), if_pos nh]
          refine j_iinc (a := 400 * a + (i : Int)) (lv' := [(0, .ref m), (1, .int (iZ (t))), (2, .int (iZ (a))), (3, .int (iZ (b))), (4, .int (iZ ((400 * a + (i : Int)) + 1))), (5, .int (iZ (has2 Lb (rK x))))]) hG dX12_makeOfTwo_211 rfl (by decide) rfl ?_
          refine j_goto (tgt := 21) hG dX12_makeOfTwo_214 (by decide) ?_
          refine j_lv (lv' := [(0, .ref m), (1, .int (iZ (t))), (2, .int (iZ (a))), (3, .int (iZ (b))), (4, .int (iZ (400 * a + (i : Int) + 1)))]) (by simp) ?_
          rw [show 400 * a + (i : Int) + 1 = 400 * a + ((i + 1 : Nat) : Int) by omega]
          exact ih (i + 1) V2 G2 f2 w2 o2 v2 (by omega) (by rw [flat_snoc (by omega), ← hx]; rw [e8]; first | exact a2 | (rw [List.append_nil]; exact a2)) (by omega)
        · -- on at 181
          have nh : ¬ hasK Lb (rK x) = true := has2_0 (by omega)
          refine j_aload_n hG dX12_makeOfTwo_184 rfl rfl ?_
          refine j_iload_n hG dX12_makeOfTwo_185 rfl rfl ?_
          refine j_aload_n hG dX12_makeOfTwo_186 rfl rfl ?_
          refine j_get (v := .ref (A 22)) hG fX12_60 dX12_makeOfTwo_187 w2.1 rfl ?_
          refine j_iload hG dX12_makeOfTwo_190 rfl ?_
          refine j_iald hG dX12_makeOfTwo_192 (MF_a22 w2) (by omega) (by decide) ?_
          refine j_eq (show ((G2 22) (400 * a + (i : Int)) : Int) = (rK x : Int) from x9.1) ?_
          refine j_aload_n hG dX12_makeOfTwo_193 rfl rfl ?_
          refine j_get (v := .ref (A 23)) hG fX12_63 dX12_makeOfTwo_194 w2.1 rfl ?_
          refine j_iload hG dX12_makeOfTwo_197 rfl ?_
          refine j_iald hG dX12_makeOfTwo_199 (MF_a23 w2) (by omega) (by decide) ?_
          refine j_eq (show ((G2 23) (400 * a + (i : Int)) : Int) = (rV x : Int) from x9.2.1) ?_
          refine j_i2l hG dX12_makeOfTwo_200 (by omega) ?_
          refine j_aload_n hG dX12_makeOfTwo_201 rfl rfl ?_
          refine j_get (v := .ref (A 24)) hG fX12_66 dX12_makeOfTwo_202 w2.1 rfl ?_
          refine j_iload hG dX12_makeOfTwo_205 rfl ?_
          refine j_iald hG dX12_makeOfTwo_207 (MF_a24 w2) (by omega) (by decide) ?_
          refine j_eq (show ((G2 24) (400 * a + (i : Int)) : Int) = (rT x : Int) from x9.2.2) ?_
          refine j_callV (rest := []) hG vX12_159 dX12_makeOfTwo_208 (c_X12_add (t := t) (k := rK x) (u := rV x) (tm := rT x) (r := (La.take i).flatMap (of2 kd Lb)) w2 ht0 (by omega) (by omega) (by omega) hr0 a2) w2.1 rfl rfl (by decide) (by decide) (Nat.le_of_ble_eq_true rfl) rfl rfl (Nat.zero_le _) (Nat.zero_le _) ?_
          rintro _ f10 ⟨rfl, V4, G5, hW6, hacc7, ho8, hv9⟩
          refine j_st (st' := []) rfl ?_
          have ho11 := oth_tr o2 ho8
          have hv12 := othV_tr v2 hv9
          refine j_iinc (a := 400 * a + (i : Int)) (lv' := [(0, .ref m), (1, .int (iZ (t))), (2, .int (iZ (a))), (3, .int (iZ (b))), (4, .int (iZ ((400 * a + (i : Int)) + 1))), (5, .int (iZ (has2 Lb (rK x))))]) hG dX12_makeOfTwo_211 rfl (by decide) rfl ?_
          refine j_goto (tgt := 21) hG dX12_makeOfTwo_214 (by decide) ?_
          refine j_lv (lv' := [(0, .ref m), (1, .int (iZ (t))), (2, .int (iZ (a))), (3, .int (iZ (b))), (4, .int (iZ (400 * a + (i : Int) + 1)))]) (by simp) ?_
          rw [show 400 * a + (i : Int) + 1 = 400 * a + ((i + 1 : Nat) : Int) by omega]
          exact ih (i + 1) V4 G5 f10 hW6 ho11 hv12 (by omega) (by rw [flat_snoc (by omega), ← hx]; unfold of2; rw [if_neg (by omega), if_neg nh]; exact hacc7) (by omega)
theorem c_X12_makeOfTwo {l : Launch} {E : JE} {f : Hp} {rg : Nat → Nat} {f0 : Hp} {m : Nat} {A : Nat → Nat} {V : Nat → Int} {G : Nat → Int → Int} {t a b kd : Int} {La Lb : List Int} (hW : MF E rg f0 f m A V G) (ht0 : 0 ≤ t ∧ t < 12) (ha : 0 ≤ a ∧ a < t) (h12 : G 12 t = kd) (h13 : G 13 t = a) (hb : 0 ≤ b ∧ b < t) (h14 : G 14 t = b) (hkd : kd = 11 ∨ kd = 12) (hLa : nrep G a La) (hlo : lOk La) (hll : La.length ≤ 400) (hLb : nrep G b Lb) (hlob : lOk Lb) (hllb : Lb.length ≤ 400) (hacc : macc V G t []) : KX12_makeOfTwo l E [.ref m, .int (iZ (t))] f (fun v f' => v = none ∧ ∃ (V' : Nat → Int) (G' : Nat → Int → Int), MF E rg f0 f' m A V' G' ∧ macc V' G' t (La.flatMap (of2 kd Lb)) ∧ oth G G' t ∧ othV V V') := by
  refine ct_of (own := RX12) (lv := [(0, .ref m), (1, .int (iZ (t)))]) (by decide +kernel) rfl (Nat.le_of_ble_eq_true rfl) rfl ?_
  intro G9 hG hZ
  refine j_aload_n hG dX12_makeOfTwo_0 rfl rfl ?_
  refine j_get (v := .ref (A 13)) hG fX12_33 dX12_makeOfTwo_1 hW.1 rfl ?_
  refine j_iload_n hG dX12_makeOfTwo_4 rfl rfl ?_
  refine j_iald hG dX12_makeOfTwo_5 (MF_a13 hW) (by omega) (by decide) ?_
  refine j_eq (show ((G 13) t : Int) = (a : Int) from h13) ?_
  refine j_istore_n (lv' := [(0, .ref m), (1, .int (iZ (t))), (2, .int (iZ (a)))]) hG dX12_makeOfTwo_6 rfl (by decide) rfl ?_
  refine j_aload_n hG dX12_makeOfTwo_7 rfl rfl ?_
  refine j_get (v := .ref (A 14)) hG fX12_36 dX12_makeOfTwo_8 hW.1 rfl ?_
  refine j_iload_n hG dX12_makeOfTwo_11 rfl rfl ?_
  refine j_iald hG dX12_makeOfTwo_12 (MF_a14 hW) (by omega) (by decide) ?_
  refine j_eq (show ((G 14) t : Int) = (b : Int) from h14) ?_
  refine j_istore_n (lv' := [(0, .ref m), (1, .int (iZ (t))), (2, .int (iZ (a))), (3, .int (iZ (b)))]) hG dX12_makeOfTwo_13 rfl (by decide) rfl ?_
  refine j_sipush hG dX12_makeOfTwo_14 (by decide) ?_
  refine j_iload_n hG dX12_makeOfTwo_17 rfl rfl ?_
  refine j_imul hG dX12_makeOfTwo_18 ?_
  refine j_istore (lv' := [(0, .ref m), (1, .int (iZ (t))), (2, .int (iZ (a))), (3, .int (iZ (b))), (4, .int (iZ (400 * a)))]) hG dX12_makeOfTwo_19 (by decide) rfl ?_
  rw [show 400 * a = 400 * a + ((0 : Nat) : Int) by omega]
  exact l_X12_makeOfTwo hG hZ ht0 ha h12 h13 hb h14 hkd hLa hlo hll hLb hlob hllb (fun f' V' G' a1 a2 a3 a4 => ⟨rfl, V', G', a1, a2, a3, a4⟩) (La.length + 1) 0 V G f hW oth_rf (fun _ _ => rfl) (by omega) hacc (by omega)
