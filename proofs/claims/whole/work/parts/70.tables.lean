def oV9 (V V' : Nat → Int) : Prop := ∀ i, i ≠ 0 → i ≠ 36 → i ≠ 45 → i ≠ 46 → i ≠ 47 → i ≠ 48 → i ≠ 49 → i ≠ 50 → V' i = V i
def oG9 (G G' : Nat → Int → Int) : Prop := ∀ i, i < 37 ∨ 42 < i → G' i = G i
def mrelA (G : Nat → Int → Int) (M : Int → Int → Int) (t : Nat) : Prop := ∀ i : Nat, i < t → frel (M i) (G 37 i) (G 38 i) (G 39 i) (G 40 i) (G 41 i)
/-- what is left of a TEXT behind a TABLE that ends at p -/
def aft (g tl : Int → Int) (len : Int) (t : Nat) (M : Int → Int → Int) (p : Int) : Int × Nat × (Int → Int → Int) := if len ≤ p then (-1, t, M) else if sgn g len p 59 = false then (p, t, M) else prsL g len (12 - t) t tl M (nx g len p)
/-- how it stands behind a TABLE -/
def stT (g : Int → Int) (len : Int) (R : Int × Nat × (Int → Int → Int)) (t : Nat) (G : Nat → Int → Int) (S : T3) : Prop := (S.2.1 = 0 ∧ S.2.2 = -1 ∧ ∃ (tl : Int → Int) (M : Int → Int → Int), G 42 = tl ∧ (∀ j, 0 ≤ j → j < 26 → -1 ≤ tl j ∧ tl j < 12) ∧ mrelA G M t ∧ aft g tl len t M S.1 = R) ∨ (S.2.1 = 1 ∧ R.1 = S.2.2 ∧ 0 ≤ S.2.2)
theorem rt_use {g tl : Int → Int} {len s : Int} {t : Nat} {M : Int → Int → Int} {G G' : Nat → Int → Int} {V' : Nat → Int} {kd : Int} {R : Int × Nat × (Int → Int → Int)} (ht12 : t ≤ 12) (hs : 0 ≤ s ∧ s ≤ len) (htl : ∀ j, 0 ≤ j → j < 26 → -1 ≤ tl j ∧ tl j < 12) (hM : mrelA G M t) (hR : prsL g len (12 - t) t tl M s = R) (hkd : kd = kdF g len (M2 g len (M1 g tl len t (s, 0, -1))).1) (hb : (RK g tl len kd (M3 g len (M2 g len (M1 g tl len t (s, 0, -1))))).2.1 = 0 ∨ (RK g tl len kd (M3 g len (M2 g len (M1 g tl len t (s, 0, -1))))).2.1 = 1)
    (h : ((RK g tl len kd (M3 g len (M2 g len (M1 g tl len t (s, 0, -1))))).2.1 ≠ 0 ∧ V' 36 = (t : Int) ∧ G' = G) ∨ ((RK g tl len kd (M3 g len (M2 g len (M1 g tl len t (s, 0, -1))))).2.1 = 0 ∧ V' 36 = (t : Int) + 1 ∧ ∃ a b c r : Int, G' = up (up (up (up (up (up G 37 (fup (G 37) (t : Int) kd)) 38 (fup (G 38) (t : Int) a)) 39 (fup (G 39) (t : Int) b)) 40 (fup (G 40) (t : Int) c)) 41 (fup (G 41) (t : Int) r)) 42 (fup tl (letr g len s) (t : Int)) ∧ (kd = 0 → a = woF g len (M3 g len (M2 g len (M1 g tl len t (s, 0, -1)))).1) ∧ (kd ≠ 0 → a = nameT g tl len (M3 g len (M2 g len (M1 g tl len t (s, 0, -1)))).1) ∧ (kd = 1 → c = colF g len (MN g tl len (M3 g len (M2 g len (M1 g tl len t (s, 0, -1))))).1 ∧ r = woF g len (MC g len (MN g tl len (M3 g len (M2 g len (M1 g tl len t (s, 0, -1)))))).1 ∧ b = sgV g len (MQ9 g len (MC g len (MN g tl len (M3 g len (M2 g len (M1 g tl len t (s, 0, -1)))))))) ∧ (kd = 2 ∨ kd = 3 → b = sgV g len (MN g tl len (M3 g len (M2 g len (M1 g tl len t (s, 0, -1)))))) ∧ (kd = 4 ∨ kd = 5 → b = woF g len (MN g tl len (M3 g len (M2 g len (M1 g tl len t (s, 0, -1))))).1) ∧ (kd = 11 ∨ kd = 12 → b = nameT g tl len (MN g tl len (M3 g len (M2 g len (M1 g tl len t (s, 0, -1))))).1) ∧ (6 ≤ kd ∧ kd ≤ 10 → b = 0))) : ∃ t' : Nat, V' 36 = (t' : Int) ∧ t' ≤ 12 ∧ oG9 G G' ∧ stT g len R t' G' (RK g tl len kd (M3 g len (M2 g len (M1 g tl len t (s, 0, -1))))) ∧ 2 * (13 - t') + (1 - (RK g tl len kd (M3 g len (M2 g len (M1 g tl len t (s, 0, -1))))).2.1).toNat < 2 * (13 - t) + 1 := by
  subst hkd
  rcases h with ⟨h1, h2, h3⟩ | ⟨h1, h2, a, b, c, r, h3, h4⟩
  · have q := rt_bad (M := M) ht12 hs (fl := -1) h1
    subst h3
    refine ⟨t, h2, ht12, fun _ _ => rfl, Or.inr ⟨hb.resolve_left h1, ?_, q.2⟩, by omega⟩
    rw [← hR, q.1]; rfl
  · obtain ⟨q1, q2, F, p, q3, q4, q5, q6, q7, q8, q9⟩ := rt_good (M := M) (fl := -1) hs h1
    have e3 : RK g tl len (kdF g len (M2 g len (M1 g tl len t (s, 0, -1))).1) (M3 g len (M2 g len (M1 g tl len t (s, 0, -1)))) = (p, 0, -1) := q3
    have kr := kdF_rng (g := g) (len := len) (s := nx g len (nx g len s))
    have r0 := nx_rng (g := g) (nx_rng (g := g) (nx_rng (g := g) hs))
    rw [q5, q6] at h4
    have fr := rt_vals (fl := -1) r0 (by omega) q8 h4
    rw [e3]
    refine ⟨t + 1, by rw [h2]; omega, by omega, fun i hi => by rw [h3, up_n _ _ (by omega), up_n _ _ (by omega), up_n _ _ (by omega), up_n _ _ (by omega), up_n _ _ (by omega), up_n _ _ (by omega)], Or.inl ⟨rfl, rfl, fup tl (letr g len s) (t : Int), fup M (t : Int) F, by rw [h3]; rfl, fun j j1 j2 => ?_, fun i hi => ?_, ?_⟩, by show _ + (1 - (0 : Int)).toNat < _; omega⟩
    · unfold fup; split
      · omega
      · exact htl j j1 j2
    · rw [h3]
      show frel _ (fup (G 37) (t : Int) _ i) (fup (G 38) (t : Int) a i) (fup (G 39) (t : Int) b i) (fup (G 40) (t : Int) c i) (fup (G 41) (t : Int) r i)
      by_cases e : i = t
      · subst e; rw [fup_s, fup_s, fup_s, fup_s, fup_s, fup_s, q6]; exact fr
      · have e2 : (i : Int) ≠ (t : Int) := by omega
        rw [fup_n _ _ e2, fup_n _ _ e2, fup_n _ _ e2, fup_n _ _ e2, fup_n _ _ e2, fup_n _ _ e2]; exact hM i (by omega)
    · rw [← hR, q9]; rfl
theorem l_X12_tables_c {G9 : JG} {l : Launch} {E : JE} {P : Option Value → Hp → Prop} (hG : jX G9 l E cX12_tables RX12 2 rmX12_tables) (hZ : jZ G9 (some .int) P) {rg : Nat → Nat} {f0 : Hp} {m : Nat} {A : Nat → Nat} {V : Nat → Int} {G : Nat → Int → Int} {n : Nat} (h11 : V 11 = (n : Int)) (hn : n ≤ 12) (hN : ∀ (f' : Hp) (G' : Nat → Int → Int), MF E rg f0 f' m A V G' → (∀ i, i ≠ 12 → i ≠ 13 → i ≠ 14 → i ≠ 15 → i ≠ 16 → G' i = G i) → (∀ j : Nat, j < n → G' 12 j = G 37 j ∧ G' 13 j = G 38 j ∧ G' 14 j = G 39 j ∧ G' 15 j = G 40 j ∧ G' 16 j = G 41 j) → J G9 0 0 f' 203 [(0, .ref m)] []) :
    ∀ (d : Nat) (k : Nat) (G1 : Nat → Int → Int) (f1 : Hp), (hW : MF E rg f0 f1 m A V G1) → (ho : ∀ i, i ≠ 12 → i ≠ 13 → i ≠ 14 → i ≠ 15 → i ≠ 16 → G1 i = G i) → (hk : k ≤ n) → (hc : ∀ j : Nat, j < k → G1 12 j = G 37 j ∧ G1 13 j = G 38 j ∧ G1 14 j = G 39 j ∧ G1 15 j = G 40 j ∧ G1 16 j = G 41 j) → (n - k) < d → J G9 0 0 f1 129 [(0, .ref m), (1, .int (iZ ((k : Int))))] [] := by
  intro d
  induction d with
  | zero => intro k G1 f1 hW ho hk hc hd9; exfalso; omega
  | succ d ih =>
    intro k G1 f1 hW ho hk hc hd9
    refine j_iload_n hG dX12_tables_129 rfl rfl ?_
    refine j_aload_n hG dX12_tables_130 rfl rfl ?_
    refine j_get (v := .int (iZ (V 11))) hG fX12_173 dX12_tables_131 hW.1 rfl ?_
    refine j_eq (show (V 11 : Int) = ((n : Int) : Int) from h11) ?_
    refine j_icmp_ge (tgt := 203) hG dX12_tables_134 (by decide) (by omega) (by omega) (fun c1_ => ?_) (fun c1_ => ?_)
    · -- taken at 134
      refine j_lv (lv' := [(0, .ref m)]) (by simp) ?_
      have e9 : k = n := by omega
      subst e9
      exact hN f1 G1 hW ho hc
    · -- on at 134
      refine j_aload_n hG dX12_tables_137 rfl rfl ?_
      refine j_get (v := .ref (A 12)) hG fX12_30 dX12_tables_138 hW.1 rfl ?_
      refine j_iload_n hG dX12_tables_141 rfl rfl ?_
      refine j_aload_n hG dX12_tables_142 rfl rfl ?_
      refine j_get (v := .ref (A 37)) hG fX12_93 dX12_tables_143 hW.1 rfl ?_
      refine j_iload_n hG dX12_tables_146 rfl rfl ?_
      refine j_iald hG dX12_tables_147 (MF_a37 hW) (by omega) (by decide) ?_
      refine j_iast hG dX12_tables_148 (MF_a12 hW) (by omega) (by decide) (fun f2_ h3_ fr4_ => ?_)
      have hW5_ : MF E rg f0 f2_ m A V (up G1 12 (fup (G1 12) (k : Int) ((G1 37) (k : Int)))) := MF_a hW 12 rfl h3_ fr4_
      refine j_aload_n hG dX12_tables_149 rfl rfl ?_
      refine j_get (v := .ref (A 13)) hG fX12_33 dX12_tables_150 hW5_.1 rfl ?_
      refine j_iload_n hG dX12_tables_153 rfl rfl ?_
      refine j_aload_n hG dX12_tables_154 rfl rfl ?_
      refine j_get (v := .ref (A 38)) hG fX12_96 dX12_tables_155 hW5_.1 rfl ?_
      refine j_iload_n hG dX12_tables_158 rfl rfl ?_
      refine j_iald hG dX12_tables_159 (MF_a38 hW5_) (by omega) (by decide) ?_
      refine j_iast hG dX12_tables_160 (MF_a13 hW5_) (by omega) (by decide) (fun f6_ h7_ fr8_ => ?_)
      have hW9_ : MF E rg f0 f6_ m A V (up (up G1 12 (fup (G1 12) (k : Int) ((G1 37) (k : Int)))) 13 (fup (G1 13) (k : Int) ((G1 38) (k : Int)))) := MF_a hW5_ 13 rfl h7_ fr8_
      refine j_aload_n hG dX12_tables_161 rfl rfl ?_
      refine j_get (v := .ref (A 14)) hG fX12_36 dX12_tables_162 hW9_.1 rfl ?_
      refine j_iload_n hG dX12_tables_165 rfl rfl ?_
      refine j_aload_n hG dX12_tables_166 rfl rfl ?_
      refine j_get (v := .ref (A 39)) hG fX12_99 dX12_tables_167 hW9_.1 rfl ?_
      refine j_iload_n hG dX12_tables_170 rfl rfl ?_
      refine j_iald hG dX12_tables_171 (MF_a39 hW9_) (by omega) (by decide) ?_
      refine j_iast hG dX12_tables_172 (MF_a14 hW9_) (by omega) (by decide) (fun f10_ h11_ fr12_ => ?_)
      have hW13_ : MF E rg f0 f10_ m A V (up (up (up G1 12 (fup (G1 12) (k : Int) ((G1 37) (k : Int)))) 13 (fup (G1 13) (k : Int) ((G1 38) (k : Int)))) 14 (fup (G1 14) (k : Int) ((G1 39) (k : Int)))) := MF_a hW9_ 14 rfl h11_ fr12_
      refine j_aload_n hG dX12_tables_173 rfl rfl ?_
      refine j_get (v := .ref (A 15)) hG fX12_39 dX12_tables_174 hW13_.1 rfl ?_
      refine j_iload_n hG dX12_tables_177 rfl rfl ?_
      refine j_aload_n hG dX12_tables_178 rfl rfl ?_
      refine j_get (v := .ref (A 40)) hG fX12_102 dX12_tables_179 hW13_.1 rfl ?_
      refine j_iload_n hG dX12_tables_182 rfl rfl ?_
      refine j_iald hG dX12_tables_183 (MF_a40 hW13_) (by omega) (by decide) ?_
      refine j_iast hG dX12_tables_184 (MF_a15 hW13_) (by omega) (by decide) (fun f14_ h15_ fr16_ => ?_)
      have hW17_ : MF E rg f0 f14_ m A V (up (up (up (up G1 12 (fup (G1 12) (k : Int) ((G1 37) (k : Int)))) 13 (fup (G1 13) (k : Int) ((G1 38) (k : Int)))) 14 (fup (G1 14) (k : Int) ((G1 39) (k : Int)))) 15 (fup (G1 15) (k : Int) ((G1 40) (k : Int)))) := MF_a hW13_ 15 rfl h15_ fr16_
      refine j_aload_n hG dX12_tables_185 rfl rfl ?_
      refine j_get (v := .ref (A 16)) hG fX12_42 dX12_tables_186 hW17_.1 rfl ?_
      refine j_iload_n hG dX12_tables_189 rfl rfl ?_
      refine j_aload_n hG dX12_tables_190 rfl rfl ?_
      refine j_get (v := .ref (A 41)) hG fX12_105 dX12_tables_191 hW17_.1 rfl ?_
      refine j_iload_n hG dX12_tables_194 rfl rfl ?_
      refine j_iald hG dX12_tables_195 (MF_a41 hW17_) (by omega) (by decide) ?_
      refine j_iast hG dX12_tables_196 (MF_a16 hW17_) (by omega) (by decide) (fun f18_ h19_ fr20_ => ?_)
      have hW21_ : MF E rg f0 f18_ m A V (up (up (up (up (up G1 12 (fup (G1 12) (k : Int) ((G1 37) (k : Int)))) 13 (fup (G1 13) (k : Int) ((G1 38) (k : Int)))) 14 (fup (G1 14) (k : Int) ((G1 39) (k : Int)))) 15 (fup (G1 15) (k : Int) ((G1 40) (k : Int)))) 16 (fup (G1 16) (k : Int) ((G1 41) (k : Int)))) := MF_a hW17_ 16 rfl h19_ fr20_
      refine j_iinc (a := (k : Int)) (lv' := [(0, .ref m), (1, .int (iZ ((k : Int) + 1)))]) hG dX12_tables_197 rfl (by decide) rfl ?_
      refine j_goto (tgt := 129) hG dX12_tables_200 (by decide) ?_
      refine j_lv (lv' := [(0, .ref m), (1, .int (iZ (((k + 1 : Nat) : Int))))]) (by simp) ?_
      refine ih (k + 1) _ f18_ hW21_ (fun i i1 i2 i3 i4 i5 => by rw [up_n _ _ i5, up_n _ _ i4, up_n _ _ i3, up_n _ _ i2, up_n _ _ i1]; exact ho i i1 i2 i3 i4 i5) (by omega) (fun j hj => ?_) (by omega)
      show fup (G1 12) (k : Int) (G1 37 k) j = G 37 j ∧ fup (G1 13) (k : Int) (G1 38 k) j = G 38 j ∧ fup (G1 14) (k : Int) (G1 39 k) j = G 39 j ∧ fup (G1 15) (k : Int) (G1 40 k) j = G 40 j ∧ fup (G1 16) (k : Int) (G1 41 k) j = G 41 j
      rw [ho 37 (by decide) (by decide) (by decide) (by decide) (by decide), ho 38 (by decide) (by decide) (by decide) (by decide) (by decide), ho 39 (by decide) (by decide) (by decide) (by decide) (by decide), ho 40 (by decide) (by decide) (by decide) (by decide) (by decide), ho 41 (by decide) (by decide) (by decide) (by decide) (by decide)]
      by_cases e : j = k
      · subst e; rw [fup_s, fup_s, fup_s, fup_s, fup_s]; exact ⟨rfl, rfl, rfl, rfl, rfl⟩
      · have e2 : (j : Int) ≠ (k : Int) := by omega
        rw [fup_n _ _ e2, fup_n _ _ e2, fup_n _ _ e2, fup_n _ _ e2, fup_n _ _ e2]; exact hc j (by omega)
theorem sg_X12_tables_bad {G9 : JG} {l : Launch} {E : JE} {P : Option Value → Hp → Prop} (hG : jX G9 l E cX12_tables RX12 2 rmX12_tables) (hZ : jZ G9 (some .int) P) {rg : Nat → Nat} {f0 f1 : Hp} {m : Nat} {A : Nat → Nat} {V0 V : Nat → Int} {G0 G : Nat → Int → Int} {ls : Int → Int} {lr : Int → Int} {ln : Nat} {M : Int → Int → Int} {sz : Nat} {la : Int} {rd : Nat} {mr : Nat} {W : List Int} {O : List Int} {g : Int → Int} {len : Int} {th : Int → Int} {fa : Int} {re : Int} (hM0 : MS V0 G0 (ls, lr, ln, M, sz, la, rd, mr, W, O, g, len, th, fa, re)) (hS : SOk (ls, lr, ln, M, sz, la, rd, mr, W, O, g, len, th, fa, re)) (hv : oV9 V0 V) (ho : oG9 G0 G) (hW : MF E rg f0 f1 m A V G) {p : Int} (h49 : V 49 = p) (h50 : V 50 = 1) (hP : ∀ f' : Hp, MR E rg f0 f' m (ls, lr, ln, M, sz, la, rd, mr, W, O, g, 0, th, p, -6) → P (some (.int (iZ (-6)))) f') : J G9 0 0 f1 100 [(0, .ref m)] [] := by
  obtain ⟨⟨m2, mlg⟩, ⟨m8, m9, m10⟩, mlt, ⟨m11, mtr⟩, mtb, ⟨m26, mw⟩, ⟨m31, mo⟩, ⟨m44, m43⟩, m51, m49, m1⟩ := hM0
  refine j_aload_n hG dX12_tables_100 rfl rfl ?_
  refine j_iconst hG dX12_tables_101 ?_
  refine j_put hG pX12_223 dX12_tables_102 hW.1 rfl rfl (Nat.le_of_ble_eq_true rfl) (fun f1_ h2_ fr3_ => ?_)
  have hW4_ : MF E rg f0 f1_ m A (up V 44 0) G := MF_p44 hW h2_ fr3_
  refine j_aload_n hG dX12_tables_105 rfl rfl ?_
  refine j_get (v := .int (iZ (V 50))) hG fX12_256 dX12_tables_106 hW4_.1 rfl ?_
  refine j_eq (show (V 50 : Int) = (1 : Int) from h50) ?_
  refine j_if_eq (tgt := 119) hG dX12_tables_109 (by decide) (by omega) (fun c5_ => ?_) (fun c5_ => ?_)
  · -- taken at 109
    exfalso; omega
  · -- on at 109
    refine j_aload_n hG dX12_tables_112 rfl rfl ?_
    refine j_bipush hG dX12_tables_113 (by decide) ?_
    refine j_callV (rest := []) hG vX12_140 dX12_tables_115 (c_X12_toldN (z := -6) hW4_ (by omega)) hW4_.1 rfl rfl (by decide) (by decide) (Nat.le_of_ble_eq_true rfl) rfl rfl (Nat.zero_le _) (Nat.zero_le _) ?_
    rintro _ f7_ ⟨rfl, hW6_⟩
    refine j_st (st' := [.int (iZ (-6))]) rfl ?_
    exact j_iret hG hZ dX12_tables_118 (Nat.zero_le _) (Nat.zero_le _) (hP f7_ ⟨A, _, G, hW6_, ⟨⟨((hv 2 (by decide) (by decide) (by decide) (by decide) (by decide) (by decide) (by decide) (by decide)).trans m2), (by rw [ho 3 (by omega), ho 4 (by omega), ho 5 (by omega), ho 6 (by omega)]; exact mlg)⟩, ⟨((hv 8 (by decide) (by decide) (by decide) (by decide) (by decide) (by decide) (by decide) (by decide)).trans m8), ((hv 9 (by decide) (by decide) (by decide) (by decide) (by decide) (by decide) (by decide) (by decide)).trans m9), ((hv 10 (by decide) (by decide) (by decide) (by decide) (by decide) (by decide) (by decide) (by decide)).trans m10)⟩, (by rw [ho 7 (by omega)]; exact mlt), ⟨((hv 11 (by decide) (by decide) (by decide) (by decide) (by decide) (by decide) (by decide) (by decide)).trans m11), (by rw [ho 12 (by omega), ho 13 (by omega), ho 14 (by omega), ho 15 (by omega), ho 16 (by omega)]; exact mtr)⟩, (by rw [ho 17 (by omega), ho 18 (by omega), ho 19 (by omega), ho 20 (by omega)]; exact mtb), ⟨((hv 26 (by decide) (by decide) (by decide) (by decide) (by decide) (by decide) (by decide) (by decide)).trans m26), (by rw [ho 27 (by omega), ho 28 (by omega), ho 29 (by omega), ho 30 (by omega)]; exact mw)⟩, ⟨((hv 31 (by decide) (by decide) (by decide) (by decide) (by decide) (by decide) (by decide) (by decide)).trans m31), (by rw [ho 32 (by omega), ho 33 (by omega), ho 34 (by omega), ho 35 (by omega)]; exact mo)⟩, ⟨rfl, (by rw [ho 43 (by omega)]; exact m43)⟩, ((hv 51 (by decide) (by decide) (by decide) (by decide) (by decide) (by decide) (by decide) (by decide)).trans m51), h49, rfl⟩⟩)
theorem sg_X12_tables_good {G9 : JG} {l : Launch} {E : JE} {P : Option Value → Hp → Prop} (hG : jX G9 l E cX12_tables RX12 2 rmX12_tables) (hZ : jZ G9 (some .int) P) {rg : Nat → Nat} {f0 f1 : Hp} {m : Nat} {A : Nat → Nat} {V0 V : Nat → Int} {G0 G : Nat → Int → Int} {ls : Int → Int} {lr : Int → Int} {ln : Nat} {M : Int → Int → Int} {sz : Nat} {la : Int} {rd : Nat} {mr : Nat} {W : List Int} {O : List Int} {g : Int → Int} {len : Int} {th : Int → Int} {fa : Int} {re : Int} (hM0 : MS V0 G0 (ls, lr, ln, M, sz, la, rd, mr, W, O, g, len, th, fa, re)) (hS : SOk (ls, lr, ln, M, sz, la, rd, mr, W, O, g, len, th, fa, re)) (hv : oV9 V0 V) (ho : oG9 G0 G) (hW : MF E rg f0 f1 m A V G) {n : Nat} {Mf : Int → Int → Int} (h36 : V 36 = (n : Int)) (hn : n ≤ 12) (h49 : V 49 = -1) (h50 : V 50 = 0) (hMo2 : ∀ t : Nat, t < n → mkOk Mf t) (hrel : ∀ t : Nat, t < n → trel Mf (G 37) (G 38) (G 39) (G 40) (G 41) t) (hP : ∀ f' : Hp, MR E rg f0 f' m (ls, lr, ln, Mf, n, la, 0, 0, [], [], g, 0, th, -1, 0) → P (some (.int (iZ (n : Int)))) f') : J G9 0 0 f1 100 [(0, .ref m)] [] := by
  obtain ⟨⟨m2, mlg⟩, ⟨m8, m9, m10⟩, mlt, ⟨m11, mtr⟩, mtb, ⟨m26, mw⟩, ⟨m31, mo⟩, ⟨m44, m43⟩, m51, m49, m1⟩ := hM0
  obtain ⟨⟨hln, hlg⟩, ⟨hsz, hMo⟩, hla, hrd, hok1, hok2, hWO, hbg, hle, hth, hh1⟩ := hS
  refine j_aload_n hG dX12_tables_100 rfl rfl ?_
  refine j_iconst hG dX12_tables_101 ?_
  refine j_put hG pX12_223 dX12_tables_102 hW.1 rfl rfl (Nat.le_of_ble_eq_true rfl) (fun f1_ h2_ fr3_ => ?_)
  have hW4_ : MF E rg f0 f1_ m A (up V 44 0) G := MF_p44 hW h2_ fr3_
  refine j_aload_n hG dX12_tables_105 rfl rfl ?_
  refine j_get (v := .int (iZ (V 50))) hG fX12_256 dX12_tables_106 hW4_.1 rfl ?_
  refine j_eq (show (V 50 : Int) = (0 : Int) from h50) ?_
  refine j_if_eq (tgt := 119) hG dX12_tables_109 (by decide) (by omega) (fun c5_ => ?_) (fun c5_ => ?_)
  · -- taken at 109
    refine j_aload_n hG dX12_tables_119 rfl rfl ?_
    refine j_aload_n hG dX12_tables_120 rfl rfl ?_
    refine j_get (v := .int (iZ (V 36))) hG fX12_280 dX12_tables_121 hW4_.1 rfl ?_
    refine j_eq (show (V 36 : Int) = ((n : Int) : Int) from h36) ?_
    refine j_put hG pX12_173 dX12_tables_124 hW4_.1 rfl rfl (Nat.le_of_ble_eq_true rfl) (fun f6_ h7_ fr8_ => ?_)
    have hW9_ : MF E rg f0 f6_ m A (up (up V 44 0) 11 (n : Int)) G := MF_p11 hW4_ h7_ fr8_
    refine j_iconst hG dX12_tables_127 ?_
    refine j_istore_n (lv' := [(0, .ref m), (1, .int (iZ (0)))]) hG dX12_tables_128 rfl (by decide) rfl ?_
    refine l_X12_tables_c (V := up (up V 44 0) 11 (n : Int)) (n := n) hG hZ rfl hn (fun f2 G2 w2 o2 c2 => ?_) (n + 1) 0 _ f6_ hW9_ (fun _ _ _ _ _ _ => rfl) (by omega) (fun j hj => absurd hj (Nat.not_lt_zero j)) (by omega)
    have htr2 : ∀ t : Nat, t < n → trel Mf (G2 12) (G2 13) (G2 14) (G2 15) (G2 16) t := fun t ht => by
      obtain ⟨c1, c2', c3, c4, c5⟩ := c2 t ht
      have q := hrel t ht
      unfold trel
      rw [c1, c2', c3, c4, c5]
      exact q
    refine j_aload_n hG dX12_tables_203 rfl rfl ?_
    refine j_callV (rest := []) hG vX12_220 dX12_tables_204 (c_X12_begin (M := Mf) (sz := n) w2 rfl hn hMo2 htr2) w2.1 rfl rfl (by decide) (by decide) (Nat.le_of_ble_eq_true rfl) rfl rfl (Nat.zero_le _) (Nat.zero_le _) ?_
    rintro _ f20_ ⟨rfl, V10_, G11_, hW12_, ⟨hv15_, hv16_, hv17_, hv18_, hv19_⟩, hg13_, hk14_⟩
    refine j_st (st' := []) rfl ?_
    refine j_aload_n hG dX12_tables_207 rfl rfl ?_
    refine j_aload_n hG dX12_tables_208 rfl rfl ?_
    refine j_get (v := .int (iZ (V10_ 11))) hG fX12_173 dX12_tables_209 hW12_.1 rfl ?_
    refine j_eq (show (V10_ 11 : Int) = ((n : Int) : Int) from (hv15_ 11 (by decide) (by decide) (by decide) (by decide) (by decide))) ?_
    refine j_callV (rest := []) hG vX12_140 dX12_tables_212 (c_X12_toldP (z := (n : Int)) hW12_ (by omega)) hW12_.1 rfl rfl (by decide) (by decide) (Nat.le_of_ble_eq_true rfl) rfl rfl (Nat.zero_le _) (Nat.zero_le _) ?_
    rintro _ f22_ ⟨rfl, hW21_⟩
    refine j_st (st' := [.int (iZ ((n : Int)))]) rfl ?_
    exact j_iret hG hZ dX12_tables_215 (Nat.zero_le _) (Nat.zero_le _) (hP f22_ ⟨A, _, _, hW21_, ⟨⟨((hv15_ 2 (by decide) (by decide) (by decide) (by decide) (by decide)).trans ((hv 2 (by decide) (by decide) (by decide) (by decide) (by decide) (by decide) (by decide) (by decide)).trans m2)), (by rw [hg13_ 3 (by omega), o2 3 (by decide) (by decide) (by decide) (by decide) (by decide), ho 3 (by omega), hg13_ 4 (by omega), o2 4 (by decide) (by decide) (by decide) (by decide) (by decide), ho 4 (by omega), hg13_ 5 (by omega), o2 5 (by decide) (by decide) (by decide) (by decide) (by decide), ho 5 (by omega), hg13_ 6 (by omega), o2 6 (by decide) (by decide) (by decide) (by decide) (by decide), ho 6 (by omega)]; exact mlg)⟩, ⟨((hv15_ 8 (by decide) (by decide) (by decide) (by decide) (by decide)).trans ((hv 8 (by decide) (by decide) (by decide) (by decide) (by decide) (by decide) (by decide) (by decide)).trans m8)), hv16_, hv18_⟩, (fun j hj => absurd hj (Nat.not_lt_zero j)), ⟨(hv15_ 11 (by decide) (by decide) (by decide) (by decide) (by decide)), (by rw [hg13_ 12 (by omega), hg13_ 13 (by omega), hg13_ 14 (by omega), hg13_ 15 (by omega), hg13_ 16 (by omega)]; exact htr2)⟩, (fun t ht => by rw [tab_0]; exact hk14_ t ht), ⟨hv17_, (fun i hi => absurd hi (Nat.not_lt_zero i))⟩, ⟨hv19_, (fun i hi => absurd hi (Nat.not_lt_zero i))⟩, ⟨(hv15_ 44 (by decide) (by decide) (by decide) (by decide) (by decide)), (by rw [hg13_ 43 (by omega), o2 43 (by decide) (by decide) (by decide) (by decide) (by decide), ho 43 (by omega)]; exact m43)⟩, ((hv15_ 51 (by decide) (by decide) (by decide) (by decide) (by decide)).trans ((hv 51 (by decide) (by decide) (by decide) (by decide) (by decide) (by decide) (by decide) (by decide)).trans m51)), ((hv15_ 49 (by decide) (by decide) (by decide) (by decide) (by decide)).trans h49), rfl⟩⟩)
  · -- on at 109
    exfalso; omega
