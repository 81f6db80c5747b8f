/-- the reference's arrays that are made so far -/
def AW (E : JE) (f0 f : Hp) (m j : Nat) (A : Nat → Nat) : Prop := (∀ i, i < j → isA i = true → f (A i) = aI (E.2.1 (kK i)) (kN i) (fun _ => 0) ∧ f0 (A i) = eN ∧ A i ≠ m) ∧ (∀ i i', i < j → i' < j → isA i = true → isA i' = true → A i = A i' → i = i') ∧ stay f0 f m ∧ f0 m ≠ eN
theorem AW_put {E : JE} {f0 f g : Hp} {m j : Nat} {A : Nat → Nat} (h : AW E f0 f m j A) (k : ∀ b, b ≠ m → g b = f b) : AW E f0 g m j A := by
  obtain ⟨h1, h2, h3, h4⟩ := h
  refine ⟨fun i a b => ⟨(k _ (h1 i a b).2.2).trans (h1 i a b).1, (h1 i a b).2⟩, h2, stay_tr h3 (stay_put k), h4⟩
theorem AW_add {E : JE} {f0 f g g' : Hp} {m j j' q : Nat} {A : Nat → Nat} {L : List Value} (h : AW E f0 f m j A) (hm : f m = oB 11 L) (e : f q = eN) (hq : g q = aI (E.2.1 (kK j)) (kN j) (fun _ => 0)) (k : ∀ b, b ≠ q → g b = f b) (k' : ∀ b, b ≠ m → g' b = g b) (hj : ∀ i, i < j' → isA i = true → i < j ∨ i = j) : AW E f0 g' m j' (up A j q) := by
  obtain ⟨h1, h2, h3, h4⟩ := h
  have qm : q ≠ m := fun c => by rw [c, hm] at e; exact oB_ne (by decide) e
  have old : ∀ i, i < j → isA i = true → A i ≠ q := fun i a b c => by
    have := (h1 i a b).1
    rw [c, e] at this; exact aI_ne this.symm
  have hlt : ∀ i, i < j → up A j q i = A i := fun i a => up_n _ _ (Nat.ne_of_lt a)
  refine ⟨fun i a b => ?_, fun i i' a a' b b' c => ?_, stay_tr (stay_tr h3 (stay_al e k)) (stay_put k'), h4⟩
  · rcases hj i a b with c | c
    · rw [hlt i c]
      exact ⟨(k' _ (h1 i c b).2.2).trans ((k _ (old i c b)).trans (h1 i c b).1), (h1 i c b).2⟩
    · subst c
      rw [up_s]
      exact ⟨(k' _ qm).trans hq, stay_new h3 hm (oB_ne (by decide)) e, qm⟩
  · rcases hj i a b with d | d
    · rcases hj i' a' b' with d' | d'
      · rw [hlt i d, hlt i' d'] at c; exact h2 i i' d d' b b' c
      · subst d'; rw [hlt i d, up_s] at c; exact absurd c (old i d b)
    · rcases hj i' a' b' with d' | d'
      · subst d; rw [hlt i' d', up_s] at c; exact absurd c.symm (old i' d' b')
      · rw [d, d']
abbrev V00 : Nat → Int := up (up (up (fun _ => 0) 8 (-1)) 49 (-1)) 51 1
theorem AW_fin {E : JE} {f0 f : Hp} {m : Nat} {A : Nat → Nat} (w : AW E f0 f m 52 A) (h : f m = oB 11 (mO A V00)) : ∃ A : Nat → Nat, f m = oB 11 (mO A V00) ∧ AW E f0 f m 52 A := ⟨A, h, w⟩
theorem c_X12_init {l : Launch} {E : JE} {f : Hp} {m : Nat} (h : f m = oB 11 [.int (iZ 0), .int (iZ 0), .int (iZ 0), .null, .null, .null, .null, .null, .int (iZ 0), .int (iZ 0), .int (iZ 0), .int (iZ 0), .null, .null, .null, .null, .null, .null, .null, .null, .null, .null, .null, .null, .null, .int (iZ 0), .int (iZ 0), .null, .null, .null, .null, .int (iZ 0), .null, .null, .null, .null, .int (iZ 0), .null, .null, .null, .null, .null, .null, .null, .int (iZ 0), .int (iZ 0), .int (iZ 0), .int (iZ 0), .long (lZ 0), .int (iZ 0), .int (iZ 0), .int (iZ 0)]) : KX12_init l E [.ref m] f (fun v f' => v = none ∧ ∃ A : Nat → Nat, f' m = oB 11 (mO A V00) ∧ AW E f f' m 52 A) := by
  refine ct_ofI (own := RX12) (lv := [(0, .ref m)]) (by decide +kernel) rfl rfl (Nat.le_of_ble_eq_true rfl) rfl ?_
  intro G hG hZ hI
  have w0 : AW E f f m 3 (fun _ => 0) := ⟨fun i a b => absurd b (by revert i; decide), fun i i' a _ b => absurd b (by revert i; decide), stay_rf, by rw [h]; exact oB_ne (by decide)⟩
  refine j_aload_n hG dX12_init_0 rfl rfl ?_
  refine j_objInit hG vX12_1 dX12_init_1 (by decide) (by decide) ?_
  refine j_aload_n hG dX12_init_4 rfl rfl ?_
  refine j_sipush hG dX12_init_5 (by decide) ?_
  refine j_newI (N := 150) hG wA_I dX12_init_8 (by decide) (by decide) (by decide) (fun q1 o1 e1 a1 u1 => ?_)
  refine j_kn (k := 1) (n := 150) rfl rfl ?_
  have t1 := (u1 m (h_ne h e1 (oB_ne (by decide)))).trans h
  refine j_putF hG hI pX12_7 dX12_init_10 t1 rfl rfl (Nat.le_of_ble_eq_true rfl) (fun g1 y1 z1 => ?_)
  have y1 : g1 m = oB 11 [.int (iZ 0), .int (iZ 0), .int (iZ 0), .ref q1, .null, .null, .null, .null, .int (iZ 0), .int (iZ 0), .int (iZ 0), .int (iZ 0), .null, .null, .null, .null, .null, .null, .null, .null, .null, .null, .null, .null, .null, .int (iZ 0), .int (iZ 0), .null, .null, .null, .null, .int (iZ 0), .null, .null, .null, .null, .int (iZ 0), .null, .null, .null, .null, .null, .null, .null, .int (iZ 0), .int (iZ 0), .int (iZ 0), .int (iZ 0), .long (lZ 0), .int (iZ 0), .int (iZ 0), .int (iZ 0)] := y1
  have w1 := AW_add (j' := 4) w0 h e1 a1 u1 z1 (by decide +kernel)
  refine j_aload_n hG dX12_init_13 rfl rfl ?_
  refine j_sipush hG dX12_init_14 (by decide) ?_
  refine j_newI (N := 150) hG wA_I dX12_init_17 (by decide) (by decide) (by decide) (fun q2 o2 e2 a2 u2 => ?_)
  refine j_kn (k := 2) (n := 300) rfl rfl ?_
  have t2 := (u2 m (h_ne y1 e2 (oB_ne (by decide)))).trans y1
  refine j_putF hG hI pX12_13 dX12_init_19 t2 rfl rfl (Nat.le_of_ble_eq_true rfl) (fun g2 y2 z2 => ?_)
  have y2 : g2 m = oB 11 [.int (iZ 0), .int (iZ 0), .int (iZ 0), .ref q1, .ref q2, .null, .null, .null, .int (iZ 0), .int (iZ 0), .int (iZ 0), .int (iZ 0), .null, .null, .null, .null, .null, .null, .null, .null, .null, .null, .null, .null, .null, .int (iZ 0), .int (iZ 0), .null, .null, .null, .null, .int (iZ 0), .null, .null, .null, .null, .int (iZ 0), .null, .null, .null, .null, .null, .null, .null, .int (iZ 0), .int (iZ 0), .int (iZ 0), .int (iZ 0), .long (lZ 0), .int (iZ 0), .int (iZ 0), .int (iZ 0)] := y2
  have w2 := AW_add (j' := 5) w1 y1 e2 a2 u2 z2 (by decide +kernel)
  refine j_aload_n hG dX12_init_22 rfl rfl ?_
  refine j_sipush hG dX12_init_23 (by decide) ?_
  refine j_newI (N := 150) hG wA_I dX12_init_26 (by decide) (by decide) (by decide) (fun q3 o3 e3 a3 u3 => ?_)
  refine j_kn (k := 3) (n := 450) rfl rfl ?_
  have t3 := (u3 m (h_ne y2 e3 (oB_ne (by decide)))).trans y2
  refine j_putF hG hI pX12_16 dX12_init_28 t3 rfl rfl (Nat.le_of_ble_eq_true rfl) (fun g3 y3 z3 => ?_)
  have y3 : g3 m = oB 11 [.int (iZ 0), .int (iZ 0), .int (iZ 0), .ref q1, .ref q2, .ref q3, .null, .null, .int (iZ 0), .int (iZ 0), .int (iZ 0), .int (iZ 0), .null, .null, .null, .null, .null, .null, .null, .null, .null, .null, .null, .null, .null, .int (iZ 0), .int (iZ 0), .null, .null, .null, .null, .int (iZ 0), .null, .null, .null, .null, .int (iZ 0), .null, .null, .null, .null, .null, .null, .null, .int (iZ 0), .int (iZ 0), .int (iZ 0), .int (iZ 0), .long (lZ 0), .int (iZ 0), .int (iZ 0), .int (iZ 0)] := y3
  have w3 := AW_add (j' := 6) w2 y2 e3 a3 u3 z3 (by decide +kernel)
  refine j_aload_n hG dX12_init_31 rfl rfl ?_
  refine j_sipush hG dX12_init_32 (by decide) ?_
  refine j_newI (N := 150) hG wA_I dX12_init_35 (by decide) (by decide) (by decide) (fun q4 o4 e4 a4 u4 => ?_)
  refine j_kn (k := 4) (n := 600) rfl rfl ?_
  have t4 := (u4 m (h_ne y3 e4 (oB_ne (by decide)))).trans y3
  refine j_putF hG hI pX12_19 dX12_init_37 t4 rfl rfl (Nat.le_of_ble_eq_true rfl) (fun g4 y4 z4 => ?_)
  have y4 : g4 m = oB 11 [.int (iZ 0), .int (iZ 0), .int (iZ 0), .ref q1, .ref q2, .ref q3, .ref q4, .null, .int (iZ 0), .int (iZ 0), .int (iZ 0), .int (iZ 0), .null, .null, .null, .null, .null, .null, .null, .null, .null, .null, .null, .null, .null, .int (iZ 0), .int (iZ 0), .null, .null, .null, .null, .int (iZ 0), .null, .null, .null, .null, .int (iZ 0), .null, .null, .null, .null, .null, .null, .null, .int (iZ 0), .int (iZ 0), .int (iZ 0), .int (iZ 0), .long (lZ 0), .int (iZ 0), .int (iZ 0), .int (iZ 0)] := y4
  have w4 := AW_add (j' := 7) w3 y3 e4 a4 u4 z4 (by decide +kernel)
  refine j_aload_n hG dX12_init_40 rfl rfl ?_
  refine j_sipush hG dX12_init_41 (by decide) ?_
  refine j_newZ (N := 150) hG wA_Z dX12_init_44 (by decide) (by decide) (by decide) (fun q5 o5 e5 a5 u5 => ?_)
  refine j_kn (k := 5) (n := 750) rfl rfl ?_
  have t5 := (u5 m (h_ne y4 e5 (oB_ne (by decide)))).trans y4
  refine j_putF hG hI pX12_22 dX12_init_46 t5 rfl rfl (Nat.le_of_ble_eq_true rfl) (fun g5 y5 z5 => ?_)
  have y5 : g5 m = oB 11 [.int (iZ 0), .int (iZ 0), .int (iZ 0), .ref q1, .ref q2, .ref q3, .ref q4, .ref q5, .int (iZ 0), .int (iZ 0), .int (iZ 0), .int (iZ 0), .null, .null, .null, .null, .null, .null, .null, .null, .null, .null, .null, .null, .null, .int (iZ 0), .int (iZ 0), .null, .null, .null, .null, .int (iZ 0), .null, .null, .null, .null, .int (iZ 0), .null, .null, .null, .null, .null, .null, .null, .int (iZ 0), .int (iZ 0), .int (iZ 0), .int (iZ 0), .long (lZ 0), .int (iZ 0), .int (iZ 0), .int (iZ 0)] := y5
  have w5 := AW_add (j' := 12) w4 y4 e5 a5 u5 z5 (by decide +kernel)
  refine j_aload_n hG dX12_init_49 rfl rfl ?_
  refine j_iconst hG dX12_init_50 ?_
  refine j_put hG pX12_26 dX12_init_51 y5 rfl rfl (Nat.le_of_ble_eq_true rfl) (fun gv8 yv8 zv8 => ?_)
  have yv8 : gv8 m = oB 11 [.int (iZ 0), .int (iZ 0), .int (iZ 0), .ref q1, .ref q2, .ref q3, .ref q4, .ref q5, .int (iZ (-1)), .int (iZ 0), .int (iZ 0), .int (iZ 0), .null, .null, .null, .null, .null, .null, .null, .null, .null, .null, .null, .null, .null, .int (iZ 0), .int (iZ 0), .null, .null, .null, .null, .int (iZ 0), .null, .null, .null, .null, .int (iZ 0), .null, .null, .null, .null, .null, .null, .null, .int (iZ 0), .int (iZ 0), .int (iZ 0), .int (iZ 0), .long (lZ 0), .int (iZ 0), .int (iZ 0), .int (iZ 0)] := yv8
  have wv8 := AW_put w5 zv8
  refine j_aload_n hG dX12_init_54 rfl rfl ?_
  refine j_bipush hG dX12_init_55 (by decide) ?_
  refine j_newI (N := 12) hG wA_I dX12_init_57 (by decide) (by decide) (by decide) (fun q6 o6 e6 a6 u6 => ?_)
  refine j_kn (k := 6) (n := 762) rfl rfl ?_
  have t6 := (u6 m (h_ne yv8 e6 (oB_ne (by decide)))).trans yv8
  refine j_putF hG hI pX12_30 dX12_init_59 t6 rfl rfl (Nat.le_of_ble_eq_true rfl) (fun g6 y6 z6 => ?_)
  have y6 : g6 m = oB 11 [.int (iZ 0), .int (iZ 0), .int (iZ 0), .ref q1, .ref q2, .ref q3, .ref q4, .ref q5, .int (iZ (-1)), .int (iZ 0), .int (iZ 0), .int (iZ 0), .ref q6, .null, .null, .null, .null, .null, .null, .null, .null, .null, .null, .null, .null, .int (iZ 0), .int (iZ 0), .null, .null, .null, .null, .int (iZ 0), .null, .null, .null, .null, .int (iZ 0), .null, .null, .null, .null, .null, .null, .null, .int (iZ 0), .int (iZ 0), .int (iZ 0), .int (iZ 0), .long (lZ 0), .int (iZ 0), .int (iZ 0), .int (iZ 0)] := y6
  have w6 := AW_add (j' := 13) wv8 yv8 e6 a6 u6 z6 (by decide +kernel)
  refine j_aload_n hG dX12_init_62 rfl rfl ?_
  refine j_bipush hG dX12_init_63 (by decide) ?_
  refine j_newI (N := 12) hG wA_I dX12_init_65 (by decide) (by decide) (by decide) (fun q7 o7 e7 a7 u7 => ?_)
  refine j_kn (k := 7) (n := 774) rfl rfl ?_
  have t7 := (u7 m (h_ne y6 e7 (oB_ne (by decide)))).trans y6
  refine j_putF hG hI pX12_33 dX12_init_67 t7 rfl rfl (Nat.le_of_ble_eq_true rfl) (fun g7 y7 z7 => ?_)
  have y7 : g7 m = oB 11 [.int (iZ 0), .int (iZ 0), .int (iZ 0), .ref q1, .ref q2, .ref q3, .ref q4, .ref q5, .int (iZ (-1)), .int (iZ 0), .int (iZ 0), .int (iZ 0), .ref q6, .ref q7, .null, .null, .null, .null, .null, .null, .null, .null, .null, .null, .null, .int (iZ 0), .int (iZ 0), .null, .null, .null, .null, .int (iZ 0), .null, .null, .null, .null, .int (iZ 0), .null, .null, .null, .null, .null, .null, .null, .int (iZ 0), .int (iZ 0), .int (iZ 0), .int (iZ 0), .long (lZ 0), .int (iZ 0), .int (iZ 0), .int (iZ 0)] := y7
  have w7 := AW_add (j' := 14) w6 y6 e7 a7 u7 z7 (by decide +kernel)
  refine j_aload_n hG dX12_init_70 rfl rfl ?_
  refine j_bipush hG dX12_init_71 (by decide) ?_
  refine j_newI (N := 12) hG wA_I dX12_init_73 (by decide) (by decide) (by decide) (fun q8 o8 e8 a8 u8 => ?_)
  refine j_kn (k := 8) (n := 786) rfl rfl ?_
  have t8 := (u8 m (h_ne y7 e8 (oB_ne (by decide)))).trans y7
  refine j_putF hG hI pX12_36 dX12_init_75 t8 rfl rfl (Nat.le_of_ble_eq_true rfl) (fun g8 y8 z8 => ?_)
  have y8 : g8 m = oB 11 [.int (iZ 0), .int (iZ 0), .int (iZ 0), .ref q1, .ref q2, .ref q3, .ref q4, .ref q5, .int (iZ (-1)), .int (iZ 0), .int (iZ 0), .int (iZ 0), .ref q6, .ref q7, .ref q8, .null, .null, .null, .null, .null, .null, .null, .null, .null, .null, .int (iZ 0), .int (iZ 0), .null, .null, .null, .null, .int (iZ 0), .null, .null, .null, .null, .int (iZ 0), .null, .null, .null, .null, .null, .null, .null, .int (iZ 0), .int (iZ 0), .int (iZ 0), .int (iZ 0), .long (lZ 0), .int (iZ 0), .int (iZ 0), .int (iZ 0)] := y8
  have w8 := AW_add (j' := 15) w7 y7 e8 a8 u8 z8 (by decide +kernel)
  refine j_aload_n hG dX12_init_78 rfl rfl ?_
  refine j_bipush hG dX12_init_79 (by decide) ?_
  refine j_newI (N := 12) hG wA_I dX12_init_81 (by decide) (by decide) (by decide) (fun q9 o9 e9 a9 u9 => ?_)
  refine j_kn (k := 9) (n := 798) rfl rfl ?_
  have t9 := (u9 m (h_ne y8 e9 (oB_ne (by decide)))).trans y8
  refine j_putF hG hI pX12_39 dX12_init_83 t9 rfl rfl (Nat.le_of_ble_eq_true rfl) (fun g9 y9 z9 => ?_)
  have y9 : g9 m = oB 11 [.int (iZ 0), .int (iZ 0), .int (iZ 0), .ref q1, .ref q2, .ref q3, .ref q4, .ref q5, .int (iZ (-1)), .int (iZ 0), .int (iZ 0), .int (iZ 0), .ref q6, .ref q7, .ref q8, .ref q9, .null, .null, .null, .null, .null, .null, .null, .null, .null, .int (iZ 0), .int (iZ 0), .null, .null, .null, .null, .int (iZ 0), .null, .null, .null, .null, .int (iZ 0), .null, .null, .null, .null, .null, .null, .null, .int (iZ 0), .int (iZ 0), .int (iZ 0), .int (iZ 0), .long (lZ 0), .int (iZ 0), .int (iZ 0), .int (iZ 0)] := y9
  have w9 := AW_add (j' := 16) w8 y8 e9 a9 u9 z9 (by decide +kernel)
  refine j_aload_n hG dX12_init_86 rfl rfl ?_
  refine j_bipush hG dX12_init_87 (by decide) ?_
  refine j_newI (N := 12) hG wA_I dX12_init_89 (by decide) (by decide) (by decide) (fun q10 o10 e10 a10 u10 => ?_)
  refine j_kn (k := 10) (n := 810) rfl rfl ?_
  have t10 := (u10 m (h_ne y9 e10 (oB_ne (by decide)))).trans y9
  refine j_putF hG hI pX12_42 dX12_init_91 t10 rfl rfl (Nat.le_of_ble_eq_true rfl) (fun g10 y10 z10 => ?_)
  have y10 : g10 m = oB 11 [.int (iZ 0), .int (iZ 0), .int (iZ 0), .ref q1, .ref q2, .ref q3, .ref q4, .ref q5, .int (iZ (-1)), .int (iZ 0), .int (iZ 0), .int (iZ 0), .ref q6, .ref q7, .ref q8, .ref q9, .ref q10, .null, .null, .null, .null, .null, .null, .null, .null, .int (iZ 0), .int (iZ 0), .null, .null, .null, .null, .int (iZ 0), .null, .null, .null, .null, .int (iZ 0), .null, .null, .null, .null, .null, .null, .null, .int (iZ 0), .int (iZ 0), .int (iZ 0), .int (iZ 0), .long (lZ 0), .int (iZ 0), .int (iZ 0), .int (iZ 0)] := y10
  have w10 := AW_add (j' := 17) w9 y9 e10 a10 u10 z10 (by decide +kernel)
  refine j_aload_n hG dX12_init_94 rfl rfl ?_
  refine j_bipush hG dX12_init_95 (by decide) ?_
  refine j_newI (N := 12) hG wA_I dX12_init_97 (by decide) (by decide) (by decide) (fun q11 o11 e11 a11 u11 => ?_)
  refine j_kn (k := 11) (n := 822) rfl rfl ?_
  have t11 := (u11 m (h_ne y10 e11 (oB_ne (by decide)))).trans y10
  refine j_putF hG hI pX12_45 dX12_init_99 t11 rfl rfl (Nat.le_of_ble_eq_true rfl) (fun g11 y11 z11 => ?_)
  have y11 : g11 m = oB 11 [.int (iZ 0), .int (iZ 0), .int (iZ 0), .ref q1, .ref q2, .ref q3, .ref q4, .ref q5, .int (iZ (-1)), .int (iZ 0), .int (iZ 0), .int (iZ 0), .ref q6, .ref q7, .ref q8, .ref q9, .ref q10, .ref q11, .null, .null, .null, .null, .null, .null, .null, .int (iZ 0), .int (iZ 0), .null, .null, .null, .null, .int (iZ 0), .null, .null, .null, .null, .int (iZ 0), .null, .null, .null, .null, .null, .null, .null, .int (iZ 0), .int (iZ 0), .int (iZ 0), .int (iZ 0), .long (lZ 0), .int (iZ 0), .int (iZ 0), .int (iZ 0)] := y11
  have w11 := AW_add (j' := 18) w10 y10 e11 a11 u11 z11 (by decide +kernel)
  refine j_aload_n hG dX12_init_102 rfl rfl ?_
  refine j_sipush hG dX12_init_103 (by decide) ?_
  refine j_newI (N := 4800) hG wA_I dX12_init_106 (by decide) (by decide) (by decide) (fun q12 o12 e12 a12 u12 => ?_)
  refine j_kn (k := 12) (n := 5622) rfl rfl ?_
  have t12 := (u12 m (h_ne y11 e12 (oB_ne (by decide)))).trans y11
  refine j_putF hG hI pX12_48 dX12_init_108 t12 rfl rfl (Nat.le_of_ble_eq_true rfl) (fun g12 y12 z12 => ?_)
  have y12 : g12 m = oB 11 [.int (iZ 0), .int (iZ 0), .int (iZ 0), .ref q1, .ref q2, .ref q3, .ref q4, .ref q5, .int (iZ (-1)), .int (iZ 0), .int (iZ 0), .int (iZ 0), .ref q6, .ref q7, .ref q8, .ref q9, .ref q10, .ref q11, .ref q12, .null, .null, .null, .null, .null, .null, .int (iZ 0), .int (iZ 0), .null, .null, .null, .null, .int (iZ 0), .null, .null, .null, .null, .int (iZ 0), .null, .null, .null, .null, .null, .null, .null, .int (iZ 0), .int (iZ 0), .int (iZ 0), .int (iZ 0), .long (lZ 0), .int (iZ 0), .int (iZ 0), .int (iZ 0)] := y12
  have w12 := AW_add (j' := 19) w11 y11 e12 a12 u12 z12 (by decide +kernel)
  refine j_aload_n hG dX12_init_111 rfl rfl ?_
  refine j_sipush hG dX12_init_112 (by decide) ?_
  refine j_newI (N := 4800) hG wA_I dX12_init_115 (by decide) (by decide) (by decide) (fun q13 o13 e13 a13 u13 => ?_)
  refine j_kn (k := 13) (n := 10422) rfl rfl ?_
  have t13 := (u13 m (h_ne y12 e13 (oB_ne (by decide)))).trans y12
  refine j_putF hG hI pX12_51 dX12_init_117 t13 rfl rfl (Nat.le_of_ble_eq_true rfl) (fun g13 y13 z13 => ?_)
  have y13 : g13 m = oB 11 [.int (iZ 0), .int (iZ 0), .int (iZ 0), .ref q1, .ref q2, .ref q3, .ref q4, .ref q5, .int (iZ (-1)), .int (iZ 0), .int (iZ 0), .int (iZ 0), .ref q6, .ref q7, .ref q8, .ref q9, .ref q10, .ref q11, .ref q12, .ref q13, .null, .null, .null, .null, .null, .int (iZ 0), .int (iZ 0), .null, .null, .null, .null, .int (iZ 0), .null, .null, .null, .null, .int (iZ 0), .null, .null, .null, .null, .null, .null, .null, .int (iZ 0), .int (iZ 0), .int (iZ 0), .int (iZ 0), .long (lZ 0), .int (iZ 0), .int (iZ 0), .int (iZ 0)] := y13
  have w13 := AW_add (j' := 20) w12 y12 e13 a13 u13 z13 (by decide +kernel)
  refine j_aload_n hG dX12_init_120 rfl rfl ?_
  refine j_sipush hG dX12_init_121 (by decide) ?_
  refine j_newI (N := 4800) hG wA_I dX12_init_124 (by decide) (by decide) (by decide) (fun q14 o14 e14 a14 u14 => ?_)
  refine j_kn (k := 14) (n := 15222) rfl rfl ?_
  have t14 := (u14 m (h_ne y13 e14 (oB_ne (by decide)))).trans y13
  refine j_putF hG hI pX12_54 dX12_init_126 t14 rfl rfl (Nat.le_of_ble_eq_true rfl) (fun g14 y14 z14 => ?_)
  have y14 : g14 m = oB 11 [.int (iZ 0), .int (iZ 0), .int (iZ 0), .ref q1, .ref q2, .ref q3, .ref q4, .ref q5, .int (iZ (-1)), .int (iZ 0), .int (iZ 0), .int (iZ 0), .ref q6, .ref q7, .ref q8, .ref q9, .ref q10, .ref q11, .ref q12, .ref q13, .ref q14, .null, .null, .null, .null, .int (iZ 0), .int (iZ 0), .null, .null, .null, .null, .int (iZ 0), .null, .null, .null, .null, .int (iZ 0), .null, .null, .null, .null, .null, .null, .null, .int (iZ 0), .int (iZ 0), .int (iZ 0), .int (iZ 0), .long (lZ 0), .int (iZ 0), .int (iZ 0), .int (iZ 0)] := y14
  have w14 := AW_add (j' := 21) w13 y13 e14 a14 u14 z14 (by decide +kernel)
  refine j_aload_n hG dX12_init_129 rfl rfl ?_
  refine j_bipush hG dX12_init_130 (by decide) ?_
  refine j_newI (N := 12) hG wA_I dX12_init_132 (by decide) (by decide) (by decide) (fun q15 o15 e15 a15 u15 => ?_)
  refine j_kn (k := 15) (n := 15234) rfl rfl ?_
  have t15 := (u15 m (h_ne y14 e15 (oB_ne (by decide)))).trans y14
  refine j_putF hG hI pX12_57 dX12_init_134 t15 rfl rfl (Nat.le_of_ble_eq_true rfl) (fun g15 y15 z15 => ?_)
  have y15 : g15 m = oB 11 [.int (iZ 0), .int (iZ 0), .int (iZ 0), .ref q1, .ref q2, .ref q3, .ref q4, .ref q5, .int (iZ (-1)), .int (iZ 0), .int (iZ 0), .int (iZ 0), .ref q6, .ref q7, .ref q8, .ref q9, .ref q10, .ref q11, .ref q12, .ref q13, .ref q14, .ref q15, .null, .null, .null, .int (iZ 0), .int (iZ 0), .null, .null, .null, .null, .int (iZ 0), .null, .null, .null, .null, .int (iZ 0), .null, .null, .null, .null, .null, .null, .null, .int (iZ 0), .int (iZ 0), .int (iZ 0), .int (iZ 0), .long (lZ 0), .int (iZ 0), .int (iZ 0), .int (iZ 0)] := y15
  have w15 := AW_add (j' := 22) w14 y14 e15 a15 u15 z15 (by decide +kernel)
  refine j_aload_n hG dX12_init_137 rfl rfl ?_
  refine j_sipush hG dX12_init_138 (by decide) ?_
  refine j_newI (N := 4800) hG wA_I dX12_init_141 (by decide) (by decide) (by decide) (fun q16 o16 e16 a16 u16 => ?_)
  refine j_kn (k := 16) (n := 20034) rfl rfl ?_
  have t16 := (u16 m (h_ne y15 e16 (oB_ne (by decide)))).trans y15
  refine j_putF hG hI pX12_60 dX12_init_143 t16 rfl rfl (Nat.le_of_ble_eq_true rfl) (fun g16 y16 z16 => ?_)
  have y16 : g16 m = oB 11 [.int (iZ 0), .int (iZ 0), .int (iZ 0), .ref q1, .ref q2, .ref q3, .ref q4, .ref q5, .int (iZ (-1)), .int (iZ 0), .int (iZ 0), .int (iZ 0), .ref q6, .ref q7, .ref q8, .ref q9, .ref q10, .ref q11, .ref q12, .ref q13, .ref q14, .ref q15, .ref q16, .null, .null, .int (iZ 0), .int (iZ 0), .null, .null, .null, .null, .int (iZ 0), .null, .null, .null, .null, .int (iZ 0), .null, .null, .null, .null, .null, .null, .null, .int (iZ 0), .int (iZ 0), .int (iZ 0), .int (iZ 0), .long (lZ 0), .int (iZ 0), .int (iZ 0), .int (iZ 0)] := y16
  have w16 := AW_add (j' := 23) w15 y15 e16 a16 u16 z16 (by decide +kernel)
  refine j_aload_n hG dX12_init_146 rfl rfl ?_
  refine j_sipush hG dX12_init_147 (by decide) ?_
  refine j_newI (N := 4800) hG wA_I dX12_init_150 (by decide) (by decide) (by decide) (fun q17 o17 e17 a17 u17 => ?_)
  refine j_kn (k := 17) (n := 24834) rfl rfl ?_
  have t17 := (u17 m (h_ne y16 e17 (oB_ne (by decide)))).trans y16
  refine j_putF hG hI pX12_63 dX12_init_152 t17 rfl rfl (Nat.le_of_ble_eq_true rfl) (fun g17 y17 z17 => ?_)
  have y17 : g17 m = oB 11 [.int (iZ 0), .int (iZ 0), .int (iZ 0), .ref q1, .ref q2, .ref q3, .ref q4, .ref q5, .int (iZ (-1)), .int (iZ 0), .int (iZ 0), .int (iZ 0), .ref q6, .ref q7, .ref q8, .ref q9, .ref q10, .ref q11, .ref q12, .ref q13, .ref q14, .ref q15, .ref q16, .ref q17, .null, .int (iZ 0), .int (iZ 0), .null, .null, .null, .null, .int (iZ 0), .null, .null, .null, .null, .int (iZ 0), .null, .null, .null, .null, .null, .null, .null, .int (iZ 0), .int (iZ 0), .int (iZ 0), .int (iZ 0), .long (lZ 0), .int (iZ 0), .int (iZ 0), .int (iZ 0)] := y17
  have w17 := AW_add (j' := 24) w16 y16 e17 a17 u17 z17 (by decide +kernel)
  refine j_aload_n hG dX12_init_155 rfl rfl ?_
  refine j_sipush hG dX12_init_156 (by decide) ?_
  refine j_newI (N := 4800) hG wA_I dX12_init_159 (by decide) (by decide) (by decide) (fun q18 o18 e18 a18 u18 => ?_)
  refine j_kn (k := 18) (n := 29634) rfl rfl ?_
  have t18 := (u18 m (h_ne y17 e18 (oB_ne (by decide)))).trans y17
  refine j_putF hG hI pX12_66 dX12_init_161 t18 rfl rfl (Nat.le_of_ble_eq_true rfl) (fun g18 y18 z18 => ?_)
  have y18 : g18 m = oB 11 [.int (iZ 0), .int (iZ 0), .int (iZ 0), .ref q1, .ref q2, .ref q3, .ref q4, .ref q5, .int (iZ (-1)), .int (iZ 0), .int (iZ 0), .int (iZ 0), .ref q6, .ref q7, .ref q8, .ref q9, .ref q10, .ref q11, .ref q12, .ref q13, .ref q14, .ref q15, .ref q16, .ref q17, .ref q18, .int (iZ 0), .int (iZ 0), .null, .null, .null, .null, .int (iZ 0), .null, .null, .null, .null, .int (iZ 0), .null, .null, .null, .null, .null, .null, .null, .int (iZ 0), .int (iZ 0), .int (iZ 0), .int (iZ 0), .long (lZ 0), .int (iZ 0), .int (iZ 0), .int (iZ 0)] := y18
  have w18 := AW_add (j' := 27) w17 y17 e18 a18 u18 z18 (by decide +kernel)
  refine j_aload_n hG dX12_init_164 rfl rfl ?_
  refine j_sipush hG dX12_init_165 (by decide) ?_
  refine j_newI (N := 4000) hG wA_I dX12_init_168 (by decide) (by decide) (by decide) (fun q19 o19 e19 a19 u19 => ?_)
  refine j_kn (k := 19) (n := 33634) rfl rfl ?_
  have t19 := (u19 m (h_ne y18 e19 (oB_ne (by decide)))).trans y18
  refine j_putF hG hI pX12_69 dX12_init_170 t19 rfl rfl (Nat.le_of_ble_eq_true rfl) (fun g19 y19 z19 => ?_)
  have y19 : g19 m = oB 11 [.int (iZ 0), .int (iZ 0), .int (iZ 0), .ref q1, .ref q2, .ref q3, .ref q4, .ref q5, .int (iZ (-1)), .int (iZ 0), .int (iZ 0), .int (iZ 0), .ref q6, .ref q7, .ref q8, .ref q9, .ref q10, .ref q11, .ref q12, .ref q13, .ref q14, .ref q15, .ref q16, .ref q17, .ref q18, .int (iZ 0), .int (iZ 0), .ref q19, .null, .null, .null, .int (iZ 0), .null, .null, .null, .null, .int (iZ 0), .null, .null, .null, .null, .null, .null, .null, .int (iZ 0), .int (iZ 0), .int (iZ 0), .int (iZ 0), .long (lZ 0), .int (iZ 0), .int (iZ 0), .int (iZ 0)] := y19
  have w19 := AW_add (j' := 28) w18 y18 e19 a19 u19 z19 (by decide +kernel)
  refine j_aload_n hG dX12_init_173 rfl rfl ?_
  refine j_sipush hG dX12_init_174 (by decide) ?_
  refine j_newI (N := 4000) hG wA_I dX12_init_177 (by decide) (by decide) (by decide) (fun q20 o20 e20 a20 u20 => ?_)
  refine j_kn (k := 20) (n := 37634) rfl rfl ?_
  have t20 := (u20 m (h_ne y19 e20 (oB_ne (by decide)))).trans y19
  refine j_putF hG hI pX12_72 dX12_init_179 t20 rfl rfl (Nat.le_of_ble_eq_true rfl) (fun g20 y20 z20 => ?_)
  have y20 : g20 m = oB 11 [.int (iZ 0), .int (iZ 0), .int (iZ 0), .ref q1, .ref q2, .ref q3, .ref q4, .ref q5, .int (iZ (-1)), .int (iZ 0), .int (iZ 0), .int (iZ 0), .ref q6, .ref q7, .ref q8, .ref q9, .ref q10, .ref q11, .ref q12, .ref q13, .ref q14, .ref q15, .ref q16, .ref q17, .ref q18, .int (iZ 0), .int (iZ 0), .ref q19, .ref q20, .null, .null, .int (iZ 0), .null, .null, .null, .null, .int (iZ 0), .null, .null, .null, .null, .null, .null, .null, .int (iZ 0), .int (iZ 0), .int (iZ 0), .int (iZ 0), .long (lZ 0), .int (iZ 0), .int (iZ 0), .int (iZ 0)] := y20
  have w20 := AW_add (j' := 29) w19 y19 e20 a20 u20 z20 (by decide +kernel)
  refine j_aload_n hG dX12_init_182 rfl rfl ?_
  refine j_sipush hG dX12_init_183 (by decide) ?_
  refine j_newI (N := 4000) hG wA_I dX12_init_186 (by decide) (by decide) (by decide) (fun q21 o21 e21 a21 u21 => ?_)
  refine j_kn (k := 21) (n := 41634) rfl rfl ?_
  have t21 := (u21 m (h_ne y20 e21 (oB_ne (by decide)))).trans y20
  refine j_putF hG hI pX12_75 dX12_init_188 t21 rfl rfl (Nat.le_of_ble_eq_true rfl) (fun g21 y21 z21 => ?_)
  have y21 : g21 m = oB 11 [.int (iZ 0), .int (iZ 0), .int (iZ 0), .ref q1, .ref q2, .ref q3, .ref q4, .ref q5, .int (iZ (-1)), .int (iZ 0), .int (iZ 0), .int (iZ 0), .ref q6, .ref q7, .ref q8, .ref q9, .ref q10, .ref q11, .ref q12, .ref q13, .ref q14, .ref q15, .ref q16, .ref q17, .ref q18, .int (iZ 0), .int (iZ 0), .ref q19, .ref q20, .ref q21, .null, .int (iZ 0), .null, .null, .null, .null, .int (iZ 0), .null, .null, .null, .null, .null, .null, .null, .int (iZ 0), .int (iZ 0), .int (iZ 0), .int (iZ 0), .long (lZ 0), .int (iZ 0), .int (iZ 0), .int (iZ 0)] := y21
  have w21 := AW_add (j' := 30) w20 y20 e21 a21 u21 z21 (by decide +kernel)
  refine j_aload_n hG dX12_init_191 rfl rfl ?_
  refine j_sipush hG dX12_init_192 (by decide) ?_
  refine j_newI (N := 4000) hG wA_I dX12_init_195 (by decide) (by decide) (by decide) (fun q22 o22 e22 a22 u22 => ?_)
  refine j_kn (k := 22) (n := 45634) rfl rfl ?_
  have t22 := (u22 m (h_ne y21 e22 (oB_ne (by decide)))).trans y21
  refine j_putF hG hI pX12_78 dX12_init_197 t22 rfl rfl (Nat.le_of_ble_eq_true rfl) (fun g22 y22 z22 => ?_)
  have y22 : g22 m = oB 11 [.int (iZ 0), .int (iZ 0), .int (iZ 0), .ref q1, .ref q2, .ref q3, .ref q4, .ref q5, .int (iZ (-1)), .int (iZ 0), .int (iZ 0), .int (iZ 0), .ref q6, .ref q7, .ref q8, .ref q9, .ref q10, .ref q11, .ref q12, .ref q13, .ref q14, .ref q15, .ref q16, .ref q17, .ref q18, .int (iZ 0), .int (iZ 0), .ref q19, .ref q20, .ref q21, .ref q22, .int (iZ 0), .null, .null, .null, .null, .int (iZ 0), .null, .null, .null, .null, .null, .null, .null, .int (iZ 0), .int (iZ 0), .int (iZ 0), .int (iZ 0), .long (lZ 0), .int (iZ 0), .int (iZ 0), .int (iZ 0)] := y22
  have w22 := AW_add (j' := 32) w21 y21 e22 a22 u22 z22 (by decide +kernel)
  refine j_aload_n hG dX12_init_200 rfl rfl ?_
  refine j_sipush hG dX12_init_201 (by decide) ?_
  refine j_newI (N := 4000) hG wA_I dX12_init_204 (by decide) (by decide) (by decide) (fun q23 o23 e23 a23 u23 => ?_)
  refine j_kn (k := 23) (n := 49634) rfl rfl ?_
  have t23 := (u23 m (h_ne y22 e23 (oB_ne (by decide)))).trans y22
  refine j_putF hG hI pX12_81 dX12_init_206 t23 rfl rfl (Nat.le_of_ble_eq_true rfl) (fun g23 y23 z23 => ?_)
  have y23 : g23 m = oB 11 [.int (iZ 0), .int (iZ 0), .int (iZ 0), .ref q1, .ref q2, .ref q3, .ref q4, .ref q5, .int (iZ (-1)), .int (iZ 0), .int (iZ 0), .int (iZ 0), .ref q6, .ref q7, .ref q8, .ref q9, .ref q10, .ref q11, .ref q12, .ref q13, .ref q14, .ref q15, .ref q16, .ref q17, .ref q18, .int (iZ 0), .int (iZ 0), .ref q19, .ref q20, .ref q21, .ref q22, .int (iZ 0), .ref q23, .null, .null, .null, .int (iZ 0), .null, .null, .null, .null, .null, .null, .null, .int (iZ 0), .int (iZ 0), .int (iZ 0), .int (iZ 0), .long (lZ 0), .int (iZ 0), .int (iZ 0), .int (iZ 0)] := y23
  have w23 := AW_add (j' := 33) w22 y22 e23 a23 u23 z23 (by decide +kernel)
  refine j_aload_n hG dX12_init_209 rfl rfl ?_
  refine j_sipush hG dX12_init_210 (by decide) ?_
  refine j_newI (N := 4000) hG wA_I dX12_init_213 (by decide) (by decide) (by decide) (fun q24 o24 e24 a24 u24 => ?_)
  refine j_kn (k := 24) (n := 53634) rfl rfl ?_
  have t24 := (u24 m (h_ne y23 e24 (oB_ne (by decide)))).trans y23
  refine j_putF hG hI pX12_84 dX12_init_215 t24 rfl rfl (Nat.le_of_ble_eq_true rfl) (fun g24 y24 z24 => ?_)
  have y24 : g24 m = oB 11 [.int (iZ 0), .int (iZ 0), .int (iZ 0), .ref q1, .ref q2, .ref q3, .ref q4, .ref q5, .int (iZ (-1)), .int (iZ 0), .int (iZ 0), .int (iZ 0), .ref q6, .ref q7, .ref q8, .ref q9, .ref q10, .ref q11, .ref q12, .ref q13, .ref q14, .ref q15, .ref q16, .ref q17, .ref q18, .int (iZ 0), .int (iZ 0), .ref q19, .ref q20, .ref q21, .ref q22, .int (iZ 0), .ref q23, .ref q24, .null, .null, .int (iZ 0), .null, .null, .null, .null, .null, .null, .null, .int (iZ 0), .int (iZ 0), .int (iZ 0), .int (iZ 0), .long (lZ 0), .int (iZ 0), .int (iZ 0), .int (iZ 0)] := y24
  have w24 := AW_add (j' := 34) w23 y23 e24 a24 u24 z24 (by decide +kernel)
  refine j_aload_n hG dX12_init_218 rfl rfl ?_
  refine j_sipush hG dX12_init_219 (by decide) ?_
  refine j_newI (N := 4000) hG wA_I dX12_init_222 (by decide) (by decide) (by decide) (fun q25 o25 e25 a25 u25 => ?_)
  refine j_kn (k := 25) (n := 57634) rfl rfl ?_
  have t25 := (u25 m (h_ne y24 e25 (oB_ne (by decide)))).trans y24
  refine j_putF hG hI pX12_87 dX12_init_224 t25 rfl rfl (Nat.le_of_ble_eq_true rfl) (fun g25 y25 z25 => ?_)
  have y25 : g25 m = oB 11 [.int (iZ 0), .int (iZ 0), .int (iZ 0), .ref q1, .ref q2, .ref q3, .ref q4, .ref q5, .int (iZ (-1)), .int (iZ 0), .int (iZ 0), .int (iZ 0), .ref q6, .ref q7, .ref q8, .ref q9, .ref q10, .ref q11, .ref q12, .ref q13, .ref q14, .ref q15, .ref q16, .ref q17, .ref q18, .int (iZ 0), .int (iZ 0), .ref q19, .ref q20, .ref q21, .ref q22, .int (iZ 0), .ref q23, .ref q24, .ref q25, .null, .int (iZ 0), .null, .null, .null, .null, .null, .null, .null, .int (iZ 0), .int (iZ 0), .int (iZ 0), .int (iZ 0), .long (lZ 0), .int (iZ 0), .int (iZ 0), .int (iZ 0)] := y25
  have w25 := AW_add (j' := 35) w24 y24 e25 a25 u25 z25 (by decide +kernel)
  refine j_aload_n hG dX12_init_227 rfl rfl ?_
  refine j_sipush hG dX12_init_228 (by decide) ?_
  refine j_newI (N := 4000) hG wA_I dX12_init_231 (by decide) (by decide) (by decide) (fun q26 o26 e26 a26 u26 => ?_)
  refine j_kn (k := 26) (n := 61634) rfl rfl ?_
  have t26 := (u26 m (h_ne y25 e26 (oB_ne (by decide)))).trans y25
  refine j_putF hG hI pX12_90 dX12_init_233 t26 rfl rfl (Nat.le_of_ble_eq_true rfl) (fun g26 y26 z26 => ?_)
  have y26 : g26 m = oB 11 [.int (iZ 0), .int (iZ 0), .int (iZ 0), .ref q1, .ref q2, .ref q3, .ref q4, .ref q5, .int (iZ (-1)), .int (iZ 0), .int (iZ 0), .int (iZ 0), .ref q6, .ref q7, .ref q8, .ref q9, .ref q10, .ref q11, .ref q12, .ref q13, .ref q14, .ref q15, .ref q16, .ref q17, .ref q18, .int (iZ 0), .int (iZ 0), .ref q19, .ref q20, .ref q21, .ref q22, .int (iZ 0), .ref q23, .ref q24, .ref q25, .ref q26, .int (iZ 0), .null, .null, .null, .null, .null, .null, .null, .int (iZ 0), .int (iZ 0), .int (iZ 0), .int (iZ 0), .long (lZ 0), .int (iZ 0), .int (iZ 0), .int (iZ 0)] := y26
  have w26 := AW_add (j' := 37) w25 y25 e26 a26 u26 z26 (by decide +kernel)
  refine j_aload_n hG dX12_init_236 rfl rfl ?_
  refine j_bipush hG dX12_init_237 (by decide) ?_
  refine j_newI (N := 12) hG wA_I dX12_init_239 (by decide) (by decide) (by decide) (fun q27 o27 e27 a27 u27 => ?_)
  refine j_kn (k := 27) (n := 61646) rfl rfl ?_
  have t27 := (u27 m (h_ne y26 e27 (oB_ne (by decide)))).trans y26
  refine j_putF hG hI pX12_93 dX12_init_241 t27 rfl rfl (Nat.le_of_ble_eq_true rfl) (fun g27 y27 z27 => ?_)
  have y27 : g27 m = oB 11 [.int (iZ 0), .int (iZ 0), .int (iZ 0), .ref q1, .ref q2, .ref q3, .ref q4, .ref q5, .int (iZ (-1)), .int (iZ 0), .int (iZ 0), .int (iZ 0), .ref q6, .ref q7, .ref q8, .ref q9, .ref q10, .ref q11, .ref q12, .ref q13, .ref q14, .ref q15, .ref q16, .ref q17, .ref q18, .int (iZ 0), .int (iZ 0), .ref q19, .ref q20, .ref q21, .ref q22, .int (iZ 0), .ref q23, .ref q24, .ref q25, .ref q26, .int (iZ 0), .ref q27, .null, .null, .null, .null, .null, .null, .int (iZ 0), .int (iZ 0), .int (iZ 0), .int (iZ 0), .long (lZ 0), .int (iZ 0), .int (iZ 0), .int (iZ 0)] := y27
  have w27 := AW_add (j' := 38) w26 y26 e27 a27 u27 z27 (by decide +kernel)
  refine j_aload_n hG dX12_init_244 rfl rfl ?_
  refine j_bipush hG dX12_init_245 (by decide) ?_
  refine j_newI (N := 12) hG wA_I dX12_init_247 (by decide) (by decide) (by decide) (fun q28 o28 e28 a28 u28 => ?_)
  refine j_kn (k := 28) (n := 61658) rfl rfl ?_
  have t28 := (u28 m (h_ne y27 e28 (oB_ne (by decide)))).trans y27
  refine j_putF hG hI pX12_96 dX12_init_249 t28 rfl rfl (Nat.le_of_ble_eq_true rfl) (fun g28 y28 z28 => ?_)
  have y28 : g28 m = oB 11 [.int (iZ 0), .int (iZ 0), .int (iZ 0), .ref q1, .ref q2, .ref q3, .ref q4, .ref q5, .int (iZ (-1)), .int (iZ 0), .int (iZ 0), .int (iZ 0), .ref q6, .ref q7, .ref q8, .ref q9, .ref q10, .ref q11, .ref q12, .ref q13, .ref q14, .ref q15, .ref q16, .ref q17, .ref q18, .int (iZ 0), .int (iZ 0), .ref q19, .ref q20, .ref q21, .ref q22, .int (iZ 0), .ref q23, .ref q24, .ref q25, .ref q26, .int (iZ 0), .ref q27, .ref q28, .null, .null, .null, .null, .null, .int (iZ 0), .int (iZ 0), .int (iZ 0), .int (iZ 0), .long (lZ 0), .int (iZ 0), .int (iZ 0), .int (iZ 0)] := y28
  have w28 := AW_add (j' := 39) w27 y27 e28 a28 u28 z28 (by decide +kernel)
  refine j_aload_n hG dX12_init_252 rfl rfl ?_
  refine j_bipush hG dX12_init_253 (by decide) ?_
  refine j_newI (N := 12) hG wA_I dX12_init_255 (by decide) (by decide) (by decide) (fun q29 o29 e29 a29 u29 => ?_)
  refine j_kn (k := 29) (n := 61670) rfl rfl ?_
  have t29 := (u29 m (h_ne y28 e29 (oB_ne (by decide)))).trans y28
  refine j_putF hG hI pX12_99 dX12_init_257 t29 rfl rfl (Nat.le_of_ble_eq_true rfl) (fun g29 y29 z29 => ?_)
  have y29 : g29 m = oB 11 [.int (iZ 0), .int (iZ 0), .int (iZ 0), .ref q1, .ref q2, .ref q3, .ref q4, .ref q5, .int (iZ (-1)), .int (iZ 0), .int (iZ 0), .int (iZ 0), .ref q6, .ref q7, .ref q8, .ref q9, .ref q10, .ref q11, .ref q12, .ref q13, .ref q14, .ref q15, .ref q16, .ref q17, .ref q18, .int (iZ 0), .int (iZ 0), .ref q19, .ref q20, .ref q21, .ref q22, .int (iZ 0), .ref q23, .ref q24, .ref q25, .ref q26, .int (iZ 0), .ref q27, .ref q28, .ref q29, .null, .null, .null, .null, .int (iZ 0), .int (iZ 0), .int (iZ 0), .int (iZ 0), .long (lZ 0), .int (iZ 0), .int (iZ 0), .int (iZ 0)] := y29
  have w29 := AW_add (j' := 40) w28 y28 e29 a29 u29 z29 (by decide +kernel)
  refine j_aload_n hG dX12_init_260 rfl rfl ?_
  refine j_bipush hG dX12_init_261 (by decide) ?_
  refine j_newI (N := 12) hG wA_I dX12_init_263 (by decide) (by decide) (by decide) (fun q30 o30 e30 a30 u30 => ?_)
  refine j_kn (k := 30) (n := 61682) rfl rfl ?_
  have t30 := (u30 m (h_ne y29 e30 (oB_ne (by decide)))).trans y29
  refine j_putF hG hI pX12_102 dX12_init_265 t30 rfl rfl (Nat.le_of_ble_eq_true rfl) (fun g30 y30 z30 => ?_)
  have y30 : g30 m = oB 11 [.int (iZ 0), .int (iZ 0), .int (iZ 0), .ref q1, .ref q2, .ref q3, .ref q4, .ref q5, .int (iZ (-1)), .int (iZ 0), .int (iZ 0), .int (iZ 0), .ref q6, .ref q7, .ref q8, .ref q9, .ref q10, .ref q11, .ref q12, .ref q13, .ref q14, .ref q15, .ref q16, .ref q17, .ref q18, .int (iZ 0), .int (iZ 0), .ref q19, .ref q20, .ref q21, .ref q22, .int (iZ 0), .ref q23, .ref q24, .ref q25, .ref q26, .int (iZ 0), .ref q27, .ref q28, .ref q29, .ref q30, .null, .null, .null, .int (iZ 0), .int (iZ 0), .int (iZ 0), .int (iZ 0), .long (lZ 0), .int (iZ 0), .int (iZ 0), .int (iZ 0)] := y30
  have w30 := AW_add (j' := 41) w29 y29 e30 a30 u30 z30 (by decide +kernel)
  refine j_aload_n hG dX12_init_268 rfl rfl ?_
  refine j_bipush hG dX12_init_269 (by decide) ?_
  refine j_newI (N := 12) hG wA_I dX12_init_271 (by decide) (by decide) (by decide) (fun q31 o31 e31 a31 u31 => ?_)
  refine j_kn (k := 31) (n := 61694) rfl rfl ?_
  have t31 := (u31 m (h_ne y30 e31 (oB_ne (by decide)))).trans y30
  refine j_putF hG hI pX12_105 dX12_init_273 t31 rfl rfl (Nat.le_of_ble_eq_true rfl) (fun g31 y31 z31 => ?_)
  have y31 : g31 m = oB 11 [.int (iZ 0), .int (iZ 0), .int (iZ 0), .ref q1, .ref q2, .ref q3, .ref q4, .ref q5, .int (iZ (-1)), .int (iZ 0), .int (iZ 0), .int (iZ 0), .ref q6, .ref q7, .ref q8, .ref q9, .ref q10, .ref q11, .ref q12, .ref q13, .ref q14, .ref q15, .ref q16, .ref q17, .ref q18, .int (iZ 0), .int (iZ 0), .ref q19, .ref q20, .ref q21, .ref q22, .int (iZ 0), .ref q23, .ref q24, .ref q25, .ref q26, .int (iZ 0), .ref q27, .ref q28, .ref q29, .ref q30, .ref q31, .null, .null, .int (iZ 0), .int (iZ 0), .int (iZ 0), .int (iZ 0), .long (lZ 0), .int (iZ 0), .int (iZ 0), .int (iZ 0)] := y31
  have w31 := AW_add (j' := 42) w30 y30 e31 a31 u31 z31 (by decide +kernel)
  refine j_aload_n hG dX12_init_276 rfl rfl ?_
  refine j_bipush hG dX12_init_277 (by decide) ?_
  refine j_newI (N := 26) hG wA_I dX12_init_279 (by decide) (by decide) (by decide) (fun q32 o32 e32 a32 u32 => ?_)
  refine j_kn (k := 32) (n := 61720) rfl rfl ?_
  have t32 := (u32 m (h_ne y31 e32 (oB_ne (by decide)))).trans y31
  refine j_putF hG hI pX12_108 dX12_init_281 t32 rfl rfl (Nat.le_of_ble_eq_true rfl) (fun g32 y32 z32 => ?_)
  have y32 : g32 m = oB 11 [.int (iZ 0), .int (iZ 0), .int (iZ 0), .ref q1, .ref q2, .ref q3, .ref q4, .ref q5, .int (iZ (-1)), .int (iZ 0), .int (iZ 0), .int (iZ 0), .ref q6, .ref q7, .ref q8, .ref q9, .ref q10, .ref q11, .ref q12, .ref q13, .ref q14, .ref q15, .ref q16, .ref q17, .ref q18, .int (iZ 0), .int (iZ 0), .ref q19, .ref q20, .ref q21, .ref q22, .int (iZ 0), .ref q23, .ref q24, .ref q25, .ref q26, .int (iZ 0), .ref q27, .ref q28, .ref q29, .ref q30, .ref q31, .ref q32, .null, .int (iZ 0), .int (iZ 0), .int (iZ 0), .int (iZ 0), .long (lZ 0), .int (iZ 0), .int (iZ 0), .int (iZ 0)] := y32
  have w32 := AW_add (j' := 43) w31 y31 e32 a32 u32 z32 (by decide +kernel)
  refine j_aload_n hG dX12_init_284 rfl rfl ?_
  refine j_sipush hG dX12_init_285 (by decide) ?_
  refine j_newI (N := 300) hG wA_I dX12_init_288 (by decide) (by decide) (by decide) (fun q33 o33 e33 a33 u33 => ?_)
  refine j_kn (k := 33) (n := 62020) rfl rfl ?_
  have t33 := (u33 m (h_ne y32 e33 (oB_ne (by decide)))).trans y32
  refine j_putF hG hI pX12_111 dX12_init_290 t33 rfl rfl (Nat.le_of_ble_eq_true rfl) (fun g33 y33 z33 => ?_)
  have y33 : g33 m = oB 11 [.int (iZ 0), .int (iZ 0), .int (iZ 0), .ref q1, .ref q2, .ref q3, .ref q4, .ref q5, .int (iZ (-1)), .int (iZ 0), .int (iZ 0), .int (iZ 0), .ref q6, .ref q7, .ref q8, .ref q9, .ref q10, .ref q11, .ref q12, .ref q13, .ref q14, .ref q15, .ref q16, .ref q17, .ref q18, .int (iZ 0), .int (iZ 0), .ref q19, .ref q20, .ref q21, .ref q22, .int (iZ 0), .ref q23, .ref q24, .ref q25, .ref q26, .int (iZ 0), .ref q27, .ref q28, .ref q29, .ref q30, .ref q31, .ref q32, .ref q33, .int (iZ 0), .int (iZ 0), .int (iZ 0), .int (iZ 0), .long (lZ 0), .int (iZ 0), .int (iZ 0), .int (iZ 0)] := y33
  have w33 := AW_add (j' := 52) w32 y32 e33 a33 u33 z33 (by decide +kernel)
  refine j_aload_n hG dX12_init_293 rfl rfl ?_
  refine j_iconst hG dX12_init_294 ?_
  refine j_put hG pX12_114 dX12_init_295 y33 rfl rfl (Nat.le_of_ble_eq_true rfl) (fun gv49 yv49 zv49 => ?_)
  have yv49 : gv49 m = oB 11 [.int (iZ 0), .int (iZ 0), .int (iZ 0), .ref q1, .ref q2, .ref q3, .ref q4, .ref q5, .int (iZ (-1)), .int (iZ 0), .int (iZ 0), .int (iZ 0), .ref q6, .ref q7, .ref q8, .ref q9, .ref q10, .ref q11, .ref q12, .ref q13, .ref q14, .ref q15, .ref q16, .ref q17, .ref q18, .int (iZ 0), .int (iZ 0), .ref q19, .ref q20, .ref q21, .ref q22, .int (iZ 0), .ref q23, .ref q24, .ref q25, .ref q26, .int (iZ 0), .ref q27, .ref q28, .ref q29, .ref q30, .ref q31, .ref q32, .ref q33, .int (iZ 0), .int (iZ 0), .int (iZ 0), .int (iZ 0), .long (lZ 0), .int (iZ (-1)), .int (iZ 0), .int (iZ 0)] := yv49
  have wv49 := AW_put w33 zv49
  refine j_aload_n hG dX12_init_298 rfl rfl ?_
  refine j_iconst hG dX12_init_299 ?_
  refine j_put hG pX12_117 dX12_init_300 yv49 rfl rfl (Nat.le_of_ble_eq_true rfl) (fun gv51 yv51 zv51 => ?_)
  have yv51 : gv51 m = oB 11 [.int (iZ 0), .int (iZ 0), .int (iZ 0), .ref q1, .ref q2, .ref q3, .ref q4, .ref q5, .int (iZ (-1)), .int (iZ 0), .int (iZ 0), .int (iZ 0), .ref q6, .ref q7, .ref q8, .ref q9, .ref q10, .ref q11, .ref q12, .ref q13, .ref q14, .ref q15, .ref q16, .ref q17, .ref q18, .int (iZ 0), .int (iZ 0), .ref q19, .ref q20, .ref q21, .ref q22, .int (iZ 0), .ref q23, .ref q24, .ref q25, .ref q26, .int (iZ 0), .ref q27, .ref q28, .ref q29, .ref q30, .ref q31, .ref q32, .ref q33, .int (iZ 0), .int (iZ 0), .int (iZ 0), .int (iZ 0), .long (lZ 0), .int (iZ (-1)), .int (iZ 0), .int (iZ (1))] := yv51
  have wv51 := AW_put wv49 zv51
  refine j_vret hG hZ dX12_init_303 (by decide) (by decide) ⟨rfl, AW_fin wv51 yv51⟩
