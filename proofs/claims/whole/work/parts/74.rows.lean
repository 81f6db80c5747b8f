def RP (E : JE) (f0 f : Hp) (P : Int → Prop) (ra ca : Int → Nat) : Prop := (∀ i, P i → (f (ra i) = oB 7 [.ref (ca i), .int (iZ 0), .int (iZ 0)] ∧ f (ca i) = aJ (E.2.1 1) 400 (fun _ => 0)) ∧ f0 (ra i) = eN ∧ f0 (ca i) = eN) ∧ (∀ i j, P i → P j → ra i = ra j → i = j) ∧ ∀ i j, P i → P j → ca i = ca j → i = j
theorem RP_kept {E : JE} {f0 f f' : Hp} {P : Int → Prop} {ra ca : Int → Nat} (h : RP E f0 f P ra ca) (k : ∀ q, (∃ fs, f q = oB 7 fs) ∨ (∃ N g, f q = aJ (E.2.1 1) N g) → f' q = f q) : RP E f0 f' P ra ca := ⟨fun i hi => ⟨⟨(k _ (Or.inl ⟨_, (h.1 i hi).1.1⟩)).trans (h.1 i hi).1.1, (k _ (Or.inr ⟨_, _, (h.1 i hi).1.2⟩)).trans (h.1 i hi).1.2⟩, (h.1 i hi).2⟩, h.2⟩
theorem RP_add {E : JE} {f0 f f' : Hp} {P : Int → Prop} {ra ca : Int → Nat} {j : Int} {q c : Nat} (h : RP E f0 f P ra ca) (eq : f q = eN) (ec : f c = eN) (hq : f' q = oB 7 [.ref c, .int (iZ 0), .int (iZ 0)]) (hc : f' c = aJ (E.2.1 1) 400 (fun _ => 0)) (fr : ∀ b, b ≠ q → b ≠ c → f' b = f b) (q0 : f0 q = eN) (c0 : f0 c = eN) (hj : ¬ P j) : RP E f0 f' (fun i => P i ∨ i = j) (fup ra j q) (fup ca j c) := by
  have r1 : ∀ i, P i → ra i ≠ q ∧ ra i ≠ c := fun i hi => ⟨h_ne (h.1 i hi).1.1 eq (oB_ne (by decide)), h_ne (h.1 i hi).1.1 ec (oB_ne (by decide))⟩
  have r2 : ∀ i, P i → ca i ≠ q ∧ ca i ≠ c := fun i hi => ⟨h_ne (h.1 i hi).1.2 eq aJ_ne, h_ne (h.1 i hi).1.2 ec aJ_ne⟩
  have ne : ∀ i, P i → i ≠ j := fun i hi e => hj (e ▸ hi)
  refine ⟨fun i hi => ?_, fun i i2 hi hi2 e => ?_, fun i i2 hi hi2 e => ?_⟩
  · rcases hi with hi | hi
    · rw [fup_n _ _ (ne i hi), fup_n _ _ (ne i hi)]
      exact ⟨⟨(fr _ (r1 i hi).1 (r1 i hi).2).trans (h.1 i hi).1.1, (fr _ (r2 i hi).1 (r2 i hi).2).trans (h.1 i hi).1.2⟩, (h.1 i hi).2⟩
    · rw [hi, fup_s, fup_s]; exact ⟨⟨hq, hc⟩, q0, c0⟩
  · rcases hi with hi | hi
    · rcases hi2 with hi2 | hi2
      · rw [fup_n _ _ (ne i hi), fup_n _ _ (ne i2 hi2)] at e; exact h.2.1 i i2 hi hi2 e
      · rw [hi2, fup_s, fup_n _ _ (ne i hi)] at e; exact absurd e (r1 i hi).1
    · rcases hi2 with hi2 | hi2
      · rw [hi, fup_s, fup_n _ _ (ne i2 hi2)] at e; exact absurd e.symm (r1 i2 hi2).1
      · rw [hi, hi2]
  · rcases hi with hi | hi
    · rcases hi2 with hi2 | hi2
      · rw [fup_n _ _ (ne i hi), fup_n _ _ (ne i2 hi2)] at e; exact h.2.2 i i2 hi hi2 e
      · rw [hi2, fup_s, fup_n _ _ (ne i hi)] at e; exact absurd e (r2 i hi).2
    · rcases hi2 with hi2 | hi2
      · rw [hi, fup_s, fup_n _ _ (ne i2 hi2)] at e; exact absurd e.symm (r2 i2 hi2).2
      · rw [hi, hi2]
theorem stay_new {f0 f : Hp} {T q : Nat} {x : va_E} (hs : stay f0 f T) (hT : f T = x) (hx : x ≠ eN) (hq : f q = eN) : f0 q = eN := by
  apply Classical.byContradiction
  intro hc
  have q1 := hs q hc (fun e => by rw [e, hT] at hq; exact hx hq)
  rw [hq] at q1; exact hc q1.symm
/-- what stands while the ROWS of new TABLES are made -/
def TW (E : JE) (f0 f : Hp) (T x1 x2 x3 : Nat) (L : List Value) (g1 g2 g3 : Int → Option Nat) (P : Int → Prop) (ra ca : Int → Nat) : Prop := f T = oB 8 L ∧ f x1 = aQ (E.2.1 4) 12 g1 ∧ f x2 = aQ (E.2.1 4) 12 g2 ∧ f x3 = aQ (E.2.1 4) 12 g3 ∧ RP E f0 f P ra ca ∧ stay f0 f T ∧ (f0 x1 = eN ∧ f0 x2 = eN ∧ f0 x3 = eN) ∧ x1 ≠ x2 ∧ x1 ≠ x3 ∧ x2 ≠ x3
theorem TW_row {E : JE} {f0 f f2 f3 : Hp} {T x1 x2 x3 : Nat} {L : List Value} {g1 g2 g3 g' : Int → Option Nat} {P : Int → Prop} {ra ca : Int → Nat} {j : Int} {q c : Nat} (h : TW E f0 f T x1 x2 x3 L g1 g2 g3 P ra ca) (eq : f q = eN) (ec : f c = eN) (hq : f2 q = oB 7 [.ref c, .int (iZ 0), .int (iZ 0)]) (hc : f2 c = aJ (E.2.1 1) 400 (fun _ => 0)) (fr : ∀ b, b ≠ q → b ≠ c → f2 b = f b) (hj : ¬ P j) (h3 : f3 x1 = aQ (E.2.1 4) 12 g') (fr3 : ∀ b, b ≠ x1 → f3 b = f2 b) : TW E f0 f3 T x1 x2 x3 L g' g2 g3 (fun i => P i ∨ i = j) (fup ra j q) (fup ca j c) := by
  obtain ⟨hT, k1, k2, k3, hR, hs, ⟨z1, z2, z3⟩, n12, n13, n23⟩ := h
  have q0 := stay_new hs hT (oB_ne (by decide)) eq
  have c0 := stay_new hs hT (oB_ne (by decide)) ec
  have fT := (fr T (h_ne hT eq (oB_ne (by decide))) (h_ne hT ec (oB_ne (by decide)))).trans hT
  have f1 := (fr x1 (h_ne k1 eq aQ_ne) (h_ne k1 ec aQ_ne)).trans k1
  have f2' := (fr x2 (h_ne k2 eq aQ_ne) (h_ne k2 ec aQ_ne)).trans k2
  have f3' := (fr x3 (h_ne k3 eq aQ_ne) (h_ne k3 ec aQ_ne)).trans k3
  refine ⟨(fr3 T (h_ne fT f1 oa_Q)).trans fT, h3, (fr3 x2 (Ne.symm n12)).trans f2', (fr3 x3 (Ne.symm n13)).trans f3', ?_, fun b b1 b2 => ?_, ⟨z1, z2, z3⟩, n12, n13, n23⟩
  · refine RP_kept (RP_add hR eq ec hq hc fr q0 c0 hj) (fun b hb => fr3 b ?_)
    rcases hb with ⟨fs, hb⟩ | ⟨N, g, hb⟩
    · exact h_ne hb f1 oa_Q
    · exact h_ne hb f1 aJQ
  · exact (fr3 b (fun e => b1 (by rw [e]; exact z1))).trans ((fr b (fun e => b1 (by rw [e]; exact q0)) (fun e => b1 (by rw [e]; exact c0))).trans (hs b b1 b2))
theorem TW_rot {E : JE} {f0 f : Hp} {T x1 x2 x3 : Nat} {L : List Value} {g1 g2 g3 : Int → Option Nat} {P : Int → Prop} {ra ca : Int → Nat} (h : TW E f0 f T x1 x2 x3 L g1 g2 g3 P ra ca) : TW E f0 f T x2 x3 x1 L g2 g3 g1 P ra ca := by
  obtain ⟨hT, k1, k2, k3, hR, hs, ⟨z1, z2, z3⟩, n12, n13, n23⟩ := h
  exact ⟨hT, k2, k3, k1, hR, hs, ⟨z2, z3, z1⟩, n23, Ne.symm n12, Ne.symm n13⟩
def inP (t : Nat) (i : Int) : Prop := (0 ≤ i ∧ i < (t : Int)) ∨ (12 ≤ i ∧ i < 12 + (t : Int)) ∨ (24 ≤ i ∧ i < 24 + (t : Int))
theorem RP_iff {E : JE} {f0 f : Hp} {P Q : Int → Prop} {ra ca : Int → Nat} (h : RP E f0 f P ra ca) (k : ∀ i, Q i → P i) : RP E f0 f Q ra ca := ⟨fun i hi => h.1 i (k i hi), fun i j hi hj => h.2.1 i j (k i hi) (k j hj), fun i j hi hj => h.2.2 i j (k i hi) (k j hj)⟩
theorem l_X9_init {G : JG} {l : Launch} {E : JE} (hG : jX G l E cX9_init RX9 2 rmX9_init) {T cu ofr mk : Nat} {f0 : Hp} (hN : ∀ (f' : Hp) (g1 g2 g3 : Int → Option Nat) (ra ca : Int → Nat), TW E f0 f' T cu ofr mk [.ref cu, .ref ofr, .ref mk, .null, .null, .null, .null, .null] g1 g2 g3 (inP 12) ra ca → (∀ i, 0 ≤ i → i < 12 → g1 i = some (ra i) ∧ g2 i = some (ra (i + 12)) ∧ g3 i = some (ra (i + 24))) → J G 75 14544 f' 84 [(0, .ref T), (1, .int (iZ 12))] []) :
    ∀ (d t : Nat) (g1 g2 g3 : Int → Option Nat) (ra ca : Int → Nat) (f1 : Hp), TW E f0 f1 T cu ofr mk [.ref cu, .ref ofr, .ref mk, .null, .null, .null, .null, .null] g1 g2 g3 (inP t) ra ca → (∀ i, 0 ≤ i → i < (t : Int) → g1 i = some (ra i) ∧ g2 i = some (ra (i + 12)) ∧ g3 i = some (ra (i + 24))) → t ≤ 12 → 12 - t < d → J G (3 + 6 * t) (36 + 1209 * t) f1 33 [(0, .ref T), (1, .int (iZ (t : Int)))] [] := by
  intro d
  induction d with
  | zero => intro t g1 g2 g3 ra ca f1 hw hg ht hd; omega
  | succ d ih =>
    intro t g1 g2 g3 ra ca f1 hw hg ht hd
    refine j_iload_n hG dX9_init_33 rfl rfl ?_
    refine j_bipush hG dX9_init_34 (by decide) ?_
    refine j_icmp_ge (tgt := 84) hG dX9_init_36 (by decide) (by omega) (by omega) (fun c => ?_) (fun c => ?_)
    · have e : t = 12 := by omega
      subst e
      exact hN f1 g1 g2 g3 ra ca hw hg
    · -- one more of each
      refine j_aload_n hG dX9_init_39 rfl rfl ?_
      refine j_get hG fX9_11 dX9_init_40 hw.1 rfl ?_
      refine j_iload_n hG dX9_init_43 rfl rfl ?_
      refine j_row hG dX9_init_44 dX9_init_47 dX9_init_48 (by omega) (by omega) (Nat.le_of_ble_eq_true rfl) (fun q0 c0 f0a eq0 ec0 ne0 hq0 hc0 fr0 => ?_)
      have ka0 := (fr0 cu (h_ne hw.2.1 eq0 aQ_ne) (h_ne hw.2.1 ec0 aQ_ne)).trans hw.2.1
      refine j_ast4 hG dX9_init_51 ka0 (by omega) (by decide) hq0 (fun f0b h0b fr0b => ?_)
      have w0 := TW_rot (TW_row (j := (t : Int) + 0) hw eq0 ec0 hq0 hc0 fr0 (by unfold inP; omega) h0b fr0b)
      refine j_aload_n hG dX9_init_52 rfl rfl ?_
      refine j_get hG fX9_17 dX9_init_53 w0.1 rfl ?_
      refine j_iload_n hG dX9_init_56 rfl rfl ?_
      refine j_row hG dX9_init_57 dX9_init_60 dX9_init_61 (by omega) (by omega) (Nat.le_of_ble_eq_true rfl) (fun q1 c1 f1a eq1 ec1 ne1 hq1 hc1 fr1 => ?_)
      have ka1 := (fr1 ofr (h_ne w0.2.1 eq1 aQ_ne) (h_ne w0.2.1 ec1 aQ_ne)).trans w0.2.1
      refine j_ast4 hG dX9_init_64 ka1 (by omega) (by decide) hq1 (fun f1b h1b fr1b => ?_)
      have w1 := TW_rot (TW_row (j := (t : Int) + 12) w0 eq1 ec1 hq1 hc1 fr1 (by simp only [inP]; omega) h1b fr1b)
      refine j_aload_n hG dX9_init_65 rfl rfl ?_
      refine j_get hG fX9_20 dX9_init_66 w1.1 rfl ?_
      refine j_iload_n hG dX9_init_69 rfl rfl ?_
      refine j_row hG dX9_init_70 dX9_init_73 dX9_init_74 (by omega) (by omega) (Nat.le_of_ble_eq_true rfl) (fun q2 c2 f2a eq2 ec2 ne2 hq2 hc2 fr2 => ?_)
      have ka2 := (fr2 mk (h_ne w1.2.1 eq2 aQ_ne) (h_ne w1.2.1 ec2 aQ_ne)).trans w1.2.1
      refine j_ast4 hG dX9_init_77 ka2 (by omega) (by decide) hq2 (fun f2b h2b fr2b => ?_)
      have w2 := TW_rot (TW_row (j := (t : Int) + 24) w1 eq2 ec2 hq2 hc2 fr2 (by simp only [inP]; omega) h2b fr2b)
      refine j_iinc (a := (t : Int)) (lv' := [(0, .ref T), (1, .int (iZ ((t : Int) + 1)))]) hG dX9_init_78 rfl (by decide) rfl ?_
      refine j_goto (tgt := 33) hG dX9_init_81 (by decide) ?_
      refine j_kn (k := 3 + 6 * (t + 1)) (n := 36 + 1209 * (t + 1)) (by omega) (by omega) ?_
      obtain ⟨a1, a2, a3, a4, a5, a6⟩ := w2
      refine ih (t + 1) _ _ _ _ _ f2b ⟨a1, a2, a3, a4, RP_iff a5 (fun i hi => ?_), a6⟩ (fun i i1 i2 => ?_) (by omega) (by omega)
      · simp only [inP] at hi ⊢; omega
      · by_cases e : i = (t : Int)
        · subst e
          refine ⟨?_, ?_, ?_⟩
          · rw [fup_s, fup_n _ _ (by omega), fup_n _ _ (by omega)]; conv => rhs; rw [show fup ra ((t : Int) + 0) q0 (t : Int) = q0 by rw [Int.add_zero, fup_s]]
          · rw [fup_s, fup_n _ _ (by omega), fup_s]
          · rw [fup_s, fup_s]
        · have g := hg i i1 (by omega)
          rw [fup_n _ _ e, fup_n _ _ e, fup_n _ _ e, fup_n _ _ (by omega), fup_n _ _ (by omega), fup_n _ _ (by omega), fup_n _ _ (by omega), fup_n _ _ (by omega), fup_n _ _ (by omega), fup_n _ _ (by omega), fup_n _ _ (by omega), fup_n _ _ (by omega)]; exact g
