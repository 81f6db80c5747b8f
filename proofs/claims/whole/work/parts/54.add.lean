/-! ===== TABLES of the reference ===== -/
def nrep (G : Nat → Int → Int) (t : Int) (L : List Int) : Prop := G 21 t = (L.length : Int) ∧ rep (G 22) (G 23) (G 24) (400 * t) L
def macc (V : Nat → Int) (G : Nat → Int → Int) (t : Int) (r : List Tr) : Prop := (V 25 = 0 ∧ rawOk r ∧ nrep G t (isrt (r.map pk3))) ∨ (V 25 = 1 ∧ ¬ rawOk r)
def oth (G G' : Nat → Int → Int) (t : Int) : Prop := (∀ i, i ≠ 21 → i ≠ 22 → i ≠ 23 → i ≠ 24 → G' i = G i) ∧ (∀ j, j ≠ t → G' 21 j = G 21 j) ∧ ∀ j, (j < 400 * t ∨ 400 * t + 400 ≤ j) → G' 22 j = G 22 j ∧ G' 23 j = G 23 j ∧ G' 24 j = G 24 j
def othV (V V' : Nat → Int) : Prop := ∀ i, i ≠ 25 → V' i = V i
theorem oth_rf {G : Nat → Int → Int} {t : Int} : oth G G t := ⟨fun _ _ _ _ _ => rfl, fun _ _ => rfl, fun _ _ => ⟨rfl, rfl, rfl⟩⟩
theorem oth_tr {G G1 G2 : Nat → Int → Int} {t : Int} (h : oth G G1 t) (k : oth G1 G2 t) : oth G G2 t := ⟨fun i a b c d => (k.1 i a b c d).trans (h.1 i a b c d), fun j hj => (k.2.1 j hj).trans (h.2.1 j hj), fun j hj => ⟨(k.2.2 j hj).1.trans (h.2.2 j hj).1, (k.2.2 j hj).2.1.trans (h.2.2 j hj).2.1, (k.2.2 j hj).2.2.trans (h.2.2 j hj).2.2⟩⟩
theorem othV_tr {V V1 V2 : Nat → Int} (h : othV V V1) (k : othV V1 V2) : othV V V2 := fun i hi => (k i hi).trans (h i hi)
theorem nrep_oth {G G' : Nat → Int → Int} {a t : Int} {L : List Int} (h : oth G G' t) (hat : a < t ∨ t < a) (hL : L.length ≤ 400) (k : nrep G a L) : nrep G' a L := by
  refine ⟨(h.2.1 a (by omega)).trans k.1, fun i hi => ?_⟩
  have e := h.2.2 (400 * a + i) (by omega)
  have q := k.2 i hi
  rw [e.1, e.2.1, e.2.2]; exact q
theorem pk_lx {k t v y : Int} (hk : 0 ≤ k ∧ k < 32) (ht : 0 ≤ t ∧ t < 16384) (hv : -1000000000 ≤ v ∧ v ≤ 1000000000) (hy : rOk y) : pk k t v < y ↔ (k < rK y ∨ (k = rK y ∧ (t < rT y ∨ (t = rT y ∧ v < rV y)))) := by
  have e := pkU hy
  have r1 := rK_rng hy
  have r2 := rT_rng hy
  have r3 := rV_rng hy
  generalize rK y = a at *
  generalize rT y = b at *
  generalize rV y = c at *
  rw [← e]
  unfold pk
  omega
theorem ins_get {x : Int} : ∀ (L : List Int) (p : Nat), p ≤ L.length → (∀ i : Nat, i < p → L.getD i 0 ≤ x) → (∀ i : Nat, p ≤ i → i < L.length → x < L.getD i 0) → (ins x L).length = L.length + 1 ∧ ∀ i : Nat, (ins x L).getD i 0 = if i < p then L.getD i 0 else if i = p then x else L.getD (i - 1) 0
  | [], p, hp, h1, h2 => by
    have e : p = 0 := by simp at hp; exact hp
    subst e
    refine ⟨rfl, fun i => ?_⟩
    cases i with
    | zero => rfl
    | succ i => rw [if_neg (by omega), if_neg (by omega)]; rfl
  | y :: ys, 0, hp, h1, h2 => by
    have h := h2 0 (by omega) (by simp)
    have h' : x < y := h
    unfold ins
    rw [if_pos h']
    refine ⟨rfl, fun i => ?_⟩
    cases i with
    | zero => rfl
    | succ i => rw [if_neg (by omega), if_neg (by omega)]; rfl
  | y :: ys, p + 1, hp, h1, h2 => by
    have h : y ≤ x := h1 0 (by omega)
    have ih := ins_get ys p (by simp at hp; exact hp) (fun i hi => h1 (i + 1) (by omega)) (fun i hi hj => h2 (i + 1) (by omega) (by simp; exact hj))
    unfold ins
    rw [if_neg (by omega)]
    refine ⟨by simp only [List.length_cons]; rw [ih.1], fun i => ?_⟩
    cases i with
    | zero => rw [if_pos (by omega)]; rfl
    | succ i =>
      show (ins x ys).getD i 0 = _
      rw [ih.2 i]
      by_cases c1 : i < p
      · rw [if_pos c1, if_pos (by omega)]; rfl
      · rw [if_neg c1, if_neg (show ¬ (i + 1 < p + 1) by omega)]
        by_cases c2 : i = p
        · rw [if_pos c2, if_pos (show i + 1 = p + 1 by omega)]
        · rw [if_neg c2, if_neg (show ¬ (i + 1 = p + 1) by omega)]
          show ys.getD (i - 1) 0 = (y :: ys).getD i 0
          rw [show i = (i - 1) + 1 by omega]; rfl
theorem srt_get {L : List Int} (h : srt L) {i j : Nat} (hij : i ≤ j) (hj : j < L.length) : L.getD i 0 ≤ L.getD j 0 := by
  by_cases e : i = j
  · subst e; omega
  · have := List.pairwise_iff_getElem.mp h i j (by omega) hj (by omega)
    rw [List.getD_eq_getElem?_getD, List.getD_eq_getElem?_getD, List.getElem?_eq_getElem hj, List.getElem?_eq_getElem (show i < L.length by omega)]
    exact this
theorem rawOk_app {r : List Tr} {p : Tr} : rawOk (r ++ [p]) ↔ rawOk r ∧ r.length < 400 ∧ -1000000000 ≤ p.2.2 ∧ p.2.2 ≤ 1000000000 := by
  unfold rawOk
  rw [List.length_append, List.length_singleton]
  constructor
  · rintro ⟨a, b⟩
    exact ⟨⟨by omega, fun q hq => b q (List.mem_append_left _ hq)⟩, by omega, b p (List.mem_append_right _ (List.mem_singleton.mpr rfl))⟩
  · rintro ⟨⟨a, b⟩, c, d⟩
    refine ⟨by omega, fun q hq => ?_⟩
    rcases List.mem_append.mp hq with h | h
    · exact b q h
    · rw [List.mem_singleton.mp h]; exact d
theorem macc_A {V : Nat → Int} {G : Nat → Int → Int} {t : Int} {r : List Tr} {p : Tr} (h : macc V G t r) (hv : V 25 ≠ 0) : ¬ rawOk (r ++ [p]) := fun q => by
  rcases h with h | h
  · exact hv h.1
  · exact h.2 (rawOk_app.mp q).1
/-- behind the last move of add -/
theorem add_end {G G1 : Nat → Int → Int} {t k tm u n : Int} {L : List Int} {p : Nat} (hp : p ≤ L.length) (h400 : L.length < 400) (h21 : G1 21 t = (L.length : Int)) (hx : rK (pk k tm u) = k ∧ rT (pk k tm u) = tm ∧ rV (pk k tm u) = u) (hs : srt L)
    (hlo : ∀ i : Nat, i < p → G1 22 (400 * t + i) = rK (L.getD i 0) ∧ G1 23 (400 * t + i) = rV (L.getD i 0) ∧ G1 24 (400 * t + i) = rT (L.getD i 0)) (hhi : ∀ i : Nat, p ≤ i → i < L.length → G1 22 (400 * t + i + 1) = rK (L.getD i 0) ∧ G1 23 (400 * t + i + 1) = rV (L.getD i 0) ∧ G1 24 (400 * t + i + 1) = rT (L.getD i 0))
    (hlt : ∀ i : Nat, p ≤ i → i < L.length → pk k tm u < L.getD i 0) (hle : p = 0 ∨ ¬ pk k tm u < L.getD (p - 1) 0) (ho : oth G G1 t)
    (e21 : n = G1 21 t + 1) : nrep (up (up (up (up G1 22 (fup (G1 22) (400 * t + p) k)) 23 (fup (G1 23) (400 * t + p) u)) 24 (fup (G1 24) (400 * t + p) tm)) 21 (fup (G1 21) t n)) t (ins (pk k tm u) L) ∧ oth G (up (up (up (up G1 22 (fup (G1 22) (400 * t + p) k)) 23 (fup (G1 23) (400 * t + p) u)) 24 (fup (G1 24) (400 * t + p) tm)) 21 (fup (G1 21) t n)) t := by
  have g := ins_get (x := pk k tm u) L p hp (fun i hi => by
    rcases hle with e | e
    · omega
    · have := srt_get hs (show i ≤ p - 1 by omega) (by omega); omega) hlt
  constructor
  · refine ⟨?_, fun i hi => ?_⟩
    · show fup (G1 21) t n t = _
      rw [fup_s, e21, h21, g.1]; omega
    · show fup (G1 22) (400 * t + p) k (400 * t + i) = _ ∧ fup (G1 23) (400 * t + p) u (400 * t + i) = _ ∧ fup (G1 24) (400 * t + p) tm (400 * t + i) = _
      rw [g.1] at hi
      rw [g.2 i]
      by_cases c1 : i < p
      · rw [if_pos c1, fup_n _ _ (by omega), fup_n _ _ (by omega), fup_n _ _ (by omega)]; exact hlo i c1
      · rw [if_neg c1]
        by_cases c2 : i = p
        · subst c2; rw [if_pos rfl, fup_s, fup_s, fup_s]; exact ⟨hx.1.symm, hx.2.2.symm, hx.2.1.symm⟩
        · rw [if_neg c2, fup_n _ _ (by omega), fup_n _ _ (by omega), fup_n _ _ (by omega)]
          have := hhi (i - 1) (by omega) (by omega)
          rw [show 400 * t + ((i - 1 : Nat) : Int) + 1 = 400 * t + (i : Int) by omega] at this
          exact this
  · refine ⟨fun i a b c d => ?_, fun j hj => ?_, fun j hj => ?_⟩
    · rw [up_n _ _ a, up_n _ _ d, up_n _ _ c, up_n _ _ b]; exact ho.1 i a b c d
    · show fup (G1 21) t n j = _
      rw [fup_n _ _ hj]; exact ho.2.1 j hj
    · show fup (G1 22) (400 * t + p) k j = _ ∧ fup (G1 23) (400 * t + p) u j = _ ∧ fup (G1 24) (400 * t + p) tm j = _
      rw [fup_n _ _ (by omega), fup_n _ _ (by omega), fup_n _ _ (by omega)]; exact ho.2.2 j hj
theorem oth_shift {G G1 : Nat → Int → Int} {t a k u tm : Int} (ho : oth G G1 t) (ha : 400 * t ≤ a ∧ a < 400 * t + 400) : oth G (up (up (up G1 22 (fup (G1 22) a k)) 23 (fup (G1 23) a u)) 24 (fup (G1 24) a tm)) t := by
  refine ⟨fun i a b c d => ?_, fun j hj => ho.2.1 j hj, fun j hj => ?_⟩
  · rw [up_n _ _ d, up_n _ _ c, up_n _ _ b]; exact ho.1 i a b c d
  · show fup (G1 22) a k j = _ ∧ fup (G1 23) a u j = _ ∧ fup (G1 24) a tm j = _
    rw [fup_n _ _ (by omega), fup_n _ _ (by omega), fup_n _ _ (by omega)]; exact ho.2.2 j hj
theorem c_X12_isBefore {l : Launch} {E : JE} {f : Hp} {rg : Nat → Nat} {f0 : Hp} {m : Nat} {A : Nat → Nat} {V : Nat → Int} {G : Nat → Int → Int} {k t u p y : Int} (hW : MF E rg f0 f m A V G) (hk : 0 ≤ k ∧ k < 32) (ht : 0 ≤ t ∧ t < 16384) (hu : -1000000000 ≤ u ∧ u ≤ 1000000000) (hp : 0 ≤ p ∧ p < 4800) (hy : rOk y) (hK : G 22 p = rK y) (hU : G 23 p = rV y) (hT : G 24 p = rT y) : KX12_isBefore l E [.ref m, .int (iZ (k)), .int (iZ (t)), .int (iZ (u)), .int (iZ (p))] f (fun v f' => (∃ z : Int, v = some (.int (iZ z)) ∧ ((z = 1 ∧ pk k t u < y) ∨ (z = 0 ∧ ¬ pk k t u < y))) ∧ f = f') := by
  refine ct_of (own := RX12) (lv := [(0, .ref m), (1, .int (iZ (k))), (2, .int (iZ (t))), (3, .int (iZ (u))), (4, .int (iZ (p)))]) (by decide +kernel) rfl (Nat.le_of_ble_eq_true rfl) rfl ?_
  intro G9 hG hZ
  have r1 := rK_rng hy
  have r2 := rT_rng hy
  have r3 := rV_rng hy
  refine j_iload_n hG dX12_isBefore_0 rfl rfl ?_
  refine j_aload_n hG dX12_isBefore_1 rfl rfl ?_
  refine j_get (v := .ref (A 22)) hG fX12_60 dX12_isBefore_2 hW.1 rfl ?_
  refine j_iload hG dX12_isBefore_5 rfl ?_
  refine j_iald hG dX12_isBefore_7 (MF_a22 hW) (by omega) (by decide) ?_
  refine j_eq (show ((G 22) p : Int) = (rK y : Int) from hK) ?_
  refine j_icmp_eq (tgt := 28) hG dX12_isBefore_8 (by decide) (by omega) (by omega) (fun c1 => ?_) (fun c1 => ?_)
  · -- taken at 8
    refine j_iload_n hG dX12_isBefore_28 rfl rfl ?_
    refine j_aload_n hG dX12_isBefore_29 rfl rfl ?_
    refine j_get (v := .ref (A 24)) hG fX12_66 dX12_isBefore_30 hW.1 rfl ?_
    refine j_iload hG dX12_isBefore_33 rfl ?_
    refine j_iald hG dX12_isBefore_35 (MF_a24 hW) (by omega) (by decide) ?_
    refine j_eq (show ((G 24) p : Int) = (rT y : Int) from hT) ?_
    refine j_icmp_eq (tgt := 58) hG dX12_isBefore_36 (by decide) (by omega) (by omega) (fun c2 => ?_) (fun c2 => ?_)
    · -- taken at 36
      refine j_iload_n hG dX12_isBefore_58 rfl rfl ?_
      refine j_aload_n hG dX12_isBefore_59 rfl rfl ?_
      refine j_get (v := .ref (A 23)) hG fX12_63 dX12_isBefore_60 hW.1 rfl ?_
      refine j_iload hG dX12_isBefore_63 rfl ?_
      refine j_iald hG dX12_isBefore_65 (MF_a23 hW) (by omega) (by decide) ?_
      refine j_eq (show ((G 23) p : Int) = (rV y : Int) from hU) ?_
      refine j_icmp_ge (tgt := 73) hG dX12_isBefore_66 (by decide) (by omega) (by omega) (fun c3 => ?_) (fun c3 => ?_)
      · -- taken at 66
        refine j_iconst hG dX12_isBefore_73 ?_
        exact j_zret hG hZ dX12_isBefore_74 (Nat.zero_le _) (Nat.zero_le _) (nar_zr (by omega)) (⟨⟨0, rfl, Or.inr ⟨rfl, by rw [pk_lx hk ht hu hy]; omega⟩⟩, rfl⟩)
      · -- on at 66
        refine j_iconst hG dX12_isBefore_69 ?_
        refine j_goto (tgt := 74) hG dX12_isBefore_70 (by decide) ?_
        exact j_zret hG hZ dX12_isBefore_74 (Nat.zero_le _) (Nat.zero_le _) (nar_zr (by omega)) (⟨⟨1, rfl, Or.inl ⟨rfl, by rw [pk_lx hk ht hu hy]; omega⟩⟩, rfl⟩)
    · -- on at 36
      refine j_iload_n hG dX12_isBefore_39 rfl rfl ?_
      refine j_aload_n hG dX12_isBefore_40 rfl rfl ?_
      refine j_get (v := .ref (A 24)) hG fX12_66 dX12_isBefore_41 hW.1 rfl ?_
      refine j_iload hG dX12_isBefore_44 rfl ?_
      refine j_iald hG dX12_isBefore_46 (MF_a24 hW) (by omega) (by decide) ?_
      refine j_eq (show ((G 24) p : Int) = (rT y : Int) from hT) ?_
      refine j_icmp_ge (tgt := 54) hG dX12_isBefore_47 (by decide) (by omega) (by omega) (fun c4 => ?_) (fun c4 => ?_)
      · -- taken at 47
        refine j_iconst hG dX12_isBefore_54 ?_
        refine j_goto (tgt := 74) hG dX12_isBefore_55 (by decide) ?_
        exact j_zret hG hZ dX12_isBefore_74 (Nat.zero_le _) (Nat.zero_le _) (nar_zr (by omega)) (⟨⟨0, rfl, Or.inr ⟨rfl, by rw [pk_lx hk ht hu hy]; omega⟩⟩, rfl⟩)
      · -- on at 47
        refine j_iconst hG dX12_isBefore_50 ?_
        refine j_goto (tgt := 74) hG dX12_isBefore_51 (by decide) ?_
        exact j_zret hG hZ dX12_isBefore_74 (Nat.zero_le _) (Nat.zero_le _) (nar_zr (by omega)) (⟨⟨1, rfl, Or.inl ⟨rfl, by rw [pk_lx hk ht hu hy]; omega⟩⟩, rfl⟩)
  · -- on at 8
    refine j_iload_n hG dX12_isBefore_11 rfl rfl ?_
    refine j_aload_n hG dX12_isBefore_12 rfl rfl ?_
    refine j_get (v := .ref (A 22)) hG fX12_60 dX12_isBefore_13 hW.1 rfl ?_
    refine j_iload hG dX12_isBefore_16 rfl ?_
    refine j_iald hG dX12_isBefore_18 (MF_a22 hW) (by omega) (by decide) ?_
    refine j_eq (show ((G 22) p : Int) = (rK y : Int) from hK) ?_
    refine j_icmp_ge (tgt := 26) hG dX12_isBefore_19 (by decide) (by omega) (by omega) (fun c5 => ?_) (fun c5 => ?_)
    · -- taken at 19
      refine j_iconst hG dX12_isBefore_26 ?_
      exact j_zret hG hZ dX12_isBefore_27 (Nat.zero_le _) (Nat.zero_le _) (nar_zr (by omega)) (⟨⟨0, rfl, Or.inr ⟨rfl, by rw [pk_lx hk ht hu hy]; omega⟩⟩, rfl⟩)
    · -- on at 19
      refine j_iconst hG dX12_isBefore_22 ?_
      refine j_goto (tgt := 27) hG dX12_isBefore_23 (by decide) ?_
      exact j_zret hG hZ dX12_isBefore_27 (Nat.zero_le _) (Nat.zero_le _) (nar_zr (by omega)) (⟨⟨1, rfl, Or.inl ⟨rfl, by rw [pk_lx hk ht hu hy]; omega⟩⟩, rfl⟩)
theorem l_X12_add {G9 : JG} {l : Launch} {E : JE} {P : Option Value → Hp → Prop} (hG : jX G9 l E cX12_add RX12 7 rmX12_add) (hZ : jZ G9 none P) {rg : Nat → Nat} {f0 : Hp} {m : Nat} {A : Nat → Nat} {V : Nat → Int} {G : Nat → Int → Int} {t k tm u : Int} {L : List Int} (ht0 : 0 ≤ t ∧ t < 12) (hk : 0 ≤ k ∧ k < 32) (ht : 0 ≤ tm ∧ tm < 16384) (hu : -1000000000 ≤ u ∧ u ≤ 1000000000) (h400 : L.length < 400) (hLo : lOk L) (hsrt : srt L) (hx : rK (pk k tm u) = k ∧ rT (pk k tm u) = tm ∧ rV (pk k tm u) = u) (hP : ∀ (f' : Hp) (G' : Nat → Int → Int), MF E rg f0 f' m A V G' → nrep G' t (ins (pk k tm u) L) → oth G G' t → P none f') :
    ∀ (d : Nat) (p : Nat) (G1 : Nat → Int → Int) (f1 : Hp), (hW : MF E rg f0 f1 m A V G1) → (hp : p ≤ L.length) → (h21 : G1 21 t = (L.length : Int)) → (hlo : ∀ i : Nat, i < p → G1 22 (400 * t + i) = rK (L.getD i 0) ∧ G1 23 (400 * t + i) = rV (L.getD i 0) ∧ G1 24 (400 * t + i) = rT (L.getD i 0)) → (hhi : ∀ i : Nat, p ≤ i → i < L.length → G1 22 (400 * t + i + 1) = rK (L.getD i 0) ∧ G1 23 (400 * t + i + 1) = rV (L.getD i 0) ∧ G1 24 (400 * t + i + 1) = rT (L.getD i 0)) → (hlt : ∀ i : Nat, p ≤ i → i < L.length → pk k tm u < L.getD i 0) → (ho : oth G G1 t) → (p) < d → J G9 0 0 f1 52 [(0, .ref m), (1, .int (iZ (t))), (2, .int (iZ (k))), (3, .long (lZ (u))), (5, .int (iZ (tm))), (6, .int (iZ (400 * t + (p : Int))))] [] := by
  intro d
  induction d with
  | zero => intro p G1 f1 hW hp h21 hlo hhi hlt ho hd9; exfalso; omega
  | succ d ih =>
    intro p G1 f1 hW hp h21 hlo hhi hlt ho hd9
    refine j_iload hG dX12_add_52 rfl ?_
    refine j_sipush hG dX12_add_54 (by decide) ?_
    refine j_iload_n hG dX12_add_57 rfl rfl ?_
    refine j_imul hG dX12_add_58 ?_
    refine j_icmp_le (tgt := 132) hG dX12_add_59 (by decide) (by omega) (by omega) (fun c1 => ?_) (fun c1 => ?_)
    · -- taken at 59
      refine j_aload_n hG dX12_add_132 rfl rfl ?_
      refine j_get (v := .ref (A 22)) hG fX12_60 dX12_add_133 hW.1 rfl ?_
      refine j_iload hG dX12_add_136 rfl ?_
      refine j_iload_n hG dX12_add_138 rfl rfl ?_
      refine j_iast hG dX12_add_139 (MF_a22 hW) (by omega) (by decide) (fun f2 h3 fr4 => ?_)
      have hW5 : MF E rg f0 f2 m A V (up G1 22 (fup (G1 22) (400 * t + (p : Int)) k)) := MF_a hW 22 rfl h3 fr4
      refine j_aload_n hG dX12_add_140 rfl rfl ?_
      refine j_get (v := .ref (A 23)) hG fX12_63 dX12_add_141 hW5.1 rfl ?_
      refine j_iload hG dX12_add_144 rfl ?_
      refine j_lload_n hG dX12_add_146 rfl rfl ?_
      refine j_l2i hG dX12_add_147 ?_
      refine j_iast hG dX12_add_148 (MF_a23 hW5) (by omega) (by decide) (fun f6 h7 fr8 => ?_)
      have hW9 : MF E rg f0 f6 m A V (up (up G1 22 (fup (G1 22) (400 * t + (p : Int)) k)) 23 (fup (G1 23) (400 * t + (p : Int)) u)) := MF_a hW5 23 rfl h7 fr8
      refine j_aload_n hG dX12_add_149 rfl rfl ?_
      refine j_get (v := .ref (A 24)) hG fX12_66 dX12_add_150 hW9.1 rfl ?_
      refine j_iload hG dX12_add_153 rfl ?_
      refine j_iload hG dX12_add_155 rfl ?_
      refine j_iast hG dX12_add_157 (MF_a24 hW9) (by omega) (by decide) (fun f10 h11 fr12 => ?_)
      have hW13 : MF E rg f0 f10 m A V (up (up (up G1 22 (fup (G1 22) (400 * t + (p : Int)) k)) 23 (fup (G1 23) (400 * t + (p : Int)) u)) 24 (fup (G1 24) (400 * t + (p : Int)) tm)) := MF_a hW9 24 rfl h11 fr12
      refine j_aload_n hG dX12_add_158 rfl rfl ?_
      refine j_get (v := .ref (A 21)) hG fX12_57 dX12_add_159 hW13.1 rfl ?_
      refine j_iload_n hG dX12_add_162 rfl rfl ?_
      refine j_dup2 hG dX12_add_163 rfl rfl ?_
      refine j_iald hG dX12_add_164 (MF_a21 hW13) (by omega) (by decide) ?_
      refine j_iconst hG dX12_add_165 ?_
      refine j_iadd hG dX12_add_166 ?_
      refine j_iast hG dX12_add_167 (MF_a21 hW13) (by omega) (by decide) (fun f14 h15 fr16 => ?_)
      have hW17 : MF E rg f0 f14 m A V (up (up (up (up G1 22 (fup (G1 22) (400 * t + (p : Int)) k)) 23 (fup (G1 23) (400 * t + (p : Int)) u)) 24 (fup (G1 24) (400 * t + (p : Int)) tm)) 21 (fup (G1 21) t (((G1 21) t) + 1))) := MF_a hW13 21 rfl h15 fr16
      have a9 := add_end (G := G) (G1 := G1) (t := t) (k := k) (tm := tm) (u := u) (n := G1 21 t + 1) (L := L) (p := p) hp h400 h21 hx hsrt hlo hhi hlt (Or.inl (by omega)) ho rfl
      exact j_vret hG hZ dX12_add_168 (Nat.zero_le _) (Nat.zero_le _) (hP f14 _ hW17 a9.1 a9.2)
    · -- on at 59
      have y0 := hlo (p - 1) (by omega)
      have y9 : (400 * t + ((p - 1 : Nat) : Int)) = 400 * t + (p : Int) - 1 := by omega
      rw [y9] at y0
      obtain ⟨y1, y2, y3⟩ := y0
      refine j_aload_n hG dX12_add_62 rfl rfl ?_
      refine j_iload_n hG dX12_add_63 rfl rfl ?_
      refine j_iload hG dX12_add_64 rfl ?_
      refine j_lload_n hG dX12_add_66 rfl rfl ?_
      refine j_l2i hG dX12_add_67 ?_
      refine j_iload hG dX12_add_68 rfl ?_
      refine j_iconst hG dX12_add_70 ?_
      refine j_isub hG dX12_add_71 ?_
      refine j_callV (rest := []) hG vX12_155 dX12_add_72 (c_X12_isBefore (y := L.getD (p - 1) 0) (p := (400 * t + (p : Int)) - 1) hW hk ht hu (by omega) (hLo _ (gd_mem (by omega))).1 y1 y2 y3) hW.1 rfl rfl (by decide) (by decide) (Nat.le_of_ble_eq_true rfl) rfl rfl (Nat.zero_le _) (Nat.zero_le _) ?_
      rintro _ _ ⟨⟨z18, rfl, hz19⟩, rfl⟩
      refine j_st (st' := [.int (iZ (z18))]) rfl ?_
      refine j_if_eq (tgt := 132) hG dX12_add_75 (by decide) (by omega) (fun c22 => ?_) (fun c22 => ?_)
      · -- taken at 75
        obtain ⟨-, e21⟩ := hz19.resolve_left (fun h => absurd h.1 (by omega))
        refine j_aload_n hG dX12_add_132 rfl rfl ?_
        refine j_get (v := .ref (A 22)) hG fX12_60 dX12_add_133 hW.1 rfl ?_
        refine j_iload hG dX12_add_136 rfl ?_
        refine j_iload_n hG dX12_add_138 rfl rfl ?_
        refine j_iast hG dX12_add_139 (MF_a22 hW) (by omega) (by decide) (fun f23 h24 fr25 => ?_)
        have hW26 : MF E rg f0 f23 m A V (up G1 22 (fup (G1 22) (400 * t + (p : Int)) k)) := MF_a hW 22 rfl h24 fr25
        refine j_aload_n hG dX12_add_140 rfl rfl ?_
        refine j_get (v := .ref (A 23)) hG fX12_63 dX12_add_141 hW26.1 rfl ?_
        refine j_iload hG dX12_add_144 rfl ?_
        refine j_lload_n hG dX12_add_146 rfl rfl ?_
        refine j_l2i hG dX12_add_147 ?_
        refine j_iast hG dX12_add_148 (MF_a23 hW26) (by omega) (by decide) (fun f27 h28 fr29 => ?_)
        have hW30 : MF E rg f0 f27 m A V (up (up G1 22 (fup (G1 22) (400 * t + (p : Int)) k)) 23 (fup (G1 23) (400 * t + (p : Int)) u)) := MF_a hW26 23 rfl h28 fr29
        refine j_aload_n hG dX12_add_149 rfl rfl ?_
        refine j_get (v := .ref (A 24)) hG fX12_66 dX12_add_150 hW30.1 rfl ?_
        refine j_iload hG dX12_add_153 rfl ?_
        refine j_iload hG dX12_add_155 rfl ?_
        refine j_iast hG dX12_add_157 (MF_a24 hW30) (by omega) (by decide) (fun f31 h32 fr33 => ?_)
        have hW34 : MF E rg f0 f31 m A V (up (up (up G1 22 (fup (G1 22) (400 * t + (p : Int)) k)) 23 (fup (G1 23) (400 * t + (p : Int)) u)) 24 (fup (G1 24) (400 * t + (p : Int)) tm)) := MF_a hW30 24 rfl h32 fr33
        refine j_aload_n hG dX12_add_158 rfl rfl ?_
        refine j_get (v := .ref (A 21)) hG fX12_57 dX12_add_159 hW34.1 rfl ?_
        refine j_iload_n hG dX12_add_162 rfl rfl ?_
        refine j_dup2 hG dX12_add_163 rfl rfl ?_
        refine j_iald hG dX12_add_164 (MF_a21 hW34) (by omega) (by decide) ?_
        refine j_iconst hG dX12_add_165 ?_
        refine j_iadd hG dX12_add_166 ?_
        refine j_iast hG dX12_add_167 (MF_a21 hW34) (by omega) (by decide) (fun f35 h36 fr37 => ?_)
        have hW38 : MF E rg f0 f35 m A V (up (up (up (up G1 22 (fup (G1 22) (400 * t + (p : Int)) k)) 23 (fup (G1 23) (400 * t + (p : Int)) u)) 24 (fup (G1 24) (400 * t + (p : Int)) tm)) 21 (fup (G1 21) t (((G1 21) t) + 1))) := MF_a hW34 21 rfl h36 fr37
        have a9 := add_end (G := G) (G1 := G1) (t := t) (k := k) (tm := tm) (u := u) (n := G1 21 t + 1) (L := L) (p := p) hp h400 h21 hx hsrt hlo hhi hlt (Or.inr e21) ho rfl
        exact j_vret hG hZ dX12_add_168 (Nat.zero_le _) (Nat.zero_le _) (hP f35 _ hW38 a9.1 a9.2)
      · -- on at 75
        obtain ⟨-, e20⟩ := hz19.resolve_right (fun h => absurd h.1 (by omega))
        refine j_aload_n hG dX12_add_78 rfl rfl ?_
        refine j_get (v := .ref (A 22)) hG fX12_60 dX12_add_79 hW.1 rfl ?_
        refine j_iload hG dX12_add_82 rfl ?_
        refine j_aload_n hG dX12_add_84 rfl rfl ?_
        refine j_get (v := .ref (A 22)) hG fX12_60 dX12_add_85 hW.1 rfl ?_
        refine j_iload hG dX12_add_88 rfl ?_
        refine j_iconst hG dX12_add_90 ?_
        refine j_isub hG dX12_add_91 ?_
        refine j_iald hG dX12_add_92 (MF_a22 hW) (by omega) (by decide) ?_
        refine j_iast hG dX12_add_93 (MF_a22 hW) (by omega) (by decide) (fun f39 h40 fr41 => ?_)
        have hW42 : MF E rg f0 f39 m A V (up G1 22 (fup (G1 22) (400 * t + (p : Int)) ((G1 22) ((400 * t + (p : Int)) - 1)))) := MF_a hW 22 rfl h40 fr41
        refine j_aload_n hG dX12_add_94 rfl rfl ?_
        refine j_get (v := .ref (A 23)) hG fX12_63 dX12_add_95 hW42.1 rfl ?_
        refine j_iload hG dX12_add_98 rfl ?_
        refine j_aload_n hG dX12_add_100 rfl rfl ?_
        refine j_get (v := .ref (A 23)) hG fX12_63 dX12_add_101 hW42.1 rfl ?_
        refine j_iload hG dX12_add_104 rfl ?_
        refine j_iconst hG dX12_add_106 ?_
        refine j_isub hG dX12_add_107 ?_
        refine j_iald hG dX12_add_108 (MF_a23 hW42) (by omega) (by decide) ?_
        refine j_iast hG dX12_add_109 (MF_a23 hW42) (by omega) (by decide) (fun f43 h44 fr45 => ?_)
        have hW46 : MF E rg f0 f43 m A V (up (up G1 22 (fup (G1 22) (400 * t + (p : Int)) ((G1 22) ((400 * t + (p : Int)) - 1)))) 23 (fup (G1 23) (400 * t + (p : Int)) ((G1 23) ((400 * t + (p : Int)) - 1)))) := MF_a hW42 23 rfl h44 fr45
        refine j_aload_n hG dX12_add_110 rfl rfl ?_
        refine j_get (v := .ref (A 24)) hG fX12_66 dX12_add_111 hW46.1 rfl ?_
        refine j_iload hG dX12_add_114 rfl ?_
        refine j_aload_n hG dX12_add_116 rfl rfl ?_
        refine j_get (v := .ref (A 24)) hG fX12_66 dX12_add_117 hW46.1 rfl ?_
        refine j_iload hG dX12_add_120 rfl ?_
        refine j_iconst hG dX12_add_122 ?_
        refine j_isub hG dX12_add_123 ?_
        refine j_iald hG dX12_add_124 (MF_a24 hW46) (by omega) (by decide) ?_
        refine j_iast hG dX12_add_125 (MF_a24 hW46) (by omega) (by decide) (fun f47 h48 fr49 => ?_)
        have hW50 : MF E rg f0 f47 m A V (up (up (up G1 22 (fup (G1 22) (400 * t + (p : Int)) ((G1 22) ((400 * t + (p : Int)) - 1)))) 23 (fup (G1 23) (400 * t + (p : Int)) ((G1 23) ((400 * t + (p : Int)) - 1)))) 24 (fup (G1 24) (400 * t + (p : Int)) ((G1 24) ((400 * t + (p : Int)) - 1)))) := MF_a hW46 24 rfl h48 fr49
        refine j_iinc (a := 400 * t + (p : Int)) (lv' := [(0, .ref m), (1, .int (iZ (t))), (2, .int (iZ (k))), (3, .long (lZ (u))), (5, .int (iZ (tm))), (6, .int (iZ ((400 * t + (p : Int)) + (-1))))]) hG dX12_add_126 rfl (by decide) rfl ?_
        refine j_goto (tgt := 52) hG dX12_add_129 (by decide) ?_
        refine j_lv (lv' := [(0, .ref m), (1, .int (iZ (t))), (2, .int (iZ (k))), (3, .long (lZ (u))), (5, .int (iZ (tm))), (6, .int (iZ (400 * t + (p : Int) + -1)))]) (by simp) ?_
        rw [show 400 * t + (p : Int) + -1 = 400 * t + ((p - 1 : Nat) : Int) by omega]
        refine ih (p - 1) _ f47 hW50 (by omega) h21 (fun i hi => ?_) (fun i hi hj => ?_) (fun i hi hj => ?_) (oth_shift ho (by omega)) (by omega)
        · show fup (G1 22) (400 * t + (p : Int)) (G1 22 (400 * t + (p : Int) - 1)) (400 * t + (i : Int)) = _ ∧ fup (G1 23) (400 * t + (p : Int)) (G1 23 (400 * t + (p : Int) - 1)) (400 * t + (i : Int)) = _ ∧ fup (G1 24) (400 * t + (p : Int)) (G1 24 (400 * t + (p : Int) - 1)) (400 * t + (i : Int)) = _
          rw [fup_n _ _ (by omega), fup_n _ _ (by omega), fup_n _ _ (by omega)]; exact hlo i (by omega)
        · show fup (G1 22) (400 * t + (p : Int)) (G1 22 (400 * t + (p : Int) - 1)) (400 * t + (i : Int) + 1) = _ ∧ fup (G1 23) (400 * t + (p : Int)) (G1 23 (400 * t + (p : Int) - 1)) (400 * t + (i : Int) + 1) = _ ∧ fup (G1 24) (400 * t + (p : Int)) (G1 24 (400 * t + (p : Int) - 1)) (400 * t + (i : Int) + 1) = _
          by_cases c9 : i = p - 1
          · rw [show 400 * t + (i : Int) + 1 = 400 * t + (p : Int) by omega, fup_s, fup_s, fup_s, c9]; exact ⟨y1, y2, y3⟩
          · rw [fup_n _ _ (by omega), fup_n _ _ (by omega), fup_n _ _ (by omega)]; exact hhi i (by omega) hj
        · by_cases c9 : i = p - 1
          · rw [c9]; exact e20
          · exact hlt i (by omega) hj
theorem c_X12_add {l : Launch} {E : JE} {f : Hp} {rg : Nat → Nat} {f0 : Hp} {m : Nat} {A : Nat → Nat} {V : Nat → Int} {G : Nat → Int → Int} {t k u tm : Int} {r : List Tr} (hW : MF E rg f0 f m A V G) (ht0 : 0 ≤ t ∧ t < 12) (hk : 0 ≤ k ∧ k < 32) (ht : 0 ≤ tm ∧ tm < 16384) (hub : -4611686018427387904 ≤ u ∧ u ≤ 4611686018427387904) (hr : ∀ p ∈ r, kOk p) (hacc : macc V G t r) : KX12_add l E [.ref m, .int (iZ (t)), .int (iZ (k)), .long (lZ (u)), .int (iZ (tm))] f (fun v f' => v = none ∧ ∃ (V' : Nat → Int) (G' : Nat → Int → Int), MF E rg f0 f' m A V' G' ∧ macc V' G' t (r ++ [(k, tm, u)]) ∧ oth G G' t ∧ othV V V') := by
  refine ct_of (own := RX12) (lv := [(0, .ref m), (1, .int (iZ (t))), (2, .int (iZ (k))), (3, .long (lZ (u))), (5, .int (iZ (tm)))]) (by decide +kernel) rfl (Nat.le_of_ble_eq_true rfl) rfl ?_
  intro G9 hG hZ
  refine j_aload_n hG dX12_add_0 rfl rfl ?_
  refine j_get (v := .int (iZ (V 25))) hG fX12_147 dX12_add_1 hW.1 rfl ?_
  refine j_if_ne (tgt := 32) hG dX12_add_4 (by decide) (by rcases hacc with q | q <;> (have := q.1; omega)) (fun c1 => ?_) (fun c1 => ?_)
  · -- taken at 4
    refine j_aload_n hG dX12_add_32 rfl rfl ?_
    refine j_iconst hG dX12_add_33 ?_
    refine j_put hG pX12_147 dX12_add_34 hW.1 (nar_zr (Or.inr rfl)) (fit_z (Or.inr rfl)) (Nat.le_of_ble_eq_true rfl) (fun f2 h3 fr4 => ?_)
    have hW5 : MF E rg f0 f2 m A (up V 25 1) G := MF_p25 hW h3 fr4
    exact j_vret hG hZ dX12_add_37 (Nat.zero_le _) (Nat.zero_le _) (⟨rfl, _, G, hW5, Or.inr ⟨rfl, macc_A hacc (by omega)⟩, oth_rf, fun i hi => up_n _ _ hi⟩)
  · -- on at 4
    obtain ⟨hv0, hro, hn1, hn2⟩ := hacc.resolve_right (fun q => by have := q.1; omega)
    obtain ⟨hLo, hLl⟩ := raw_l hro hr
    have hrl := hro.1
    refine j_aload_n hG dX12_add_7 rfl rfl ?_
    refine j_get (v := .ref (A 21)) hG fX12_57 dX12_add_8 hW.1 rfl ?_
    refine j_iload_n hG dX12_add_11 rfl rfl ?_
    refine j_iald hG dX12_add_12 (MF_a21 hW) (by omega) (by decide) ?_
    refine j_sipush hG dX12_add_13 (by decide) ?_
    refine j_icmp_eq (tgt := 32) hG dX12_add_16 (by decide) (by omega) (by omega) (fun c6 => ?_) (fun c6 => ?_)
    · -- taken at 16
      refine j_aload_n hG dX12_add_32 rfl rfl ?_
      refine j_iconst hG dX12_add_33 ?_
      refine j_put hG pX12_147 dX12_add_34 hW.1 (nar_zr (Or.inr rfl)) (fit_z (Or.inr rfl)) (Nat.le_of_ble_eq_true rfl) (fun f7 h8 fr9 => ?_)
      have hW10 : MF E rg f0 f7 m A (up V 25 1) G := MF_p25 hW h8 fr9
      exact j_vret hG hZ dX12_add_37 (Nat.zero_le _) (Nat.zero_le _) (⟨rfl, _, G, hW10, Or.inr ⟨rfl, fun q => by have q := (rawOk_app.mp q).2.1; omega⟩, oth_rf, fun i hi => up_n _ _ hi⟩)
    · -- on at 16
      refine j_lload_n hG dX12_add_19 rfl rfl ?_
      refine j_ldc2 (z := -1000000000) hG dX12_add_20 kX12_151 (by decide) ?_
      refine j_ldc2 (z := 1000000000) hG dX12_add_23 kX12_153 (by decide) ?_
      refine j_callS (rest := []) hG vX12_128 dX12_add_26 (c_X12_in (a := u) (lo := -1000000000) (hi := 1000000000) (by omega) (by omega) (by omega)) rfl rfl (by decide) (by decide) (Nat.le_of_ble_eq_true rfl) rfl rfl (Nat.zero_le _) (Nat.zero_le _) ?_
      rintro _ _ ⟨⟨z11, rfl, hz12⟩, rfl⟩
      refine j_st (st' := [.int (iZ (z11))]) rfl ?_
      refine j_if_ne (tgt := 38) hG dX12_add_29 (by decide) (by omega) (fun c15 => ?_) (fun c15 => ?_)
      · -- taken at 29
        obtain ⟨-, e13⟩ := hz12.resolve_right (fun h => absurd h.1 (by omega))
        refine j_sipush hG dX12_add_38 (by decide) ?_
        refine j_iload_n hG dX12_add_41 rfl rfl ?_
        refine j_imul hG dX12_add_42 ?_
        refine j_aload_n hG dX12_add_43 rfl rfl ?_
        refine j_get (v := .ref (A 21)) hG fX12_57 dX12_add_44 hW.1 rfl ?_
        refine j_iload_n hG dX12_add_47 rfl rfl ?_
        refine j_iald hG dX12_add_48 (MF_a21 hW) (by omega) (by decide) ?_
        refine j_iadd hG dX12_add_49 ?_
        refine j_istore (lv' := [(0, .ref m), (1, .int (iZ (t))), (2, .int (iZ (k))), (3, .long (lZ (u))), (5, .int (iZ (tm))), (6, .int (iZ ((400 * t) + ((G 21) t))))]) hG dX12_add_50 (by decide) rfl ?_
        have pk9 := pk_ok hk ht (v := u) (by omega)
        rw [hn1]
        refine l_X12_add hG hZ ht0 hk ht (by omega) (by omega) hLo (isrt_srt _) pk9.2 (fun f' G' b1 b2 b3 => ?_) ((isrt (r.map pk3)).length + 1) (isrt (r.map pk3)).length G f hW (Nat.le_refl _) hn1 (fun i hi => hn2 i hi) (fun i hi hj => absurd hj (by omega)) (fun i hi hj => absurd hj (by omega)) oth_rf (by omega)
        refine ⟨rfl, V, G', b1, Or.inl ⟨hv0, rawOk_app.mpr ⟨hro, by omega, by simp only []; omega⟩, ?_⟩, b3, fun _ _ => rfl⟩
        rw [List.map_append, List.map_cons, List.map_nil, isrt_snoc]
        exact b2
      · -- on at 29
        obtain ⟨-, e14⟩ := hz12.resolve_left (fun h => absurd h.1 (by omega))
        refine j_aload_n hG dX12_add_32 rfl rfl ?_
        refine j_iconst hG dX12_add_33 ?_
        refine j_put hG pX12_147 dX12_add_34 hW.1 (nar_zr (Or.inr rfl)) (fit_z (Or.inr rfl)) (Nat.le_of_ble_eq_true rfl) (fun f16 h17 fr18 => ?_)
        have hW19 : MF E rg f0 f16 m A (up V 25 1) G := MF_p25 hW h17 fr18
        exact j_vret hG hZ dX12_add_37 (Nat.zero_le _) (Nat.zero_le _) (⟨rfl, _, G, hW19, Or.inr ⟨rfl, fun q => by have q := (rawOk_app.mp q).2.2; simp only [] at q; omega⟩, oth_rf, fun i hi => up_n _ _ hi⟩)
