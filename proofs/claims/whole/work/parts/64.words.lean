theorem wW_1 {g : Int → Int} {s : Int} : wW g s 1 = (0 * 32 + g (s + 0) - 96) := rfl
theorem wW_2 {g : Int → Int} {s : Int} : wW g s 2 = ((0 * 32 + g (s + 0) - 96) * 32 + g (s + 1) - 96) := rfl
theorem wW_3 {g : Int → Int} {s : Int} : wW g s 3 = (((0 * 32 + g (s + 0) - 96) * 32 + g (s + 1) - 96) * 32 + g (s + 2) - 96) := rfl
theorem wW_4 {g : Int → Int} {s : Int} : wW g s 4 = ((((0 * 32 + g (s + 0) - 96) * 32 + g (s + 1) - 96) * 32 + g (s + 2) - 96) * 32 + g (s + 3) - 96) := rfl
theorem wW_5 {g : Int → Int} {s : Int} : wW g s 5 = (((((0 * 32 + g (s + 0) - 96) * 32 + g (s + 1) - 96) * 32 + g (s + 2) - 96) * 32 + g (s + 3) - 96) * 32 + g (s + 4) - 96) := rfl
theorem wW_6 {g : Int → Int} {s : Int} : wW g s 6 = ((((((0 * 32 + g (s + 0) - 96) * 32 + g (s + 1) - 96) * 32 + g (s + 2) - 96) * 32 + g (s + 3) - 96) * 32 + g (s + 4) - 96) * 32 + g (s + 5) - 96) := rfl
theorem wW_7 {g : Int → Int} {s : Int} : wW g s 7 = (((((((0 * 32 + g (s + 0) - 96) * 32 + g (s + 1) - 96) * 32 + g (s + 2) - 96) * 32 + g (s + 3) - 96) * 32 + g (s + 4) - 96) * 32 + g (s + 5) - 96) * 32 + g (s + 6) - 96) := rfl
theorem wW_8 {g : Int → Int} {s : Int} {n : Nat} (h : 8 ≤ n) : wW g s n = -1 := by
  obtain ⟨k, rfl⟩ : ∃ k, n = k + 1 := ⟨n - 1, by omega⟩
  unfold wW; rw [if_neg (by omega)]
theorem tok_l {g : Int → Int} {len s : Int} (h : soF g len s = 1) : ∀ k : Int, 0 ≤ k → k < tE g len s - s → 97 ≤ g (s + k) ∧ g (s + k) ≤ 122 := fun k k1 k2 => by
  have m := so_1m h
  have e := tE_1 m.1 m.2
  exact isL_iff.mp (adv_all (P := isL g) (len := len) (p := s) (by omega) (by rw [← e]; omega))
theorem word_0 {g : Int → Int} {len s : Int} (hs : 0 ≤ s ∧ s ≤ len) : (soF g len s = 1 ∧ woF g len s = 653969509) ↔ wrdB g len s 0 = true := by
  rw [wrdB_iff]
  have r := tE_rng (g := g) hs
  have hn : sln 0 = 6 := by decide
  have h0 : chr 0 0 = 115 := by decide
  have h1 : chr 0 1 = 111 := by decide
  have h2 : chr 0 2 = 117 := by decide
  have h3 : chr 0 3 = 114 := by decide
  have h4 : chr 0 4 = 99 := by decide
  have h5 : chr 0 5 = 101 := by decide
  unfold wrd
  rw [hn]
  constructor
  · rintro ⟨a, b⟩
    have L := tok_l a
    have m := so_1m a
    have r2 := r.2.2 m.1
    unfold woF at b
    rw [if_neg (by omega), if_pos a] at b
    generalize hN : (tE g len s - s).toNat = N at b
    have c : N = 1 ∨ N = 2 ∨ N = 3 ∨ N = 4 ∨ N = 5 ∨ N = 6 ∨ N = 7 ∨ 8 ≤ N := by omega
    rcases c with rfl | rfl | rfl | rfl | rfl | rfl | rfl | c
    · rw [wW_1] at b
      have l0 := L 0 (by omega) (by omega)
      exfalso; omega
    · rw [wW_2] at b
      have l0 := L 0 (by omega) (by omega)
      have l1 := L 1 (by omega) (by omega)
      exfalso; omega
    · rw [wW_3] at b
      have l0 := L 0 (by omega) (by omega)
      have l1 := L 1 (by omega) (by omega)
      have l2 := L 2 (by omega) (by omega)
      exfalso; omega
    · rw [wW_4] at b
      have l0 := L 0 (by omega) (by omega)
      have l1 := L 1 (by omega) (by omega)
      have l2 := L 2 (by omega) (by omega)
      have l3 := L 3 (by omega) (by omega)
      exfalso; omega
    · rw [wW_5] at b
      have l0 := L 0 (by omega) (by omega)
      have l1 := L 1 (by omega) (by omega)
      have l2 := L 2 (by omega) (by omega)
      have l3 := L 3 (by omega) (by omega)
      have l4 := L 4 (by omega) (by omega)
      exfalso; omega
    · rw [wW_6] at b
      have l0 := L 0 (by omega) (by omega)
      have l1 := L 1 (by omega) (by omega)
      have l2 := L 2 (by omega) (by omega)
      have l3 := L 3 (by omega) (by omega)
      have l4 := L 4 (by omega) (by omega)
      have l5 := L 5 (by omega) (by omega)
      refine ⟨by omega, fun k k1 k2 => ?_⟩
      rcases (show k = 0 ∨ k = 1 ∨ k = 2 ∨ k = 3 ∨ k = 4 ∨ k = 5 by omega) with rfl | rfl | rfl | rfl | rfl | rfl
      · rw [h0]; omega
      · rw [h1]; omega
      · rw [h2]; omega
      · rw [h3]; omega
      · rw [h4]; omega
      · rw [h5]; omega
    · rw [wW_7] at b
      have l0 := L 0 (by omega) (by omega)
      have l1 := L 1 (by omega) (by omega)
      have l2 := L 2 (by omega) (by omega)
      have l3 := L 3 (by omega) (by omega)
      have l4 := L 4 (by omega) (by omega)
      have l5 := L 5 (by omega) (by omega)
      have l6 := L 6 (by omega) (by omega)
      exfalso; omega
    · rw [wW_8 c] at b; exact absurd b (by decide)
  · rintro ⟨a, b⟩
    have l0 := b 0 (by omega) (by omega)
    rw [h0] at l0
    have l1 := b 1 (by omega) (by omega)
    rw [h1] at l1
    have l2 := b 2 (by omega) (by omega)
    rw [h2] at l2
    have l3 := b 3 (by omega) (by omega)
    rw [h3] at l3
    have l4 := b 4 (by omega) (by omega)
    rw [h4] at l4
    have l5 := b 5 (by omega) (by omega)
    rw [h5] at l5
    rw [show s + 0 = s by omega] at l0
    have hl : s < len := by
      apply Decidable.byContradiction
      intro q
      have e := tE_0 (g := g) (len := len) (s := s) (by omega)
      omega
    have a1 := so_1 (g := g) hl (isL_iff.mpr (by rw [l0]; omega))
    refine ⟨a1, ?_⟩
    unfold woF
    rw [if_neg (by omega), if_pos a1, show (tE g len s - s).toNat = 6 by omega, wW_6, show s + 0 = s by omega, l0, l1, l2, l3, l4, l5]
    decide
theorem word_1 {g : Int → Int} {len s : Int} (hs : 0 ≤ s ∧ s ≤ len) : (soF g len s = 1 ∧ woF g len s = 24385093) ↔ wrdB g len s 1 = true := by
  rw [wrdB_iff]
  have r := tE_rng (g := g) hs
  have hn : sln 1 = 5 := by decide
  have h0 : chr 1 0 = 119 := by decide
  have h1 : chr 1 1 = 104 := by decide
  have h2 : chr 1 2 = 101 := by decide
  have h3 : chr 1 3 = 114 := by decide
  have h4 : chr 1 4 = 101 := by decide
  unfold wrd
  rw [hn]
  constructor
  · rintro ⟨a, b⟩
    have L := tok_l a
    have m := so_1m a
    have r2 := r.2.2 m.1
    unfold woF at b
    rw [if_neg (by omega), if_pos a] at b
    generalize hN : (tE g len s - s).toNat = N at b
    have c : N = 1 ∨ N = 2 ∨ N = 3 ∨ N = 4 ∨ N = 5 ∨ N = 6 ∨ N = 7 ∨ 8 ≤ N := by omega
    rcases c with rfl | rfl | rfl | rfl | rfl | rfl | rfl | c
    · rw [wW_1] at b
      have l0 := L 0 (by omega) (by omega)
      exfalso; omega
    · rw [wW_2] at b
      have l0 := L 0 (by omega) (by omega)
      have l1 := L 1 (by omega) (by omega)
      exfalso; omega
    · rw [wW_3] at b
      have l0 := L 0 (by omega) (by omega)
      have l1 := L 1 (by omega) (by omega)
      have l2 := L 2 (by omega) (by omega)
      exfalso; omega
    · rw [wW_4] at b
      have l0 := L 0 (by omega) (by omega)
      have l1 := L 1 (by omega) (by omega)
      have l2 := L 2 (by omega) (by omega)
      have l3 := L 3 (by omega) (by omega)
      exfalso; omega
    · rw [wW_5] at b
      have l0 := L 0 (by omega) (by omega)
      have l1 := L 1 (by omega) (by omega)
      have l2 := L 2 (by omega) (by omega)
      have l3 := L 3 (by omega) (by omega)
      have l4 := L 4 (by omega) (by omega)
      refine ⟨by omega, fun k k1 k2 => ?_⟩
      rcases (show k = 0 ∨ k = 1 ∨ k = 2 ∨ k = 3 ∨ k = 4 by omega) with rfl | rfl | rfl | rfl | rfl
      · rw [h0]; omega
      · rw [h1]; omega
      · rw [h2]; omega
      · rw [h3]; omega
      · rw [h4]; omega
    · rw [wW_6] at b
      have l0 := L 0 (by omega) (by omega)
      have l1 := L 1 (by omega) (by omega)
      have l2 := L 2 (by omega) (by omega)
      have l3 := L 3 (by omega) (by omega)
      have l4 := L 4 (by omega) (by omega)
      have l5 := L 5 (by omega) (by omega)
      exfalso; omega
    · rw [wW_7] at b
      have l0 := L 0 (by omega) (by omega)
      have l1 := L 1 (by omega) (by omega)
      have l2 := L 2 (by omega) (by omega)
      have l3 := L 3 (by omega) (by omega)
      have l4 := L 4 (by omega) (by omega)
      have l5 := L 5 (by omega) (by omega)
      have l6 := L 6 (by omega) (by omega)
      exfalso; omega
    · rw [wW_8 c] at b; exact absurd b (by decide)
  · rintro ⟨a, b⟩
    have l0 := b 0 (by omega) (by omega)
    rw [h0] at l0
    have l1 := b 1 (by omega) (by omega)
    rw [h1] at l1
    have l2 := b 2 (by omega) (by omega)
    rw [h2] at l2
    have l3 := b 3 (by omega) (by omega)
    rw [h3] at l3
    have l4 := b 4 (by omega) (by omega)
    rw [h4] at l4
    rw [show s + 0 = s by omega] at l0
    have hl : s < len := by
      apply Decidable.byContradiction
      intro q
      have e := tE_0 (g := g) (len := len) (s := s) (by omega)
      omega
    have a1 := so_1 (g := g) hl (isL_iff.mpr (by rw [l0]; omega))
    refine ⟨a1, ?_⟩
    unfold woF
    rw [if_neg (by omega), if_pos a1, show (tE g len s - s).toNat = 5 by omega, wW_5, show s + 0 = s by omega, l0, l1, l2, l3, l4]
    decide
theorem word_2 {g : Int → Int} {len s : Int} (hs : 0 ≤ s ∧ s ≤ len) : (soF g len s = 1 ∧ woF g len s = 537267) ↔ wrdB g len s 2 = true := by
  rw [wrdB_iff]
  have r := tE_rng (g := g) hs
  have hn : sln 2 = 4 := by decide
  have h0 : chr 2 0 = 112 := by decide
  have h1 : chr 2 1 = 108 := by decide
  have h2 : chr 2 2 = 117 := by decide
  have h3 : chr 2 3 = 115 := by decide
  unfold wrd
  rw [hn]
  constructor
  · rintro ⟨a, b⟩
    have L := tok_l a
    have m := so_1m a
    have r2 := r.2.2 m.1
    unfold woF at b
    rw [if_neg (by omega), if_pos a] at b
    generalize hN : (tE g len s - s).toNat = N at b
    have c : N = 1 ∨ N = 2 ∨ N = 3 ∨ N = 4 ∨ N = 5 ∨ N = 6 ∨ N = 7 ∨ 8 ≤ N := by omega
    rcases c with rfl | rfl | rfl | rfl | rfl | rfl | rfl | c
    · rw [wW_1] at b
      have l0 := L 0 (by omega) (by omega)
      exfalso; omega
    · rw [wW_2] at b
      have l0 := L 0 (by omega) (by omega)
      have l1 := L 1 (by omega) (by omega)
      exfalso; omega
    · rw [wW_3] at b
      have l0 := L 0 (by omega) (by omega)
      have l1 := L 1 (by omega) (by omega)
      have l2 := L 2 (by omega) (by omega)
      exfalso; omega
    · rw [wW_4] at b
      have l0 := L 0 (by omega) (by omega)
      have l1 := L 1 (by omega) (by omega)
      have l2 := L 2 (by omega) (by omega)
      have l3 := L 3 (by omega) (by omega)
      refine ⟨by omega, fun k k1 k2 => ?_⟩
      rcases (show k = 0 ∨ k = 1 ∨ k = 2 ∨ k = 3 by omega) with rfl | rfl | rfl | rfl
      · rw [h0]; omega
      · rw [h1]; omega
      · rw [h2]; omega
      · rw [h3]; omega
    · rw [wW_5] at b
      have l0 := L 0 (by omega) (by omega)
      have l1 := L 1 (by omega) (by omega)
      have l2 := L 2 (by omega) (by omega)
      have l3 := L 3 (by omega) (by omega)
      have l4 := L 4 (by omega) (by omega)
      exfalso; omega
    · rw [wW_6] at b
      have l0 := L 0 (by omega) (by omega)
      have l1 := L 1 (by omega) (by omega)
      have l2 := L 2 (by omega) (by omega)
      have l3 := L 3 (by omega) (by omega)
      have l4 := L 4 (by omega) (by omega)
      have l5 := L 5 (by omega) (by omega)
      exfalso; omega
    · rw [wW_7] at b
      have l0 := L 0 (by omega) (by omega)
      have l1 := L 1 (by omega) (by omega)
      have l2 := L 2 (by omega) (by omega)
      have l3 := L 3 (by omega) (by omega)
      have l4 := L 4 (by omega) (by omega)
      have l5 := L 5 (by omega) (by omega)
      have l6 := L 6 (by omega) (by omega)
      exfalso; omega
    · rw [wW_8 c] at b; exact absurd b (by decide)
  · rintro ⟨a, b⟩
    have l0 := b 0 (by omega) (by omega)
    rw [h0] at l0
    have l1 := b 1 (by omega) (by omega)
    rw [h1] at l1
    have l2 := b 2 (by omega) (by omega)
    rw [h2] at l2
    have l3 := b 3 (by omega) (by omega)
    rw [h3] at l3
    rw [show s + 0 = s by omega] at l0
    have hl : s < len := by
      apply Decidable.byContradiction
      intro q
      have e := tE_0 (g := g) (len := len) (s := s) (by omega)
      omega
    have a1 := so_1 (g := g) hl (isL_iff.mpr (by rw [l0]; omega))
    refine ⟨a1, ?_⟩
    unfold woF
    rw [if_neg (by omega), if_pos a1, show (tE g len s - s).toNat = 4 by omega, wW_4, show s + 0 = s by omega, l0, l1, l2, l3]
    decide
theorem word_3 {g : Int → Int} {len s : Int} (hs : 0 ≤ s ∧ s ≤ len) : (soF g len s = 1 ∧ woF g len s = 21279923) ↔ wrdB g len s 3 = true := by
  rw [wrdB_iff]
  have r := tE_rng (g := g) hs
  have hn : sln 3 = 5 := by decide
  have h0 : chr 3 0 = 116 := by decide
  have h1 : chr 3 1 = 105 := by decide
  have h2 : chr 3 2 = 109 := by decide
  have h3 : chr 3 3 = 101 := by decide
  have h4 : chr 3 4 = 115 := by decide
  unfold wrd
  rw [hn]
  constructor
  · rintro ⟨a, b⟩
    have L := tok_l a
    have m := so_1m a
    have r2 := r.2.2 m.1
    unfold woF at b
    rw [if_neg (by omega), if_pos a] at b
    generalize hN : (tE g len s - s).toNat = N at b
    have c : N = 1 ∨ N = 2 ∨ N = 3 ∨ N = 4 ∨ N = 5 ∨ N = 6 ∨ N = 7 ∨ 8 ≤ N := by omega
    rcases c with rfl | rfl | rfl | rfl | rfl | rfl | rfl | c
    · rw [wW_1] at b
      have l0 := L 0 (by omega) (by omega)
      exfalso; omega
    · rw [wW_2] at b
      have l0 := L 0 (by omega) (by omega)
      have l1 := L 1 (by omega) (by omega)
      exfalso; omega
    · rw [wW_3] at b
      have l0 := L 0 (by omega) (by omega)
      have l1 := L 1 (by omega) (by omega)
      have l2 := L 2 (by omega) (by omega)
      exfalso; omega
    · rw [wW_4] at b
      have l0 := L 0 (by omega) (by omega)
      have l1 := L 1 (by omega) (by omega)
      have l2 := L 2 (by omega) (by omega)
      have l3 := L 3 (by omega) (by omega)
      exfalso; omega
    · rw [wW_5] at b
      have l0 := L 0 (by omega) (by omega)
      have l1 := L 1 (by omega) (by omega)
      have l2 := L 2 (by omega) (by omega)
      have l3 := L 3 (by omega) (by omega)
      have l4 := L 4 (by omega) (by omega)
      refine ⟨by omega, fun k k1 k2 => ?_⟩
      rcases (show k = 0 ∨ k = 1 ∨ k = 2 ∨ k = 3 ∨ k = 4 by omega) with rfl | rfl | rfl | rfl | rfl
      · rw [h0]; omega
      · rw [h1]; omega
      · rw [h2]; omega
      · rw [h3]; omega
      · rw [h4]; omega
    · rw [wW_6] at b
      have l0 := L 0 (by omega) (by omega)
      have l1 := L 1 (by omega) (by omega)
      have l2 := L 2 (by omega) (by omega)
      have l3 := L 3 (by omega) (by omega)
      have l4 := L 4 (by omega) (by omega)
      have l5 := L 5 (by omega) (by omega)
      exfalso; omega
    · rw [wW_7] at b
      have l0 := L 0 (by omega) (by omega)
      have l1 := L 1 (by omega) (by omega)
      have l2 := L 2 (by omega) (by omega)
      have l3 := L 3 (by omega) (by omega)
      have l4 := L 4 (by omega) (by omega)
      have l5 := L 5 (by omega) (by omega)
      have l6 := L 6 (by omega) (by omega)
      exfalso; omega
    · rw [wW_8 c] at b; exact absurd b (by decide)
  · rintro ⟨a, b⟩
    have l0 := b 0 (by omega) (by omega)
    rw [h0] at l0
    have l1 := b 1 (by omega) (by omega)
    rw [h1] at l1
    have l2 := b 2 (by omega) (by omega)
    rw [h2] at l2
    have l3 := b 3 (by omega) (by omega)
    rw [h3] at l3
    have l4 := b 4 (by omega) (by omega)
    rw [h4] at l4
    rw [show s + 0 = s by omega] at l0
    have hl : s < len := by
      apply Decidable.byContradiction
      intro q
      have e := tE_0 (g := g) (len := len) (s := s) (by omega)
      omega
    have a1 := so_1 (g := g) hl (isL_iff.mpr (by rw [l0]; omega))
    refine ⟨a1, ?_⟩
    unfold woF
    rw [if_neg (by omega), if_pos a1, show (tE g len s - s).toNat = 5 by omega, wW_5, show s + 0 = s by omega, l0, l1, l2, l3, l4]
    decide
theorem word_4 {g : Int → Int} {len s : Int} (hs : 0 ≤ s ∧ s ≤ len) : (soF g len s = 1 ∧ woF g len s = 19049657) ↔ wrdB g len s 4 = true := by
  rw [wrdB_iff]
  have r := tE_rng (g := g) hs
  have hn : sln 4 = 5 := by decide
  have h0 : chr 4 0 = 114 := by decide
  have h1 : chr 4 1 = 101 := by decide
  have h2 : chr 4 2 = 107 := by decide
  have h3 : chr 4 3 = 101 := by decide
  have h4 : chr 4 4 = 121 := by decide
  unfold wrd
  rw [hn]
  constructor
  · rintro ⟨a, b⟩
    have L := tok_l a
    have m := so_1m a
    have r2 := r.2.2 m.1
    unfold woF at b
    rw [if_neg (by omega), if_pos a] at b
    generalize hN : (tE g len s - s).toNat = N at b
    have c : N = 1 ∨ N = 2 ∨ N = 3 ∨ N = 4 ∨ N = 5 ∨ N = 6 ∨ N = 7 ∨ 8 ≤ N := by omega
    rcases c with rfl | rfl | rfl | rfl | rfl | rfl | rfl | c
    · rw [wW_1] at b
      have l0 := L 0 (by omega) (by omega)
      exfalso; omega
    · rw [wW_2] at b
      have l0 := L 0 (by omega) (by omega)
      have l1 := L 1 (by omega) (by omega)
      exfalso; omega
    · rw [wW_3] at b
      have l0 := L 0 (by omega) (by omega)
      have l1 := L 1 (by omega) (by omega)
      have l2 := L 2 (by omega) (by omega)
      exfalso; omega
    · rw [wW_4] at b
      have l0 := L 0 (by omega) (by omega)
      have l1 := L 1 (by omega) (by omega)
      have l2 := L 2 (by omega) (by omega)
      have l3 := L 3 (by omega) (by omega)
      exfalso; omega
    · rw [wW_5] at b
      have l0 := L 0 (by omega) (by omega)
      have l1 := L 1 (by omega) (by omega)
      have l2 := L 2 (by omega) (by omega)
      have l3 := L 3 (by omega) (by omega)
      have l4 := L 4 (by omega) (by omega)
      refine ⟨by omega, fun k k1 k2 => ?_⟩
      rcases (show k = 0 ∨ k = 1 ∨ k = 2 ∨ k = 3 ∨ k = 4 by omega) with rfl | rfl | rfl | rfl | rfl
      · rw [h0]; omega
      · rw [h1]; omega
      · rw [h2]; omega
      · rw [h3]; omega
      · rw [h4]; omega
    · rw [wW_6] at b
      have l0 := L 0 (by omega) (by omega)
      have l1 := L 1 (by omega) (by omega)
      have l2 := L 2 (by omega) (by omega)
      have l3 := L 3 (by omega) (by omega)
      have l4 := L 4 (by omega) (by omega)
      have l5 := L 5 (by omega) (by omega)
      exfalso; omega
    · rw [wW_7] at b
      have l0 := L 0 (by omega) (by omega)
      have l1 := L 1 (by omega) (by omega)
      have l2 := L 2 (by omega) (by omega)
      have l3 := L 3 (by omega) (by omega)
      have l4 := L 4 (by omega) (by omega)
      have l5 := L 5 (by omega) (by omega)
      have l6 := L 6 (by omega) (by omega)
      exfalso; omega
    · rw [wW_8 c] at b; exact absurd b (by decide)
  · rintro ⟨a, b⟩
    have l0 := b 0 (by omega) (by omega)
    rw [h0] at l0
    have l1 := b 1 (by omega) (by omega)
    rw [h1] at l1
    have l2 := b 2 (by omega) (by omega)
    rw [h2] at l2
    have l3 := b 3 (by omega) (by omega)
    rw [h3] at l3
    have l4 := b 4 (by omega) (by omega)
    rw [h4] at l4
    rw [show s + 0 = s by omega] at l0
    have hl : s < len := by
      apply Decidable.byContradiction
      intro q
      have e := tE_0 (g := g) (len := len) (s := s) (by omega)
      omega
    have a1 := so_1 (g := g) hl (isL_iff.mpr (by rw [l0]; omega))
    refine ⟨a1, ?_⟩
    unfold woF
    rw [if_neg (by omega), if_pos a1, show (tE g len s - s).toNat = 5 by omega, wW_5, show s + 0 = s by omega, l0, l1, l2, l3, l4]
    decide
theorem word_5 {g : Int → Int} {len s : Int} (hs : 0 ≤ s ∧ s ≤ len) : (soF g len s = 1 ∧ woF g len s = 781652471) ↔ wrdB g len s 5 = true := by
  rw [wrdB_iff]
  have r := tE_rng (g := g) hs
  have hn : sln 5 = 6 := by decide
  have h0 : chr 5 0 = 119 := by decide
  have h1 : chr 5 1 = 105 := by decide
  have h2 : chr 5 2 = 110 := by decide
  have h3 : chr 5 3 = 100 := by decide
  have h4 : chr 5 4 = 111 := by decide
  have h5 : chr 5 5 = 119 := by decide
  unfold wrd
  rw [hn]
  constructor
  · rintro ⟨a, b⟩
    have L := tok_l a
    have m := so_1m a
    have r2 := r.2.2 m.1
    unfold woF at b
    rw [if_neg (by omega), if_pos a] at b
    generalize hN : (tE g len s - s).toNat = N at b
    have c : N = 1 ∨ N = 2 ∨ N = 3 ∨ N = 4 ∨ N = 5 ∨ N = 6 ∨ N = 7 ∨ 8 ≤ N := by omega
    rcases c with rfl | rfl | rfl | rfl | rfl | rfl | rfl | c
    · rw [wW_1] at b
      have l0 := L 0 (by omega) (by omega)
      exfalso; omega
    · rw [wW_2] at b
      have l0 := L 0 (by omega) (by omega)
      have l1 := L 1 (by omega) (by omega)
      exfalso; omega
    · rw [wW_3] at b
      have l0 := L 0 (by omega) (by omega)
      have l1 := L 1 (by omega) (by omega)
      have l2 := L 2 (by omega) (by omega)
      exfalso; omega
    · rw [wW_4] at b
      have l0 := L 0 (by omega) (by omega)
      have l1 := L 1 (by omega) (by omega)
      have l2 := L 2 (by omega) (by omega)
      have l3 := L 3 (by omega) (by omega)
      exfalso; omega
    · rw [wW_5] at b
      have l0 := L 0 (by omega) (by omega)
      have l1 := L 1 (by omega) (by omega)
      have l2 := L 2 (by omega) (by omega)
      have l3 := L 3 (by omega) (by omega)
      have l4 := L 4 (by omega) (by omega)
      exfalso; omega
    · rw [wW_6] at b
      have l0 := L 0 (by omega) (by omega)
      have l1 := L 1 (by omega) (by omega)
      have l2 := L 2 (by omega) (by omega)
      have l3 := L 3 (by omega) (by omega)
      have l4 := L 4 (by omega) (by omega)
      have l5 := L 5 (by omega) (by omega)
      refine ⟨by omega, fun k k1 k2 => ?_⟩
      rcases (show k = 0 ∨ k = 1 ∨ k = 2 ∨ k = 3 ∨ k = 4 ∨ k = 5 by omega) with rfl | rfl | rfl | rfl | rfl | rfl
      · rw [h0]; omega
      · rw [h1]; omega
      · rw [h2]; omega
      · rw [h3]; omega
      · rw [h4]; omega
      · rw [h5]; omega
    · rw [wW_7] at b
      have l0 := L 0 (by omega) (by omega)
      have l1 := L 1 (by omega) (by omega)
      have l2 := L 2 (by omega) (by omega)
      have l3 := L 3 (by omega) (by omega)
      have l4 := L 4 (by omega) (by omega)
      have l5 := L 5 (by omega) (by omega)
      have l6 := L 6 (by omega) (by omega)
      exfalso; omega
    · rw [wW_8 c] at b; exact absurd b (by decide)
  · rintro ⟨a, b⟩
    have l0 := b 0 (by omega) (by omega)
    rw [h0] at l0
    have l1 := b 1 (by omega) (by omega)
    rw [h1] at l1
    have l2 := b 2 (by omega) (by omega)
    rw [h2] at l2
    have l3 := b 3 (by omega) (by omega)
    rw [h3] at l3
    have l4 := b 4 (by omega) (by omega)
    rw [h4] at l4
    have l5 := b 5 (by omega) (by omega)
    rw [h5] at l5
    rw [show s + 0 = s by omega] at l0
    have hl : s < len := by
      apply Decidable.byContradiction
      intro q
      have e := tE_0 (g := g) (len := len) (s := s) (by omega)
      omega
    have a1 := so_1 (g := g) hl (isL_iff.mpr (by rw [l0]; omega))
    refine ⟨a1, ?_⟩
    unfold woF
    rw [if_neg (by omega), if_pos a1, show (tE g len s - s).toNat = 6 by omega, wW_6, show s + 0 = s by omega, l0, l1, l2, l3, l4, l5]
    decide
theorem word_6 {g : Int → Int} {len s : Int} (hs : 0 ≤ s ∧ s ≤ len) : (soF g len s = 1 ∧ woF g len s = 186546) ↔ wrdB g len s 6 = true := by
  rw [wrdB_iff]
  have r := tE_rng (g := g) hs
  have hn : sln 6 = 4 := by decide
  have h0 : chr 6 0 = 101 := by decide
  have h1 : chr 6 1 = 118 := by decide
  have h2 : chr 6 2 = 101 := by decide
  have h3 : chr 6 3 = 114 := by decide
  unfold wrd
  rw [hn]
  constructor
  · rintro ⟨a, b⟩
    have L := tok_l a
    have m := so_1m a
    have r2 := r.2.2 m.1
    unfold woF at b
    rw [if_neg (by omega), if_pos a] at b
    generalize hN : (tE g len s - s).toNat = N at b
    have c : N = 1 ∨ N = 2 ∨ N = 3 ∨ N = 4 ∨ N = 5 ∨ N = 6 ∨ N = 7 ∨ 8 ≤ N := by omega
    rcases c with rfl | rfl | rfl | rfl | rfl | rfl | rfl | c
    · rw [wW_1] at b
      have l0 := L 0 (by omega) (by omega)
      exfalso; omega
    · rw [wW_2] at b
      have l0 := L 0 (by omega) (by omega)
      have l1 := L 1 (by omega) (by omega)
      exfalso; omega
    · rw [wW_3] at b
      have l0 := L 0 (by omega) (by omega)
      have l1 := L 1 (by omega) (by omega)
      have l2 := L 2 (by omega) (by omega)
      exfalso; omega
    · rw [wW_4] at b
      have l0 := L 0 (by omega) (by omega)
      have l1 := L 1 (by omega) (by omega)
      have l2 := L 2 (by omega) (by omega)
      have l3 := L 3 (by omega) (by omega)
      refine ⟨by omega, fun k k1 k2 => ?_⟩
      rcases (show k = 0 ∨ k = 1 ∨ k = 2 ∨ k = 3 by omega) with rfl | rfl | rfl | rfl
      · rw [h0]; omega
      · rw [h1]; omega
      · rw [h2]; omega
      · rw [h3]; omega
    · rw [wW_5] at b
      have l0 := L 0 (by omega) (by omega)
      have l1 := L 1 (by omega) (by omega)
      have l2 := L 2 (by omega) (by omega)
      have l3 := L 3 (by omega) (by omega)
      have l4 := L 4 (by omega) (by omega)
      exfalso; omega
    · rw [wW_6] at b
      have l0 := L 0 (by omega) (by omega)
      have l1 := L 1 (by omega) (by omega)
      have l2 := L 2 (by omega) (by omega)
      have l3 := L 3 (by omega) (by omega)
      have l4 := L 4 (by omega) (by omega)
      have l5 := L 5 (by omega) (by omega)
      exfalso; omega
    · rw [wW_7] at b
      have l0 := L 0 (by omega) (by omega)
      have l1 := L 1 (by omega) (by omega)
      have l2 := L 2 (by omega) (by omega)
      have l3 := L 3 (by omega) (by omega)
      have l4 := L 4 (by omega) (by omega)
      have l5 := L 5 (by omega) (by omega)
      have l6 := L 6 (by omega) (by omega)
      exfalso; omega
    · rw [wW_8 c] at b; exact absurd b (by decide)
  · rintro ⟨a, b⟩
    have l0 := b 0 (by omega) (by omega)
    rw [h0] at l0
    have l1 := b 1 (by omega) (by omega)
    rw [h1] at l1
    have l2 := b 2 (by omega) (by omega)
    rw [h2] at l2
    have l3 := b 3 (by omega) (by omega)
    rw [h3] at l3
    rw [show s + 0 = s by omega] at l0
    have hl : s < len := by
      apply Decidable.byContradiction
      intro q
      have e := tE_0 (g := g) (len := len) (s := s) (by omega)
      omega
    have a1 := so_1 (g := g) hl (isL_iff.mpr (by rw [l0]; omega))
    refine ⟨a1, ?_⟩
    unfold woF
    rw [if_neg (by omega), if_pos a1, show (tE g len s - s).toNat = 4 by omega, wW_4, show s + 0 = s by omega, l0, l1, l2, l3]
    decide
theorem word_7 {g : Int → Int} {len s : Int} (hs : 0 ≤ s ∧ s ≤ len) : (soF g len s = 1 ∧ woF g len s = 20141) ↔ wrdB g len s 7 = true := by
  rw [wrdB_iff]
  have r := tE_rng (g := g) hs
  have hn : sln 7 = 3 := by decide
  have h0 : chr 7 0 = 115 := by decide
  have h1 : chr 7 1 = 117 := by decide
  have h2 : chr 7 2 = 109 := by decide
  unfold wrd
  rw [hn]
  constructor
  · rintro ⟨a, b⟩
    have L := tok_l a
    have m := so_1m a
    have r2 := r.2.2 m.1
    unfold woF at b
    rw [if_neg (by omega), if_pos a] at b
    generalize hN : (tE g len s - s).toNat = N at b
    have c : N = 1 ∨ N = 2 ∨ N = 3 ∨ N = 4 ∨ N = 5 ∨ N = 6 ∨ N = 7 ∨ 8 ≤ N := by omega
    rcases c with rfl | rfl | rfl | rfl | rfl | rfl | rfl | c
    · rw [wW_1] at b
      have l0 := L 0 (by omega) (by omega)
      exfalso; omega
    · rw [wW_2] at b
      have l0 := L 0 (by omega) (by omega)
      have l1 := L 1 (by omega) (by omega)
      exfalso; omega
    · rw [wW_3] at b
      have l0 := L 0 (by omega) (by omega)
      have l1 := L 1 (by omega) (by omega)
      have l2 := L 2 (by omega) (by omega)
      refine ⟨by omega, fun k k1 k2 => ?_⟩
      rcases (show k = 0 ∨ k = 1 ∨ k = 2 by omega) with rfl | rfl | rfl
      · rw [h0]; omega
      · rw [h1]; omega
      · rw [h2]; omega
    · rw [wW_4] at b
      have l0 := L 0 (by omega) (by omega)
      have l1 := L 1 (by omega) (by omega)
      have l2 := L 2 (by omega) (by omega)
      have l3 := L 3 (by omega) (by omega)
      exfalso; omega
    · rw [wW_5] at b
      have l0 := L 0 (by omega) (by omega)
      have l1 := L 1 (by omega) (by omega)
      have l2 := L 2 (by omega) (by omega)
      have l3 := L 3 (by omega) (by omega)
      have l4 := L 4 (by omega) (by omega)
      exfalso; omega
    · rw [wW_6] at b
      have l0 := L 0 (by omega) (by omega)
      have l1 := L 1 (by omega) (by omega)
      have l2 := L 2 (by omega) (by omega)
      have l3 := L 3 (by omega) (by omega)
      have l4 := L 4 (by omega) (by omega)
      have l5 := L 5 (by omega) (by omega)
      exfalso; omega
    · rw [wW_7] at b
      have l0 := L 0 (by omega) (by omega)
      have l1 := L 1 (by omega) (by omega)
      have l2 := L 2 (by omega) (by omega)
      have l3 := L 3 (by omega) (by omega)
      have l4 := L 4 (by omega) (by omega)
      have l5 := L 5 (by omega) (by omega)
      have l6 := L 6 (by omega) (by omega)
      exfalso; omega
    · rw [wW_8 c] at b; exact absurd b (by decide)
  · rintro ⟨a, b⟩
    have l0 := b 0 (by omega) (by omega)
    rw [h0] at l0
    have l1 := b 1 (by omega) (by omega)
    rw [h1] at l1
    have l2 := b 2 (by omega) (by omega)
    rw [h2] at l2
    rw [show s + 0 = s by omega] at l0
    have hl : s < len := by
      apply Decidable.byContradiction
      intro q
      have e := tE_0 (g := g) (len := len) (s := s) (by omega)
      omega
    have a1 := so_1 (g := g) hl (isL_iff.mpr (by rw [l0]; omega))
    refine ⟨a1, ?_⟩
    unfold woF
    rw [if_neg (by omega), if_pos a1, show (tE g len s - s).toNat = 3 by omega, wW_3, show s + 0 = s by omega, l0, l1, l2]
    decide
theorem word_8 {g : Int → Int} {len s : Int} (hs : 0 ≤ s ∧ s ≤ len) : (soF g len s = 1 ∧ woF g len s = 3659220) ↔ wrdB g len s 8 = true := by
  rw [wrdB_iff]
  have r := tE_rng (g := g) hs
  have hn : sln 8 = 5 := by decide
  have h0 : chr 8 0 = 99 := by decide
  have h1 : chr 8 1 = 111 := by decide
  have h2 : chr 8 2 = 117 := by decide
  have h3 : chr 8 3 = 110 := by decide
  have h4 : chr 8 4 = 116 := by decide
  unfold wrd
  rw [hn]
  constructor
  · rintro ⟨a, b⟩
    have L := tok_l a
    have m := so_1m a
    have r2 := r.2.2 m.1
    unfold woF at b
    rw [if_neg (by omega), if_pos a] at b
    generalize hN : (tE g len s - s).toNat = N at b
    have c : N = 1 ∨ N = 2 ∨ N = 3 ∨ N = 4 ∨ N = 5 ∨ N = 6 ∨ N = 7 ∨ 8 ≤ N := by omega
    rcases c with rfl | rfl | rfl | rfl | rfl | rfl | rfl | c
    · rw [wW_1] at b
      have l0 := L 0 (by omega) (by omega)
      exfalso; omega
    · rw [wW_2] at b
      have l0 := L 0 (by omega) (by omega)
      have l1 := L 1 (by omega) (by omega)
      exfalso; omega
    · rw [wW_3] at b
      have l0 := L 0 (by omega) (by omega)
      have l1 := L 1 (by omega) (by omega)
      have l2 := L 2 (by omega) (by omega)
      exfalso; omega
    · rw [wW_4] at b
      have l0 := L 0 (by omega) (by omega)
      have l1 := L 1 (by omega) (by omega)
      have l2 := L 2 (by omega) (by omega)
      have l3 := L 3 (by omega) (by omega)
      exfalso; omega
    · rw [wW_5] at b
      have l0 := L 0 (by omega) (by omega)
      have l1 := L 1 (by omega) (by omega)
      have l2 := L 2 (by omega) (by omega)
      have l3 := L 3 (by omega) (by omega)
      have l4 := L 4 (by omega) (by omega)
      refine ⟨by omega, fun k k1 k2 => ?_⟩
      rcases (show k = 0 ∨ k = 1 ∨ k = 2 ∨ k = 3 ∨ k = 4 by omega) with rfl | rfl | rfl | rfl | rfl
      · rw [h0]; omega
      · rw [h1]; omega
      · rw [h2]; omega
      · rw [h3]; omega
      · rw [h4]; omega
    · rw [wW_6] at b
      have l0 := L 0 (by omega) (by omega)
      have l1 := L 1 (by omega) (by omega)
      have l2 := L 2 (by omega) (by omega)
      have l3 := L 3 (by omega) (by omega)
      have l4 := L 4 (by omega) (by omega)
      have l5 := L 5 (by omega) (by omega)
      exfalso; omega
    · rw [wW_7] at b
      have l0 := L 0 (by omega) (by omega)
      have l1 := L 1 (by omega) (by omega)
      have l2 := L 2 (by omega) (by omega)
      have l3 := L 3 (by omega) (by omega)
      have l4 := L 4 (by omega) (by omega)
      have l5 := L 5 (by omega) (by omega)
      have l6 := L 6 (by omega) (by omega)
      exfalso; omega
    · rw [wW_8 c] at b; exact absurd b (by decide)
  · rintro ⟨a, b⟩
    have l0 := b 0 (by omega) (by omega)
    rw [h0] at l0
    have l1 := b 1 (by omega) (by omega)
    rw [h1] at l1
    have l2 := b 2 (by omega) (by omega)
    rw [h2] at l2
    have l3 := b 3 (by omega) (by omega)
    rw [h3] at l3
    have l4 := b 4 (by omega) (by omega)
    rw [h4] at l4
    rw [show s + 0 = s by omega] at l0
    have hl : s < len := by
      apply Decidable.byContradiction
      intro q
      have e := tE_0 (g := g) (len := len) (s := s) (by omega)
      omega
    have a1 := so_1 (g := g) hl (isL_iff.mpr (by rw [l0]; omega))
    refine ⟨a1, ?_⟩
    unfold woF
    rw [if_neg (by omega), if_pos a1, show (tE g len s - s).toNat = 5 by omega, wW_5, show s + 0 = s by omega, l0, l1, l2, l3, l4]
    decide
theorem word_9 {g : Int → Int} {len s : Int} (hs : 0 ≤ s ∧ s ≤ len) : (soF g len s = 1 ∧ woF g len s = 13368) ↔ wrdB g len s 9 = true := by
  rw [wrdB_iff]
  have r := tE_rng (g := g) hs
  have hn : sln 9 = 3 := by decide
  have h0 : chr 9 0 = 109 := by decide
  have h1 : chr 9 1 = 97 := by decide
  have h2 : chr 9 2 = 120 := by decide
  unfold wrd
  rw [hn]
  constructor
  · rintro ⟨a, b⟩
    have L := tok_l a
    have m := so_1m a
    have r2 := r.2.2 m.1
    unfold woF at b
    rw [if_neg (by omega), if_pos a] at b
    generalize hN : (tE g len s - s).toNat = N at b
    have c : N = 1 ∨ N = 2 ∨ N = 3 ∨ N = 4 ∨ N = 5 ∨ N = 6 ∨ N = 7 ∨ 8 ≤ N := by omega
    rcases c with rfl | rfl | rfl | rfl | rfl | rfl | rfl | c
    · rw [wW_1] at b
      have l0 := L 0 (by omega) (by omega)
      exfalso; omega
    · rw [wW_2] at b
      have l0 := L 0 (by omega) (by omega)
      have l1 := L 1 (by omega) (by omega)
      exfalso; omega
    · rw [wW_3] at b
      have l0 := L 0 (by omega) (by omega)
      have l1 := L 1 (by omega) (by omega)
      have l2 := L 2 (by omega) (by omega)
      refine ⟨by omega, fun k k1 k2 => ?_⟩
      rcases (show k = 0 ∨ k = 1 ∨ k = 2 by omega) with rfl | rfl | rfl
      · rw [h0]; omega
      · rw [h1]; omega
      · rw [h2]; omega
    · rw [wW_4] at b
      have l0 := L 0 (by omega) (by omega)
      have l1 := L 1 (by omega) (by omega)
      have l2 := L 2 (by omega) (by omega)
      have l3 := L 3 (by omega) (by omega)
      exfalso; omega
    · rw [wW_5] at b
      have l0 := L 0 (by omega) (by omega)
      have l1 := L 1 (by omega) (by omega)
      have l2 := L 2 (by omega) (by omega)
      have l3 := L 3 (by omega) (by omega)
      have l4 := L 4 (by omega) (by omega)
      exfalso; omega
    · rw [wW_6] at b
      have l0 := L 0 (by omega) (by omega)
      have l1 := L 1 (by omega) (by omega)
      have l2 := L 2 (by omega) (by omega)
      have l3 := L 3 (by omega) (by omega)
      have l4 := L 4 (by omega) (by omega)
      have l5 := L 5 (by omega) (by omega)
      exfalso; omega
    · rw [wW_7] at b
      have l0 := L 0 (by omega) (by omega)
      have l1 := L 1 (by omega) (by omega)
      have l2 := L 2 (by omega) (by omega)
      have l3 := L 3 (by omega) (by omega)
      have l4 := L 4 (by omega) (by omega)
      have l5 := L 5 (by omega) (by omega)
      have l6 := L 6 (by omega) (by omega)
      exfalso; omega
    · rw [wW_8 c] at b; exact absurd b (by decide)
  · rintro ⟨a, b⟩
    have l0 := b 0 (by omega) (by omega)
    rw [h0] at l0
    have l1 := b 1 (by omega) (by omega)
    rw [h1] at l1
    have l2 := b 2 (by omega) (by omega)
    rw [h2] at l2
    rw [show s + 0 = s by omega] at l0
    have hl : s < len := by
      apply Decidable.byContradiction
      intro q
      have e := tE_0 (g := g) (len := len) (s := s) (by omega)
      omega
    have a1 := so_1 (g := g) hl (isL_iff.mpr (by rw [l0]; omega))
    refine ⟨a1, ?_⟩
    unfold woF
    rw [if_neg (by omega), if_pos a1, show (tE g len s - s).toNat = 3 by omega, wW_3, show s + 0 = s by omega, l0, l1, l2]
    decide
theorem word_10 {g : Int → Int} {len s : Int} (hs : 0 ≤ s ∧ s ≤ len) : (soF g len s = 1 ∧ woF g len s = 394868) ↔ wrdB g len s 10 = true := by
  rw [wrdB_iff]
  have r := tE_rng (g := g) hs
  have hn : sln 10 = 4 := by decide
  have h0 : chr 10 0 = 108 := by decide
  have h1 : chr 10 1 = 97 := by decide
  have h2 : chr 10 2 = 115 := by decide
  have h3 : chr 10 3 = 116 := by decide
  unfold wrd
  rw [hn]
  constructor
  · rintro ⟨a, b⟩
    have L := tok_l a
    have m := so_1m a
    have r2 := r.2.2 m.1
    unfold woF at b
    rw [if_neg (by omega), if_pos a] at b
    generalize hN : (tE g len s - s).toNat = N at b
    have c : N = 1 ∨ N = 2 ∨ N = 3 ∨ N = 4 ∨ N = 5 ∨ N = 6 ∨ N = 7 ∨ 8 ≤ N := by omega
    rcases c with rfl | rfl | rfl | rfl | rfl | rfl | rfl | c
    · rw [wW_1] at b
      have l0 := L 0 (by omega) (by omega)
      exfalso; omega
    · rw [wW_2] at b
      have l0 := L 0 (by omega) (by omega)
      have l1 := L 1 (by omega) (by omega)
      exfalso; omega
    · rw [wW_3] at b
      have l0 := L 0 (by omega) (by omega)
      have l1 := L 1 (by omega) (by omega)
      have l2 := L 2 (by omega) (by omega)
      exfalso; omega
    · rw [wW_4] at b
      have l0 := L 0 (by omega) (by omega)
      have l1 := L 1 (by omega) (by omega)
      have l2 := L 2 (by omega) (by omega)
      have l3 := L 3 (by omega) (by omega)
      refine ⟨by omega, fun k k1 k2 => ?_⟩
      rcases (show k = 0 ∨ k = 1 ∨ k = 2 ∨ k = 3 by omega) with rfl | rfl | rfl | rfl
      · rw [h0]; omega
      · rw [h1]; omega
      · rw [h2]; omega
      · rw [h3]; omega
    · rw [wW_5] at b
      have l0 := L 0 (by omega) (by omega)
      have l1 := L 1 (by omega) (by omega)
      have l2 := L 2 (by omega) (by omega)
      have l3 := L 3 (by omega) (by omega)
      have l4 := L 4 (by omega) (by omega)
      exfalso; omega
    · rw [wW_6] at b
      have l0 := L 0 (by omega) (by omega)
      have l1 := L 1 (by omega) (by omega)
      have l2 := L 2 (by omega) (by omega)
      have l3 := L 3 (by omega) (by omega)
      have l4 := L 4 (by omega) (by omega)
      have l5 := L 5 (by omega) (by omega)
      exfalso; omega
    · rw [wW_7] at b
      have l0 := L 0 (by omega) (by omega)
      have l1 := L 1 (by omega) (by omega)
      have l2 := L 2 (by omega) (by omega)
      have l3 := L 3 (by omega) (by omega)
      have l4 := L 4 (by omega) (by omega)
      have l5 := L 5 (by omega) (by omega)
      have l6 := L 6 (by omega) (by omega)
      exfalso; omega
    · rw [wW_8 c] at b; exact absurd b (by decide)
  · rintro ⟨a, b⟩
    have l0 := b 0 (by omega) (by omega)
    rw [h0] at l0
    have l1 := b 1 (by omega) (by omega)
    rw [h1] at l1
    have l2 := b 2 (by omega) (by omega)
    rw [h2] at l2
    have l3 := b 3 (by omega) (by omega)
    rw [h3] at l3
    rw [show s + 0 = s by omega] at l0
    have hl : s < len := by
      apply Decidable.byContradiction
      intro q
      have e := tE_0 (g := g) (len := len) (s := s) (by omega)
      omega
    have a1 := so_1 (g := g) hl (isL_iff.mpr (by rw [l0]; omega))
    refine ⟨a1, ?_⟩
    unfold woF
    rw [if_neg (by omega), if_pos a1, show (tE g len s - s).toNat = 4 by omega, wW_4, show s + 0 = s by omega, l0, l1, l2, l3]
    decide
theorem word_11 {g : Int → Int} {len s : Int} (hs : 0 ≤ s ∧ s ≤ len) : (soF g len s = 1 ∧ woF g len s = 343342) ↔ wrdB g len s 11 = true := by
  rw [wrdB_iff]
  have r := tE_rng (g := g) hs
  have hn : sln 11 = 4 := by decide
  have h0 : chr 11 0 = 106 := by decide
  have h1 : chr 11 1 = 111 := by decide
  have h2 : chr 11 2 = 105 := by decide
  have h3 : chr 11 3 = 110 := by decide
  unfold wrd
  rw [hn]
  constructor
  · rintro ⟨a, b⟩
    have L := tok_l a
    have m := so_1m a
    have r2 := r.2.2 m.1
    unfold woF at b
    rw [if_neg (by omega), if_pos a] at b
    generalize hN : (tE g len s - s).toNat = N at b
    have c : N = 1 ∨ N = 2 ∨ N = 3 ∨ N = 4 ∨ N = 5 ∨ N = 6 ∨ N = 7 ∨ 8 ≤ N := by omega
    rcases c with rfl | rfl | rfl | rfl | rfl | rfl | rfl | c
    · rw [wW_1] at b
      have l0 := L 0 (by omega) (by omega)
      exfalso; omega
    · rw [wW_2] at b
      have l0 := L 0 (by omega) (by omega)
      have l1 := L 1 (by omega) (by omega)
      exfalso; omega
    · rw [wW_3] at b
      have l0 := L 0 (by omega) (by omega)
      have l1 := L 1 (by omega) (by omega)
      have l2 := L 2 (by omega) (by omega)
      exfalso; omega
    · rw [wW_4] at b
      have l0 := L 0 (by omega) (by omega)
      have l1 := L 1 (by omega) (by omega)
      have l2 := L 2 (by omega) (by omega)
      have l3 := L 3 (by omega) (by omega)
      refine ⟨by omega, fun k k1 k2 => ?_⟩
      rcases (show k = 0 ∨ k = 1 ∨ k = 2 ∨ k = 3 by omega) with rfl | rfl | rfl | rfl
      · rw [h0]; omega
      · rw [h1]; omega
      · rw [h2]; omega
      · rw [h3]; omega
    · rw [wW_5] at b
      have l0 := L 0 (by omega) (by omega)
      have l1 := L 1 (by omega) (by omega)
      have l2 := L 2 (by omega) (by omega)
      have l3 := L 3 (by omega) (by omega)
      have l4 := L 4 (by omega) (by omega)
      exfalso; omega
    · rw [wW_6] at b
      have l0 := L 0 (by omega) (by omega)
      have l1 := L 1 (by omega) (by omega)
      have l2 := L 2 (by omega) (by omega)
      have l3 := L 3 (by omega) (by omega)
      have l4 := L 4 (by omega) (by omega)
      have l5 := L 5 (by omega) (by omega)
      exfalso; omega
    · rw [wW_7] at b
      have l0 := L 0 (by omega) (by omega)
      have l1 := L 1 (by omega) (by omega)
      have l2 := L 2 (by omega) (by omega)
      have l3 := L 3 (by omega) (by omega)
      have l4 := L 4 (by omega) (by omega)
      have l5 := L 5 (by omega) (by omega)
      have l6 := L 6 (by omega) (by omega)
      exfalso; omega
    · rw [wW_8 c] at b; exact absurd b (by decide)
  · rintro ⟨a, b⟩
    have l0 := b 0 (by omega) (by omega)
    rw [h0] at l0
    have l1 := b 1 (by omega) (by omega)
    rw [h1] at l1
    have l2 := b 2 (by omega) (by omega)
    rw [h2] at l2
    have l3 := b 3 (by omega) (by omega)
    rw [h3] at l3
    rw [show s + 0 = s by omega] at l0
    have hl : s < len := by
      apply Decidable.byContradiction
      intro q
      have e := tE_0 (g := g) (len := len) (s := s) (by omega)
      omega
    have a1 := so_1 (g := g) hl (isL_iff.mpr (by rw [l0]; omega))
    refine ⟨a1, ?_⟩
    unfold woF
    rw [if_neg (by omega), if_pos a1, show (tE g len s - s).toNat = 4 by omega, wW_4, show s + 0 = s by omega, l0, l1, l2, l3]
    decide
theorem word_12 {g : Int → Int} {len s : Int} (hs : 0 ≤ s ∧ s ≤ len) : (soF g len s = 1 ∧ woF g len s = 398963) ↔ wrdB g len s 12 = true := by
  rw [wrdB_iff]
  have r := tE_rng (g := g) hs
  have hn : sln 12 = 4 := by decide
  have h0 : chr 12 0 = 108 := by decide
  have h1 : chr 12 1 = 101 := by decide
  have h2 : chr 12 2 = 115 := by decide
  have h3 : chr 12 3 = 115 := by decide
  unfold wrd
  rw [hn]
  constructor
  · rintro ⟨a, b⟩
    have L := tok_l a
    have m := so_1m a
    have r2 := r.2.2 m.1
    unfold woF at b
    rw [if_neg (by omega), if_pos a] at b
    generalize hN : (tE g len s - s).toNat = N at b
    have c : N = 1 ∨ N = 2 ∨ N = 3 ∨ N = 4 ∨ N = 5 ∨ N = 6 ∨ N = 7 ∨ 8 ≤ N := by omega
    rcases c with rfl | rfl | rfl | rfl | rfl | rfl | rfl | c
    · rw [wW_1] at b
      have l0 := L 0 (by omega) (by omega)
      exfalso; omega
    · rw [wW_2] at b
      have l0 := L 0 (by omega) (by omega)
      have l1 := L 1 (by omega) (by omega)
      exfalso; omega
    · rw [wW_3] at b
      have l0 := L 0 (by omega) (by omega)
      have l1 := L 1 (by omega) (by omega)
      have l2 := L 2 (by omega) (by omega)
      exfalso; omega
    · rw [wW_4] at b
      have l0 := L 0 (by omega) (by omega)
      have l1 := L 1 (by omega) (by omega)
      have l2 := L 2 (by omega) (by omega)
      have l3 := L 3 (by omega) (by omega)
      refine ⟨by omega, fun k k1 k2 => ?_⟩
      rcases (show k = 0 ∨ k = 1 ∨ k = 2 ∨ k = 3 by omega) with rfl | rfl | rfl | rfl
      · rw [h0]; omega
      · rw [h1]; omega
      · rw [h2]; omega
      · rw [h3]; omega
    · rw [wW_5] at b
      have l0 := L 0 (by omega) (by omega)
      have l1 := L 1 (by omega) (by omega)
      have l2 := L 2 (by omega) (by omega)
      have l3 := L 3 (by omega) (by omega)
      have l4 := L 4 (by omega) (by omega)
      exfalso; omega
    · rw [wW_6] at b
      have l0 := L 0 (by omega) (by omega)
      have l1 := L 1 (by omega) (by omega)
      have l2 := L 2 (by omega) (by omega)
      have l3 := L 3 (by omega) (by omega)
      have l4 := L 4 (by omega) (by omega)
      have l5 := L 5 (by omega) (by omega)
      exfalso; omega
    · rw [wW_7] at b
      have l0 := L 0 (by omega) (by omega)
      have l1 := L 1 (by omega) (by omega)
      have l2 := L 2 (by omega) (by omega)
      have l3 := L 3 (by omega) (by omega)
      have l4 := L 4 (by omega) (by omega)
      have l5 := L 5 (by omega) (by omega)
      have l6 := L 6 (by omega) (by omega)
      exfalso; omega
    · rw [wW_8 c] at b; exact absurd b (by decide)
  · rintro ⟨a, b⟩
    have l0 := b 0 (by omega) (by omega)
    rw [h0] at l0
    have l1 := b 1 (by omega) (by omega)
    rw [h1] at l1
    have l2 := b 2 (by omega) (by omega)
    rw [h2] at l2
    have l3 := b 3 (by omega) (by omega)
    rw [h3] at l3
    rw [show s + 0 = s by omega] at l0
    have hl : s < len := by
      apply Decidable.byContradiction
      intro q
      have e := tE_0 (g := g) (len := len) (s := s) (by omega)
      omega
    have a1 := so_1 (g := g) hl (isL_iff.mpr (by rw [l0]; omega))
    refine ⟨a1, ?_⟩
    unfold woF
    rw [if_neg (by omega), if_pos a1, show (tE g len s - s).toNat = 4 by omega, wW_4, show s + 0 = s by omega, l0, l1, l2, l3]
    decide
theorem word_13 {g : Int → Int} {len s : Int} (hs : 0 ≤ s ∧ s ≤ len) : (soF g len s = 1 ∧ woF g len s = 11449) ↔ wrdB g len s 13 = true := by
  rw [wrdB_iff]
  have r := tE_rng (g := g) hs
  have hn : sln 13 = 3 := by decide
  have h0 : chr 13 0 = 107 := by decide
  have h1 : chr 13 1 = 101 := by decide
  have h2 : chr 13 2 = 121 := by decide
  unfold wrd
  rw [hn]
  constructor
  · rintro ⟨a, b⟩
    have L := tok_l a
    have m := so_1m a
    have r2 := r.2.2 m.1
    unfold woF at b
    rw [if_neg (by omega), if_pos a] at b
    generalize hN : (tE g len s - s).toNat = N at b
    have c : N = 1 ∨ N = 2 ∨ N = 3 ∨ N = 4 ∨ N = 5 ∨ N = 6 ∨ N = 7 ∨ 8 ≤ N := by omega
    rcases c with rfl | rfl | rfl | rfl | rfl | rfl | rfl | c
    · rw [wW_1] at b
      have l0 := L 0 (by omega) (by omega)
      exfalso; omega
    · rw [wW_2] at b
      have l0 := L 0 (by omega) (by omega)
      have l1 := L 1 (by omega) (by omega)
      exfalso; omega
    · rw [wW_3] at b
      have l0 := L 0 (by omega) (by omega)
      have l1 := L 1 (by omega) (by omega)
      have l2 := L 2 (by omega) (by omega)
      refine ⟨by omega, fun k k1 k2 => ?_⟩
      rcases (show k = 0 ∨ k = 1 ∨ k = 2 by omega) with rfl | rfl | rfl
      · rw [h0]; omega
      · rw [h1]; omega
      · rw [h2]; omega
    · rw [wW_4] at b
      have l0 := L 0 (by omega) (by omega)
      have l1 := L 1 (by omega) (by omega)
      have l2 := L 2 (by omega) (by omega)
      have l3 := L 3 (by omega) (by omega)
      exfalso; omega
    · rw [wW_5] at b
      have l0 := L 0 (by omega) (by omega)
      have l1 := L 1 (by omega) (by omega)
      have l2 := L 2 (by omega) (by omega)
      have l3 := L 3 (by omega) (by omega)
      have l4 := L 4 (by omega) (by omega)
      exfalso; omega
    · rw [wW_6] at b
      have l0 := L 0 (by omega) (by omega)
      have l1 := L 1 (by omega) (by omega)
      have l2 := L 2 (by omega) (by omega)
      have l3 := L 3 (by omega) (by omega)
      have l4 := L 4 (by omega) (by omega)
      have l5 := L 5 (by omega) (by omega)
      exfalso; omega
    · rw [wW_7] at b
      have l0 := L 0 (by omega) (by omega)
      have l1 := L 1 (by omega) (by omega)
      have l2 := L 2 (by omega) (by omega)
      have l3 := L 3 (by omega) (by omega)
      have l4 := L 4 (by omega) (by omega)
      have l5 := L 5 (by omega) (by omega)
      have l6 := L 6 (by omega) (by omega)
      exfalso; omega
    · rw [wW_8 c] at b; exact absurd b (by decide)
  · rintro ⟨a, b⟩
    have l0 := b 0 (by omega) (by omega)
    rw [h0] at l0
    have l1 := b 1 (by omega) (by omega)
    rw [h1] at l1
    have l2 := b 2 (by omega) (by omega)
    rw [h2] at l2
    rw [show s + 0 = s by omega] at l0
    have hl : s < len := by
      apply Decidable.byContradiction
      intro q
      have e := tE_0 (g := g) (len := len) (s := s) (by omega)
      omega
    have a1 := so_1 (g := g) hl (isL_iff.mpr (by rw [l0]; omega))
    refine ⟨a1, ?_⟩
    unfold woF
    rw [if_neg (by omega), if_pos a1, show (tE g len s - s).toNat = 3 by omega, wW_3, show s + 0 = s by omega, l0, l1, l2]
    decide
theorem word_14 {g : Int → Int} {len s : Int} (hs : 0 ≤ s ∧ s ≤ len) : (soF g len s = 1 ∧ woF g len s = 23114405) ↔ wrdB g len s 14 = true := by
  rw [wrdB_iff]
  have r := tE_rng (g := g) hs
  have hn : sln 14 = 5 := by decide
  have h0 : chr 14 0 = 118 := by decide
  have h1 : chr 14 1 = 97 := by decide
  have h2 : chr 14 2 = 108 := by decide
  have h3 : chr 14 3 = 117 := by decide
  have h4 : chr 14 4 = 101 := by decide
  unfold wrd
  rw [hn]
  constructor
  · rintro ⟨a, b⟩
    have L := tok_l a
    have m := so_1m a
    have r2 := r.2.2 m.1
    unfold woF at b
    rw [if_neg (by omega), if_pos a] at b
    generalize hN : (tE g len s - s).toNat = N at b
    have c : N = 1 ∨ N = 2 ∨ N = 3 ∨ N = 4 ∨ N = 5 ∨ N = 6 ∨ N = 7 ∨ 8 ≤ N := by omega
    rcases c with rfl | rfl | rfl | rfl | rfl | rfl | rfl | c
    · rw [wW_1] at b
      have l0 := L 0 (by omega) (by omega)
      exfalso; omega
    · rw [wW_2] at b
      have l0 := L 0 (by omega) (by omega)
      have l1 := L 1 (by omega) (by omega)
      exfalso; omega
    · rw [wW_3] at b
      have l0 := L 0 (by omega) (by omega)
      have l1 := L 1 (by omega) (by omega)
      have l2 := L 2 (by omega) (by omega)
      exfalso; omega
    · rw [wW_4] at b
      have l0 := L 0 (by omega) (by omega)
      have l1 := L 1 (by omega) (by omega)
      have l2 := L 2 (by omega) (by omega)
      have l3 := L 3 (by omega) (by omega)
      exfalso; omega
    · rw [wW_5] at b
      have l0 := L 0 (by omega) (by omega)
      have l1 := L 1 (by omega) (by omega)
      have l2 := L 2 (by omega) (by omega)
      have l3 := L 3 (by omega) (by omega)
      have l4 := L 4 (by omega) (by omega)
      refine ⟨by omega, fun k k1 k2 => ?_⟩
      rcases (show k = 0 ∨ k = 1 ∨ k = 2 ∨ k = 3 ∨ k = 4 by omega) with rfl | rfl | rfl | rfl | rfl
      · rw [h0]; omega
      · rw [h1]; omega
      · rw [h2]; omega
      · rw [h3]; omega
      · rw [h4]; omega
    · rw [wW_6] at b
      have l0 := L 0 (by omega) (by omega)
      have l1 := L 1 (by omega) (by omega)
      have l2 := L 2 (by omega) (by omega)
      have l3 := L 3 (by omega) (by omega)
      have l4 := L 4 (by omega) (by omega)
      have l5 := L 5 (by omega) (by omega)
      exfalso; omega
    · rw [wW_7] at b
      have l0 := L 0 (by omega) (by omega)
      have l1 := L 1 (by omega) (by omega)
      have l2 := L 2 (by omega) (by omega)
      have l3 := L 3 (by omega) (by omega)
      have l4 := L 4 (by omega) (by omega)
      have l5 := L 5 (by omega) (by omega)
      have l6 := L 6 (by omega) (by omega)
      exfalso; omega
    · rw [wW_8 c] at b; exact absurd b (by decide)
  · rintro ⟨a, b⟩
    have l0 := b 0 (by omega) (by omega)
    rw [h0] at l0
    have l1 := b 1 (by omega) (by omega)
    rw [h1] at l1
    have l2 := b 2 (by omega) (by omega)
    rw [h2] at l2
    have l3 := b 3 (by omega) (by omega)
    rw [h3] at l3
    have l4 := b 4 (by omega) (by omega)
    rw [h4] at l4
    rw [show s + 0 = s by omega] at l0
    have hl : s < len := by
      apply Decidable.byContradiction
      intro q
      have e := tE_0 (g := g) (len := len) (s := s) (by omega)
      omega
    have a1 := so_1 (g := g) hl (isL_iff.mpr (by rw [l0]; omega))
    refine ⟨a1, ?_⟩
    unfold woF
    rw [if_neg (by omega), if_pos a1, show (tE g len s - s).toNat = 5 by omega, wW_5, show s + 0 = s by omega, l0, l1, l2, l3, l4]
    decide
theorem word_15 {g : Int → Int} {len s : Int} (hs : 0 ≤ s ∧ s ≤ len) : (soF g len s = 1 ∧ woF g len s = 664997) ↔ wrdB g len s 15 = true := by
  rw [wrdB_iff]
  have r := tE_rng (g := g) hs
  have hn : sln 15 = 4 := by decide
  have h0 : chr 15 0 = 116 := by decide
  have h1 : chr 15 1 = 105 := by decide
  have h2 : chr 15 2 = 109 := by decide
  have h3 : chr 15 3 = 101 := by decide
  unfold wrd
  rw [hn]
  constructor
  · rintro ⟨a, b⟩
    have L := tok_l a
    have m := so_1m a
    have r2 := r.2.2 m.1
    unfold woF at b
    rw [if_neg (by omega), if_pos a] at b
    generalize hN : (tE g len s - s).toNat = N at b
    have c : N = 1 ∨ N = 2 ∨ N = 3 ∨ N = 4 ∨ N = 5 ∨ N = 6 ∨ N = 7 ∨ 8 ≤ N := by omega
    rcases c with rfl | rfl | rfl | rfl | rfl | rfl | rfl | c
    · rw [wW_1] at b
      have l0 := L 0 (by omega) (by omega)
      exfalso; omega
    · rw [wW_2] at b
      have l0 := L 0 (by omega) (by omega)
      have l1 := L 1 (by omega) (by omega)
      exfalso; omega
    · rw [wW_3] at b
      have l0 := L 0 (by omega) (by omega)
      have l1 := L 1 (by omega) (by omega)
      have l2 := L 2 (by omega) (by omega)
      exfalso; omega
    · rw [wW_4] at b
      have l0 := L 0 (by omega) (by omega)
      have l1 := L 1 (by omega) (by omega)
      have l2 := L 2 (by omega) (by omega)
      have l3 := L 3 (by omega) (by omega)
      refine ⟨by omega, fun k k1 k2 => ?_⟩
      rcases (show k = 0 ∨ k = 1 ∨ k = 2 ∨ k = 3 by omega) with rfl | rfl | rfl | rfl
      · rw [h0]; omega
      · rw [h1]; omega
      · rw [h2]; omega
      · rw [h3]; omega
    · rw [wW_5] at b
      have l0 := L 0 (by omega) (by omega)
      have l1 := L 1 (by omega) (by omega)
      have l2 := L 2 (by omega) (by omega)
      have l3 := L 3 (by omega) (by omega)
      have l4 := L 4 (by omega) (by omega)
      exfalso; omega
    · rw [wW_6] at b
      have l0 := L 0 (by omega) (by omega)
      have l1 := L 1 (by omega) (by omega)
      have l2 := L 2 (by omega) (by omega)
      have l3 := L 3 (by omega) (by omega)
      have l4 := L 4 (by omega) (by omega)
      have l5 := L 5 (by omega) (by omega)
      exfalso; omega
    · rw [wW_7] at b
      have l0 := L 0 (by omega) (by omega)
      have l1 := L 1 (by omega) (by omega)
      have l2 := L 2 (by omega) (by omega)
      have l3 := L 3 (by omega) (by omega)
      have l4 := L 4 (by omega) (by omega)
      have l5 := L 5 (by omega) (by omega)
      have l6 := L 6 (by omega) (by omega)
      exfalso; omega
    · rw [wW_8 c] at b; exact absurd b (by decide)
  · rintro ⟨a, b⟩
    have l0 := b 0 (by omega) (by omega)
    rw [h0] at l0
    have l1 := b 1 (by omega) (by omega)
    rw [h1] at l1
    have l2 := b 2 (by omega) (by omega)
    rw [h2] at l2
    have l3 := b 3 (by omega) (by omega)
    rw [h3] at l3
    rw [show s + 0 = s by omega] at l0
    have hl : s < len := by
      apply Decidable.byContradiction
      intro q
      have e := tE_0 (g := g) (len := len) (s := s) (by omega)
      omega
    have a1 := so_1 (g := g) hl (isL_iff.mpr (by rw [l0]; omega))
    refine ⟨a1, ?_⟩
    unfold woF
    rw [if_neg (by omega), if_pos a1, show (tE g len s - s).toNat = 4 by omega, wW_4, show s + 0 = s by omega, l0, l1, l2, l3]
    decide
