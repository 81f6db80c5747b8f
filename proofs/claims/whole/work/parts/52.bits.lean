theorem hB_rng {th : Int → Int} (hth : ∀ j, 0 ≤ j → j < 8 → th j = 0 ∨ th j = 1) : 0 ≤ hB th ∧ hB th < 256 := by
  have a0 := hth 0 (by omega) (by omega); have a1 := hth 1 (by omega) (by omega); have a2 := hth 2 (by omega) (by omega); have a3 := hth 3 (by omega) (by omega); have a4 := hth 4 (by omega) (by omega); have a5 := hth 5 (by omega) (by omega); have a6 := hth 6 (by omega) (by omega); have a7 := hth 7 (by omega) (by omega)
  unfold hB; omega
theorem hB_bit {th : Int → Int} (hth : ∀ j, 0 ≤ j → j < 8 → th j = 0 ∨ th j = 1) {h : Int} (hh : 0 ≤ h ∧ h < 8) : hB th / 2 ^ h.toNat % 2 = th h := by
  have a0 := hth 0 (by omega) (by omega); have a1 := hth 1 (by omega) (by omega); have a2 := hth 2 (by omega) (by omega); have a3 := hth 3 (by omega) (by omega); have a4 := hth 4 (by omega) (by omega); have a5 := hth 5 (by omega) (by omega); have a6 := hth 6 (by omega) (by omega); have a7 := hth 7 (by omega) (by omega)
  rcases (show h = 0 ∨ h = 1 ∨ h = 2 ∨ h = 3 ∨ h = 4 ∨ h = 5 ∨ h = 6 ∨ h = 7 by omega) with rfl | rfl | rfl | rfl | rfl | rfl | rfl | rfl
  all_goals (unfold hB; simp only [Int.reducePow, Int.reduceToNat]; omega)
theorem hshr {th : Int → Int} (hth : ∀ j, 0 ≤ j → j < 8 → th j = 0 ∨ th j = 1) {h : Int} (hh : 0 ≤ h ∧ h < 8) : (iZ (hB th) >>> (iZ h &&& 31)) &&& iZ 1 = iZ (th h) := by
  have r := hB_rng hth
  have e := shrZ (z := hB th) (by omega) (k := h.toNat) (by omega)
  rw [show ((h.toNat : Nat) : Int) = h by omega] at e
  rw [e, mask1, hB_bit hth hh]
theorem shl1 {h : Int} (hh : 0 ≤ h ∧ h < 8) : iZ 1 <<< (iZ h &&& 31) = iZ (2 ^ h.toNat) := by
  rcases (show h = 0 ∨ h = 1 ∨ h = 2 ∨ h = 3 ∨ h = 4 ∨ h = 5 ∨ h = 6 ∨ h = 7 by omega) with rfl | rfl | rfl | rfl | rfl | rfl | rfl | rfl
  all_goals decide
theorem p2_rng {h : Int} (hh : 0 ≤ h ∧ h < 8) : 1 ≤ (2 : Int) ^ h.toNat ∧ (2 : Int) ^ h.toNat ≤ 128 := by
  rcases (show h = 0 ∨ h = 1 ∨ h = 2 ∨ h = 3 ∨ h = 4 ∨ h = 5 ∨ h = 6 ∨ h = 7 by omega) with rfl | rfl | rfl | rfl | rfl | rfl | rfl | rfl
  all_goals decide
theorem hB_one {th : Int → Int} (hth : ∀ j, 0 ≤ j → j < 8 → th j = 0 ∨ th j = 1) {h : Int} (hh : 0 ≤ h ∧ h < 8) : hB th = 2 ^ h.toNat ↔ th h = 1 ∧ hN th = 1 := by
  have a0 := hth 0 (by omega) (by omega); have a1 := hth 1 (by omega) (by omega); have a2 := hth 2 (by omega) (by omega); have a3 := hth 3 (by omega) (by omega); have a4 := hth 4 (by omega) (by omega); have a5 := hth 5 (by omega) (by omega); have a6 := hth 6 (by omega) (by omega); have a7 := hth 7 (by omega) (by omega)
  rcases (show h = 0 ∨ h = 1 ∨ h = 2 ∨ h = 3 ∨ h = 4 ∨ h = 5 ∨ h = 6 ∨ h = 7 by omega) with rfl | rfl | rfl | rfl | rfl | rfl | rfl | rfl
  all_goals (unfold hB hN; simp only [Int.reducePow, Int.reduceToNat]; omega)
theorem hB_fup {th : Int → Int} {h z : Int} (hh : 0 ≤ h ∧ h < 8) : hB (fup th h z) = hB th + (z - th h) * 2 ^ h.toNat := by
  rcases (show h = 0 ∨ h = 1 ∨ h = 2 ∨ h = 3 ∨ h = 4 ∨ h = 5 ∨ h = 6 ∨ h = 7 by omega) with rfl | rfl | rfl | rfl | rfl | rfl | rfl | rfl
  all_goals (unfold hB fup; simp; omega)
theorem xor_tab : ∀ n, n < 256 → ∀ h, h < 8 → nI n ^^^ nI (2 ^ h) = nI (if n / 2 ^ h % 2 = 1 then n - 2 ^ h else n + 2 ^ h) := by decide +kernel
theorem hB_xor {th : Int → Int} (hth : ∀ j, 0 ≤ j → j < 8 → th j = 0 ∨ th j = 1) {h z : Int} (hh : 0 ≤ h ∧ h < 8) (hz : z = 0 ∨ z = 1) (hne : th h ≠ z) : iZ (hB th) ^^^ iZ (2 ^ h.toNat) = iZ (hB (fup th h z)) := by
  have r := hB_rng hth
  have b := hB_bit hth hh
  have e := xor_tab (hB th).toNat (by omega) h.toNat (by omega)
  rw [iZ_nI, iZ_nI, iZ_nI] at e
  have e1 : (((hB th).toNat : Nat) : Int) = hB th := by omega
  have e2 : ((2 ^ h.toNat : Nat) : Int) = (2 : Int) ^ h.toNat := by push_cast; rfl
  rw [e1, e2] at e
  rw [e, hB_fup hh]
  congr 1
  have e3 : (((hB th).toNat / 2 ^ h.toNat % 2 : Nat) : Int) = th h := by
    rw [← b]; push_cast; rw [e1]
  have q := hth h hh.1 hh.2
  have p := p2_rng hh
  by_cases c : (hB th).toNat / 2 ^ h.toNat % 2 = 1
  · rw [if_pos c]
    have t1 : th h = 1 := by rw [← e3, c]; rfl
    have t0 : z = 0 := by omega
    have g : (2 ^ h.toNat : Nat) ≤ (hB th).toNat := by
      apply Decidable.byContradiction
      intro n
      rw [Nat.div_eq_of_lt (by omega)] at c
      exact absurd c (by decide)
    rw [Int.natCast_sub g, e1, e2, t1, t0]; omega
  · rw [if_neg c]
    have t0 : th h = 0 := by
      rcases q with q | q
      · exact q
      · rw [q] at e3; exact absurd (by omega) c
    have t1 : z = 1 := by omega
    rw [Int.natCast_add, e1, e2, t0, t1]; omega
theorem take_snoc {L : List Int} {i : Nat} (h : i < L.length) : L.take (i + 1) = L.take i ++ [L.getD i 0] := by
  rw [List.take_add_one, List.getD_eq_getElem?_getD, List.getElem?_eq_getElem h]; rfl
theorem cntK_bd (p : Int → Bool) (l : List Int) : 0 ≤ cntK p l ∧ cntK p l ≤ l.length := by
  unfold cntK
  have := List.length_filter_le (fun x => p (rK x)) l
  omega
