/-! ===== TOKENS as the reference has them ===== -/
def wW (g : Int → Int) (s : Int) : Nat → Int
  | 0 => 0
  | k + 1 => if k < 7 then wW g s k * 32 + g (s + k) - 96 else -1
def dW (g : Int → Int) (s : Int) : Nat → Int
  | 0 => 0
  | k + 1 => if 1000 < dW g s k then dW g s k else dW g s k * 10 + g (s + k) - 48
def soF (g : Int → Int) (len s : Int) : Int := if s < len then (if isL g s = true then 1 else if isD g s = true then 2 else 3) else 0
def woF (g : Int → Int) (len s : Int) : Int := if soF g len s = 3 then g s else if soF g len s = 1 then wW g s (tE g len s - s).toNat else if soF g len s = 2 then dW g s (tE g len s - s).toNat else 0
def tok (V : Nat → Int) (g : Int → Int) (len s : Int) : Prop := V 45 = s ∧ V 46 = tE g len s ∧ V 47 = soF g len s ∧ V 48 = woF g len s
theorem isL_iff {g : Int → Int} {p : Int} : isL g p = true ↔ 97 ≤ g p ∧ g p ≤ 122 := by unfold isL; exact decide_eq_true_iff
theorem isD_iff {g : Int → Int} {p : Int} : isD g p = true ↔ 48 ≤ g p ∧ g p ≤ 57 := by unfold isD; exact decide_eq_true_iff
theorem isL_f {g : Int → Int} {p : Int} (h : ¬ (97 ≤ g p ∧ g p ≤ 122)) : isL g p = false := decide_eq_false h
theorem isD_f {g : Int → Int} {p : Int} (h : ¬ (48 ≤ g p ∧ g p ≤ 57)) : isD g p = false := decide_eq_false h
theorem advN_al {P : Int → Bool} {len : Int} : ∀ (n : Nat) (p j : Int), p ≤ j → j < advN P len n p → P j = true
  | 0, p, j, h1, h2 => by unfold advN at h2; omega
  | n + 1, p, j, h1, h2 => by
    unfold advN at h2
    split at h2
    · rename_i c
      by_cases e : j = p
      · subst e; exact c.2
      · exact advN_al n (p + 1) j (by omega) h2
    · omega
theorem adv_all {P : Int → Bool} {len p j : Int} (h1 : p ≤ j) (h2 : j < adv P len p) : P j = true := advN_al _ _ _ h1 h2
theorem so_rng {g : Int → Int} {len s : Int} : 0 ≤ soF g len s ∧ soF g len s ≤ 3 := by
  unfold soF; repeat' split
  all_goals omega
theorem so_0 {g : Int → Int} {len s : Int} (h : len ≤ s) : soF g len s = 0 := by unfold soF; rw [if_neg (by omega)]
theorem so_1 {g : Int → Int} {len s : Int} (h : s < len) (hl : isL g s = true) : soF g len s = 1 := by unfold soF; rw [if_pos h, if_pos hl]
theorem so_2 {g : Int → Int} {len s : Int} (h : s < len) (hl : isL g s = false) (hd : isD g s = true) : soF g len s = 2 := by unfold soF; rw [if_pos h, if_neg (by rw [hl]; decide), if_pos hd]
theorem so_3 {g : Int → Int} {len s : Int} (h : s < len) (hl : isL g s = false) (hd : isD g s = false) : soF g len s = 3 := by unfold soF; rw [if_pos h, if_neg (by rw [hl]; decide), if_neg (by rw [hd]; decide)]
theorem so_1m {g : Int → Int} {len s : Int} (h : soF g len s = 1) : s < len ∧ isL g s = true := by
  unfold soF at h
  split at h
  · rename_i c
    split at h
    · rename_i c2; exact ⟨c, c2⟩
    · split at h <;> omega
  · omega
theorem so_2m {g : Int → Int} {len s : Int} (h : soF g len s = 2) : s < len ∧ isL g s = false ∧ isD g s = true := by
  unfold soF at h
  split at h
  · rename_i c
    split at h
    · omega
    · rename_i c2
      split at h
      · rename_i c3; exact ⟨c, by simpa using c2, c3⟩
      · omega
  · omega
theorem so_3m {g : Int → Int} {len s : Int} (h : soF g len s = 3) : s < len ∧ isL g s = false ∧ isD g s = false := by
  unfold soF at h
  split at h
  · rename_i c
    split at h
    · omega
    · rename_i c2
      split at h
      · omega
      · rename_i c3; exact ⟨c, by simpa using c2, by simpa using c3⟩
  · omega
theorem tE_1 {g : Int → Int} {len s : Int} (h : s < len) (hl : isL g s = true) : tE g len s = adv (isL g) len s := by
  unfold tE; rw [if_pos ⟨h, hl⟩, show min (s + 1) len = s + 1 by omega, adv_on h hl]
theorem tE_2 {g : Int → Int} {len s : Int} (h : s < len) (hl : isL g s = false) (hd : isD g s = true) : tE g len s = adv (isD g) len s := by
  unfold tE; rw [if_neg (fun q => by rw [hl] at q; exact absurd q.2 (by decide)), if_pos ⟨h, hd⟩, show min (s + 1) len = s + 1 by omega, adv_on h hd]
theorem tE_3 {g : Int → Int} {len s : Int} (h : s < len) (hl : isL g s = false) (hd : isD g s = false) : tE g len s = s + 1 := by
  unfold tE; rw [if_neg (fun q => by rw [hl] at q; exact absurd q.2 (by decide)), if_neg (fun q => by rw [hd] at q; exact absurd q.2 (by decide))]; omega
theorem tE_0 {g : Int → Int} {len s : Int} (h : s = len) : tE g len s = s := by
  unfold tE; rw [if_neg (fun q => by omega), if_neg (fun q => by omega)]; omega
theorem wW_rng {g : Int → Int} {s : Int} (hg : bOk g) : ∀ k : Nat, -4398046511104 ≤ wW g s k ∧ wW g s k ≤ 4398046511104 ∧ (k ≤ 7 → -(6 * (32 : Int) ^ k - 6) ≤ wW g s k ∧ wW g s k ≤ 6 * 32 ^ k - 6)
  | 0 => by unfold wW; refine ⟨by omega, by omega, fun _ => ⟨by decide, by decide⟩⟩
  | k + 1 => by
    have ih := wW_rng (s := s) hg k
    have b := hg (s + k)
    unfold wW
    by_cases c : k < 7
    · rw [if_pos c]
      have i2 := ih.2.2 (by omega)
      have p : (32 : Int) ^ (k + 1) = 32 ^ k * 32 := Int.pow_succ 32 k
      have h0 : (0 : Int) < 32 ^ k := Int.pow_pos (by decide)
      have h1 : (32 : Int) ^ k ≤ 32 ^ 6 := by
        have : k = 0 ∨ k = 1 ∨ k = 2 ∨ k = 3 ∨ k = 4 ∨ k = 5 ∨ k = 6 := by omega
        rcases this with rfl | rfl | rfl | rfl | rfl | rfl | rfl <;> decide
      have q : (1 : Int) ≤ 32 ^ k ∧ (32 : Int) ^ k ≤ 32 ^ 6 := ⟨h0, h1⟩
      have q2 : (32 : Int) ^ 6 = 1073741824 := by decide
      rw [q2] at q
      rw [p]
      generalize (32 : Int) ^ k = z at *
      exact ⟨by omega, by omega, fun _ => ⟨by omega, by omega⟩⟩
    · rw [if_neg c]; exact ⟨by omega, by omega, fun h => by omega⟩
theorem dW_rng {g : Int → Int} {s : Int} : ∀ k : Nat, (∀ j : Nat, j < k → 48 ≤ g (s + j) ∧ g (s + j) ≤ 57) → 0 ≤ dW g s k ∧ dW g s k ≤ 10009
  | 0, _ => by unfold dW; omega
  | k + 1, h => by
    have ih := dW_rng k (fun j hj => h j (by omega))
    have b := h k (by omega)
    unfold dW
    split <;> omega
theorem dW_dgv {g : Int → Int} {s : Int} : ∀ k : Nat, (∀ j : Nat, j < k → 48 ≤ g (s + j) ∧ g (s + j) ≤ 57) → (dW g s k ≤ 1000 ∧ dgv (seg g s (s + k)) = dW g s k) ∨ (1000 < dW g s k ∧ dgv (seg g s (s + k)) = 1001)
  | 0, _ => by
    rw [seg_nil (by omega)]; exact Or.inl ⟨by unfold dW; omega, rfl⟩
  | k + 1, h => by
    have ih := dW_dgv k (fun j hj => h j (by omega))
    have r := dW_rng (s := s) k (fun j hj => h j (by omega))
    have b := h k (by omega)
    rw [show s + ((k + 1 : Nat) : Int) = s + k + 1 by omega, seg_snoc (by omega), dgv_snoc]
    unfold dW
    rcases ih with ⟨i1, i2⟩ | ⟨i1, i2⟩
    · rw [if_neg (by omega), i2]; omega
    · rw [if_pos i1, i2]; omega
theorem num_iff {g : Int → Int} {len s lo hi : Int} (hs : 0 ≤ s ∧ s ≤ len) (hlo : 0 ≤ lo) (hhi : hi ≤ 1000) : (soF g len s = 2 ∧ lo ≤ woF g len s ∧ woF g len s ≤ hi) ↔ (lo ≤ dgt g len s ∧ dgt g len s ≤ hi) := by
  by_cases c : soF g len s = 2
  · have m := so_2m c
    have e := tE_2 m.1 m.2.1 m.2.2
    have r := tE_rng (g := g) hs
    have hd : ∀ j : Nat, j < (tE g len s - s).toNat → 48 ≤ g (s + j) ∧ g (s + j) ≤ 57 := fun j hj => isD_iff.mp (adv_all (P := isD g) (len := len) (p := s) (by omega) (by rw [← e]; omega))
    have w : woF g len s = dW g s (tE g len s - s).toNat := by unfold woF; rw [if_neg (by omega), if_neg (by omega), if_pos c]
    have d : dgt g len s = dgv (seg g s (tE g len s)) := by unfold dgt; rw [if_pos ⟨m.1, m.2.2⟩]
    have q := dW_dgv (tE g len s - s).toNat hd
    rw [show s + (((tE g len s - s).toNat : Nat) : Int) = tE g len s by omega, ← d, ← w] at q
    omega
  · have d : dgt g len s = -1 := by
      unfold dgt
      rw [if_neg (fun q => c (so_2 q.1 (by have := isD_iff.mp q.2; exact isL_f (by omega)) q.2))]
    omega
theorem num_eq {g : Int → Int} {len s : Int} (hs : 0 ≤ s ∧ s ≤ len) (h : 0 ≤ dgt g len s ∧ dgt g len s ≤ 1000) : woF g len s = dgt g len s := by
  have a := (num_iff (lo := dgt g len s) (hi := dgt g len s) hs h.1 h.2).mpr ⟨Int.le_refl _, Int.le_refl _⟩
  omega
theorem sign_iff {g : Int → Int} {len s c : Int} (hs : 0 ≤ s ∧ s ≤ len) (hc : ¬ (97 ≤ c ∧ c ≤ 122) ∧ ¬ (48 ≤ c ∧ c ≤ 57)) : (soF g len s = 3 ∧ woF g len s = c) ↔ sgn g len s c = true := by
  unfold sgn
  rw [decide_eq_true_iff]
  constructor
  · rintro ⟨a, b⟩
    have m := so_3m a
    rw [tE_3 m.1 m.2.1 m.2.2]
    unfold woF at b
    rw [if_pos a] at b
    exact ⟨by omega, b⟩
  · rintro ⟨a, b⟩
    have hl : s < len := by
      apply Decidable.byContradiction
      intro q
      have e := tE_0 (g := g) (len := len) (s := s) (by omega)
      omega
    have q := so_3 (g := g) hl (isL_f (by rw [b]; exact hc.1)) (isD_f (by rw [b]; exact hc.2))
    exact ⟨q, by unfold woF; rw [if_pos q]; exact b⟩
theorem wo_rng {g : Int → Int} {len s : Int} (hg : bOk g) (hs : 0 ≤ s ∧ s ≤ len) : -4398046511104 ≤ woF g len s ∧ woF g len s ≤ 4398046511104 := by
  have b := hg s
  have r := tE_rng (g := g) hs
  unfold woF
  split
  · omega
  · split
    · have := wW_rng (s := s) hg (tE g len s - s).toNat; exact ⟨this.1, this.2.1⟩
    · split
      · rename_i c
        have m := so_2m c
        have e := tE_2 m.1 m.2.1 m.2.2
        have := dW_rng (g := g) (s := s) (tE g len s - s).toNat (fun j hj => isD_iff.mp (adv_all (P := isD g) (len := len) (p := s) (by omega) (by rw [← e]; omega)))
        omega
      · omega
