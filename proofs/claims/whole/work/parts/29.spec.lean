/-! ===== TABLES as lists ===== -/
def ins (x : Int) : List Int → List Int
  | [] => [x]
  | y :: ys => if x < y then x :: y :: ys else y :: ins x ys
def isrt (l : List Int) : List Int := l.foldl (fun a x => ins x a) []
theorem ins_perm (x : Int) : ∀ l : List Int, (ins x l).Perm (x :: l)
  | [] => List.Perm.refl _
  | y :: ys => by
    unfold ins; split
    · exact List.Perm.refl _
    · exact (List.Perm.cons y (ins_perm x ys)).trans (List.Perm.swap x y ys)
theorem ins_srt (x : Int) : ∀ l : List Int, srt l → srt (ins x l)
  | [], _ => List.pairwise_singleton _ _
  | y :: ys, h => by
    have h' := List.pairwise_cons.mp h
    unfold ins; split
    · rename_i hx
      refine List.pairwise_cons.mpr ⟨fun z hz => ?_, h⟩
      rcases List.mem_cons.mp hz with rfl | hz
      · omega
      · have := h'.1 z hz; omega
    · rename_i hx
      refine List.pairwise_cons.mpr ⟨fun z hz => ?_, ins_srt x ys h'.2⟩
      rcases List.mem_cons.mp ((ins_perm x ys).mem_iff.mp hz) with rfl | hz
      · omega
      · exact h'.1 z hz
theorem isrt_go : ∀ (l a : List Int), srt a → srt (l.foldl (fun a x => ins x a) a) ∧ (l.foldl (fun a x => ins x a) a).Perm (a ++ l)
  | [], a, h => ⟨h, by rw [List.append_nil]; exact List.Perm.refl _⟩
  | x :: l, a, h => by
    have ih := isrt_go l (ins x a) (ins_srt x a h)
    refine ⟨ih.1, ih.2.trans ?_⟩
    refine (List.Perm.append_right l (ins_perm x a)).trans ?_
    exact List.perm_middle.symm
theorem isrt_srt (l : List Int) : srt (isrt l) := (isrt_go l [] List.Pairwise.nil).1
theorem isrt_perm (l : List Int) : (isrt l).Perm l := (isrt_go l [] List.Pairwise.nil).2
theorem isrt_of {l m : List Int} (h : srt m) (hp : m.Perm l) : m = isrt l := srt_one h (isrt_srt l) (hp.trans (isrt_perm l).symm)
theorem isrt_snoc (l : List Int) (x : Int) : isrt (l ++ [x]) = ins x (isrt l) := by unfold isrt; rw [List.foldl_append]; rfl
def un3 (x : Int) : Tr := (rK x, rT x, rV x)
/-- what MAKING t makes of what its TABLES have: kind 0, left 1, right 2, column 3, relation 4, number 5 -/
def rawT (M : Int → Int → Int) (src : Int → List Int) (t : Int) (V : Int → List Int) : List Tr :=
  if M t 0 = 0 then (src (M t 5)).map un3 else rawOf (M t 0) (M t 3) (M t 4) (M t 5) (V (M t 1)) (V (M t 2))
def mkT (M : Int → Int → Int) (src : Int → List Int) (t : Int) (V : Int → List Int) : List Int := isrt ((rawT M src t V).map pk3)
/-- the first n TABLES -/
def tabF (M : Int → Int → Int) (src : Int → List Int) : Nat → Int → List Int
  | 0 => fun _ => []
  | t + 1 => fup (tabF M src t) (t : Int) (mkT M src t (tabF M src t))
def tab (M : Int → Int → Int) (src : Int → List Int) (t : Nat) : List Int := mkT M src t (tabF M src t)
/-- the first n TABLES are not FULL -/
def okF (M : Int → Int → Int) (src : Int → List Int) (n : Nat) : Prop := ∀ t : Nat, t < n → rawOk (rawT M src t (tabF M src t))
theorem tabF_lt (M : Int → Int → Int) (src : Int → List Int) : ∀ (n s : Nat), s < n → tabF M src n s = tab M src s
  | 0, s, h => absurd h (Nat.not_lt_zero s)
  | n + 1, s, h => by
    unfold tabF
    by_cases e : s = n
    · subst e; exact fup_s _ _ _
    · rw [fup_n _ _ (by omega)]; exact tabF_lt M src n s (by omega)
theorem tabF_out (M : Int → Int → Int) (src : Int → List Int) : ∀ (n : Nat) (s : Int), s < 0 ∨ (n : Int) ≤ s → tabF M src n s = []
  | 0, _, _ => rfl
  | n + 1, s, h => by
    unfold tabF
    rw [fup_n _ _ (by omega)]; exact tabF_out M src n s (by omega)
/-- a MAKING as a TEXT makes it, TABLE t -/
def mkOk (M : Int → Int → Int) (t : Int) : Prop :=
  ((0 ≤ M t 0 ∧ M t 0 ≤ 12) ∧ (0 ≤ M t 3 ∧ M t 3 ≤ 2) ∧ (0 ≤ M t 4 ∧ M t 4 < 65536) ∧ (-1000 ≤ M t 5 ∧ M t 5 ≤ 1000) ∧ (M t 0 = 4 → 0 ≤ M t 5) ∧ (M t 0 = 5 → 1 ≤ M t 5)) ∧
  (M t 0 = 0 → M t 1 = -1 ∧ M t 2 = -1 ∧ 0 ≤ M t 5 ∧ M t 5 ≤ 2) ∧ (M t 0 ≠ 0 → 0 ≤ M t 1 ∧ M t 1 < t) ∧ (M t 0 = 11 ∨ M t 0 = 12 → 0 ≤ M t 2 ∧ M t 2 < t) ∧ (¬ (M t 0 = 11 ∨ M t 0 = 12) → M t 2 = -1)
/-- ROWS in a list are ROWS -/
def lOk (l : List Int) : Prop := ∀ x ∈ l, rOk x ∧ rV x ≤ 1000000000
theorem pk3_un {x : Int} (h : rOk x) : pk3 (un3 x) = x := pkU h
theorem map_un {l : List Int} (h : ∀ x ∈ l, rOk x) : (l.map un3).map pk3 = l := by
  rw [List.map_map]
  conv => rhs; rw [← List.map_id l]
  apply List.map_congr_left
  intro x hx
  exact pk3_un (h x hx)
/-- KEY and TIME of what a MAKING makes -/
def kOk (p : Tr) : Prop := (0 ≤ p.1 ∧ p.1 < 32) ∧ (0 ≤ p.2.1 ∧ p.2.1 < 16384)
theorem each_k {kd col rel num x : Int} (hx : rOk x) (h5 : kd = 5 → 1 ≤ num) : ∀ p ∈ each1 kd col rel num x, kOk p := by
  have h1 := rK_rng hx
  have h2 := rT_rng hx
  intro p hp
  unfold each1 at hp
  unfold kOk
  split at hp
  · split at hp
    · rw [List.mem_singleton.mp hp]; exact ⟨h1, h2⟩
    · cases hp
  · split at hp
    · rw [List.mem_singleton.mp hp]; exact ⟨h1, h2⟩
    · split at hp
      · rw [List.mem_singleton.mp hp]; exact ⟨h1, h2⟩
      · split at hp
        · rw [List.mem_singleton.mp hp]; simp only []; omega
        · split at hp
          · rename_i h
            rw [List.mem_singleton.mp hp]; simp only []
            rw [if_pos (by have := h5 h; omega)]
            have := md_le (a := rT x) (b := num) (by omega) (by have := h5 h; omega)
            omega
          · split at hp
            · rw [List.mem_singleton.mp hp]; simp only []; omega
            · cases hp
theorem grp_k {kd : Int} : ∀ (l : List Int) (s m : Int), (∀ x ∈ l, rOk x) → ∀ p ∈ grp kd s m l, kOk p
  | [], _, _, _ => fun p hp => by cases hp
  | x :: xs, s, m, h => fun p hp => by
    have hx := h x List.mem_cons_self
    have hr : ∀ y ∈ xs, rOk y := fun y hy => h y (List.mem_cons_of_mem _ hy)
    unfold grp at hp
    split at hp
    · exact grp_k xs _ _ hr p hp
    · rcases List.mem_cons.mp hp with rfl | hp
      · exact ⟨rK_rng hx, rT_rng hx⟩
      · exact grp_k xs _ _ hr p hp
theorem lst_k : ∀ (l : List Int), (∀ x ∈ l, rOk x) → ∀ p ∈ lstK l, kOk p
  | [], _ => fun p hp => by cases hp
  | x :: xs, h => fun p hp => by
    have hx := h x List.mem_cons_self
    have hr : ∀ y ∈ xs, rOk y := fun y hy => h y (List.mem_cons_of_mem _ hy)
    unfold lstK at hp
    split at hp
    · exact lst_k xs hr p hp
    · rcases List.mem_cons.mp hp with rfl | hp
      · exact ⟨rK_rng hx, rT_rng hx⟩
      · exact lst_k xs hr p hp
theorem raw_k {kd col rel num : Int} {A B : List Int} (hA : ∀ x ∈ A, rOk x) (hB : ∀ x ∈ B, rOk x) (h5 : kd = 5 → 1 ≤ num) : ∀ p ∈ rawOf kd col rel num A B, kOk p := by
  intro p hp
  unfold rawOf at hp
  split at hp
  · exact grp_k A 0 0 hA p hp
  · split at hp
    · exact lst_k A hA p hp
    · split at hp
      · obtain ⟨x, hx, hp⟩ := List.mem_flatMap.mp hp
        unfold pr1 at hp
        obtain ⟨y, hy, rfl⟩ := List.mem_map.mp hp
        have hy := (List.mem_filter.mp hy).1
        have h1 := rT_rng (hA x hx)
        have h2 := rT_rng (hB y hy)
        exact ⟨rK_rng (hA x hx), by simp only []; omega⟩
      · split at hp
        · unfold wout at hp
          obtain ⟨y, hy, rfl⟩ := List.mem_map.mp hp
          have hy := (List.mem_filter.mp hy).1
          exact ⟨rK_rng (hA y hy), rT_rng (hA y hy)⟩
        · obtain ⟨x, hx, hp⟩ := List.mem_flatMap.mp hp
          exact each_k (hA x hx) h5 p hp
/-- what a list that is not FULL becomes -/
theorem raw_l {r : List Tr} (h : rawOk r) (hk : ∀ p ∈ r, kOk p) : lOk (isrt (r.map pk3)) ∧ (isrt (r.map pk3)).length = r.length := by
  constructor
  · intro x hx
    obtain ⟨p, hp, rfl⟩ := List.mem_map.mp ((isrt_perm _).mem_iff.mp hx)
    obtain ⟨k1, k2⟩ := hk p hp
    have k3 := h.2 p hp
    obtain ⟨a1, a2, a3, a4⟩ := pk_ok k1 k2 k3
    refine ⟨a1, ?_⟩
    have : rV (pk3 p) = p.2.2 := a4
    omega
  · rw [(isrt_perm _).length_eq, List.length_map]
theorem lOk_r {l : List Int} (h : lOk l) : ∀ x ∈ l, rOk x := fun x hx => (h x hx).1
/-- TABLES that are not FULL hold ROWS -/
theorem tab_l {M : Int → Int → Int} {src : Int → List Int} {n : Nat} (hM : ∀ t : Nat, t < n → mkOk M t) (hs : ∀ s, lOk (src s)) (ho : okF M src n) : ∀ t : Nat, t < n → lOk (tab M src t) ∧ (tab M src t).length ≤ 400 := by
  intro t
  induction t using Nat.strongRecOn with
  | _ t ih =>
    intro ht
    have hV : ∀ i : Int, i < t → lOk (tabF M src t i) := by
      intro i hi
      by_cases h0 : i < 0
      · rw [tabF_out M src t i (Or.inl h0)]; exact fun x hx => by cases hx
      · obtain ⟨j, rfl⟩ := Int.eq_ofNat_of_zero_le (show 0 ≤ i by omega)
        rw [tabF_lt M src t j (by omega)]
        exact (ih j (by omega) (by omega)).1
    have hm := hM t ht
    have hok := ho t ht
    have hk : ∀ p ∈ rawT M src t (tabF M src t), kOk p := by
      intro p hp
      unfold rawT at hp
      split at hp
      · obtain ⟨x, hx, rfl⟩ := List.mem_map.mp hp
        exact ⟨rK_rng (hs _ x hx).1, rT_rng (hs _ x hx).1⟩
      · rename_i h0
        refine raw_k (lOk_r (hV _ (hm.2.2.1 h0).2)) (lOk_r (hV _ ?_)) hm.1.2.2.2.2.2 p hp
        by_cases h1 : M t 0 = 11 ∨ M t 0 = 12
        · exact (hm.2.2.2.1 h1).2
        · have := hm.2.2.2.2 h1; omega
    have := raw_l hok hk
    refine ⟨this.1, ?_⟩
    show (isrt _).length ≤ 400
    rw [this.2]; exact hok.1
theorem tab_srt (M : Int → Int → Int) (src : Int → List Int) (t : Nat) : srt (tab M src t) := isrt_srt _
