/-! ===== pieces of a map, as lists ===== -/
def seg {α : Type} (g : Int → α) (a b : Int) : List α := (List.range (b - a).toNat).map (fun i : Nat => g (a + i))
theorem seg_nil {α : Type} {g : Int → α} {a b : Int} (h : b ≤ a) : seg g a b = [] := by
  unfold seg
  rw [show (b - a).toNat = 0 by omega]
  rfl
theorem seg_cons {α : Type} {g : Int → α} {a b : Int} (h : a < b) : seg g a b = g a :: seg g (a + 1) b := by
  unfold seg
  rw [show (b - a).toNat = (b - (a + 1)).toNat + 1 by omega, List.range_succ_eq_map, List.map_cons, List.map_map]
  congr 1
  · simp
  · apply List.map_congr_left
    intro i _
    show g (a + ((i + 1 : Nat) : Int)) = g (a + 1 + (i : Int))
    congr 1
    omega
theorem seg_snoc {α : Type} {g : Int → α} {a b : Int} (h : a ≤ b) : seg g a (b + 1) = seg g a b ++ [g b] := by
  unfold seg
  rw [show (b + 1 - a).toNat = (b - a).toNat + 1 by omega, List.range_succ, List.map_append, List.map_cons, List.map_nil]
  congr 3
  omega
theorem seg_congr {α : Type} {g h : Int → α} {a b : Int} (e : ∀ j, a ≤ j → j < b → g j = h j) : seg g a b = seg h a b := by
  unfold seg
  apply List.map_congr_left
  intro i hi
  have := List.mem_range.mp hi
  exact e _ (by omega) (by omega)
theorem seg_len {α : Type} {g : Int → α} {a b : Int} : (seg g a b).length = (b - a).toNat := by
  unfold seg; simp
theorem seg_mem {α : Type} {g : Int → α} {a b : Int} {x : α} : x ∈ seg g a b ↔ ∃ j, a ≤ j ∧ j < b ∧ g j = x := by
  unfold seg
  constructor
  · intro h
    obtain ⟨i, hi, rfl⟩ := List.mem_map.mp h
    have := List.mem_range.mp hi
    exact ⟨_, by omega, by omega, rfl⟩
  · rintro ⟨j, h1, h2, rfl⟩
    exact List.mem_map.mpr ⟨(j - a).toNat, List.mem_range.mpr (by omega), by congr 1; omega⟩
theorem seg_app {α : Type} {g : Int → α} {a c : Int} (b : Int) (h1 : a ≤ b) (h2 : b ≤ c) : seg g a c = seg g a b ++ seg g b c := by
  obtain ⟨n, hn⟩ := Int.eq_ofNat_of_zero_le (show 0 ≤ c - b by omega)
  induction n generalizing c with
  | zero => rw [show c = b by omega, seg_nil (Int.le_refl b), List.append_nil]
  | succ n ih =>
    have hc : c = (c - 1) + 1 := by omega
    rw [hc, seg_snoc (by omega), seg_snoc (by omega), ih (c := c - 1) (by omega) (by omega), List.append_assoc]
theorem seg_one {α : Type} {g : Int → α} {a : Int} : seg g a (a + 1) = [g a] := by
  rw [seg_cons (by omega), seg_nil (by omega)]
theorem seg_fup_out {α : Type} {g : Int → α} {a b i : Int} {v : α} (h : i < a ∨ b ≤ i) : seg (fup g i v) a b = seg g a b :=
  seg_congr (fun j h1 h2 => fup_n g v (by omega))
theorem seg_get {α : Type} {g : Int → α} {a b : Int} {i : Nat} (h : (i : Int) < b - a) : (seg g a b)[i]? = some (g (a + i)) := by
  unfold seg
  rw [List.getElem?_map, List.getElem?_range (by omega)]
  rfl
/-! ===== sorted lists, merging ===== -/
def srt (l : List Int) : Prop := l.Pairwise (fun a b => a ≤ b)
def mrg : List Int → List Int → List Int
  | [], ys => ys
  | x :: xs, [] => x :: xs
  | x :: xs, y :: ys => if y < x then y :: mrg (x :: xs) ys else x :: mrg xs (y :: ys)
termination_by xs ys => xs.length + ys.length
theorem mrg_nil_r (xs : List Int) : mrg xs [] = xs := by cases xs <;> simp [mrg]
theorem mrg_nil_l (ys : List Int) : mrg [] ys = ys := by simp [mrg]
theorem mrg_cons (x y : Int) (xs ys : List Int) : mrg (x :: xs) (y :: ys) = if y < x then y :: mrg (x :: xs) ys else x :: mrg xs (y :: ys) := by rw [mrg]
theorem mrg_perm : ∀ (xs ys : List Int), (mrg xs ys).Perm (xs ++ ys)
  | [], ys => by rw [mrg_nil_l]; exact List.Perm.refl _
  | x :: xs, [] => by rw [mrg_nil_r, List.append_nil]
  | x :: xs, y :: ys => by
    rw [mrg_cons]
    split
    · have ih := mrg_perm (x :: xs) ys
      exact (List.Perm.cons y ih).trans (List.perm_middle.symm)
    · exact List.Perm.cons x (mrg_perm xs (y :: ys))
termination_by xs ys => xs.length + ys.length
theorem mrg_srt : ∀ (xs ys : List Int), srt xs → srt ys → srt (mrg xs ys)
  | [], ys, _, h => by rw [mrg_nil_l]; exact h
  | x :: xs, [], h, _ => by rw [mrg_nil_r]; exact h
  | x :: xs, y :: ys, h1, h2 => by
    rw [mrg_cons]
    have h1' := List.pairwise_cons.mp h1
    have h2' := List.pairwise_cons.mp h2
    split
    · rename_i hxy
      refine List.pairwise_cons.mpr ⟨fun z hz => ?_, mrg_srt (x :: xs) ys h1 h2'.2⟩
      rcases List.mem_append.mp ((mrg_perm _ _).mem_iff.mp hz) with q | q
      · rcases List.mem_cons.mp q with rfl | q
        · omega
        · have := h1'.1 z q; omega
      · exact h2'.1 z q
    · rename_i hxy
      refine List.pairwise_cons.mpr ⟨fun z hz => ?_, mrg_srt xs (y :: ys) h1'.2 h2⟩
      rcases List.mem_append.mp ((mrg_perm _ _).mem_iff.mp hz) with q | q
      · exact h1'.1 z q
      · rcases List.mem_cons.mp q with rfl | q
        · omega
        · have := h2'.1 z q; omega
termination_by xs ys => xs.length + ys.length
theorem srt_one : ∀ {l m : List Int}, srt l → srt m → l.Perm m → l = m
  | [], m, _, _, h => by rw [List.nil_perm.mp h]
  | x :: l, [], _, _, h => absurd h.length_eq (by simp)
  | x :: l, y :: m, h1, h2, h => by
    have a1 := List.pairwise_cons.mp h1
    have a2 := List.pairwise_cons.mp h2
    have e : x = y := by
      have hx : x ∈ y :: m := h.mem_iff.mp List.mem_cons_self
      have hy : y ∈ x :: l := h.mem_iff.mpr List.mem_cons_self
      rcases List.mem_cons.mp hx with q | q
      · exact q
      · rcases List.mem_cons.mp hy with q2 | q2
        · exact q2.symm
        · have := a1.1 y q2; have := a2.1 x q; omega
    subst e
    rw [srt_one a1.2 a2.2 (List.Perm.cons_inv h)]
theorem mrg_split {xs ys : List Int} (h : ∀ x ∈ xs, ∀ y ∈ ys, x ≤ y) (h1 : srt xs) (h2 : srt ys) : mrg xs ys = xs ++ ys :=
  srt_one (mrg_srt _ _ h1 h2) (List.pairwise_append.mpr ⟨h1, h2, h⟩) (mrg_perm _ _)
