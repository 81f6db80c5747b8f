/-! ===== the reference's object ===== -/
def up {α : Type} (V : Nat → α) (j : Nat) (x : α) : Nat → α := fun i => bif Nat.beq i j then x else V i
theorem up_s {α : Type} (V : Nat → α) (j : Nat) (x : α) : up V j x j = x := by unfold up; rw [Nat.beq_refl]; rfl
theorem up_n {α : Type} (V : Nat → α) {i j : Nat} (x : α) (h : i ≠ j) : up V j x i = V i := by
  unfold up
  cases e : Nat.beq i j with
  | false => rfl
  | true => exact absurd (Nat.eq_of_beq_eq_true e) h
theorem up_up {α : Type} (V : Nat → α) (j : Nat) (x y : α) : up (up V j x) j y = up V j y := by
  funext i
  by_cases e : i = j
  · subst e; rw [up_s, up_s]
  · rw [up_n _ _ e, up_n _ _ e, up_n _ _ e]
def mO (A : Nat → Nat) (V : Nat → Int) : List Value := [.int (iZ (V 0)), .int (iZ (V 1)), .int (iZ (V 2)), .ref (A 3), .ref (A 4), .ref (A 5), .ref (A 6), .ref (A 7), .int (iZ (V 8)), .int (iZ (V 9)), .int (iZ (V 10)), .int (iZ (V 11)), .ref (A 12), .ref (A 13), .ref (A 14), .ref (A 15), .ref (A 16), .ref (A 17), .ref (A 18), .ref (A 19), .ref (A 20), .ref (A 21), .ref (A 22), .ref (A 23), .ref (A 24), .int (iZ (V 25)), .int (iZ (V 26)), .ref (A 27), .ref (A 28), .ref (A 29), .ref (A 30), .int (iZ (V 31)), .ref (A 32), .ref (A 33), .ref (A 34), .ref (A 35), .int (iZ (V 36)), .ref (A 37), .ref (A 38), .ref (A 39), .ref (A 40), .ref (A 41), .ref (A 42), .ref (A 43), .int (iZ (V 44)), .int (iZ (V 45)), .int (iZ (V 46)), .int (iZ (V 47)), .long (lZ (V 48)), .int (iZ (V 49)), .int (iZ (V 50)), .int (iZ (V 51))]
def isA (i : Nat) : Bool := Nat.beq i 3 || Nat.beq i 4 || Nat.beq i 5 || Nat.beq i 6 || Nat.beq i 7 || Nat.beq i 12 || Nat.beq i 13 || Nat.beq i 14 || Nat.beq i 15 || Nat.beq i 16 || Nat.beq i 17 || Nat.beq i 18 || Nat.beq i 19 || Nat.beq i 20 || Nat.beq i 21 || Nat.beq i 22 || Nat.beq i 23 || Nat.beq i 24 || Nat.beq i 27 || Nat.beq i 28 || Nat.beq i 29 || Nat.beq i 30 || Nat.beq i 32 || Nat.beq i 33 || Nat.beq i 34 || Nat.beq i 35 || Nat.beq i 37 || Nat.beq i 38 || Nat.beq i 39 || Nat.beq i 40 || Nat.beq i 41 || Nat.beq i 42 || Nat.beq i 43
def kN (i : Nat) : Nat := bif Nat.beq i 3 then 150 else bif Nat.beq i 4 then 150 else bif Nat.beq i 5 then 150 else bif Nat.beq i 6 then 150 else bif Nat.beq i 7 then 150 else bif Nat.beq i 12 then 12 else bif Nat.beq i 13 then 12 else bif Nat.beq i 14 then 12 else bif Nat.beq i 15 then 12 else bif Nat.beq i 16 then 12 else bif Nat.beq i 17 then 12 else bif Nat.beq i 18 then 4800 else bif Nat.beq i 19 then 4800 else bif Nat.beq i 20 then 4800 else bif Nat.beq i 21 then 12 else bif Nat.beq i 22 then 4800 else bif Nat.beq i 23 then 4800 else bif Nat.beq i 24 then 4800 else bif Nat.beq i 27 then 4000 else bif Nat.beq i 28 then 4000 else bif Nat.beq i 29 then 4000 else bif Nat.beq i 30 then 4000 else bif Nat.beq i 32 then 4000 else bif Nat.beq i 33 then 4000 else bif Nat.beq i 34 then 4000 else bif Nat.beq i 35 then 4000 else bif Nat.beq i 37 then 12 else bif Nat.beq i 38 then 12 else bif Nat.beq i 39 then 12 else bif Nat.beq i 40 then 12 else bif Nat.beq i 41 then 12 else bif Nat.beq i 42 then 26 else bif Nat.beq i 43 then 300 else 0
def kK (i : Nat) : Nat := bif Nat.beq i 7 then 2 else 0
/-- the reference's object m: scalars V, arrays at A with contents G; f0: the heap outside, which stays -/
def MF (E : JE) (rg : Nat → Nat) (f0 f : Hp) (m : Nat) (A : Nat → Nat) (V : Nat → Int) (G : Nat → Int → Int) : Prop := f m = oB 11 (mO A V) ∧ rg m = 11 ∧ (∀ i, isA i = true → f (A i) = aI (E.2.1 (kK i)) (kN i) (G i) ∧ rg (A i) = 12 + i) ∧ ∀ q, rg q < 11 → f q = f0 q
theorem MF_m {E : JE} {rg : Nat → Nat} {f0 f f' : Hp} {m : Nat} {A : Nat → Nat} {V : Nat → Int} {G : Nat → Int → Int} {V' : Nat → Int} (h : MF E rg f0 f m A V G) (hn : f' m = oB 11 (mO A V')) (k : ∀ b, b ≠ m → f' b = f b) : MF E rg f0 f' m A V' G := by
  obtain ⟨h0, h1, h2, h3⟩ := h
  refine ⟨hn, h1, fun i hi => ⟨(k _ (fun e => ?_)).trans (h2 i hi).1, (h2 i hi).2⟩, fun q hq => (k q (fun e => ?_)).trans (h3 q hq)⟩
  · have := (h2 i hi).2
    rw [e, h1] at this; omega
  · rw [e, h1] at hq; omega
theorem MF_a {E : JE} {rg : Nat → Nat} {f0 f f' : Hp} {m : Nat} {A : Nat → Nat} {V : Nat → Int} {G : Nat → Int → Int} {g' : Int → Int} (h : MF E rg f0 f m A V G) (i : Nat) (hi : isA i = true) (hn : f' (A i) = aI (E.2.1 (kK i)) (kN i) g') (k : ∀ b, b ≠ A i → f' b = f b) : MF E rg f0 f' m A V (up G i g') := by
  obtain ⟨h0, h1, h2, h3⟩ := h
  have hA := (h2 i hi).2
  refine ⟨(k _ (fun e => ?_)).trans h0, h1, fun j hj => ⟨?_, (h2 j hj).2⟩, fun q hq => (k q (fun e => ?_)).trans (h3 q hq)⟩
  · rw [← e, h1] at hA; omega
  · by_cases e : j = i
    · subst e; rw [up_s]; exact hn
    · rw [up_n _ _ e]
      refine (k _ (fun e2 => e ?_)).trans (h2 j hj).1
      have := (h2 j hj).2
      rw [e2, hA] at this; omega
  · rw [e, hA] at hq; omega
theorem MF_base {E : JE} {rg : Nat → Nat} {f0 f f' : Hp} {m : Nat} {A : Nat → Nat} {V : Nat → Int} {G : Nat → Int → Int} (h : MF E rg f0 f m A V G) : MF E rg f f m A V G := ⟨h.1, h.2.1, h.2.2.1, fun _ _ => rfl⟩
theorem MF_trans {E : JE} {rg : Nat → Nat} {f0 f f' : Hp} {m : Nat} {A : Nat → Nat} {V : Nat → Int} {G : Nat → Int → Int} (h : MF E rg f0 f m A V G) {V' : Nat → Int} {G' : Nat → Int → Int} (h2 : MF E rg f f' m A V' G') : MF E rg f0 f' m A V' G' := ⟨h2.1, h2.2.1, h2.2.2.1, fun q hq => (h2.2.2.2 q hq).trans (h.2.2.2 q hq)⟩
theorem MF_a3 {E : JE} {rg : Nat → Nat} {f0 f : Hp} {m : Nat} {A : Nat → Nat} {V : Nat → Int} {G : Nat → Int → Int} (h : MF E rg f0 f m A V G) : f (A 3) = aI (E.2.1 0) 150 (G 3) := (h.2.2.1 3 rfl).1
theorem MF_a4 {E : JE} {rg : Nat → Nat} {f0 f : Hp} {m : Nat} {A : Nat → Nat} {V : Nat → Int} {G : Nat → Int → Int} (h : MF E rg f0 f m A V G) : f (A 4) = aI (E.2.1 0) 150 (G 4) := (h.2.2.1 4 rfl).1
theorem MF_a5 {E : JE} {rg : Nat → Nat} {f0 f : Hp} {m : Nat} {A : Nat → Nat} {V : Nat → Int} {G : Nat → Int → Int} (h : MF E rg f0 f m A V G) : f (A 5) = aI (E.2.1 0) 150 (G 5) := (h.2.2.1 5 rfl).1
theorem MF_a6 {E : JE} {rg : Nat → Nat} {f0 f : Hp} {m : Nat} {A : Nat → Nat} {V : Nat → Int} {G : Nat → Int → Int} (h : MF E rg f0 f m A V G) : f (A 6) = aI (E.2.1 0) 150 (G 6) := (h.2.2.1 6 rfl).1
theorem MF_a7 {E : JE} {rg : Nat → Nat} {f0 f : Hp} {m : Nat} {A : Nat → Nat} {V : Nat → Int} {G : Nat → Int → Int} (h : MF E rg f0 f m A V G) : f (A 7) = aI (E.2.1 2) 150 (G 7) := (h.2.2.1 7 rfl).1
theorem MF_a12 {E : JE} {rg : Nat → Nat} {f0 f : Hp} {m : Nat} {A : Nat → Nat} {V : Nat → Int} {G : Nat → Int → Int} (h : MF E rg f0 f m A V G) : f (A 12) = aI (E.2.1 0) 12 (G 12) := (h.2.2.1 12 rfl).1
theorem MF_a13 {E : JE} {rg : Nat → Nat} {f0 f : Hp} {m : Nat} {A : Nat → Nat} {V : Nat → Int} {G : Nat → Int → Int} (h : MF E rg f0 f m A V G) : f (A 13) = aI (E.2.1 0) 12 (G 13) := (h.2.2.1 13 rfl).1
theorem MF_a14 {E : JE} {rg : Nat → Nat} {f0 f : Hp} {m : Nat} {A : Nat → Nat} {V : Nat → Int} {G : Nat → Int → Int} (h : MF E rg f0 f m A V G) : f (A 14) = aI (E.2.1 0) 12 (G 14) := (h.2.2.1 14 rfl).1
theorem MF_a15 {E : JE} {rg : Nat → Nat} {f0 f : Hp} {m : Nat} {A : Nat → Nat} {V : Nat → Int} {G : Nat → Int → Int} (h : MF E rg f0 f m A V G) : f (A 15) = aI (E.2.1 0) 12 (G 15) := (h.2.2.1 15 rfl).1
theorem MF_a16 {E : JE} {rg : Nat → Nat} {f0 f : Hp} {m : Nat} {A : Nat → Nat} {V : Nat → Int} {G : Nat → Int → Int} (h : MF E rg f0 f m A V G) : f (A 16) = aI (E.2.1 0) 12 (G 16) := (h.2.2.1 16 rfl).1
theorem MF_a17 {E : JE} {rg : Nat → Nat} {f0 f : Hp} {m : Nat} {A : Nat → Nat} {V : Nat → Int} {G : Nat → Int → Int} (h : MF E rg f0 f m A V G) : f (A 17) = aI (E.2.1 0) 12 (G 17) := (h.2.2.1 17 rfl).1
theorem MF_a18 {E : JE} {rg : Nat → Nat} {f0 f : Hp} {m : Nat} {A : Nat → Nat} {V : Nat → Int} {G : Nat → Int → Int} (h : MF E rg f0 f m A V G) : f (A 18) = aI (E.2.1 0) 4800 (G 18) := (h.2.2.1 18 rfl).1
theorem MF_a19 {E : JE} {rg : Nat → Nat} {f0 f : Hp} {m : Nat} {A : Nat → Nat} {V : Nat → Int} {G : Nat → Int → Int} (h : MF E rg f0 f m A V G) : f (A 19) = aI (E.2.1 0) 4800 (G 19) := (h.2.2.1 19 rfl).1
theorem MF_a20 {E : JE} {rg : Nat → Nat} {f0 f : Hp} {m : Nat} {A : Nat → Nat} {V : Nat → Int} {G : Nat → Int → Int} (h : MF E rg f0 f m A V G) : f (A 20) = aI (E.2.1 0) 4800 (G 20) := (h.2.2.1 20 rfl).1
theorem MF_a21 {E : JE} {rg : Nat → Nat} {f0 f : Hp} {m : Nat} {A : Nat → Nat} {V : Nat → Int} {G : Nat → Int → Int} (h : MF E rg f0 f m A V G) : f (A 21) = aI (E.2.1 0) 12 (G 21) := (h.2.2.1 21 rfl).1
theorem MF_a22 {E : JE} {rg : Nat → Nat} {f0 f : Hp} {m : Nat} {A : Nat → Nat} {V : Nat → Int} {G : Nat → Int → Int} (h : MF E rg f0 f m A V G) : f (A 22) = aI (E.2.1 0) 4800 (G 22) := (h.2.2.1 22 rfl).1
theorem MF_a23 {E : JE} {rg : Nat → Nat} {f0 f : Hp} {m : Nat} {A : Nat → Nat} {V : Nat → Int} {G : Nat → Int → Int} (h : MF E rg f0 f m A V G) : f (A 23) = aI (E.2.1 0) 4800 (G 23) := (h.2.2.1 23 rfl).1
theorem MF_a24 {E : JE} {rg : Nat → Nat} {f0 f : Hp} {m : Nat} {A : Nat → Nat} {V : Nat → Int} {G : Nat → Int → Int} (h : MF E rg f0 f m A V G) : f (A 24) = aI (E.2.1 0) 4800 (G 24) := (h.2.2.1 24 rfl).1
theorem MF_a27 {E : JE} {rg : Nat → Nat} {f0 f : Hp} {m : Nat} {A : Nat → Nat} {V : Nat → Int} {G : Nat → Int → Int} (h : MF E rg f0 f m A V G) : f (A 27) = aI (E.2.1 0) 4000 (G 27) := (h.2.2.1 27 rfl).1
theorem MF_a28 {E : JE} {rg : Nat → Nat} {f0 f : Hp} {m : Nat} {A : Nat → Nat} {V : Nat → Int} {G : Nat → Int → Int} (h : MF E rg f0 f m A V G) : f (A 28) = aI (E.2.1 0) 4000 (G 28) := (h.2.2.1 28 rfl).1
theorem MF_a29 {E : JE} {rg : Nat → Nat} {f0 f : Hp} {m : Nat} {A : Nat → Nat} {V : Nat → Int} {G : Nat → Int → Int} (h : MF E rg f0 f m A V G) : f (A 29) = aI (E.2.1 0) 4000 (G 29) := (h.2.2.1 29 rfl).1
theorem MF_a30 {E : JE} {rg : Nat → Nat} {f0 f : Hp} {m : Nat} {A : Nat → Nat} {V : Nat → Int} {G : Nat → Int → Int} (h : MF E rg f0 f m A V G) : f (A 30) = aI (E.2.1 0) 4000 (G 30) := (h.2.2.1 30 rfl).1
theorem MF_a32 {E : JE} {rg : Nat → Nat} {f0 f : Hp} {m : Nat} {A : Nat → Nat} {V : Nat → Int} {G : Nat → Int → Int} (h : MF E rg f0 f m A V G) : f (A 32) = aI (E.2.1 0) 4000 (G 32) := (h.2.2.1 32 rfl).1
theorem MF_a33 {E : JE} {rg : Nat → Nat} {f0 f : Hp} {m : Nat} {A : Nat → Nat} {V : Nat → Int} {G : Nat → Int → Int} (h : MF E rg f0 f m A V G) : f (A 33) = aI (E.2.1 0) 4000 (G 33) := (h.2.2.1 33 rfl).1
theorem MF_a34 {E : JE} {rg : Nat → Nat} {f0 f : Hp} {m : Nat} {A : Nat → Nat} {V : Nat → Int} {G : Nat → Int → Int} (h : MF E rg f0 f m A V G) : f (A 34) = aI (E.2.1 0) 4000 (G 34) := (h.2.2.1 34 rfl).1
theorem MF_a35 {E : JE} {rg : Nat → Nat} {f0 f : Hp} {m : Nat} {A : Nat → Nat} {V : Nat → Int} {G : Nat → Int → Int} (h : MF E rg f0 f m A V G) : f (A 35) = aI (E.2.1 0) 4000 (G 35) := (h.2.2.1 35 rfl).1
theorem MF_a37 {E : JE} {rg : Nat → Nat} {f0 f : Hp} {m : Nat} {A : Nat → Nat} {V : Nat → Int} {G : Nat → Int → Int} (h : MF E rg f0 f m A V G) : f (A 37) = aI (E.2.1 0) 12 (G 37) := (h.2.2.1 37 rfl).1
theorem MF_a38 {E : JE} {rg : Nat → Nat} {f0 f : Hp} {m : Nat} {A : Nat → Nat} {V : Nat → Int} {G : Nat → Int → Int} (h : MF E rg f0 f m A V G) : f (A 38) = aI (E.2.1 0) 12 (G 38) := (h.2.2.1 38 rfl).1
theorem MF_a39 {E : JE} {rg : Nat → Nat} {f0 f : Hp} {m : Nat} {A : Nat → Nat} {V : Nat → Int} {G : Nat → Int → Int} (h : MF E rg f0 f m A V G) : f (A 39) = aI (E.2.1 0) 12 (G 39) := (h.2.2.1 39 rfl).1
theorem MF_a40 {E : JE} {rg : Nat → Nat} {f0 f : Hp} {m : Nat} {A : Nat → Nat} {V : Nat → Int} {G : Nat → Int → Int} (h : MF E rg f0 f m A V G) : f (A 40) = aI (E.2.1 0) 12 (G 40) := (h.2.2.1 40 rfl).1
theorem MF_a41 {E : JE} {rg : Nat → Nat} {f0 f : Hp} {m : Nat} {A : Nat → Nat} {V : Nat → Int} {G : Nat → Int → Int} (h : MF E rg f0 f m A V G) : f (A 41) = aI (E.2.1 0) 12 (G 41) := (h.2.2.1 41 rfl).1
theorem MF_a42 {E : JE} {rg : Nat → Nat} {f0 f : Hp} {m : Nat} {A : Nat → Nat} {V : Nat → Int} {G : Nat → Int → Int} (h : MF E rg f0 f m A V G) : f (A 42) = aI (E.2.1 0) 26 (G 42) := (h.2.2.1 42 rfl).1
theorem MF_a43 {E : JE} {rg : Nat → Nat} {f0 f : Hp} {m : Nat} {A : Nat → Nat} {V : Nat → Int} {G : Nat → Int → Int} (h : MF E rg f0 f m A V G) : f (A 43) = aI (E.2.1 0) 300 (G 43) := (h.2.2.1 43 rfl).1
theorem MF_p0 {E : JE} {rg : Nat → Nat} {f0 f f' : Hp} {m : Nat} {A : Nat → Nat} {V : Nat → Int} {G : Nat → Int → Int} {x : Int} (h : MF E rg f0 f m A V G) (hn : f' m = oB 11 ((mO A V).set 0 (.int (iZ x)))) (k : ∀ b, b ≠ m → f' b = f b) : MF E rg f0 f' m A (up V 0 x) G := MF_m h hn k
theorem MF_p1 {E : JE} {rg : Nat → Nat} {f0 f f' : Hp} {m : Nat} {A : Nat → Nat} {V : Nat → Int} {G : Nat → Int → Int} {x : Int} (h : MF E rg f0 f m A V G) (hn : f' m = oB 11 ((mO A V).set 1 (.int (iZ x)))) (k : ∀ b, b ≠ m → f' b = f b) : MF E rg f0 f' m A (up V 1 x) G := MF_m h hn k
theorem MF_p2 {E : JE} {rg : Nat → Nat} {f0 f f' : Hp} {m : Nat} {A : Nat → Nat} {V : Nat → Int} {G : Nat → Int → Int} {x : Int} (h : MF E rg f0 f m A V G) (hn : f' m = oB 11 ((mO A V).set 2 (.int (iZ x)))) (k : ∀ b, b ≠ m → f' b = f b) : MF E rg f0 f' m A (up V 2 x) G := MF_m h hn k
theorem MF_p8 {E : JE} {rg : Nat → Nat} {f0 f f' : Hp} {m : Nat} {A : Nat → Nat} {V : Nat → Int} {G : Nat → Int → Int} {x : Int} (h : MF E rg f0 f m A V G) (hn : f' m = oB 11 ((mO A V).set 8 (.int (iZ x)))) (k : ∀ b, b ≠ m → f' b = f b) : MF E rg f0 f' m A (up V 8 x) G := MF_m h hn k
theorem MF_p9 {E : JE} {rg : Nat → Nat} {f0 f f' : Hp} {m : Nat} {A : Nat → Nat} {V : Nat → Int} {G : Nat → Int → Int} {x : Int} (h : MF E rg f0 f m A V G) (hn : f' m = oB 11 ((mO A V).set 9 (.int (iZ x)))) (k : ∀ b, b ≠ m → f' b = f b) : MF E rg f0 f' m A (up V 9 x) G := MF_m h hn k
theorem MF_p10 {E : JE} {rg : Nat → Nat} {f0 f f' : Hp} {m : Nat} {A : Nat → Nat} {V : Nat → Int} {G : Nat → Int → Int} {x : Int} (h : MF E rg f0 f m A V G) (hn : f' m = oB 11 ((mO A V).set 10 (.int (iZ x)))) (k : ∀ b, b ≠ m → f' b = f b) : MF E rg f0 f' m A (up V 10 x) G := MF_m h hn k
theorem MF_p11 {E : JE} {rg : Nat → Nat} {f0 f f' : Hp} {m : Nat} {A : Nat → Nat} {V : Nat → Int} {G : Nat → Int → Int} {x : Int} (h : MF E rg f0 f m A V G) (hn : f' m = oB 11 ((mO A V).set 11 (.int (iZ x)))) (k : ∀ b, b ≠ m → f' b = f b) : MF E rg f0 f' m A (up V 11 x) G := MF_m h hn k
theorem MF_p25 {E : JE} {rg : Nat → Nat} {f0 f f' : Hp} {m : Nat} {A : Nat → Nat} {V : Nat → Int} {G : Nat → Int → Int} {x : Int} (h : MF E rg f0 f m A V G) (hn : f' m = oB 11 ((mO A V).set 25 (.int (iZ x)))) (k : ∀ b, b ≠ m → f' b = f b) : MF E rg f0 f' m A (up V 25 x) G := MF_m h hn k
theorem MF_p26 {E : JE} {rg : Nat → Nat} {f0 f f' : Hp} {m : Nat} {A : Nat → Nat} {V : Nat → Int} {G : Nat → Int → Int} {x : Int} (h : MF E rg f0 f m A V G) (hn : f' m = oB 11 ((mO A V).set 26 (.int (iZ x)))) (k : ∀ b, b ≠ m → f' b = f b) : MF E rg f0 f' m A (up V 26 x) G := MF_m h hn k
theorem MF_p31 {E : JE} {rg : Nat → Nat} {f0 f f' : Hp} {m : Nat} {A : Nat → Nat} {V : Nat → Int} {G : Nat → Int → Int} {x : Int} (h : MF E rg f0 f m A V G) (hn : f' m = oB 11 ((mO A V).set 31 (.int (iZ x)))) (k : ∀ b, b ≠ m → f' b = f b) : MF E rg f0 f' m A (up V 31 x) G := MF_m h hn k
theorem MF_p36 {E : JE} {rg : Nat → Nat} {f0 f f' : Hp} {m : Nat} {A : Nat → Nat} {V : Nat → Int} {G : Nat → Int → Int} {x : Int} (h : MF E rg f0 f m A V G) (hn : f' m = oB 11 ((mO A V).set 36 (.int (iZ x)))) (k : ∀ b, b ≠ m → f' b = f b) : MF E rg f0 f' m A (up V 36 x) G := MF_m h hn k
theorem MF_p44 {E : JE} {rg : Nat → Nat} {f0 f f' : Hp} {m : Nat} {A : Nat → Nat} {V : Nat → Int} {G : Nat → Int → Int} {x : Int} (h : MF E rg f0 f m A V G) (hn : f' m = oB 11 ((mO A V).set 44 (.int (iZ x)))) (k : ∀ b, b ≠ m → f' b = f b) : MF E rg f0 f' m A (up V 44 x) G := MF_m h hn k
theorem MF_p45 {E : JE} {rg : Nat → Nat} {f0 f f' : Hp} {m : Nat} {A : Nat → Nat} {V : Nat → Int} {G : Nat → Int → Int} {x : Int} (h : MF E rg f0 f m A V G) (hn : f' m = oB 11 ((mO A V).set 45 (.int (iZ x)))) (k : ∀ b, b ≠ m → f' b = f b) : MF E rg f0 f' m A (up V 45 x) G := MF_m h hn k
theorem MF_p46 {E : JE} {rg : Nat → Nat} {f0 f f' : Hp} {m : Nat} {A : Nat → Nat} {V : Nat → Int} {G : Nat → Int → Int} {x : Int} (h : MF E rg f0 f m A V G) (hn : f' m = oB 11 ((mO A V).set 46 (.int (iZ x)))) (k : ∀ b, b ≠ m → f' b = f b) : MF E rg f0 f' m A (up V 46 x) G := MF_m h hn k
theorem MF_p47 {E : JE} {rg : Nat → Nat} {f0 f f' : Hp} {m : Nat} {A : Nat → Nat} {V : Nat → Int} {G : Nat → Int → Int} {x : Int} (h : MF E rg f0 f m A V G) (hn : f' m = oB 11 ((mO A V).set 47 (.int (iZ x)))) (k : ∀ b, b ≠ m → f' b = f b) : MF E rg f0 f' m A (up V 47 x) G := MF_m h hn k
theorem MF_p48 {E : JE} {rg : Nat → Nat} {f0 f f' : Hp} {m : Nat} {A : Nat → Nat} {V : Nat → Int} {G : Nat → Int → Int} {x : Int} (h : MF E rg f0 f m A V G) (hn : f' m = oB 11 ((mO A V).set 48 (.long (lZ x)))) (k : ∀ b, b ≠ m → f' b = f b) : MF E rg f0 f' m A (up V 48 x) G := MF_m h hn k
theorem MF_p49 {E : JE} {rg : Nat → Nat} {f0 f f' : Hp} {m : Nat} {A : Nat → Nat} {V : Nat → Int} {G : Nat → Int → Int} {x : Int} (h : MF E rg f0 f m A V G) (hn : f' m = oB 11 ((mO A V).set 49 (.int (iZ x)))) (k : ∀ b, b ≠ m → f' b = f b) : MF E rg f0 f' m A (up V 49 x) G := MF_m h hn k
theorem MF_p50 {E : JE} {rg : Nat → Nat} {f0 f f' : Hp} {m : Nat} {A : Nat → Nat} {V : Nat → Int} {G : Nat → Int → Int} {x : Int} (h : MF E rg f0 f m A V G) (hn : f' m = oB 11 ((mO A V).set 50 (.int (iZ x)))) (k : ∀ b, b ≠ m → f' b = f b) : MF E rg f0 f' m A (up V 50 x) G := MF_m h hn k
theorem MF_p51 {E : JE} {rg : Nat → Nat} {f0 f f' : Hp} {m : Nat} {A : Nat → Nat} {V : Nat → Int} {G : Nat → Int → Int} {x : Int} (h : MF E rg f0 f m A V G) (hn : f' m = oB 11 ((mO A V).set 51 (.int (iZ x)))) (k : ∀ b, b ≠ m → f' b = f b) : MF E rg f0 f' m A (up V 51 x) G := MF_m h hn k
