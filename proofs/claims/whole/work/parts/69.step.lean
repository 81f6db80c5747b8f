theorem M1_0 {g tl : Int → Int} {len p q : Int} {t : Nat} : M1 g tl len t (p, 0, q) = if letr g len p ≠ -1 ∧ tl (letr g len p) = -1 ∧ t < 12 then (nx g len p, 0, q) else (p, 1, p) := by
  unfold M1
  by_cases c : letr g len p ≠ -1 ∧ tl (letr g len p) = -1 ∧ t < 12
  · rw [if_pos c, if_pos c]; exact mF_y
  · rw [if_neg c, if_neg c]; exact mF_n
theorem M2_0 {g : Int → Int} {len p q : Int} : M2 g len (p, 0, q) = if sgn g len p 61 = false then (p, 1, p) else (nx g len p, 0, q) := by
  unfold M2
  by_cases c : sgn g len p 61 = true
  · rw [if_pos c, if_neg (by rw [c]; decide)]; exact mF_y
  · rw [if_neg c, if_pos (by simpa using c)]; exact mF_n
theorem M2_1 {g : Int → Int} {len p q : Int} : M2 g len (p, 1, q) = (p, 1, q) := mF_b
theorem M3_0 {g : Int → Int} {len p q : Int} : M3 g len (p, 0, q) = if kdF g len p = -1 then (p, 1, p) else (nx g len p, 0, q) := by
  unfold M3
  by_cases c : kdF g len p = -1
  · rw [if_neg (fun h => h c), if_pos c]; exact mF_n
  · rw [if_pos c, if_neg c]; exact mF_y
theorem M3_1 {g : Int → Int} {len p q : Int} : M3 g len (p, 1, q) = (p, 1, q) := mF_b
theorem RK_1 {g tl : Int → Int} {len kd p q : Int} : RK g tl len kd (p, 1, q) = (p, 1, q) := by
  unfold RK
  rw [MN_1, MC_1, MQ_1, sg_b, MD_1, MD_1, MD_1, MD_1, MN_1]
  repeat' split
  all_goals rfl
/-- what stands in the arrays of a MAKING F -/
def frel (F : Int → Int) (k a b c r : Int) : Prop := k = F 0 ∧ (F 0 = 0 → a = F 5) ∧ (F 0 ≠ 0 → a = F 1) ∧ (F 0 = 11 ∨ F 0 = 12 → b = F 2) ∧ (F 0 ≠ 0 ∧ ¬ (F 0 = 11 ∨ F 0 = 12) → b = F 5) ∧ (F 0 = 1 → c = F 3 ∧ r = F 4)
def RTS (g tl : Int → Int) (len : Int) (t : Nat) (S : T3) : T3 := RK g tl len (kdF g len (M2 g len (M1 g tl len t S)).1) (M3 g len (M2 g len (M1 g tl len t S)))
theorem rt_bad {g tl : Int → Int} {len s fl : Int} {t : Nat} {M : Int → Int → Int} (ht : t ≤ 12) (hs : 0 ≤ s ∧ s ≤ len) (h : (RTS g tl len t (s, 0, fl)).2.1 ≠ 0) : prsL g len (12 - t) t tl M s = ((RTS g tl len t (s, 0, fl)).2.2, t, M) ∧ 0 ≤ (RTS g tl len t (s, 0, fl)).2.2 := by
  have q0 := nx_rng (g := g) hs
  have q1 := nx_rng (g := g) q0
  have q2 := nx_rng (g := g) q1
  unfold RTS at h ⊢
  by_cases c1 : letr g len s ≠ -1 ∧ tl (letr g len s) = -1 ∧ t < 12
  · rw [M1_0, if_pos c1, M2_0] at h ⊢
    rw [show 12 - t = (11 - t) + 1 by omega]
    unfold prsL
    rw [if_neg (by rintro (q | q); exact c1.1 q; exact q c1.2.1)]
    by_cases c2 : sgn g len (nx g len s) 61 = false
    · rw [if_pos c2] at h ⊢
      rw [if_pos c2, M3_1, RK_1]; exact ⟨rfl, q0.1⟩
    rw [if_neg c2] at h ⊢
    rw [if_neg c2, M3_0]
    rw [M3_0] at h
    by_cases c3 : kdF g len (nx g len (nx g len s)) = -1
    · rw [if_pos c3, if_pos c3, RK_1]; exact ⟨rfl, q1.1⟩
    rw [if_neg c3, if_neg c3, RK_out]
    rw [if_neg c3, RK_out] at h
    cases hp : parts g tl len (kdF g len (nx g len (nx g len s))) (nx g len (nx g len (nx g len s))) with
    | mk p o =>
      cases o with
      | none => exact ⟨rfl, (parts_rng hp q2).1⟩
      | some F => rw [show (nx g len (nx g len s), (0 : Int), fl).1 = nx g len (nx g len s) from rfl, hp] at h; exact absurd rfl h
  · rw [M1_0, if_neg c1, M2_1, M3_1, RK_1]
    by_cases c0 : t = 12
    · subst c0; exact ⟨rfl, hs.1⟩
    · rw [show 12 - t = (11 - t) + 1 by omega]
      unfold prsL
      rw [if_pos (by
        by_cases q : letr g len s = -1
        · exact Or.inl q
        · exact Or.inr (fun q2 => c1 ⟨q, q2, by omega⟩))]
      exact ⟨rfl, hs.1⟩
theorem rel_wo {g : Int → Int} {len s : Int} (hs : 0 ≤ s ∧ s ≤ len) (h : relF g len s ≠ -1) : woF g len s = relF g len s := by
  unfold relF at h ⊢
  by_cases c1 : sgn g len s 60 = true
  · rw [if_pos c1]; exact ((sign_iff hs (by omega)).mpr c1).2
  rw [if_neg c1] at h ⊢
  by_cases c2 : sgn g len s 62 = true
  · rw [if_pos c2]; exact ((sign_iff hs (by omega)).mpr c2).2
  rw [if_neg c2] at h ⊢
  by_cases c3 : sgn g len s 61 = true
  · rw [if_pos c3]; exact ((sign_iff hs (by omega)).mpr c3).2
  rw [if_neg c3] at h; exact absurd rfl h
theorem rt_good {g tl : Int → Int} {len s fl : Int} {t : Nat} {M : Int → Int → Int} (hs : 0 ≤ s ∧ s ≤ len) (h : (RTS g tl len t (s, 0, fl)).2.1 = 0) : t < 12 ∧ (0 ≤ letr g len s ∧ letr g len s < 26) ∧ ∃ (F : Int → Int) (p : Int), RTS g tl len t (s, 0, fl) = (p, 0, fl) ∧ (0 ≤ p ∧ p ≤ len) ∧ M3 g len (M2 g len (M1 g tl len t (s, 0, fl))) = (nx g len (nx g len (nx g len s)), 0, fl) ∧ kdF g len (M2 g len (M1 g tl len t (s, 0, fl))).1 = kdF g len (nx g len (nx g len s)) ∧ kdF g len (nx g len (nx g len s)) ≠ -1 ∧ parts g tl len (kdF g len (nx g len (nx g len s))) (nx g len (nx g len (nx g len s))) = (p, some F) ∧ prsL g len (12 - t) t tl M s = (if len ≤ p then (-1, t + 1, fup M t F) else if sgn g len p 59 = false then (p, t + 1, fup M t F) else prsL g len (12 - (t + 1)) (t + 1) (fup tl (letr g len s) t) (fup M t F) (nx g len p)) := by
  have q0 := nx_rng (g := g) hs
  have q1 := nx_rng (g := g) q0
  have q2 := nx_rng (g := g) q1
  have lr := letr_rng (g := g) (len := len) (s := s)
  have ok := rt_ok h
  have c1 : letr g len s ≠ -1 ∧ tl (letr g len s) = -1 ∧ t < 12 := ok.2
  unfold RTS at h ⊢
  rw [M1_0, if_pos c1, M2_0] at h ⊢
  by_cases c2 : sgn g len (nx g len s) 61 = false
  · rw [if_pos c2, M3_1, RK_1] at h; exact absurd h (show ¬ (1 : Int) = 0 by decide)
  rw [if_neg c2] at h ⊢
  rw [M3_0] at h ⊢
  by_cases c3 : kdF g len (nx g len (nx g len s)) = -1
  · rw [if_pos c3, RK_1] at h; exact absurd h (show ¬ (1 : Int) = 0 by decide)
  rw [if_neg c3] at h ⊢
  rw [RK_out] at h ⊢
  rw [show (nx g len (nx g len s), (0 : Int), fl).1 = nx g len (nx g len s) from rfl] at h ⊢
  cases hp : parts g tl len (kdF g len (nx g len (nx g len s))) (nx g len (nx g len (nx g len s))) with
  | mk p o =>
    cases o with
    | none => rw [hp] at h; exact absurd h (show ¬ (1 : Int) = 0 by decide)
    | some F =>
      refine ⟨c1.2.2, by omega, F, p, rfl, parts_rng hp q2, rfl, rfl, c3, rfl, ?_⟩
      rw [show 12 - t = (11 - t) + 1 by omega]
      rw [prsL, if_neg (by rintro (q | q); exact c1.1 q; exact q c1.2.1), if_neg c2, if_neg c3, hp]
      dsimp only
      rw [show 12 - (t + 1) = 11 - t by omega]
theorem rt_vals {g tl : Int → Int} {len p3 fl p kd a b c r : Int} {F : Int → Int} (hp3 : 0 ≤ p3 ∧ p3 ≤ len) (hkd : 0 ≤ kd ∧ kd ≤ 12) (hp : parts g tl len kd p3 = (p, some F)) (h : (kd = 0 → a = woF g len p3) ∧ (kd ≠ 0 → a = nameT g tl len p3) ∧ (kd = 1 → c = colF g len (MN g tl len (p3, 0, fl)).1 ∧ r = woF g len (MC g len (MN g tl len (p3, 0, fl))).1 ∧ b = sgV g len (MQ9 g len (MC g len (MN g tl len (p3, 0, fl))))) ∧ (kd = 2 ∨ kd = 3 → b = sgV g len (MN g tl len (p3, 0, fl))) ∧ (kd = 4 ∨ kd = 5 → b = woF g len (MN g tl len (p3, 0, fl)).1) ∧ (kd = 11 ∨ kd = 12 → b = nameT g tl len (MN g tl len (p3, 0, fl)).1) ∧ (6 ≤ kd ∧ kd ≤ 10 → b = 0)) : frel F kd a b c r := by
  obtain ⟨v0, v1, v2, v3, v4, v5, v6⟩ := h
  have q0 := nx_rng (g := g) hp3
  have q1 := nx_rng (g := g) q0
  have q2 := nx_rng (g := g) q1
  have fin : ∀ {A B C R N : Int}, F = mk6 kd A B C R N → (kd = 0 → a = N) → (kd ≠ 0 → a = A) → (kd = 11 ∨ kd = 12 → b = B) → (kd ≠ 0 ∧ ¬ (kd = 11 ∨ kd = 12) → b = N) → (kd = 1 → c = C ∧ r = R) → frel F kd a b c r := fun e e1 e2 e3 e4 e5 => by rw [e]; exact ⟨rfl, e1, e2, e3, e4, e5⟩
  unfold parts at hp
  by_cases k0 : kd = 0
  · rw [if_pos k0] at hp
    split at hp
    · rename_i d
      have e := Option.some.inj (congrArg Prod.snd hp)
      exact fin e.symm (fun _ => by rw [v0 k0]; exact num_eq hp3 (by omega)) (fun q => absurd k0 q) (fun q => by omega) (fun q => absurd k0 q.1) (fun q => by omega)
    · exact absurd (congrArg Prod.snd hp) (by simp)
  rw [if_neg k0] at hp
  by_cases n1 : nameT g tl len p3 = -1
  · rw [if_pos n1] at hp; exact absurd (congrArg Prod.snd hp) (by simp)
  rw [if_neg n1] at hp
  rw [MN_0, if_neg n1] at v2 v3 v4 v5
  by_cases k1 : kd = 1
  · rw [if_pos k1] at hp
    by_cases d1 : colF g len (nx g len p3) = -1
    · rw [if_pos d1] at hp; exact absurd (congrArg Prod.snd hp) (by simp)
    rw [if_neg d1] at hp
    rw [MC_0, if_neg d1] at v2
    by_cases d2 : relF g len (nx g len (nx g len p3)) = -1
    · rw [if_pos d2] at hp; exact absurd (congrArg Prod.snd hp) (by simp)
    rw [if_neg d2] at hp
    rw [MQ_0, if_neg d2] at v2
    split at hp
    · rename_i d
      have e := Option.some.inj (congrArg Prod.snd hp)
      have w := v2 k1
      have nn := num_eq (nmS_rng (g := g) q2) d
      exact fin e.symm (fun q => absurd q k0) v1 (fun q => by omega) (fun _ => by rw [w.2.2]; exact sgV_y nn) (fun _ => ⟨w.1, by rw [w.2.1]; exact rel_wo q1 d2⟩)
    · exact absurd (congrArg Prod.snd hp) (by simp)
  rw [if_neg k1] at hp
  by_cases k2 : kd = 2 ∨ kd = 3
  · rw [if_pos k2] at hp
    split at hp
    · rename_i d
      have e := Option.some.inj (congrArg Prod.snd hp)
      have nn := num_eq (nmS_rng (g := g) q0) d
      exact fin e.symm (fun q => absurd q k0) v1 (fun q => by omega) (fun _ => by rw [v3 k2]; exact sgV_y nn) (fun q => absurd q k1)
    · exact absurd (congrArg Prod.snd hp) (by simp)
  rw [if_neg k2] at hp
  by_cases k4 : kd = 4
  · rw [if_pos k4] at hp
    split at hp
    · rename_i d
      have e := Option.some.inj (congrArg Prod.snd hp)
      exact fin e.symm (fun q => absurd q k0) v1 (fun q => by omega) (fun _ => by rw [v4 (Or.inl k4)]; exact num_eq (s := nx g len p3) q0 (by omega)) (fun q => absurd q k1)
    · exact absurd (congrArg Prod.snd hp) (by simp)
  rw [if_neg k4] at hp
  by_cases k5 : kd = 5
  · rw [if_pos k5] at hp
    split at hp
    · rename_i d
      have e := Option.some.inj (congrArg Prod.snd hp)
      exact fin e.symm (fun q => absurd q k0) v1 (fun q => by omega) (fun _ => by rw [v4 (Or.inr k5)]; exact num_eq (s := nx g len p3) q0 (by omega)) (fun q => absurd q k1)
    · exact absurd (congrArg Prod.snd hp) (by simp)
  rw [if_neg k5] at hp
  by_cases k6 : kd = 11 ∨ kd = 12
  · rw [if_pos k6] at hp
    by_cases d1 : nameT g tl len (nx g len p3) = -1
    · rw [if_pos d1] at hp; exact absurd (congrArg Prod.snd hp) (by simp)
    rw [if_neg d1] at hp
    have e := Option.some.inj (congrArg Prod.snd hp)
    exact fin e.symm (fun q => absurd q k0) v1 (fun _ => v5 k6) (fun q => absurd k6 q.2) (fun q => absurd q k1)
  rw [if_neg k6] at hp
  have e := Option.some.inj (congrArg Prod.snd hp)
  exact fin e.symm (fun q => absurd q k0) v1 (fun q => absurd q k6) (fun _ => v6 (by omega)) (fun q => absurd q k1)
