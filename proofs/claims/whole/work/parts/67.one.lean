/-! ===== one TABLE of a TEXT ===== -/
theorem mF_b {g : Int → Int} {len z p q : Int} : mustF g len z (p, 1, q) = (p, 1, q) := by unfold mustF; rw [if_pos (show (1 : Int) ≠ 0 by decide)]
theorem mF_n {g : Int → Int} {len p q : Int} : mustF g len 0 (p, 0, q) = (p, 1, p) := by unfold mustF; rw [if_neg (fun h => h rfl), if_pos rfl]
theorem mF_y {g : Int → Int} {len p q : Int} : mustF g len 1 (p, 0, q) = (nx g len p, 0, q) := by unfold mustF; rw [if_neg (fun h => h rfl), if_neg (by decide)]
theorem sg_b {g : Int → Int} {len p q : Int} : sgS g len (p, 1, q) = (p, 1, q) := by unfold sgS; rw [if_neg (fun h => absurd h.1 (show ¬ (1 : Int) = 0 by decide))]
theorem sg_y {g : Int → Int} {len p q : Int} : sgS g len (p, 0, q) = (nmS g len p, 0, q) := by
  unfold sgS nmS
  by_cases c : sgn g len p 45 = true
  · rw [if_pos ⟨rfl, c⟩, if_pos c]
  · rw [if_neg (fun h => c h.2), if_neg c]
theorem sgV_y {g : Int → Int} {len p q : Int} (h : woF g len (nmS g len p) = dgt g len (nmS g len p)) : sgV g len (p, 0, q) = nmV g len p := by
  unfold sgV nmV
  rw [sg_y, h]
  by_cases c : sgn g len p 45 = true
  · rw [if_pos ⟨rfl, c⟩, if_pos c]
  · rw [if_neg (fun h => c h.2), if_neg c]
def M1 (g tl : Int → Int) (len : Int) (t : Nat) (S : T3) : T3 := mustF g len (if letr g len S.1 ≠ -1 ∧ tl (letr g len S.1) = -1 ∧ t < 12 then 1 else 0) S
def M2 (g : Int → Int) (len : Int) (S : T3) : T3 := mustF g len (if sgn g len S.1 61 = true then 1 else 0) S
def M3 (g : Int → Int) (len : Int) (S : T3) : T3 := mustF g len (if kdF g len S.1 ≠ -1 then 1 else 0) S
def MD (g : Int → Int) (len lo hi : Int) (S : T3) : T3 := mustF g len (if lo ≤ dgt g len S.1 ∧ dgt g len S.1 ≤ hi then 1 else 0) S
def MN (g tl : Int → Int) (len : Int) (S : T3) : T3 := mustF g len (if nameT g tl len S.1 ≠ -1 then 1 else 0) S
def MC (g : Int → Int) (len : Int) (S : T3) : T3 := mustF g len (if colF g len S.1 ≠ -1 then 1 else 0) S
def MQ9 (g : Int → Int) (len : Int) (S : T3) : T3 := mustF g len (if relF g len S.1 ≠ -1 then 1 else 0) S
def RK (g tl : Int → Int) (len kd : Int) (S : T3) : T3 :=
  if kd = 0 then MD g len 0 2 S
  else if kd = 1 then MD g len 0 1000 (sgS g len (MQ9 g len (MC g len (MN g tl len S))))
  else if kd = 2 ∨ kd = 3 then MD g len 0 1000 (sgS g len (MN g tl len S))
  else if kd = 4 then MD g len 0 31 (MN g tl len S)
  else if kd = 5 then MD g len 1 1000 (MN g tl len S)
  else if kd = 11 ∨ kd = 12 then MN g tl len (MN g tl len S)
  else MN g tl len S
/-- what a TEXT's TABLE leaves: where it stands, or the FAULT -/
def outS (r : Int × Option (Int → Int)) (fl : Int) : T3 := match r with
  | (p, none) => (p, 1, p)
  | (p, some _) => (p, 0, fl)
theorem MD_0 {g : Int → Int} {len lo hi p q : Int} : MD g len lo hi (p, 0, q) = if lo ≤ dgt g len p ∧ dgt g len p ≤ hi then (nx g len p, 0, q) else (p, 1, p) := by
  unfold MD
  by_cases c : lo ≤ dgt g len p ∧ dgt g len p ≤ hi
  · rw [if_pos c, if_pos c]; exact mF_y
  · rw [if_neg c, if_neg c]; exact mF_n
theorem MD_1 {g : Int → Int} {len lo hi p q : Int} : MD g len lo hi (p, 1, q) = (p, 1, q) := mF_b
theorem MN_0 {g tl : Int → Int} {len p q : Int} : MN g tl len (p, 0, q) = if nameT g tl len p = -1 then (p, 1, p) else (nx g len p, 0, q) := by
  unfold MN
  by_cases c : nameT g tl len p = -1
  · rw [if_neg (fun h => h c), if_pos c]; exact mF_n
  · rw [if_pos c, if_neg c]; exact mF_y
theorem MN_1 {g tl : Int → Int} {len p q : Int} : MN g tl len (p, 1, q) = (p, 1, q) := mF_b
theorem MC_0 {g : Int → Int} {len p q : Int} : MC g len (p, 0, q) = if colF g len p = -1 then (p, 1, p) else (nx g len p, 0, q) := by
  unfold MC
  by_cases c : colF g len p = -1
  · rw [if_neg (fun h => h c), if_pos c]; exact mF_n
  · rw [if_pos c, if_neg c]; exact mF_y
theorem MC_1 {g : Int → Int} {len p q : Int} : MC g len (p, 1, q) = (p, 1, q) := mF_b
theorem MQ_0 {g : Int → Int} {len p q : Int} : MQ9 g len (p, 0, q) = if relF g len p = -1 then (p, 1, p) else (nx g len p, 0, q) := by
  unfold MQ9
  by_cases c : relF g len p = -1
  · rw [if_neg (fun h => h c), if_pos c]; exact mF_n
  · rw [if_pos c, if_neg c]; exact mF_y
theorem MQ_1 {g : Int → Int} {len p q : Int} : MQ9 g len (p, 1, q) = (p, 1, q) := mF_b
theorem mF_ok {g : Int → Int} {len z : Int} {S : T3} (h : (mustF g len z S).2.1 = 0) : S.2.1 = 0 ∧ z ≠ 0 := by
  unfold mustF at h
  split at h
  · rename_i c; exact absurd h c
  · rename_i c
    split at h
    · exact absurd h (show ¬ (1 : Int) = 0 by decide)
    · rename_i c2; exact ⟨by omega, c2⟩
theorem sg_ok {g : Int → Int} {len : Int} {S : T3} (h : (sgS g len S).2.1 = 0) : S.2.1 = 0 := by
  unfold sgS at h
  split at h
  · exact h
  · exact h
theorem RK_ok {g tl : Int → Int} {len kd : Int} {S : T3} (h : (RK g tl len kd S).2.1 = 0) : S.2.1 = 0 := by
  unfold RK at h
  split at h
  · exact (mF_ok h).1
  · split at h
    · exact (mF_ok (mF_ok (mF_ok (sg_ok (mF_ok h).1)).1).1).1
    · split at h
      · exact (mF_ok (sg_ok (mF_ok h).1)).1
      · split at h
        · exact (mF_ok (mF_ok h).1).1
        · split at h
          · exact (mF_ok (mF_ok h).1).1
          · split at h
            · exact (mF_ok (mF_ok h).1).1
            · exact (mF_ok h).1
theorem rt_ok {g tl : Int → Int} {len kd : Int} {t : Nat} {S : T3} (h : (RK g tl len kd (M3 g len (M2 g len (M1 g tl len t S)))).2.1 = 0) : S.2.1 = 0 ∧ letr g len S.1 ≠ -1 ∧ tl (letr g len S.1) = -1 ∧ t < 12 := by
  have h1 := mF_ok (mF_ok (mF_ok (RK_ok h)).1).1
  refine ⟨h1.1, ?_⟩
  have h2 := h1.2
  by_cases c : letr g len S.1 ≠ -1 ∧ tl (letr g len S.1) = -1 ∧ t < 12
  · exact c
  · rw [if_neg c] at h2; exact absurd rfl h2
theorem RK_out {g tl : Int → Int} {len kd p fl : Int} : RK g tl len kd (p, 0, fl) = outS (parts g tl len kd p) fl := by
  unfold RK parts
  by_cases k0 : kd = 0
  · rw [if_pos k0, if_pos k0, MD_0]
    split <;> rfl
  rw [if_neg k0, if_neg k0]
  by_cases n1 : nameT g tl len p = -1
  · rw [if_pos n1, MN_0, if_pos n1, MC_1, MQ_1, sg_b, MD_1, MD_1, MD_1, MN_1]
    show _ = (p, 1, p)
    repeat' split
    all_goals rfl
  rw [if_neg n1, MN_0, if_neg n1]
  by_cases k1 : kd = 1
  · rw [if_pos k1, if_pos k1, MC_0]
    by_cases c1 : colF g len (nx g len p) = -1
    · rw [if_pos c1, if_pos c1, MQ_1, sg_b, MD_1]; rfl
    rw [if_neg c1, if_neg c1, MQ_0]
    by_cases c2 : relF g len (nx g len (nx g len p)) = -1
    · rw [if_pos c2, if_pos c2, sg_b, MD_1]; rfl
    rw [if_neg c2, if_neg c2, sg_y, MD_0]
    split <;> rfl
  rw [if_neg k1, if_neg k1]
  by_cases k2 : kd = 2 ∨ kd = 3
  · rw [if_pos k2, if_pos k2, sg_y, MD_0]
    split <;> rfl
  rw [if_neg k2, if_neg k2]
  by_cases k4 : kd = 4
  · rw [if_pos k4, if_pos k4, MD_0]
    split <;> rfl
  rw [if_neg k4, if_neg k4]
  by_cases k5 : kd = 5
  · rw [if_pos k5, if_pos k5, MD_0]
    split <;> rfl
  rw [if_neg k5, if_neg k5]
  by_cases k6 : kd = 11 ∨ kd = 12
  · rw [if_pos k6, if_pos k6, MN_0]
    split <;> rfl
  rw [if_neg k6, if_neg k6]
  rfl
