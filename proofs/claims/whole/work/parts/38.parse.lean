def wh3 (g : Int → Int) (len kd n c r s : Int) : Int × Option (Int → Int) :=
  if 0 ≤ dgt g len (nmS g len s) ∧ dgt g len (nmS g len s) ≤ 1000 then (nx g len (nmS g len s), some (mk6 kd n (-1) c r (nmV g len s))) else (nmS g len s, none)
def wh2 (g : Int → Int) (len kd n c s : Int) : Int × Option (Int → Int) := if relF g len s = -1 then (s, none) else wh3 g len kd n c (relF g len s) (nx g len s)
def wh1 (g : Int → Int) (len kd n s : Int) : Int × Option (Int → Int) := if colF g len s = -1 then (s, none) else wh2 g len kd n (colF g len s) (nx g len s)
theorem parts_wh {g tl : Int → Int} {len kd s : Int} (hk : kd = 1) (hn : nameT g tl len s ≠ -1) : parts g tl len kd s = wh1 g len kd (nameT g tl len s) (nx g len s) := by
  unfold parts
  rw [if_neg (by omega), if_neg hn, if_pos hk]
  rfl
theorem sg_X4_parts_110 {G : JG} {l : Launch} {E : JE} {P : Option Value → Hp → Prop} (hG : jX G l E cX4_takeParts RX4 3 rmX4_takeParts) (hZ : jZ G (some .boolean) P) {pa tp by0 tl0 : Nat} {len s : Int} {g : Int → Int} {mg : Nat} {kd n c r : Int} {f1 : Hp} (hpa : f1 pa = oB 4 [.ref tl0]) (h : f1 tp = oB 9 [.ref by0, .int (iZ (len)), .int (iZ (s)), .int (iZ (tE g len s))]) (hb : f1 by0 = aI (E.2.1 3) 300 (g)) (hmg : f1 mg = oB 3 [.int (iZ (kd)), .int (iZ (n)), .int (iZ (-1)), .int (iZ (c)), .int (iZ (r)), .int (iZ (0))]) (hl : 0 ≤ len ∧ len ≤ 300) (hg : bOk g) (hs : 0 ≤ s ∧ s ≤ len) (hP : ∀ (z p : Int) (F : Int → Int) (f' : Hp), ((z = 1 ∧ wh3 g len kd n c r s = (p, some F)) ∨ (z = 0 ∧ wh3 g len kd n c r s = (p, none))) → f' tp = oB 9 [.ref by0, .int (iZ len), .int (iZ p), .int (iZ (tE g len p))] → f' mg = oB 3 [.int (iZ (F 0)), .int (iZ (F 1)), .int (iZ (F 2)), .int (iZ (F 3)), .int (iZ (F 4)), .int (iZ (F 5))] → (∀ q, q ≠ tp → q ≠ mg → f' q = f1 q) → P (some (.int (iZ z))) f') : J G 0 0 f1 110 [(0, .ref pa), (1, .ref tp), (2, .ref mg)] [] := by
  have q0 := nx_rng (g := g) hs
  have q3 := nmS_rng (g := g) hs
  refine j_aload_n hG dX4_takeParts_110 rfl rfl ?_
  refine j_aload_n hG dX4_takeParts_111 rfl rfl ?_
  refine j_aload_n hG dX4_takeParts_112 rfl rfl ?_
  refine j_callV (rest := []) hG vX4_121 dX4_takeParts_113 (c_X4_takeNumber hpa h hb hmg hl hg (by omega)) hpa rfl rfl (by decide) (by decide) (Nat.le_of_ble_eq_true rfl) rfl rfl (Nat.zero_le _) (Nat.zero_le _) ?_
  rintro _ f10 ⟨z1, p2, u3, rfl, hq4, ht5, hm6, fr7⟩
  refine j_st (st' := [.int (iZ (z1))]) rfl ?_
  have h11 := (fr7 pa (h_ne hpa h (oo_n (by decide))) (h_ne hpa hmg (oo_n (by decide)))).trans hpa
  have h12 := (fr7 by0 (h_ne hb h (Ne.symm oa_I)) (h_ne hb hmg (Ne.symm oa_I))).trans hb
  refine j_if_eq (tgt := 123) hG dX4_takeParts_116 (by decide) (by omega) (fun c13 => ?_) (fun c13 => ?_)
  · -- taken at 116
    obtain ⟨-, e9, rfl, rfl⟩ := hq4.resolve_left (fun h => absurd h.1 (by omega))
    refine j_iconst hG dX4_takeParts_123 ?_
    exact j_zret hG hZ dX4_takeParts_124 (Nat.zero_le _) (Nat.zero_le _) (nar_zr (by omega)) (hP 0 (nmS g len s) (mk6 kd n (-1) c r 0) f10 (Or.inr ⟨rfl, by unfold wh3; exact if_neg (by omega)⟩) ht5 hm6 (fun q q1 q2 => (fr7 q q1 q2)))
  · -- on at 116
    obtain ⟨-, e8, rfl, rfl⟩ := hq4.resolve_right (fun h => absurd h.1 (by omega))
    refine j_iconst hG dX4_takeParts_119 ?_
    refine j_goto (tgt := 124) hG dX4_takeParts_120 (by decide) ?_
    exact j_zret hG hZ dX4_takeParts_124 (Nat.zero_le _) (Nat.zero_le _) (nar_zr (by omega)) (hP 1 (nx g len (nmS g len s)) (mk6 kd n (-1) c r (nmV g len s)) f10 (Or.inl ⟨rfl, by unfold wh3; exact if_pos (by omega)⟩) ht5 hm6 (fun q q1 q2 => (fr7 q q1 q2)))
theorem sg_X4_parts_101 {G : JG} {l : Launch} {E : JE} {P : Option Value → Hp → Prop} (hG : jX G l E cX4_takeParts RX4 3 rmX4_takeParts) (hZ : jZ G (some .boolean) P) {pa tp by0 tl0 : Nat} {len s : Int} {g : Int → Int} {mg : Nat} {kd n c : Int} {f1 : Hp} (hpa : f1 pa = oB 4 [.ref tl0]) (h : f1 tp = oB 9 [.ref by0, .int (iZ (len)), .int (iZ (s)), .int (iZ (tE g len s))]) (hb : f1 by0 = aI (E.2.1 3) 300 (g)) (hmg : f1 mg = oB 3 [.int (iZ (kd)), .int (iZ (n)), .int (iZ (-1)), .int (iZ (c)), .int (iZ (61)), .int (iZ (0))]) (hl : 0 ≤ len ∧ len ≤ 300) (hg : bOk g) (hs : 0 ≤ s ∧ s ≤ len) (hP : ∀ (z p : Int) (F : Int → Int) (f' : Hp), ((z = 1 ∧ wh2 g len kd n c s = (p, some F)) ∨ (z = 0 ∧ wh2 g len kd n c s = (p, none))) → f' tp = oB 9 [.ref by0, .int (iZ len), .int (iZ p), .int (iZ (tE g len p))] → f' mg = oB 3 [.int (iZ (F 0)), .int (iZ (F 1)), .int (iZ (F 2)), .int (iZ (F 3)), .int (iZ (F 4)), .int (iZ (F 5))] → (∀ q, q ≠ tp → q ≠ mg → f' q = f1 q) → P (some (.int (iZ z))) f') : J G 0 0 f1 101 [(0, .ref pa), (1, .ref tp), (2, .ref mg)] [] := by
  have q0 := nx_rng (g := g) hs
  have q3 := nmS_rng (g := g) hs
  refine j_aload_n hG dX4_takeParts_101 rfl rfl ?_
  refine j_aload_n hG dX4_takeParts_102 rfl rfl ?_
  refine j_aload_n hG dX4_takeParts_103 rfl rfl ?_
  refine j_callV (rest := []) hG vX4_118 dX4_takeParts_104 (c_X4_takeRelation hpa h hb hmg hl hg (by omega)) hpa rfl rfl (by decide) (by decide) (Nat.le_of_ble_eq_true rfl) rfl rfl (Nat.zero_le _) (Nat.zero_le _) ?_
  rintro _ f10 ⟨z1, p2, u3, rfl, hq4, ht5, hm6, fr7⟩
  refine j_st (st' := [.int (iZ (z1))]) rfl ?_
  have h11 := (fr7 pa (h_ne hpa h (oo_n (by decide))) (h_ne hpa hmg (oo_n (by decide)))).trans hpa
  have h12 := (fr7 by0 (h_ne hb h (Ne.symm oa_I)) (h_ne hb hmg (Ne.symm oa_I))).trans hb
  refine j_if_eq (tgt := 123) hG dX4_takeParts_107 (by decide) (by omega) (fun c13 => ?_) (fun c13 => ?_)
  · -- taken at 107
    obtain ⟨-, e9, rfl⟩ := hq4.resolve_left (fun h => absurd h.1 (by omega))
    refine j_iconst hG dX4_takeParts_123 ?_
    exact j_zret hG hZ dX4_takeParts_124 (Nat.zero_le _) (Nat.zero_le _) (nar_zr (by omega)) (hP 0 s (mk6 kd n (-1) c u3 0) f10 (Or.inr ⟨rfl, by unfold wh2; exact if_pos (by omega)⟩) ht5 hm6 (fun q q1 q2 => (fr7 q q1 q2)))
  · -- on at 107
    obtain ⟨-, e8, rfl, rfl⟩ := hq4.resolve_right (fun h => absurd h.1 (by omega))
    have e9 : wh2 g len kd n c s = wh3 g len kd n c (relF g len s) (nx g len s) := by unfold wh2; exact if_neg (by omega)
    exact sg_X4_parts_110 hG hZ h11 ht5 h12 hm6 hl hg (by omega) (fun z p F f' a1 a2 a3 a4 => hP z p F f' (by rw [e9]; exact a1) a2 a3 (fun q q1 q2 => (a4 q q1 q2).trans (fr7 q q1 q2)))
theorem sg_X4_parts_92 {G : JG} {l : Launch} {E : JE} {P : Option Value → Hp → Prop} (hG : jX G l E cX4_takeParts RX4 3 rmX4_takeParts) (hZ : jZ G (some .boolean) P) {pa tp by0 tl0 : Nat} {len s : Int} {g : Int → Int} {mg : Nat} {kd n : Int} {f1 : Hp} (hpa : f1 pa = oB 4 [.ref tl0]) (h : f1 tp = oB 9 [.ref by0, .int (iZ (len)), .int (iZ (s)), .int (iZ (tE g len s))]) (hb : f1 by0 = aI (E.2.1 3) 300 (g)) (hmg : f1 mg = oB 3 [.int (iZ (kd)), .int (iZ (n)), .int (iZ (-1)), .int (iZ (0)), .int (iZ (61)), .int (iZ (0))]) (hl : 0 ≤ len ∧ len ≤ 300) (hg : bOk g) (hs : 0 ≤ s ∧ s ≤ len) (hP : ∀ (z p : Int) (F : Int → Int) (f' : Hp), ((z = 1 ∧ wh1 g len kd n s = (p, some F)) ∨ (z = 0 ∧ wh1 g len kd n s = (p, none))) → f' tp = oB 9 [.ref by0, .int (iZ len), .int (iZ p), .int (iZ (tE g len p))] → f' mg = oB 3 [.int (iZ (F 0)), .int (iZ (F 1)), .int (iZ (F 2)), .int (iZ (F 3)), .int (iZ (F 4)), .int (iZ (F 5))] → (∀ q, q ≠ tp → q ≠ mg → f' q = f1 q) → P (some (.int (iZ z))) f') : J G 0 0 f1 92 [(0, .ref pa), (1, .ref tp), (2, .ref mg)] [] := by
  have q0 := nx_rng (g := g) hs
  have q3 := nmS_rng (g := g) hs
  refine j_aload_n hG dX4_takeParts_92 rfl rfl ?_
  refine j_aload_n hG dX4_takeParts_93 rfl rfl ?_
  refine j_aload_n hG dX4_takeParts_94 rfl rfl ?_
  refine j_callV (rest := []) hG vX4_115 dX4_takeParts_95 (c_X4_takeColumn h hb hmg hl hg (by omega)) hpa rfl rfl (by decide) (by decide) (Nat.le_of_ble_eq_true rfl) rfl rfl (Nat.zero_le _) (Nat.zero_le _) ?_
  rintro _ f10 ⟨z1, p2, u3, rfl, hq4, ht5, hm6, fr7⟩
  refine j_st (st' := [.int (iZ (z1))]) rfl ?_
  have h11 := (fr7 pa (h_ne hpa h (oo_n (by decide))) (h_ne hpa hmg (oo_n (by decide)))).trans hpa
  have h12 := (fr7 by0 (h_ne hb h (Ne.symm oa_I)) (h_ne hb hmg (Ne.symm oa_I))).trans hb
  refine j_if_eq (tgt := 123) hG dX4_takeParts_98 (by decide) (by omega) (fun c13 => ?_) (fun c13 => ?_)
  · -- taken at 98
    obtain ⟨-, e9, rfl, rfl⟩ := hq4.resolve_left (fun h => absurd h.1 (by omega))
    refine j_iconst hG dX4_takeParts_123 ?_
    exact j_zret hG hZ dX4_takeParts_124 (Nat.zero_le _) (Nat.zero_le _) (nar_zr (by omega)) (hP 0 s (mk6 kd n (-1) 0 61 0) f10 (Or.inr ⟨rfl, by unfold wh1; exact if_pos (by omega)⟩) ht5 hm6 (fun q q1 q2 => (fr7 q q1 q2)))
  · -- on at 98
    obtain ⟨-, e8, rfl, rfl⟩ := hq4.resolve_right (fun h => absurd h.1 (by omega))
    have e9 : wh1 g len kd n s = wh2 g len kd n (colF g len s) (nx g len s) := by unfold wh1; exact if_neg (by omega)
    exact sg_X4_parts_101 hG hZ h11 ht5 h12 hm6 hl hg (by omega) (fun z p F f' a1 a2 a3 a4 => hP z p F f' (by rw [e9]; exact a1) a2 a3 (fun q q1 q2 => (a4 q q1 q2).trans (fr7 q q1 q2)))
theorem sg_X4_parts_125 {G : JG} {l : Launch} {E : JE} {P : Option Value → Hp → Prop} (hG : jX G l E cX4_takeParts RX4 3 rmX4_takeParts) (hZ : jZ G (some .boolean) P) {pa tl0 tp by0 : Nat} {len st : Int} {g tl : Int → Int} {mg : Nat} {kd : Int} {f1 : Hp} (hpa : f1 pa = oB 4 [.ref tl0]) (htl : f1 tl0 = aI (E.2.1 0) 26 (tl)) (h : f1 tp = oB 9 [.ref by0, .int (iZ (len)), .int (iZ (nx g len st)), .int (iZ (tE g len (nx g len st)))]) (hb : f1 by0 = aI (E.2.1 3) 300 (g)) (hmg : f1 mg = oB 3 [.int (iZ (kd)), .int (iZ (nameT g tl len st)), .int (iZ (-1)), .int (iZ (0)), .int (iZ (61)), .int (iZ (0))]) (hl : 0 ≤ len ∧ len ≤ 300) (hg : bOk g) (hs : 0 ≤ st ∧ st ≤ len) (htr : ∀ j, 0 ≤ j → j < 26 → -1 ≤ tl j ∧ tl j < 12) (hk : kd = 2 ∨ kd = 3) (hn : nameT g tl len st ≠ -1) (hP : ∀ (z p : Int) (F : Int → Int) (f' : Hp), ((z = 1 ∧ parts g tl len kd st = (p, some F)) ∨ (z = 0 ∧ parts g tl len kd st = (p, none))) → f' tp = oB 9 [.ref by0, .int (iZ len), .int (iZ p), .int (iZ (tE g len p))] → f' mg = oB 3 [.int (iZ (F 0)), .int (iZ (F 1)), .int (iZ (F 2)), .int (iZ (F 3)), .int (iZ (F 4)), .int (iZ (F 5))] → (∀ q, q ≠ tp → q ≠ mg → f' q = f1 q) → P (some (.int (iZ z))) f') : J G 0 0 f1 125 [(0, .ref pa), (1, .ref tp), (2, .ref mg)] [] := by
  have q0 := nx_rng (g := g) hs
  have q1 := nx_rng (g := g) q0
  have q2 := nx_rng (g := g) q1
  refine j_aload_n hG dX4_takeParts_125 rfl rfl ?_
  refine j_aload_n hG dX4_takeParts_126 rfl rfl ?_
  refine j_aload_n hG dX4_takeParts_127 rfl rfl ?_
  refine j_callV (rest := []) hG vX4_121 dX4_takeParts_128 (c_X4_takeNumber hpa h hb hmg hl hg (by omega)) hpa rfl rfl (by decide) (by decide) (Nat.le_of_ble_eq_true rfl) rfl rfl (Nat.zero_le _) (Nat.zero_le _) ?_
  rintro _ f10 ⟨z1, p2, u3, rfl, hq4, ht5, hm6, fr7⟩
  refine j_st (st' := [.int (iZ (z1))]) rfl ?_
  have h11 := (fr7 pa (h_ne hpa h (oo_n (by decide))) (h_ne hpa hmg (oo_n (by decide)))).trans hpa
  have h12 := (fr7 tl0 (h_ne htl h (Ne.symm oa_I)) (h_ne htl hmg (Ne.symm oa_I))).trans htl
  have h13 := (fr7 by0 (h_ne hb h (Ne.symm oa_I)) (h_ne hb hmg (Ne.symm oa_I))).trans hb
  exact j_zret hG hZ dX4_takeParts_131 (Nat.zero_le _) (Nat.zero_le _) (nar_zr (by rcases hq4 with q | q <;> (have := q.1; omega))) (hP z1 p2 (mk6 kd (nameT g tl len st) (-1) 0 61 u3) f10 (by rcases hq4 with ⟨r1, e8, rfl, rfl⟩ | ⟨r1, e9, rfl, rfl⟩; (exact Or.inl ⟨r1, by unfold parts; repeat (first | rw [if_pos (by omega)] | rw [if_neg (by omega)])⟩); (exact Or.inr ⟨r1, by unfold parts; repeat (first | rw [if_pos (by omega)] | rw [if_neg (by omega)])⟩)) ht5 hm6 (fun q q1 q2 => (fr7 q q1 q2)))
theorem sg_X4_parts_132 {G : JG} {l : Launch} {E : JE} {P : Option Value → Hp → Prop} (hG : jX G l E cX4_takeParts RX4 3 rmX4_takeParts) (hZ : jZ G (some .boolean) P) {pa tl0 tp by0 : Nat} {len st : Int} {g tl : Int → Int} {mg : Nat} {kd : Int} {f1 : Hp} (hpa : f1 pa = oB 4 [.ref tl0]) (htl : f1 tl0 = aI (E.2.1 0) 26 (tl)) (h : f1 tp = oB 9 [.ref by0, .int (iZ (len)), .int (iZ (nx g len st)), .int (iZ (tE g len (nx g len st)))]) (hb : f1 by0 = aI (E.2.1 3) 300 (g)) (hmg : f1 mg = oB 3 [.int (iZ (kd)), .int (iZ (nameT g tl len st)), .int (iZ (-1)), .int (iZ (0)), .int (iZ (61)), .int (iZ (0))]) (hl : 0 ≤ len ∧ len ≤ 300) (hg : bOk g) (hs : 0 ≤ st ∧ st ≤ len) (htr : ∀ j, 0 ≤ j → j < 26 → -1 ≤ tl j ∧ tl j < 12) (hk : kd = 4) (hn : nameT g tl len st ≠ -1) (hP : ∀ (z p : Int) (F : Int → Int) (f' : Hp), ((z = 1 ∧ parts g tl len kd st = (p, some F)) ∨ (z = 0 ∧ parts g tl len kd st = (p, none))) → f' tp = oB 9 [.ref by0, .int (iZ len), .int (iZ p), .int (iZ (tE g len p))] → f' mg = oB 3 [.int (iZ (F 0)), .int (iZ (F 1)), .int (iZ (F 2)), .int (iZ (F 3)), .int (iZ (F 4)), .int (iZ (F 5))] → (∀ q, q ≠ tp → q ≠ mg → f' q = f1 q) → P (some (.int (iZ z))) f') : J G 0 0 f1 132 [(0, .ref pa), (1, .ref tp), (2, .ref mg)] [] := by
  have q0 := nx_rng (g := g) hs
  have q1 := nx_rng (g := g) q0
  have q2 := nx_rng (g := g) q1
  refine j_aload_n hG dX4_takeParts_132 rfl rfl ?_
  refine j_aload_n hG dX4_takeParts_133 rfl rfl ?_
  refine j_aload_n hG dX4_takeParts_134 rfl rfl ?_
  refine j_iconst hG dX4_takeParts_135 ?_
  refine j_bipush hG dX4_takeParts_136 (by decide) ?_
  refine j_callV (rest := []) hG vX4_108 dX4_takeParts_138 (c_X4_takeDigits (lo := 0) (hi := 31) h hb hmg hl hg (by omega) (by omega) (by omega)) hpa rfl rfl (by decide) (by decide) (Nat.le_of_ble_eq_true rfl) rfl rfl (Nat.zero_le _) (Nat.zero_le _) ?_
  rintro _ f10 ⟨z1, p2, u3, rfl, hq4, ht5, hm6, fr7⟩
  refine j_st (st' := [.int (iZ (z1))]) rfl ?_
  have h11 := (fr7 pa (h_ne hpa h (oo_n (by decide))) (h_ne hpa hmg (oo_n (by decide)))).trans hpa
  have h12 := (fr7 tl0 (h_ne htl h (Ne.symm oa_I)) (h_ne htl hmg (Ne.symm oa_I))).trans htl
  have h13 := (fr7 by0 (h_ne hb h (Ne.symm oa_I)) (h_ne hb hmg (Ne.symm oa_I))).trans hb
  exact j_zret hG hZ dX4_takeParts_141 (Nat.zero_le _) (Nat.zero_le _) (nar_zr (by rcases hq4 with q | q <;> (have := q.1; omega))) (hP z1 p2 (mk6 kd (nameT g tl len st) (-1) 0 61 u3) f10 (by rcases hq4 with ⟨r1, e8, rfl, rfl⟩ | ⟨r1, e9, rfl, rfl⟩; (exact Or.inl ⟨r1, by unfold parts; repeat (first | rw [if_pos (by omega)] | rw [if_neg (by omega)])⟩); (exact Or.inr ⟨r1, by unfold parts; repeat (first | rw [if_pos (by omega)] | rw [if_neg (by omega)])⟩)) ht5 hm6 (fun q q1 q2 => (fr7 q q1 q2)))
theorem sg_X4_parts_142 {G : JG} {l : Launch} {E : JE} {P : Option Value → Hp → Prop} (hG : jX G l E cX4_takeParts RX4 3 rmX4_takeParts) (hZ : jZ G (some .boolean) P) {pa tl0 tp by0 : Nat} {len st : Int} {g tl : Int → Int} {mg : Nat} {kd : Int} {f1 : Hp} (hpa : f1 pa = oB 4 [.ref tl0]) (htl : f1 tl0 = aI (E.2.1 0) 26 (tl)) (h : f1 tp = oB 9 [.ref by0, .int (iZ (len)), .int (iZ (nx g len st)), .int (iZ (tE g len (nx g len st)))]) (hb : f1 by0 = aI (E.2.1 3) 300 (g)) (hmg : f1 mg = oB 3 [.int (iZ (kd)), .int (iZ (nameT g tl len st)), .int (iZ (-1)), .int (iZ (0)), .int (iZ (61)), .int (iZ (0))]) (hl : 0 ≤ len ∧ len ≤ 300) (hg : bOk g) (hs : 0 ≤ st ∧ st ≤ len) (htr : ∀ j, 0 ≤ j → j < 26 → -1 ≤ tl j ∧ tl j < 12) (hk : kd = 5) (hn : nameT g tl len st ≠ -1) (hP : ∀ (z p : Int) (F : Int → Int) (f' : Hp), ((z = 1 ∧ parts g tl len kd st = (p, some F)) ∨ (z = 0 ∧ parts g tl len kd st = (p, none))) → f' tp = oB 9 [.ref by0, .int (iZ len), .int (iZ p), .int (iZ (tE g len p))] → f' mg = oB 3 [.int (iZ (F 0)), .int (iZ (F 1)), .int (iZ (F 2)), .int (iZ (F 3)), .int (iZ (F 4)), .int (iZ (F 5))] → (∀ q, q ≠ tp → q ≠ mg → f' q = f1 q) → P (some (.int (iZ z))) f') : J G 0 0 f1 142 [(0, .ref pa), (1, .ref tp), (2, .ref mg)] [] := by
  have q0 := nx_rng (g := g) hs
  have q1 := nx_rng (g := g) q0
  have q2 := nx_rng (g := g) q1
  refine j_aload_n hG dX4_takeParts_142 rfl rfl ?_
  refine j_aload_n hG dX4_takeParts_143 rfl rfl ?_
  refine j_aload_n hG dX4_takeParts_144 rfl rfl ?_
  refine j_iconst hG dX4_takeParts_145 ?_
  refine j_sipush hG dX4_takeParts_146 (by decide) ?_
  refine j_callV (rest := []) hG vX4_108 dX4_takeParts_149 (c_X4_takeDigits (lo := 1) (hi := 1000) h hb hmg hl hg (by omega) (by omega) (by omega)) hpa rfl rfl (by decide) (by decide) (Nat.le_of_ble_eq_true rfl) rfl rfl (Nat.zero_le _) (Nat.zero_le _) ?_
  rintro _ f10 ⟨z1, p2, u3, rfl, hq4, ht5, hm6, fr7⟩
  refine j_st (st' := [.int (iZ (z1))]) rfl ?_
  have h11 := (fr7 pa (h_ne hpa h (oo_n (by decide))) (h_ne hpa hmg (oo_n (by decide)))).trans hpa
  have h12 := (fr7 tl0 (h_ne htl h (Ne.symm oa_I)) (h_ne htl hmg (Ne.symm oa_I))).trans htl
  have h13 := (fr7 by0 (h_ne hb h (Ne.symm oa_I)) (h_ne hb hmg (Ne.symm oa_I))).trans hb
  exact j_zret hG hZ dX4_takeParts_152 (Nat.zero_le _) (Nat.zero_le _) (nar_zr (by rcases hq4 with q | q <;> (have := q.1; omega))) (hP z1 p2 (mk6 kd (nameT g tl len st) (-1) 0 61 u3) f10 (by rcases hq4 with ⟨r1, e8, rfl, rfl⟩ | ⟨r1, e9, rfl, rfl⟩; (exact Or.inl ⟨r1, by unfold parts; repeat (first | rw [if_pos (by omega)] | rw [if_neg (by omega)])⟩); (exact Or.inr ⟨r1, by unfold parts; repeat (first | rw [if_pos (by omega)] | rw [if_neg (by omega)])⟩)) ht5 hm6 (fun q q1 q2 => (fr7 q q1 q2)))
theorem sg_X4_parts_153 {G : JG} {l : Launch} {E : JE} {P : Option Value → Hp → Prop} (hG : jX G l E cX4_takeParts RX4 3 rmX4_takeParts) (hZ : jZ G (some .boolean) P) {pa tl0 tp by0 : Nat} {len st : Int} {g tl : Int → Int} {mg : Nat} {kd : Int} {f1 : Hp} (hpa : f1 pa = oB 4 [.ref tl0]) (htl : f1 tl0 = aI (E.2.1 0) 26 (tl)) (h : f1 tp = oB 9 [.ref by0, .int (iZ (len)), .int (iZ (nx g len st)), .int (iZ (tE g len (nx g len st)))]) (hb : f1 by0 = aI (E.2.1 3) 300 (g)) (hmg : f1 mg = oB 3 [.int (iZ (kd)), .int (iZ (nameT g tl len st)), .int (iZ (-1)), .int (iZ (0)), .int (iZ (61)), .int (iZ (0))]) (hl : 0 ≤ len ∧ len ≤ 300) (hg : bOk g) (hs : 0 ≤ st ∧ st ≤ len) (htr : ∀ j, 0 ≤ j → j < 26 → -1 ≤ tl j ∧ tl j < 12) (hk : kd = 11 ∨ kd = 12) (hn : nameT g tl len st ≠ -1) (hP : ∀ (z p : Int) (F : Int → Int) (f' : Hp), ((z = 1 ∧ parts g tl len kd st = (p, some F)) ∨ (z = 0 ∧ parts g tl len kd st = (p, none))) → f' tp = oB 9 [.ref by0, .int (iZ len), .int (iZ p), .int (iZ (tE g len p))] → f' mg = oB 3 [.int (iZ (F 0)), .int (iZ (F 1)), .int (iZ (F 2)), .int (iZ (F 3)), .int (iZ (F 4)), .int (iZ (F 5))] → (∀ q, q ≠ tp → q ≠ mg → f' q = f1 q) → P (some (.int (iZ z))) f') : J G 0 0 f1 153 [(0, .ref pa), (1, .ref tp), (2, .ref mg)] [] := by
  have q0 := nx_rng (g := g) hs
  have q1 := nx_rng (g := g) q0
  have q2 := nx_rng (g := g) q1
  refine j_aload_n hG dX4_takeParts_153 rfl rfl ?_
  refine j_aload_n hG dX4_takeParts_154 rfl rfl ?_
  refine j_aload_n hG dX4_takeParts_155 rfl rfl ?_
  refine j_callV (rest := []) hG vX4_124 dX4_takeParts_156 (c_X4_takeRight hpa htl h hb hmg hl hg (by omega) htr) hpa rfl rfl (by decide) (by decide) (Nat.le_of_ble_eq_true rfl) rfl rfl (Nat.zero_le _) (Nat.zero_le _) ?_
  rintro _ f10 ⟨z1, p2, rfl, hq4, ht5, hm6, fr7⟩
  refine j_st (st' := [.int (iZ (z1))]) rfl ?_
  have h11 := (fr7 pa (h_ne hpa h (oo_n (by decide))) (h_ne hpa hmg (oo_n (by decide)))).trans hpa
  have h12 := (fr7 tl0 (h_ne htl h (Ne.symm oa_I)) (h_ne htl hmg (Ne.symm oa_I))).trans htl
  have h13 := (fr7 by0 (h_ne hb h (Ne.symm oa_I)) (h_ne hb hmg (Ne.symm oa_I))).trans hb
  exact j_zret hG hZ dX4_takeParts_159 (Nat.zero_le _) (Nat.zero_le _) (nar_zr (by rcases hq4 with q | q <;> (have := q.1; omega))) (hP z1 p2 (mk6 kd (nameT g tl len st) (nameT g tl len (nx g len st)) 0 61 0) f10 (by rcases hq4 with ⟨r1, e8, rfl⟩ | ⟨r1, e9, rfl⟩; (exact Or.inl ⟨r1, by unfold parts; repeat (first | rw [if_pos (by omega)] | rw [if_neg (by omega)])⟩); (exact Or.inr ⟨r1, by unfold parts; repeat (first | rw [if_pos (by omega)] | rw [if_neg (by omega)])⟩)) ht5 hm6 (fun q q1 q2 => (fr7 q q1 q2)))
theorem sg_X4_parts_160 {G : JG} {l : Launch} {E : JE} {P : Option Value → Hp → Prop} (hG : jX G l E cX4_takeParts RX4 3 rmX4_takeParts) (hZ : jZ G (some .boolean) P) {pa tl0 tp by0 : Nat} {len st : Int} {g tl : Int → Int} {mg : Nat} {kd : Int} {f1 : Hp} (hpa : f1 pa = oB 4 [.ref tl0]) (htl : f1 tl0 = aI (E.2.1 0) 26 (tl)) (h : f1 tp = oB 9 [.ref by0, .int (iZ (len)), .int (iZ (nx g len st)), .int (iZ (tE g len (nx g len st)))]) (hb : f1 by0 = aI (E.2.1 3) 300 (g)) (hmg : f1 mg = oB 3 [.int (iZ (kd)), .int (iZ (nameT g tl len st)), .int (iZ (-1)), .int (iZ (0)), .int (iZ (61)), .int (iZ (0))]) (hl : 0 ≤ len ∧ len ≤ 300) (hg : bOk g) (hs : 0 ≤ st ∧ st ≤ len) (htr : ∀ j, 0 ≤ j → j < 26 → -1 ≤ tl j ∧ tl j < 12) (hk : 6 ≤ kd ∧ kd ≤ 10) (hn : nameT g tl len st ≠ -1) (hP : ∀ (z p : Int) (F : Int → Int) (f' : Hp), ((z = 1 ∧ parts g tl len kd st = (p, some F)) ∨ (z = 0 ∧ parts g tl len kd st = (p, none))) → f' tp = oB 9 [.ref by0, .int (iZ len), .int (iZ p), .int (iZ (tE g len p))] → f' mg = oB 3 [.int (iZ (F 0)), .int (iZ (F 1)), .int (iZ (F 2)), .int (iZ (F 3)), .int (iZ (F 4)), .int (iZ (F 5))] → (∀ q, q ≠ tp → q ≠ mg → f' q = f1 q) → P (some (.int (iZ z))) f') : J G 0 0 f1 160 [(0, .ref pa), (1, .ref tp), (2, .ref mg)] [] := by
  have q0 := nx_rng (g := g) hs
  have q1 := nx_rng (g := g) q0
  have q2 := nx_rng (g := g) q1
  refine j_iconst hG dX4_takeParts_160 ?_
  exact j_zret hG hZ dX4_takeParts_161 (Nat.zero_le _) (Nat.zero_le _) (nar_zr (by omega)) (hP 1 (nx g len st) (mk6 kd (nameT g tl len st) (-1) 0 61 0) f1 (Or.inl ⟨rfl, by unfold parts; repeat (first | rw [if_pos (by omega)] | rw [if_neg (by omega)])⟩) h hmg (fun q q1 q2 => rfl))
theorem c_X4_takeParts {l : Launch} {E : JE} {f : Hp} {pa tl0 tp by0 : Nat} {len st : Int} {g tl : Int → Int} {mg : Nat} {kd : Int} (hpa : f pa = oB 4 [.ref tl0]) (htl : f tl0 = aI (E.2.1 0) 26 (tl)) (h : f tp = oB 9 [.ref by0, .int (iZ (len)), .int (iZ (st)), .int (iZ (tE g len st))]) (hb : f by0 = aI (E.2.1 3) 300 (g)) (hmg : f mg = oB 3 [.int (iZ (kd)), .int (iZ (-1)), .int (iZ (-1)), .int (iZ (0)), .int (iZ (61)), .int (iZ (0))]) (hl : 0 ≤ len ∧ len ≤ 300) (hg : bOk g) (hs : 0 ≤ st ∧ st ≤ len) (htr : ∀ j, 0 ≤ j → j < 26 → -1 ≤ tl j ∧ tl j < 12) (hkd : 0 ≤ kd ∧ kd ≤ 12) : KX4_takeParts l E [.ref pa, .ref tp, .ref mg] f (fun v f' => ∃ (z p : Int) (F : Int → Int), v = some (.int (iZ z)) ∧ ((z = 1 ∧ parts g tl len kd st = (p, some F)) ∨ (z = 0 ∧ parts g tl len kd st = (p, none))) ∧ f' tp = oB 9 [.ref by0, .int (iZ len), .int (iZ p), .int (iZ (tE g len p))] ∧ f' mg = oB 3 [.int (iZ (F 0)), .int (iZ (F 1)), .int (iZ (F 2)), .int (iZ (F 3)), .int (iZ (F 4)), .int (iZ (F 5))] ∧ ∀ q, q ≠ tp → q ≠ mg → f' q = f q) := by
  refine ct_of (own := RX4) (lv := [(0, .ref pa), (1, .ref tp), (2, .ref mg)]) (by decide +kernel) rfl (Nat.le_of_ble_eq_true rfl) rfl ?_
  intro G hG hZ
  have q0 := nx_rng (g := g) hs
  have q1 := nx_rng (g := g) q0
  have q2 := nx_rng (g := g) q1
  refine j_aload_n hG dX4_takeParts_0 rfl rfl ?_
  refine j_get hG fX4_78 dX4_takeParts_1 hmg rfl ?_
  refine j_if_ne (tgt := 16) hG dX4_takeParts_4 (by decide) (by omega) (fun c1 => ?_) (fun c1 => ?_)
  · -- taken at 4
    refine j_aload_n hG dX4_takeParts_16 rfl rfl ?_
    refine j_aload_n hG dX4_takeParts_17 rfl rfl ?_
    refine j_aload_n hG dX4_takeParts_18 rfl rfl ?_
    refine j_callV (rest := []) hG vX4_112 dX4_takeParts_19 (c_X4_takeLeft hpa htl h hb hmg hl hg (by omega) htr) hpa rfl rfl (by decide) (by decide) (Nat.le_of_ble_eq_true rfl) rfl rfl (Nat.zero_le _) (Nat.zero_le _) ?_
    rintro _ f11 ⟨z2, p3, rfl, hq5, ht6, hm7, fr8⟩
    refine j_st (st' := [.int (iZ (z2))]) rfl ?_
    have h12 := (fr8 pa (h_ne hpa h (oo_n (by decide))) (h_ne hpa hmg (oo_n (by decide)))).trans hpa
    have h13 := (fr8 tl0 (h_ne htl h (Ne.symm oa_I)) (h_ne htl hmg (Ne.symm oa_I))).trans htl
    have h14 := (fr8 by0 (h_ne hb h (Ne.symm oa_I)) (h_ne hb hmg (Ne.symm oa_I))).trans hb
    refine j_if_ne (tgt := 27) hG dX4_takeParts_22 (by decide) (by omega) (fun c15 => ?_) (fun c15 => ?_)
    · -- taken at 22
      obtain ⟨-, e9, rfl⟩ := hq5.resolve_right (fun h => absurd h.1 (by omega))
      refine j_aload_n hG dX4_takeParts_27 rfl rfl ?_
      refine j_get hG fX4_78 dX4_takeParts_28 hm7 rfl ?_
      rcases (show kd = 1 ∨ kd = 2 ∨ kd = 3 ∨ kd = 4 ∨ kd = 5 ∨ kd = 6 ∨ kd = 7 ∨ kd = 8 ∨ kd = 9 ∨ kd = 10 ∨ kd = 11 ∨ kd = 12 by omega) with c16 | c16 | c16 | c16 | c16 | c16 | c16 | c16 | c16 | c16 | c16 | c16
      · -- case 1 at 31
        refine j_tswIn (tgt := 92) (off := 61) hG (1) dX4_takeParts_31 c16 (by decide) (by decide) rfl (by decide) ?_
        have e9 := parts_wh (g := g) (tl := tl) (len := len) (kd := kd) (s := st) (by omega) (by omega)
        exact sg_X4_parts_92 hG hZ h12 ht6 h14 hm7 hl hg (by omega) (fun z p F f' a1 a2 a3 a4 => ⟨z, p, F, rfl, by rw [e9]; exact a1, a2, a3, fun q q1 q2 => (a4 q q1 q2).trans (fr8 q q1 q2)⟩)
      · -- case 2 at 31
        refine j_tswIn (tgt := 125) (off := 94) hG (2) dX4_takeParts_31 c16 (by decide) (by decide) rfl (by decide) ?_
        exact sg_X4_parts_125 hG hZ h12 h13 ht6 h14 hm7 hl hg hs htr (by omega) (by omega) (fun z p F f' a1 a2 a3 a4 => ⟨z, p, F, rfl, a1, a2, a3, fun q q1 q2 => (a4 q q1 q2).trans (fr8 q q1 q2)⟩)
      · -- case 3 at 31
        refine j_tswIn (tgt := 125) (off := 94) hG (3) dX4_takeParts_31 c16 (by decide) (by decide) rfl (by decide) ?_
        exact sg_X4_parts_125 hG hZ h12 h13 ht6 h14 hm7 hl hg hs htr (by omega) (by omega) (fun z p F f' a1 a2 a3 a4 => ⟨z, p, F, rfl, a1, a2, a3, fun q q1 q2 => (a4 q q1 q2).trans (fr8 q q1 q2)⟩)
      · -- case 4 at 31
        refine j_tswIn (tgt := 132) (off := 101) hG (4) dX4_takeParts_31 c16 (by decide) (by decide) rfl (by decide) ?_
        exact sg_X4_parts_132 hG hZ h12 h13 ht6 h14 hm7 hl hg hs htr (by omega) (by omega) (fun z p F f' a1 a2 a3 a4 => ⟨z, p, F, rfl, a1, a2, a3, fun q q1 q2 => (a4 q q1 q2).trans (fr8 q q1 q2)⟩)
      · -- case 5 at 31
        refine j_tswIn (tgt := 142) (off := 111) hG (5) dX4_takeParts_31 c16 (by decide) (by decide) rfl (by decide) ?_
        exact sg_X4_parts_142 hG hZ h12 h13 ht6 h14 hm7 hl hg hs htr (by omega) (by omega) (fun z p F f' a1 a2 a3 a4 => ⟨z, p, F, rfl, a1, a2, a3, fun q q1 q2 => (a4 q q1 q2).trans (fr8 q q1 q2)⟩)
      · -- case 6 at 31
        refine j_tswIn (tgt := 160) (off := 129) hG (6) dX4_takeParts_31 c16 (by decide) (by decide) rfl (by decide) ?_
        exact sg_X4_parts_160 hG hZ h12 h13 ht6 h14 hm7 hl hg hs htr (by omega) (by omega) (fun z p F f' a1 a2 a3 a4 => ⟨z, p, F, rfl, a1, a2, a3, fun q q1 q2 => (a4 q q1 q2).trans (fr8 q q1 q2)⟩)
      · -- case 7 at 31
        refine j_tswIn (tgt := 160) (off := 129) hG (7) dX4_takeParts_31 c16 (by decide) (by decide) rfl (by decide) ?_
        exact sg_X4_parts_160 hG hZ h12 h13 ht6 h14 hm7 hl hg hs htr (by omega) (by omega) (fun z p F f' a1 a2 a3 a4 => ⟨z, p, F, rfl, a1, a2, a3, fun q q1 q2 => (a4 q q1 q2).trans (fr8 q q1 q2)⟩)
      · -- case 8 at 31
        refine j_tswIn (tgt := 160) (off := 129) hG (8) dX4_takeParts_31 c16 (by decide) (by decide) rfl (by decide) ?_
        exact sg_X4_parts_160 hG hZ h12 h13 ht6 h14 hm7 hl hg hs htr (by omega) (by omega) (fun z p F f' a1 a2 a3 a4 => ⟨z, p, F, rfl, a1, a2, a3, fun q q1 q2 => (a4 q q1 q2).trans (fr8 q q1 q2)⟩)
      · -- case 9 at 31
        refine j_tswIn (tgt := 160) (off := 129) hG (9) dX4_takeParts_31 c16 (by decide) (by decide) rfl (by decide) ?_
        exact sg_X4_parts_160 hG hZ h12 h13 ht6 h14 hm7 hl hg hs htr (by omega) (by omega) (fun z p F f' a1 a2 a3 a4 => ⟨z, p, F, rfl, a1, a2, a3, fun q q1 q2 => (a4 q q1 q2).trans (fr8 q q1 q2)⟩)
      · -- case 10 at 31
        refine j_tswIn (tgt := 160) (off := 129) hG (10) dX4_takeParts_31 c16 (by decide) (by decide) rfl (by decide) ?_
        exact sg_X4_parts_160 hG hZ h12 h13 ht6 h14 hm7 hl hg hs htr (by omega) (by omega) (fun z p F f' a1 a2 a3 a4 => ⟨z, p, F, rfl, a1, a2, a3, fun q q1 q2 => (a4 q q1 q2).trans (fr8 q q1 q2)⟩)
      · -- case 11 at 31
        refine j_tswIn (tgt := 153) (off := 122) hG (11) dX4_takeParts_31 c16 (by decide) (by decide) rfl (by decide) ?_
        exact sg_X4_parts_153 hG hZ h12 h13 ht6 h14 hm7 hl hg hs htr (by omega) (by omega) (fun z p F f' a1 a2 a3 a4 => ⟨z, p, F, rfl, a1, a2, a3, fun q q1 q2 => (a4 q q1 q2).trans (fr8 q q1 q2)⟩)
      · -- case 12 at 31
        refine j_tswIn (tgt := 153) (off := 122) hG (12) dX4_takeParts_31 c16 (by decide) (by decide) rfl (by decide) ?_
        exact sg_X4_parts_153 hG hZ h12 h13 ht6 h14 hm7 hl hg hs htr (by omega) (by omega) (fun z p F f' a1 a2 a3 a4 => ⟨z, p, F, rfl, a1, a2, a3, fun q q1 q2 => (a4 q q1 q2).trans (fr8 q q1 q2)⟩)
    · -- on at 22
      obtain ⟨-, e10, rfl⟩ := hq5.resolve_left (fun h => absurd h.1 (by omega))
      refine j_iconst hG dX4_takeParts_25 ?_
      exact j_zret hG hZ dX4_takeParts_26 (Nat.zero_le _) (Nat.zero_le _) (nar_zr (by omega)) (⟨0, st, mk6 kd (nameT g tl len st) (-1) 0 61 0, rfl, Or.inr ⟨rfl, by unfold parts; repeat (first | rw [if_pos (by omega)] | rw [if_neg (by omega)])⟩, ht6, hm7, fun q q1 q2 => (fr8 q q1 q2)⟩)
  · -- on at 4
    refine j_aload_n hG dX4_takeParts_7 rfl rfl ?_
    refine j_aload_n hG dX4_takeParts_8 rfl rfl ?_
    refine j_aload_n hG dX4_takeParts_9 rfl rfl ?_
    refine j_iconst hG dX4_takeParts_10 ?_
    refine j_iconst hG dX4_takeParts_11 ?_
    refine j_callV (rest := []) hG vX4_108 dX4_takeParts_12 (c_X4_takeDigits (lo := 0) (hi := 2) h hb hmg hl hg (by omega) (by omega) (by omega)) hpa rfl rfl (by decide) (by decide) (Nat.le_of_ble_eq_true rfl) rfl rfl (Nat.zero_le _) (Nat.zero_le _) ?_
    rintro _ f26 ⟨z17, p18, u19, rfl, hq20, ht21, hm22, fr23⟩
    refine j_st (st' := [.int (iZ (z17))]) rfl ?_
    have h27 := (fr23 pa (h_ne hpa h (oo_n (by decide))) (h_ne hpa hmg (oo_n (by decide)))).trans hpa
    have h28 := (fr23 tl0 (h_ne htl h (Ne.symm oa_I)) (h_ne htl hmg (Ne.symm oa_I))).trans htl
    have h29 := (fr23 by0 (h_ne hb h (Ne.symm oa_I)) (h_ne hb hmg (Ne.symm oa_I))).trans hb
    exact j_zret hG hZ dX4_takeParts_15 (Nat.zero_le _) (Nat.zero_le _) (nar_zr (by rcases hq20 with q | q <;> (have := q.1; omega))) (⟨z17, p18, mk6 kd (-1) (-1) 0 61 u19, rfl, by rcases hq20 with ⟨r1, e24, rfl, rfl⟩ | ⟨r1, e25, rfl, rfl⟩; (exact Or.inl ⟨r1, by unfold parts; repeat (first | rw [if_pos (by omega)] | rw [if_neg (by omega)])⟩); (exact Or.inr ⟨r1, by unfold parts; repeat (first | rw [if_pos (by omega)] | rw [if_neg (by omega)])⟩), ht21, hm22, fun q q1 q2 => (fr23 q q1 q2)⟩)
/-- the TEXT from s on, TABLE t next: FAULT or -1, how many TABLES, the MAKINGS -/
def prsL (g : Int → Int) (len : Int) : Nat → Nat → (Int → Int) → (Int → Int → Int) → Int → Int × Nat × (Int → Int → Int)
  | 0, t, _, M, s => (s, t, M)
  | n + 1, t, tl, M, s =>
    if letr g len s = -1 ∨ tl (letr g len s) ≠ -1 then (s, t, M)
    else if sgn g len (nx g len s) 61 = false then (nx g len s, t, M)
    else if kdF g len (nx g len (nx g len s)) = -1 then (nx g len (nx g len s), t, M)
    else match parts g tl len (kdF g len (nx g len (nx g len s))) (nx g len (nx g len (nx g len s))) with
      | (p, none) => (p, t, M)
      | (p, some F) => if len ≤ p then (-1, t + 1, fup M t F) else if sgn g len p 59 = false then (p, t + 1, fup M t F) else prsL g len n (t + 1) (fup tl (letr g len s) t) (fup M t F) (nx g len p)
theorem parts_rng {g tl : Int → Int} {len kd s p : Int} {o : Option (Int → Int)} (h : parts g tl len kd s = (p, o)) (hs : 0 ≤ s ∧ s ≤ len) : 0 ≤ p ∧ p ≤ len := by
  have q0 := nx_rng (g := g) hs
  have q1 := nx_rng (g := g) q0
  have q2 := nx_rng (g := g) q1
  have q3 := nmS_rng (g := g) q0
  have q4 := nmS_rng (g := g) q2
  have q5 := nx_rng (g := g) q3
  have q6 := nx_rng (g := g) q4
  have e : p = (parts g tl len kd s).1 := by rw [h]
  rw [e]
  unfold parts
  repeat' split
  all_goals first | exact hs | exact q0 | exact q1 | exact q2 | exact q3 | exact q4 | exact q5 | exact q6
theorem l_X4_parse {G : JG} {l : Launch} {E : JE} {P : Option Value → Hp → Prop} (hG : jX G l E cX4_parse RX4 6 rmX4_parse) (hZ : jZ G (some .int) P) {pa tl0 tp by0 pn pm : Nat} {len : Int} {g : Int → Int} {gpm : Int → Option Nat} {ma : Int → Nat} {R : Int × Nat × (Int → Int → Int)} {f0 : Hp} (hl : 0 ≤ len ∧ len ≤ 300) (hg : bOk g) (gpm_ : ∀ i, 0 ≤ i → i < 12 → gpm i = some (ma i)) (hda : ∀ i j, 0 ≤ i → i < 12 → 0 ≤ j → j < 12 → ma i = ma j → i = j) (hP : ∀ (f' : Hp) (M' : Int → Int → Int) (n : Nat) {r : Int} {tl' : Int → Int} {p : Int}, iZ R.1 = iZ r → (R.1 = -1 → R.2.1 = n ∧ ∀ i : Nat, i < n → M' i = R.2.2 i) → f' pn = oB 5 [.ref pm, .int (iZ (n : Int))] → n ≤ 12 → (∀ i, 0 ≤ i → i < 12 → f' (ma i) = oB 3 [.int (iZ (M' i 0)), .int (iZ (M' i 1)), .int (iZ (M' i 2)), .int (iZ (M' i 3)), .int (iZ (M' i 4)), .int (iZ (M' i 5))]) → f' tl0 = aI (E.2.1 0) 26 tl' → (∀ j, 0 ≤ j → j < 26 → -1 ≤ tl' j ∧ tl' j < 12) → f' tp = oB 9 [.ref by0, .int (iZ len), .int (iZ p), .int (iZ (tE g len p))] → 0 ≤ p ∧ p ≤ len → (∀ q, q ≠ tp → q ≠ tl0 → q ≠ pn → (∀ i, 0 ≤ i → i < 12 → q ≠ ma i) → f' q = f0 q) → P (some (.int (iZ r))) f') :
    ∀ (d : Nat) (t : Nat) (tl : Int → Int) (M1 Mh : Int → Int → Int) (st : Int) (f1 : Hp), (hpa : f1 pa = oB 4 [.ref tl0]) → (htl : f1 tl0 = aI (E.2.1 0) 26 (tl)) → (h : f1 tp = oB 9 [.ref by0, .int (iZ (len)), .int (iZ (st)), .int (iZ (tE g len st))]) → (hb : f1 by0 = aI (E.2.1 3) 300 (g)) → (hpn : f1 pn = oB 5 [.ref pm, .int (iZ ((t : Int)))]) → (hpm : f1 pm = aQ (E.2.1 5) 12 (gpm)) → (ht : t ≤ 12) → (hs : 0 ≤ st ∧ st ≤ len) → (htr : ∀ j, 0 ≤ j → j < 26 → -1 ≤ tl j ∧ tl j < 12) → (hMk : ∀ i, 0 ≤ i → i < 12 → f1 (ma i) = oB 3 [.int (iZ (Mh i 0)), .int (iZ (Mh i 1)), .int (iZ (Mh i 2)), .int (iZ (Mh i 3)), .int (iZ (Mh i 4)), .int (iZ (Mh i 5))]) → (hM1 : ∀ i : Nat, i < t → Mh i = M1 i) → (hR : prsL g len (12 - t) t tl M1 st = R) → (hfr : ∀ q, q ≠ tp → q ≠ tl0 → q ≠ pn → (∀ i, 0 ≤ i → i < 12 → q ≠ ma i) → f1 q = f0 q) → (12 - t) < d → J G 0 0 f1 18 [(0, .ref pa), (1, .ref tp), (2, .ref pn), (3, .int (iZ ((t : Int))))] [] := by
  intro d
  induction d with
  | zero => intro t tl M1 Mh st f1 hpa htl h hb hpn hpm ht hs htr hMk hM1 hR hfr hd9; exfalso; omega
  | succ d ih =>
    intro t tl M1 Mh st f1 hpa htl h hb hpn hpm ht hs htr hMk hM1 hR hfr hd9
    refine j_iload_n hG dX4_parse_18 rfl rfl ?_
    refine j_bipush hG dX4_parse_19 (by decide) ?_
    refine j_icmp_ge (tgt := 126) hG dX4_parse_21 (by decide) (by omega) (by omega) (fun c1 => ?_) (fun c1 => ?_)
    · -- taken at 21
      refine j_aload_n hG dX4_parse_126 rfl rfl ?_
      refine j_callV (rest := []) hG vX4_53 dX4_parse_127 (c_X10_place h) h rfl rfl (by decide) (by decide) (Nat.le_of_ble_eq_true rfl) rfl rfl (Nat.zero_le _) (Nat.zero_le _) ?_
      rintro _ _ ⟨rfl, rfl⟩
      refine j_st (st' := [.int (iZ (st))]) rfl ?_
      have e9 : 12 - t = 0 := by omega
      rw [e9] at hR
      have e8 : R.1 = st := by rw [← hR]; rfl
      exact j_iret hG hZ dX4_parse_130 (Nat.zero_le _) (Nat.zero_le _) (hP f1 Mh t (by rw [e8]) (fun h => absurd h (by omega)) hpn (by omega) hMk htl htr h hs hfr)
    · -- on at 21
      refine j_aload_n hG dX4_parse_24 rfl rfl ?_
      refine j_iload_n hG dX4_parse_25 rfl rfl ?_
      obtain ⟨mg, emg⟩ : ∃ mg, mg = ma t := ⟨_, rfl⟩
      have hmg : f1 mg = oB 3 [.int (iZ (Mh t 0)), .int (iZ (Mh t 1)), .int (iZ (Mh t 2)), .int (iZ (Mh t 3)), .int (iZ (Mh t 4)), .int (iZ (Mh t 5))] := by rw [emg]; exact hMk t (by omega) (by omega)
      have q0 := nx_rng (g := g) hs
      have q1 := nx_rng (g := g) q0
      have q2 := nx_rng (g := g) q1
      have q8 := kdF_rng (g := g) (len := len) (s := nx g len (nx g len st))
      rw [show 12 - t = (11 - t) + 1 by omega] at hR
      unfold prsL at hR
      refine j_callV (rest := []) hG vX4_31 dX4_parse_26 (c_X5_at (b := ma t) (t := (t : Int)) hpn hpm (by omega) (gpm_ t (by omega) (by omega))) hpn rfl rfl (by decide) (by decide) (Nat.le_of_ble_eq_true rfl) rfl rfl (Nat.zero_le _) (Nat.zero_le _) ?_
      rintro _ _ ⟨rfl, rfl⟩
      refine j_st (st' := [.ref (ma t)]) rfl ?_
      refine j_st (st' := [.ref mg]) (by rw [emg]) ?_
      refine j_astore (lv' := [(0, .ref pa), (1, .ref tp), (2, .ref pn), (3, .int (iZ ((t : Int)))), (4, .ref mg)]) hG dX4_parse_29 (by decide) rfl ?_
      refine j_aload hG dX4_parse_31 rfl ?_
      refine j_callV (rest := []) hG vX4_35 dX4_parse_33 (c_X3_clear hmg ) hmg rfl rfl (by decide) (by decide) (Nat.le_of_ble_eq_true rfl) rfl rfl (Nat.zero_le _) (Nat.zero_le _) ?_
      rintro _ f4 ⟨rfl, h2, fr3⟩
      refine j_st (st' := []) rfl ?_
      have h2 : f4 mg = oB 3 [.int (iZ (0)), .int (iZ (-1)), .int (iZ (-1)), .int (iZ (0)), .int (iZ (61)), .int (iZ (0))] := h2
      have h5 := (fr3 pa (h_ne hpa hmg (oo_n (by decide)))).trans hpa
      have h6 := (fr3 tl0 (h_ne htl hmg (Ne.symm oa_I))).trans htl
      have h7 := (fr3 tp (h_ne h hmg (oo_n (by decide)))).trans h
      have h8 := (fr3 by0 (h_ne hb hmg (Ne.symm oa_I))).trans hb
      have h9 := (fr3 pn (h_ne hpn hmg (oo_n (by decide)))).trans hpn
      have h10 := (fr3 pm (h_ne hpm hmg (Ne.symm oa_Q))).trans hpm
      refine j_aload_n hG dX4_parse_36 rfl rfl ?_
      refine j_aload_n hG dX4_parse_37 rfl rfl ?_
      refine j_callV (rest := []) hG vX4_38 dX4_parse_38 (c_X4_takeNewName h5 h6 h7 h8 hl hg (by omega) htr) h5 rfl rfl (by decide) (by decide) (Nat.le_of_ble_eq_true rfl) rfl rfl (Nat.zero_le _) (Nat.zero_le _) ?_
      rintro _ f22 ⟨L11, p12, rfl, hq13, ht14, fr15⟩
      refine j_st (st' := [.int (iZ (L11))]) rfl ?_
      have h23 := (fr15 pa (h_ne h5 h7 (oo_n (by decide)))).trans h5
      have h24 := (fr15 tl0 (h_ne h6 h7 (Ne.symm oa_I))).trans h6
      have h25 := (fr15 by0 (h_ne h8 h7 (Ne.symm oa_I))).trans h8
      have h26 := (fr15 pn (h_ne h9 h7 (oo_n (by decide)))).trans h9
      have h27 := (fr15 pm (h_ne h10 h7 (Ne.symm oa_Q))).trans h10
      have h28 := (fr15 mg (h_ne h2 h7 (oo_n (by decide)))).trans h2
      refine j_istore (lv' := [(0, .ref pa), (1, .ref tp), (2, .ref pn), (3, .int (iZ ((t : Int)))), (4, .ref mg), (5, .int (iZ (L11)))]) hG dX4_parse_41 (by decide) rfl ?_
      refine j_iload hG dX4_parse_43 rfl ?_
      refine j_iconst hG dX4_parse_45 ?_
      refine j_icmp_eq (tgt := 79) hG dX4_parse_46 (by decide) (by omega) (by omega) (fun c29 => ?_) (fun c29 => ?_)
      · -- taken at 46
        obtain ⟨-, e21, rfl⟩ := hq13.resolve_left (fun h => absurd h.1 (by omega))
        refine j_aload_n hG dX4_parse_79 rfl rfl ?_
        refine j_callV (rest := []) hG vX4_53 dX4_parse_80 (c_X10_place ht14) ht14 rfl rfl (by decide) (by decide) (Nat.le_of_ble_eq_true rfl) rfl rfl (Nat.zero_le _) (Nat.zero_le _) ?_
        rintro _ _ ⟨rfl, rfl⟩
        refine j_st (st' := [.int (iZ (st))]) rfl ?_
        rw [if_pos (by first | exact e21 | omega)] at hR
        have hMk2 : ∀ i, 0 ≤ i → i < 12 → f22 (ma i) = oB 3 [.int (iZ (fup Mh t (mk6 0 (-1) (-1) 0 61 0) i 0)), .int (iZ (fup Mh t (mk6 0 (-1) (-1) 0 61 0) i 1)), .int (iZ (fup Mh t (mk6 0 (-1) (-1) 0 61 0) i 2)), .int (iZ (fup Mh t (mk6 0 (-1) (-1) 0 61 0) i 3)), .int (iZ (fup Mh t (mk6 0 (-1) (-1) 0 61 0) i 4)), .int (iZ (fup Mh t (mk6 0 (-1) (-1) 0 61 0) i 5))] := fun i i1 i2 => by
          by_cases i3 : i = (t : Int)
          · subst i3; rw [fup_s, ← emg]; exact h28
          · rw [fup_n _ _ i3]
            have z0 := hMk i i1 i2
            exact ((Eq.trans (fr15 _ (h_ne z0 h (oo_n (by decide)))) (fr3 _ (by rw [emg]; exact fun q => i3 (hda i t i1 i2 (by omega) (by omega) q))))).trans z0
        have e8 : R.1 = st := by rw [← hR]
        exact j_iret hG hZ dX4_parse_83 (Nat.zero_le _) (Nat.zero_le _) (hP f22 _ t (by rw [e8]) (fun h => absurd h (by omega)) h26 (by omega) hMk2 h24 htr ht14 (by omega) (fun q p1 p2 p3 p4 => (Eq.trans (fr15 q p1) (fr3 q (by rw [emg]; exact p4 t (by omega) (by omega)))).trans (hfr q p1 p2 p3 p4)))
      · -- on at 46
        obtain ⟨e16, e17, e18, e19, e20, rfl⟩ := hq13.resolve_right (fun h => absurd h.1 (by omega))
        refine j_aload_n hG dX4_parse_49 rfl rfl ?_
        refine j_aload_n hG dX4_parse_50 rfl rfl ?_
        refine j_bipush hG dX4_parse_51 (by decide) ?_
        refine j_callV (rest := []) hG vX4_42 dX4_parse_53 (c_X4_takeSign (c := 61) ht14 h25 hl hg (by omega) (by omega)) h23 rfl rfl (by decide) (by decide) (Nat.le_of_ble_eq_true rfl) rfl rfl (Nat.zero_le _) (Nat.zero_le _) ?_
        rintro _ f37 ⟨z30, p31, rfl, hq32, ht33, fr34⟩
        refine j_st (st' := [.int (iZ (z30))]) rfl ?_
        have h38 := (fr34 pa (h_ne h23 ht14 (oo_n (by decide)))).trans h23
        have h39 := (fr34 tl0 (h_ne h24 ht14 (Ne.symm oa_I))).trans h24
        have h40 := (fr34 by0 (h_ne h25 ht14 (Ne.symm oa_I))).trans h25
        have h41 := (fr34 pn (h_ne h26 ht14 (oo_n (by decide)))).trans h26
        have h42 := (fr34 pm (h_ne h27 ht14 (Ne.symm oa_Q))).trans h27
        have h43 := (fr34 mg (h_ne h28 ht14 (oo_n (by decide)))).trans h28
        refine j_if_eq (tgt := 79) hG dX4_parse_56 (by decide) (by omega) (fun c44 => ?_) (fun c44 => ?_)
        · -- taken at 56
          obtain ⟨-, e36, rfl⟩ := hq32.resolve_left (fun h => absurd h.1 (by omega))
          refine j_aload_n hG dX4_parse_79 rfl rfl ?_
          refine j_callV (rest := []) hG vX4_53 dX4_parse_80 (c_X10_place ht33) ht33 rfl rfl (by decide) (by decide) (Nat.le_of_ble_eq_true rfl) rfl rfl (Nat.zero_le _) (Nat.zero_le _) ?_
          rintro _ _ ⟨rfl, rfl⟩
          refine j_st (st' := [.int (iZ (nx g len st))]) rfl ?_
          rw [if_neg (by rintro (q | q); omega; (apply q; rw [e19]; exact e20))] at hR
          rw [if_pos e36] at hR
          have hMk2 : ∀ i, 0 ≤ i → i < 12 → f37 (ma i) = oB 3 [.int (iZ (fup Mh t (mk6 0 (-1) (-1) 0 61 0) i 0)), .int (iZ (fup Mh t (mk6 0 (-1) (-1) 0 61 0) i 1)), .int (iZ (fup Mh t (mk6 0 (-1) (-1) 0 61 0) i 2)), .int (iZ (fup Mh t (mk6 0 (-1) (-1) 0 61 0) i 3)), .int (iZ (fup Mh t (mk6 0 (-1) (-1) 0 61 0) i 4)), .int (iZ (fup Mh t (mk6 0 (-1) (-1) 0 61 0) i 5))] := fun i i1 i2 => by
            by_cases i3 : i = (t : Int)
            · subst i3; rw [fup_s, ← emg]; exact h43
            · rw [fup_n _ _ i3]
              have z0 := hMk i i1 i2
              exact ((Eq.trans (fr34 _ (h_ne z0 h (oo_n (by decide)))) (Eq.trans (fr15 _ (h_ne z0 h (oo_n (by decide)))) (fr3 _ (by rw [emg]; exact fun q => i3 (hda i t i1 i2 (by omega) (by omega) q)))))).trans z0
          have e8 : R.1 = nx g len st := by rw [← hR]
          exact j_iret hG hZ dX4_parse_83 (Nat.zero_le _) (Nat.zero_le _) (hP f37 _ t (by rw [e8]) (fun h => absurd h (by omega)) h41 (by omega) hMk2 h39 htr ht33 (by omega) (fun q p1 p2 p3 p4 => (Eq.trans (fr34 q p1) (Eq.trans (fr15 q p1) (fr3 q (by rw [emg]; exact p4 t (by omega) (by omega))))).trans (hfr q p1 p2 p3 p4)))
        · -- on at 56
          obtain ⟨-, e35, rfl⟩ := hq32.resolve_right (fun h => absurd h.1 (by omega))
          refine j_aload_n hG dX4_parse_59 rfl rfl ?_
          refine j_aload_n hG dX4_parse_60 rfl rfl ?_
          refine j_aload hG dX4_parse_61 rfl ?_
          refine j_callV (rest := []) hG vX4_46 dX4_parse_63 (c_X4_takeKind ht33 h40 h43 hl hg (by omega)) h38 rfl rfl (by decide) (by decide) (Nat.le_of_ble_eq_true rfl) rfl rfl (Nat.zero_le _) (Nat.zero_le _) ?_
          rintro _ f54 ⟨z45, p46, u47, rfl, hq48, ht49, hm50, fr51⟩
          refine j_st (st' := [.int (iZ (z45))]) rfl ?_
          have h55 := (fr51 pa (h_ne h38 ht33 (oo_n (by decide))) (h_ne h38 h43 (oo_n (by decide)))).trans h38
          have h56 := (fr51 tl0 (h_ne h39 ht33 (Ne.symm oa_I)) (h_ne h39 h43 (Ne.symm oa_I))).trans h39
          have h57 := (fr51 by0 (h_ne h40 ht33 (Ne.symm oa_I)) (h_ne h40 h43 (Ne.symm oa_I))).trans h40
          have h58 := (fr51 pn (h_ne h41 ht33 (oo_n (by decide))) (h_ne h41 h43 (oo_n (by decide)))).trans h41
          have h59 := (fr51 pm (h_ne h42 ht33 (Ne.symm oa_Q)) (h_ne h42 h43 (Ne.symm oa_Q))).trans h42
          refine j_if_eq (tgt := 79) hG dX4_parse_66 (by decide) (by omega) (fun c60 => ?_) (fun c60 => ?_)
          · -- taken at 66
            obtain ⟨-, e53, rfl, rfl⟩ := hq48.resolve_left (fun h => absurd h.1 (by omega))
            refine j_aload_n hG dX4_parse_79 rfl rfl ?_
            refine j_callV (rest := []) hG vX4_53 dX4_parse_80 (c_X10_place ht49) ht49 rfl rfl (by decide) (by decide) (Nat.le_of_ble_eq_true rfl) rfl rfl (Nat.zero_le _) (Nat.zero_le _) ?_
            rintro _ _ ⟨rfl, rfl⟩
            refine j_st (st' := [.int (iZ (nx g len (nx g len st)))]) rfl ?_
            rw [if_neg (by rintro (q | q); omega; (apply q; rw [e19]; exact e20))] at hR
            rw [if_neg (by rw [e35]; decide)] at hR
            rw [if_pos e53] at hR
            have hMk2 : ∀ i, 0 ≤ i → i < 12 → f54 (ma i) = oB 3 [.int (iZ (fup Mh t (mk6 0 (-1) (-1) 0 61 0) i 0)), .int (iZ (fup Mh t (mk6 0 (-1) (-1) 0 61 0) i 1)), .int (iZ (fup Mh t (mk6 0 (-1) (-1) 0 61 0) i 2)), .int (iZ (fup Mh t (mk6 0 (-1) (-1) 0 61 0) i 3)), .int (iZ (fup Mh t (mk6 0 (-1) (-1) 0 61 0) i 4)), .int (iZ (fup Mh t (mk6 0 (-1) (-1) 0 61 0) i 5))] := fun i i1 i2 => by
              by_cases i3 : i = (t : Int)
              · subst i3; rw [fup_s, ← emg]; exact hm50
              · rw [fup_n _ _ i3]
                have z0 := hMk i i1 i2
                exact ((Eq.trans (fr51 _ (h_ne z0 h (oo_n (by decide))) (by rw [emg]; exact fun q => i3 (hda i t i1 i2 (by omega) (by omega) q))) (Eq.trans (fr34 _ (h_ne z0 h (oo_n (by decide)))) (Eq.trans (fr15 _ (h_ne z0 h (oo_n (by decide)))) (fr3 _ (by rw [emg]; exact fun q => i3 (hda i t i1 i2 (by omega) (by omega) q))))))).trans z0
            have e8 : R.1 = nx g len (nx g len st) := by rw [← hR]
            exact j_iret hG hZ dX4_parse_83 (Nat.zero_le _) (Nat.zero_le _) (hP f54 _ t (by rw [e8]) (fun h => absurd h (by omega)) h58 (by omega) hMk2 h56 htr ht49 (by omega) (fun q p1 p2 p3 p4 => (Eq.trans (fr51 q p1 (by rw [emg]; exact p4 t (by omega) (by omega))) (Eq.trans (fr34 q p1) (Eq.trans (fr15 q p1) (fr3 q (by rw [emg]; exact p4 t (by omega) (by omega)))))).trans (hfr q p1 p2 p3 p4)))
          · -- on at 66
            obtain ⟨-, e52, rfl, rfl⟩ := hq48.resolve_right (fun h => absurd h.1 (by omega))
            refine j_aload_n hG dX4_parse_69 rfl rfl ?_
            refine j_aload_n hG dX4_parse_70 rfl rfl ?_
            refine j_aload hG dX4_parse_71 rfl ?_
            refine j_callV (rest := []) hG vX4_50 dX4_parse_73 (c_X4_takeParts h55 h56 ht49 h57 hm50 hl hg (by omega) htr (by omega)) h55 rfl rfl (by decide) (by decide) (Nat.le_of_ble_eq_true rfl) rfl rfl (Nat.zero_le _) (Nat.zero_le _) ?_
            rintro _ f71 ⟨z61, p62, F63, rfl, hq64, ht65, hm66, fr67⟩
            refine j_st (st' := [.int (iZ (z61))]) rfl ?_
            have h72 := (fr67 pa (h_ne h55 ht49 (oo_n (by decide))) (h_ne h55 hm50 (oo_n (by decide)))).trans h55
            have h73 := (fr67 tl0 (h_ne h56 ht49 (Ne.symm oa_I)) (h_ne h56 hm50 (Ne.symm oa_I))).trans h56
            have h74 := (fr67 by0 (h_ne h57 ht49 (Ne.symm oa_I)) (h_ne h57 hm50 (Ne.symm oa_I))).trans h57
            have h75 := (fr67 pn (h_ne h58 ht49 (oo_n (by decide))) (h_ne h58 hm50 (oo_n (by decide)))).trans h58
            have h76 := (fr67 pm (h_ne h59 ht49 (Ne.symm oa_Q)) (h_ne h59 hm50 (Ne.symm oa_Q))).trans h59
            refine j_if_ne (tgt := 84) hG dX4_parse_76 (by decide) (by omega) (fun c77 => ?_) (fun c77 => ?_)
            · -- taken at 76
              obtain ⟨-, e68⟩ := hq64.resolve_right (fun h => absurd h.1 (by omega))
              have r70 := parts_rng e68 (by omega)
              refine j_aload_n hG dX4_parse_84 rfl rfl ?_
              refine j_get hG fX4_9 dX4_parse_85 h72 rfl ?_
              refine j_iload hG dX4_parse_88 rfl ?_
              refine j_iload_n hG dX4_parse_90 rfl rfl ?_
              refine j_iast hG dX4_parse_91 h73 (by omega) (by decide) (fun f78 h79 fr80 => ?_)
              have h81 := (fr80 pa (h_ne h72 h73 oa_I)).trans h72
              have h82 := (fr80 by0 (h_ne h74 h73 (aI_n (by decide)))).trans h74
              have h83 := (fr80 pn (h_ne h75 h73 oa_I)).trans h75
              have h84 := (fr80 pm (h_ne h76 h73 (Ne.symm aIQ))).trans h76
              have h85 := (fr80 tp (h_ne ht65 h73 oa_I)).trans ht65
              have h86 := (fr80 mg (h_ne hm66 h73 oa_I)).trans hm66
              have htr2 : ∀ j, 0 ≤ j → j < 26 → -1 ≤ fup tl L11 (t : Int) j ∧ fup tl L11 (t : Int) j < 12 := fun j j1 j2 => by
                unfold fup; split
                · omega
                · exact htr j j1 j2
              refine j_aload_n hG dX4_parse_92 rfl rfl ?_
              refine j_callV (rest := []) hG vX4_57 dX4_parse_93 (c_X5_add h83 (by omega)) h83 rfl rfl (by decide) (by decide) (Nat.le_of_ble_eq_true rfl) rfl rfl (Nat.zero_le _) (Nat.zero_le _) ?_
              rintro _ f89 ⟨rfl, h87, fr88⟩
              refine j_st (st' := []) rfl ?_
              have h87 : f89 pn = oB 5 [.ref pm, .int (iZ ((t : Int) + 1))] := h87
              have h90 := (fr88 pa (h_ne h81 h83 (oo_n (by decide)))).trans h81
              have h91 := (fr88 by0 (h_ne h82 h83 (Ne.symm oa_I))).trans h82
              have h92 := (fr88 pm (h_ne h84 h83 (Ne.symm oa_Q))).trans h84
              have h93 := (fr88 tp (h_ne h85 h83 (oo_n (by decide)))).trans h85
              have h94 := (fr88 mg (h_ne h86 h83 (oo_n (by decide)))).trans h86
              have h95 := (fr88 tl0 (h_ne h79 h83 (Ne.symm oa_I))).trans h79
              refine j_aload_n hG dX4_parse_96 rfl rfl ?_
              refine j_callV (rest := []) hG vX4_60 dX4_parse_97 (c_X10_isAtEnd h93 (by omega) (by omega)) h93 rfl rfl (by decide) (by decide) (Nat.le_of_ble_eq_true rfl) rfl rfl (Nat.zero_le _) (Nat.zero_le _) ?_
              rintro _ _ ⟨⟨z96, rfl, hz97⟩, rfl⟩
              refine j_st (st' := [.int (iZ (z96))]) rfl ?_
              refine j_if_eq (tgt := 105) hG dX4_parse_100 (by decide) (by omega) (fun c98 => ?_) (fun c98 => ?_)
              · -- taken at 100
                refine j_aload_n hG dX4_parse_105 rfl rfl ?_
                refine j_aload_n hG dX4_parse_106 rfl rfl ?_
                refine j_bipush hG dX4_parse_107 (by decide) ?_
                refine j_callV (rest := []) hG vX4_42 dX4_parse_109 (c_X4_takeSign (c := 59) h93 h91 hl hg (by omega) (by omega)) h90 rfl rfl (by decide) (by decide) (Nat.le_of_ble_eq_true rfl) rfl rfl (Nat.zero_le _) (Nat.zero_le _) ?_
                rintro _ f106 ⟨z99, p100, rfl, hq101, ht102, fr103⟩
                refine j_st (st' := [.int (iZ (z99))]) rfl ?_
                have h107 := (fr103 pa (h_ne h90 h93 (oo_n (by decide)))).trans h90
                have h108 := (fr103 by0 (h_ne h91 h93 (Ne.symm oa_I))).trans h91
                have h109 := (fr103 pm (h_ne h92 h93 (Ne.symm oa_Q))).trans h92
                have h110 := (fr103 mg (h_ne h94 h93 (oo_n (by decide)))).trans h94
                have h111 := (fr103 tl0 (h_ne h95 h93 (Ne.symm oa_I))).trans h95
                have h112 := (fr103 pn (h_ne h87 h93 (oo_n (by decide)))).trans h87
                refine j_if_ne (tgt := 120) hG dX4_parse_112 (by decide) (by omega) (fun c113 => ?_) (fun c113 => ?_)
                · -- taken at 112
                  obtain ⟨-, e104, rfl⟩ := hq101.resolve_right (fun h => absurd h.1 (by omega))
                  refine j_iinc (a := (t : Int)) (lv' := [(0, .ref pa), (1, .ref tp), (2, .ref pn), (3, .int (iZ ((t : Int) + 1))), (4, .ref mg), (5, .int (iZ (L11)))]) hG dX4_parse_120 rfl (by decide) rfl ?_
                  refine j_goto (tgt := 18) hG dX4_parse_123 (by decide) ?_
                  refine j_lv (lv' := [(0, .ref pa), (1, .ref tp), (2, .ref pn), (3, .int (iZ (((t + 1 : Nat) : Int))))]) (by simp) ?_
                  rw [if_neg (by rintro (q | q); omega; (apply q; rw [e19]; exact e20)), if_neg (by rw [e35]; decide), if_neg e52, e68] at hR
                  dsimp only at hR
                  rw [if_neg (by omega), if_neg (by rw [e104]; decide), e19] at hR
                  have hMk2 : ∀ i, 0 ≤ i → i < 12 → f106 (ma i) = oB 3 [.int (iZ (fup Mh t (F63) i 0)), .int (iZ (fup Mh t (F63) i 1)), .int (iZ (fup Mh t (F63) i 2)), .int (iZ (fup Mh t (F63) i 3)), .int (iZ (fup Mh t (F63) i 4)), .int (iZ (fup Mh t (F63) i 5))] := fun i i1 i2 => by
                    by_cases i3 : i = (t : Int)
                    · subst i3; rw [fup_s, ← emg]; exact h110
                    · rw [fup_n _ _ i3]
                      have z0 := hMk i i1 i2
                      exact ((Eq.trans (fr103 _ (h_ne z0 h (oo_n (by decide)))) (Eq.trans (fr88 _ (h_ne z0 hpn (oo_n (by decide)))) (Eq.trans (fr80 _ (h_ne z0 htl oa_I)) (Eq.trans (fr67 _ (h_ne z0 h (oo_n (by decide))) (by rw [emg]; exact fun q => i3 (hda i t i1 i2 (by omega) (by omega) q))) (Eq.trans (fr51 _ (h_ne z0 h (oo_n (by decide))) (by rw [emg]; exact fun q => i3 (hda i t i1 i2 (by omega) (by omega) q))) (Eq.trans (fr34 _ (h_ne z0 h (oo_n (by decide)))) (Eq.trans (fr15 _ (h_ne z0 h (oo_n (by decide)))) (fr3 _ (by rw [emg]; exact fun q => i3 (hda i t i1 i2 (by omega) (by omega) q))))))))))).trans z0
                  have r7 := nx_rng (g := g) (len := len) (s := p62) (by omega)
                  refine ih (t + 1) (fup tl L11 (t : Int)) (fup M1 (t : Int) F63) (fup Mh (t : Int) F63) (nx g len p62) f106 h107 h111 ht102 h108 h112 h109 (by omega) (by omega) htr2 hMk2 (fun i i1 => ?_) ?_ (fun q p1 p2 p3 p4 => (Eq.trans (fr103 q p1) (Eq.trans (fr88 q p3) (Eq.trans (fr80 q p2) (Eq.trans (fr67 q p1 (by rw [emg]; exact p4 t (by omega) (by omega))) (Eq.trans (fr51 q p1 (by rw [emg]; exact p4 t (by omega) (by omega))) (Eq.trans (fr34 q p1) (Eq.trans (fr15 q p1) (fr3 q (by rw [emg]; exact p4 t (by omega) (by omega)))))))))).trans (hfr q p1 p2 p3 p4)) (by omega)
                  · by_cases i3 : i = t
                    · subst i3; rw [fup_s]; exact (fup_s M1 _ _).symm
                    · rw [fup_n _ _ (by omega), fup_n _ _ (by omega)]; exact hM1 i (by omega)
                  · rw [show 12 - (t + 1) = 11 - t by omega]; exact hR
                · -- on at 112
                  obtain ⟨-, e105, rfl⟩ := hq101.resolve_left (fun h => absurd h.1 (by omega))
                  refine j_aload_n hG dX4_parse_115 rfl rfl ?_
                  refine j_callV (rest := []) hG vX4_53 dX4_parse_116 (c_X10_place ht102) ht102 rfl rfl (by decide) (by decide) (Nat.le_of_ble_eq_true rfl) rfl rfl (Nat.zero_le _) (Nat.zero_le _) ?_
                  rintro _ _ ⟨rfl, rfl⟩
                  refine j_st (st' := [.int (iZ (p62))]) rfl ?_
                  rw [if_neg (by rintro (q | q); omega; (apply q; rw [e19]; exact e20))] at hR
                  rw [if_neg (by rw [e35]; decide)] at hR
                  rw [if_neg e52] at hR
                  rw [e68] at hR
                  dsimp only at hR
                  rw [if_neg (by omega), if_pos e105] at hR
                  have hMk2 : ∀ i, 0 ≤ i → i < 12 → f106 (ma i) = oB 3 [.int (iZ (fup Mh t (mk6 (F63 0) (F63 1) (F63 2) (F63 3) (F63 4) (F63 5)) i 0)), .int (iZ (fup Mh t (mk6 (F63 0) (F63 1) (F63 2) (F63 3) (F63 4) (F63 5)) i 1)), .int (iZ (fup Mh t (mk6 (F63 0) (F63 1) (F63 2) (F63 3) (F63 4) (F63 5)) i 2)), .int (iZ (fup Mh t (mk6 (F63 0) (F63 1) (F63 2) (F63 3) (F63 4) (F63 5)) i 3)), .int (iZ (fup Mh t (mk6 (F63 0) (F63 1) (F63 2) (F63 3) (F63 4) (F63 5)) i 4)), .int (iZ (fup Mh t (mk6 (F63 0) (F63 1) (F63 2) (F63 3) (F63 4) (F63 5)) i 5))] := fun i i1 i2 => by
                    by_cases i3 : i = (t : Int)
                    · subst i3; rw [fup_s, ← emg]; exact h110
                    · rw [fup_n _ _ i3]
                      have z0 := hMk i i1 i2
                      exact ((Eq.trans (fr103 _ (h_ne z0 h (oo_n (by decide)))) (Eq.trans (fr88 _ (h_ne z0 hpn (oo_n (by decide)))) (Eq.trans (fr80 _ (h_ne z0 htl oa_I)) (Eq.trans (fr67 _ (h_ne z0 h (oo_n (by decide))) (by rw [emg]; exact fun q => i3 (hda i t i1 i2 (by omega) (by omega) q))) (Eq.trans (fr51 _ (h_ne z0 h (oo_n (by decide))) (by rw [emg]; exact fun q => i3 (hda i t i1 i2 (by omega) (by omega) q))) (Eq.trans (fr34 _ (h_ne z0 h (oo_n (by decide)))) (Eq.trans (fr15 _ (h_ne z0 h (oo_n (by decide)))) (fr3 _ (by rw [emg]; exact fun q => i3 (hda i t i1 i2 (by omega) (by omega) q))))))))))).trans z0
                  have e8 : R.1 = p62 := by rw [← hR]
                  exact j_iret hG hZ dX4_parse_119 (Nat.zero_le _) (Nat.zero_le _) (hP f106 _ (t + 1) (by rw [e8]) (fun h => absurd h (by omega)) h112 (by omega) hMk2 h111 htr2 ht102 (by omega) (fun q p1 p2 p3 p4 => (Eq.trans (fr103 q p1) (Eq.trans (fr88 q p3) (Eq.trans (fr80 q p2) (Eq.trans (fr67 q p1 (by rw [emg]; exact p4 t (by omega) (by omega))) (Eq.trans (fr51 q p1 (by rw [emg]; exact p4 t (by omega) (by omega))) (Eq.trans (fr34 q p1) (Eq.trans (fr15 q p1) (fr3 q (by rw [emg]; exact p4 t (by omega) (by omega)))))))))).trans (hfr q p1 p2 p3 p4)))
              · -- on at 100
                refine j_iconst hG dX4_parse_103 ?_
                rw [if_neg (by rintro (q | q); omega; (apply q; rw [e19]; exact e20))] at hR
                rw [if_neg (by rw [e35]; decide)] at hR
                rw [if_neg e52] at hR
                rw [e68] at hR
                dsimp only at hR
                rw [if_pos (by omega)] at hR
                have hMk2 : ∀ i, 0 ≤ i → i < 12 → f89 (ma i) = oB 3 [.int (iZ (fup Mh t (F63) i 0)), .int (iZ (fup Mh t (F63) i 1)), .int (iZ (fup Mh t (F63) i 2)), .int (iZ (fup Mh t (F63) i 3)), .int (iZ (fup Mh t (F63) i 4)), .int (iZ (fup Mh t (F63) i 5))] := fun i i1 i2 => by
                  by_cases i3 : i = (t : Int)
                  · subst i3; rw [fup_s, ← emg]; exact h94
                  · rw [fup_n _ _ i3]
                    have z0 := hMk i i1 i2
                    exact ((Eq.trans (fr88 _ (h_ne z0 hpn (oo_n (by decide)))) (Eq.trans (fr80 _ (h_ne z0 htl oa_I)) (Eq.trans (fr67 _ (h_ne z0 h (oo_n (by decide))) (by rw [emg]; exact fun q => i3 (hda i t i1 i2 (by omega) (by omega) q))) (Eq.trans (fr51 _ (h_ne z0 h (oo_n (by decide))) (by rw [emg]; exact fun q => i3 (hda i t i1 i2 (by omega) (by omega) q))) (Eq.trans (fr34 _ (h_ne z0 h (oo_n (by decide)))) (Eq.trans (fr15 _ (h_ne z0 h (oo_n (by decide)))) (fr3 _ (by rw [emg]; exact fun q => i3 (hda i t i1 i2 (by omega) (by omega) q)))))))))).trans z0
                have e8 : R.1 = -1 := by rw [← hR]
                have e7 : R.2.1 = t + 1 := by rw [← hR]
                have e6 : R.2.2 = fup M1 t F63 := by rw [← hR]
                exact j_iret hG hZ dX4_parse_104 (Nat.zero_le _) (Nat.zero_le _) (hP f89 _ (t + 1) (by rw [e8]) (fun _ => ⟨e7, fun i i1 => by rw [e6]; by_cases i3 : i = t; (subst i3; rw [fup_s, fup_s]); (rw [fup_n _ _ (by omega), fup_n _ _ (by omega)]; exact hM1 i (by omega))⟩) h87 (by omega) hMk2 h95 htr2 h93 (by omega) (fun q p1 p2 p3 p4 => (Eq.trans (fr88 q p3) (Eq.trans (fr80 q p2) (Eq.trans (fr67 q p1 (by rw [emg]; exact p4 t (by omega) (by omega))) (Eq.trans (fr51 q p1 (by rw [emg]; exact p4 t (by omega) (by omega))) (Eq.trans (fr34 q p1) (Eq.trans (fr15 q p1) (fr3 q (by rw [emg]; exact p4 t (by omega) (by omega))))))))).trans (hfr q p1 p2 p3 p4)))
            · -- on at 76
              obtain ⟨-, e69⟩ := hq64.resolve_left (fun h => absurd h.1 (by omega))
              have r70 := parts_rng e69 (by omega)
              refine j_aload_n hG dX4_parse_79 rfl rfl ?_
              refine j_callV (rest := []) hG vX4_53 dX4_parse_80 (c_X10_place ht65) ht65 rfl rfl (by decide) (by decide) (Nat.le_of_ble_eq_true rfl) rfl rfl (Nat.zero_le _) (Nat.zero_le _) ?_
              rintro _ _ ⟨rfl, rfl⟩
              refine j_st (st' := [.int (iZ (p62))]) rfl ?_
              rw [if_neg (by rintro (q | q); omega; (apply q; rw [e19]; exact e20))] at hR
              rw [if_neg (by rw [e35]; decide)] at hR
              rw [if_neg e52] at hR
              rw [e69] at hR
              have hMk2 : ∀ i, 0 ≤ i → i < 12 → f71 (ma i) = oB 3 [.int (iZ (fup Mh t (mk6 (F63 0) (F63 1) (F63 2) (F63 3) (F63 4) (F63 5)) i 0)), .int (iZ (fup Mh t (mk6 (F63 0) (F63 1) (F63 2) (F63 3) (F63 4) (F63 5)) i 1)), .int (iZ (fup Mh t (mk6 (F63 0) (F63 1) (F63 2) (F63 3) (F63 4) (F63 5)) i 2)), .int (iZ (fup Mh t (mk6 (F63 0) (F63 1) (F63 2) (F63 3) (F63 4) (F63 5)) i 3)), .int (iZ (fup Mh t (mk6 (F63 0) (F63 1) (F63 2) (F63 3) (F63 4) (F63 5)) i 4)), .int (iZ (fup Mh t (mk6 (F63 0) (F63 1) (F63 2) (F63 3) (F63 4) (F63 5)) i 5))] := fun i i1 i2 => by
                by_cases i3 : i = (t : Int)
                · subst i3; rw [fup_s, ← emg]; exact hm66
                · rw [fup_n _ _ i3]
                  have z0 := hMk i i1 i2
                  exact ((Eq.trans (fr67 _ (h_ne z0 h (oo_n (by decide))) (by rw [emg]; exact fun q => i3 (hda i t i1 i2 (by omega) (by omega) q))) (Eq.trans (fr51 _ (h_ne z0 h (oo_n (by decide))) (by rw [emg]; exact fun q => i3 (hda i t i1 i2 (by omega) (by omega) q))) (Eq.trans (fr34 _ (h_ne z0 h (oo_n (by decide)))) (Eq.trans (fr15 _ (h_ne z0 h (oo_n (by decide)))) (fr3 _ (by rw [emg]; exact fun q => i3 (hda i t i1 i2 (by omega) (by omega) q)))))))).trans z0
              have e8 : R.1 = p62 := by rw [← hR]
              exact j_iret hG hZ dX4_parse_83 (Nat.zero_le _) (Nat.zero_le _) (hP f71 _ t (by rw [e8]) (fun h => absurd h (by omega)) h75 (by omega) hMk2 h73 htr ht65 (by omega) (fun q p1 p2 p3 p4 => (Eq.trans (fr67 q p1 (by rw [emg]; exact p4 t (by omega) (by omega))) (Eq.trans (fr51 q p1 (by rw [emg]; exact p4 t (by omega) (by omega))) (Eq.trans (fr34 q p1) (Eq.trans (fr15 q p1) (fr3 q (by rw [emg]; exact p4 t (by omega) (by omega))))))).trans (hfr q p1 p2 p3 p4)))
theorem c_X4_parse {l : Launch} {E : JE} {f : Hp} {pa tl0 tp by0 pn pm : Nat} {len st sp sz : Int} {g tl : Int → Int} {gpm : Int → Option Nat} {ma : Int → Nat} {M0 : Int → Int → Int} (hpa : f pa = oB 4 [.ref tl0]) (htl : f tl0 = aI (E.2.1 0) 26 (tl)) (h : f tp = oB 9 [.ref by0, .int (iZ (len)), .int (iZ (st)), .int (iZ (sp))]) (hb : f by0 = aI (E.2.1 3) 300 (g)) (hpn : f pn = oB 5 [.ref pm, .int (iZ (sz))]) (hpm : f pm = aQ (E.2.1 5) 12 (gpm)) (hl : 0 ≤ len ∧ len ≤ 300) (hg : bOk g) (gpm_ : ∀ i, 0 ≤ i → i < 12 → gpm i = some (ma i)) (hda : ∀ i j, 0 ≤ i → i < 12 → 0 ≤ j → j < 12 → ma i = ma j → i = j) (hMk : ∀ i, 0 ≤ i → i < 12 → f (ma i) = oB 3 [.int (iZ (M0 i 0)), .int (iZ (M0 i 1)), .int (iZ (M0 i 2)), .int (iZ (M0 i 3)), .int (iZ (M0 i 4)), .int (iZ (M0 i 5))]) : KX4_parse l E [.ref pa, .ref tp, .ref pn] f (fun v f' => ∃ (tl1 : Int → Int) (M' : Int → Int → Int) (n : Nat) (tl' : Int → Int) (p : Int), (∀ j, 0 ≤ j → j < 26 → tl1 j = -1) ∧ v = some (.int (iZ (prsL g len 12 0 tl1 M0 (tS g len 0)).1)) ∧ ((prsL g len 12 0 tl1 M0 (tS g len 0)).1 = -1 → (prsL g len 12 0 tl1 M0 (tS g len 0)).2.1 = n ∧ ∀ i : Nat, i < n → M' i = (prsL g len 12 0 tl1 M0 (tS g len 0)).2.2 i) ∧ f' pn = oB 5 [.ref pm, .int (iZ (n : Int))] ∧ n ≤ 12 ∧ (∀ i, 0 ≤ i → i < 12 → f' (ma i) = oB 3 [.int (iZ (M' i 0)), .int (iZ (M' i 1)), .int (iZ (M' i 2)), .int (iZ (M' i 3)), .int (iZ (M' i 4)), .int (iZ (M' i 5))]) ∧ f' tl0 = aI (E.2.1 0) 26 tl' ∧ (∀ j, 0 ≤ j → j < 26 → -1 ≤ tl' j ∧ tl' j < 12) ∧ f' tp = oB 9 [.ref by0, .int (iZ len), .int (iZ p), .int (iZ (tE g len p))] ∧ (0 ≤ p ∧ p ≤ len) ∧ ∀ q, q ≠ tp → q ≠ tl0 → q ≠ pn → (∀ i, 0 ≤ i → i < 12 → q ≠ ma i) → f' q = f q) := by
  refine ct_of (own := RX4) (lv := [(0, .ref pa), (1, .ref tp), (2, .ref pn)]) (by decide +kernel) rfl (Nat.le_of_ble_eq_true rfl) rfl ?_
  intro G hG hZ
  refine j_aload_n hG dX4_parse_0 rfl rfl ?_
  refine j_callV (rest := []) hG vX4_15 dX4_parse_1 (c_X5_clear hpn ) hpn rfl rfl (by decide) (by decide) (Nat.le_of_ble_eq_true rfl) rfl rfl (Nat.zero_le _) (Nat.zero_le _) ?_
  rintro _ f3 ⟨rfl, h1, fr2⟩
  refine j_st (st' := []) rfl ?_
  have h1 : f3 pn = oB 5 [.ref pm, .int (iZ (0))] := h1
  have h4 := (fr2 pa (h_ne hpa hpn (oo_n (by decide)))).trans hpa
  have h5 := (fr2 tl0 (h_ne htl hpn (Ne.symm oa_I))).trans htl
  have h6 := (fr2 tp (h_ne h hpn (oo_n (by decide)))).trans h
  have h7 := (fr2 by0 (h_ne hb hpn (Ne.symm oa_I))).trans hb
  have h8 := (fr2 pm (h_ne hpm hpn (Ne.symm oa_Q))).trans hpm
  refine j_aload_n hG dX4_parse_4 rfl rfl ?_
  refine j_get hG fX4_9 dX4_parse_5 h4 rfl ?_
  refine j_iconst hG dX4_parse_8 ?_
  refine j_callS (rest := []) hG vX4_20 dX4_parse_9 (c_J7_fill_53178 (x := -1) h5) rfl rfl (by decide) (by decide) (Nat.le_of_ble_eq_true rfl) rfl rfl (Nat.zero_le _) (Nat.zero_le _) ?_
  rintro _ f13 ⟨rfl, g9, k10, k11, fr12⟩
  refine j_st (st' := []) rfl ?_
  have h14 := (fr12 pa (h_ne h4 h5 oa_I)).trans h4
  have h15 := (fr12 tp (h_ne h6 h5 oa_I)).trans h6
  have h16 := (fr12 by0 (h_ne h7 h5 (aI_n (by decide)))).trans h7
  have h17 := (fr12 pm (h_ne h8 h5 (Ne.symm aIQ))).trans h8
  have h18 := (fr12 pn (h_ne h1 h5 oa_I)).trans h1
  refine j_aload_n hG dX4_parse_12 rfl rfl ?_
  refine j_callV (rest := []) hG vX4_26 dX4_parse_13 (c_X10_toFirstToken h15 h16 hl hg) h15 rfl rfl (by decide) (by decide) (Nat.le_of_ble_eq_true rfl) rfl rfl (Nat.zero_le _) (Nat.zero_le _) ?_
  rintro _ f21 ⟨rfl, h19, fr20⟩
  refine j_st (st' := []) rfl ?_
  have h22 := (fr20 pa (h_ne h14 h15 (oo_n (by decide)))).trans h14
  have h23 := (fr20 by0 (h_ne h16 h15 (Ne.symm oa_I))).trans h16
  have h24 := (fr20 pm (h_ne h17 h15 (Ne.symm oa_Q))).trans h17
  have h25 := (fr20 pn (h_ne h18 h15 (oo_n (by decide)))).trans h18
  have h26 := (fr20 tl0 (h_ne k10 h15 (Ne.symm oa_I))).trans k10
  refine j_iconst hG dX4_parse_16 ?_
  refine j_istore_n (lv' := [(0, .ref pa), (1, .ref tp), (2, .ref pn), (3, .int (iZ (0)))]) hG dX4_parse_17 rfl (by decide) rfl ?_
  have hMk2 : ∀ i, 0 ≤ i → i < 12 → f21 (ma i) = oB 3 [.int (iZ (M0 i 0)), .int (iZ (M0 i 1)), .int (iZ (M0 i 2)), .int (iZ (M0 i 3)), .int (iZ (M0 i 4)), .int (iZ (M0 i 5))] := fun i i1 i2 => by
    have z0 := hMk i i1 i2
    exact ((Eq.trans (fr20 _ (h_ne z0 h (oo_n (by decide)))) (Eq.trans (fr12 _ (h_ne z0 htl oa_I)) (fr2 _ (h_ne z0 hpn (oo_n (by decide))))))).trans z0
  have s9 := tS_rng (g := g) (len := len) (p := 0) (by omega)
  exact l_X4_parse (f0 := f21) (R := prsL g len 12 0 g9 M0 (tS g len 0)) hG hZ hl hg gpm_ hda (fun f' M' n r tl' p a1 a2 a3 a4 a5 a6 a7 a8 a9 a10 => ⟨g9, M', n, tl', p, k11, by rw [a1], a2, a3, a4, a5, a6, a7, a8, a9, fun q p1 p2 p3 p4 => (a10 q p1 p2 p3 p4).trans (Eq.trans (fr20 q p1) (Eq.trans (fr12 q p2) (fr2 q p3)))⟩) 13 0 g9 M0 M0 (tS g len 0) f21 h22 h26 h19 h23 h25 h24 (by omega) (by omega) (fun j j1 j2 => by rw [k11 j j1 j2]; omega) hMk2 (fun i i1 => rfl) rfl (fun _ _ _ _ _ => rfl) (by omega)
