theorem CLog_hd {E : JE} {rg : Nat → Nat} {f : Hp} {a : Nat} {ls lr : Int → Int} {ln : Nat} (h : CLog E rg f a  ls lr  ln ) : ∃ fs, f a = oB 2 fs := by
  obtain ⟨p, u, h0, -⟩ := h
  exact ⟨_, h0⟩
theorem CTape_hd {E : JE} {rg : Nat → Nat} {f : Hp} {a : Nat} {g : Int → Int} {len : Int} (h : CTape E rg f a  g  len ) : ∃ fs, f a = oB 9 fs := by
  obtain ⟨b, st, sp, h0, -⟩ := h
  exact ⟨_, h0⟩
theorem CPar_hd {E : JE} {rg : Nat → Nat} {f : Hp} {a : Nat} (h : CPar E rg f a ) : ∃ fs, f a = oB 4 fs := by
  obtain ⟨b, tl, h0, -⟩ := h
  exact ⟨_, h0⟩
theorem CHos_hd {E : JE} {rg : Nat → Nat} {f : Hp} {a : Nat} {th : Int → Int} (h : CHos E rg f a  th ) : ∃ fs, f a = oB 1 fs := by
  obtain ⟨p, u, go, h0, -⟩ := h
  exact ⟨_, h0⟩
theorem CChg_hd {E : JE} {rg : Nat → Nat} {f : Hp} {c : Nat} {a : Nat} {W : List Int} (h : CChg E rg f c  a  W ) : ∃ fs, f a = oB 0 fs := by
  obtain ⟨e, gw, h0, -⟩ := h
  exact ⟨_, h0⟩
theorem CPrg_hd {E : JE} {rg : Nat → Nat} {f : Hp} {c : Nat} {a : Nat} {n1 l1 t1 : Int} (h : CPrg E rg f c  a  n1 l1 t1 ) : ∃ fs, f a = oB 6 fs := by
  obtain ⟨h0, -⟩ := h
  exact ⟨_, h0⟩
theorem CTab_hd {E : JE} {rg : Nat → Nat} {f : Hp} {T : Nat} {M : Int → Int → Int} {sz : Nat} {D : Int → Int → Int} {dz : Int} {X : Int → List Int × Int} {gi : Int → Int} (h : CTab E rg f T M sz D dz X gi) : ∃ fs, f T = oB 8 fs := by
  obtain ⟨cu, ofr, mk, it, pl, dr, pm, dm, ra, ca, ma, da, gcu, gof, gmk, gpm, gdm, hT, hpl, hdr, hpm, hdm, hcu, hof, hmk, hit, hM, hD, hRW, gcu_, gof_, gmk_, gpm_, gdm_, hgi, hd, hma, hda, hmd, hco, hpc, hcl, hcr, hcc, hcm⟩ := h
  exact ⟨_, hT⟩
theorem rwAt_hd {E : JE} {f : Hp} {a c : Nat} {l : List Int × Int} (h : rwAt E f a c l) : ∃ fs, f a = oB 7 fs := by
  obtain ⟨n, b, g, h0, -⟩ := h
  exact ⟨_, h0⟩
theorem seg_gd {g : Int → Int} {n i : Int} {W : List Int} (h : seg g 0 n = W) (hi : 0 ≤ i ∧ i < n) : g i = W.getD i.toNat 0 := by
  have := seg_get (g := g) (a := 0) (b := n) (i := i.toNat) (by omega)
  rw [h] at this
  rw [List.getD_eq_getElem?_getD, this, Option.getD_some]
  congr 1; omega
theorem k_X2_size {l : Launch} {E : JE} {rg : Nat → Nat} {f : Hp} {a : Nat} {ls lr : Int → Int} {ln : Nat} (h : CLog E rg f a ls lr ln) : KX2_size l E [.ref a] f (fun v f' => v = some (.int (iZ (ln : Int))) ∧ f = f') := by
  obtain ⟨p, u, h0, h1, h2, g0, g1, g2⟩ := h
  exact c_X2_size h0
theorem k_X2_add {l : Launch} {E : JE} {rg : Nat → Nat} {f : Hp} {a : Nat} {ls lr : Int → Int} {ln : Nat} {s0 x : Int} (h : CLog E rg f a ls lr ln) (hn : ln ≤ 150) : KX2_add l E [.ref a, .int (iZ s0), .long (lZ x)] f (fun v f' => ∃ (z : Int) (ls' lr' : Int → Int) (ln' : Nat), v = some (.int (iZ z)) ∧ CLog E rg f' a ls' lr' ln' ∧ (∀ q, rg q ≠ 2 → f' q = f q) ∧ ((z = 1 ∧ ln < 150 ∧ ls' = fup ls (ln : Int) s0 ∧ lr' = fup lr (ln : Int) x ∧ ln' = ln + 1) ∨ (z = 0 ∧ ln = 150 ∧ ls = ls' ∧ lr = lr' ∧ ln = ln'))) := by
  obtain ⟨p, u, h0, h1, h2, g0, g1, g2⟩ := h
  refine ct_mono (c_X2_add h0 h1 h2 (by omega)) ?_
  rintro v f' (⟨e1, e2, rfl⟩ | ⟨e1, e2, e3, e4, e5, e6⟩)
  · exact ⟨0, ls, lr, ln, e2, ⟨p, u, h0, h1, h2, g0, g1, g2⟩, fun _ _ => rfl, Or.inr ⟨rfl, by omega, rfl, rfl, rfl⟩⟩
  · exact ⟨1, _, _, ln + 1, e2, ⟨p, u, e3, e4, e5, g0, g1, g2⟩, fun q hq => e6 q (fun e => hq (by rw [e]; exact g0)) (fun e => hq (by rw [e]; exact g1)) (fun e => hq (by rw [e]; exact g2)), Or.inl ⟨rfl, by omega, rfl, rfl, rfl⟩⟩
theorem k_X2_sourceAt {l : Launch} {E : JE} {rg : Nat → Nat} {f : Hp} {a : Nat} {ls lr : Int → Int} {ln : Nat} {i : Int} (h : CLog E rg f a ls lr ln) (hn : ln ≤ 150) (hi : 0 ≤ i ∧ i < ln) : KX2_sourceAt l E [.ref a, .int (iZ i)] f (fun v f' => v = some (.int (iZ (ls i))) ∧ f = f') := by
  obtain ⟨p, u, h0, h1, h2, g0, g1, g2⟩ := h
  exact c_X2_sourceAt h0 h1 (by omega) hi
theorem k_X2_rowAt {l : Launch} {E : JE} {rg : Nat → Nat} {f : Hp} {a : Nat} {ls lr : Int → Int} {ln : Nat} {i : Int} (h : CLog E rg f a ls lr ln) (hn : ln ≤ 150) (hi : 0 ≤ i ∧ i < ln) : KX2_rowAt l E [.ref a, .int (iZ i)] f (fun v f' => v = some (.long (lZ (lr i))) ∧ f = f') := by
  obtain ⟨p, u, h0, h1, h2, g0, g1, g2⟩ := h
  exact c_X2_rowAt h0 h2 (by omega) hi
theorem k_X10_length {l : Launch} {E : JE} {rg : Nat → Nat} {f : Hp} {a : Nat} {g : Int → Int} {len : Int} (h : CTape E rg f a g len) : KX10_length l E [.ref a] f (fun v f' => v = some (.int (iZ len)) ∧ f = f') := by
  obtain ⟨b, st, sp, h0, h1, g0, g1⟩ := h
  exact c_X10_length h0
theorem k_X10_hasRoomFor {l : Launch} {E : JE} {rg : Nat → Nat} {f : Hp} {a : Nat} {g : Int → Int} {len : Int} {n : Int} (h : CTape E rg f a g len) (ha : 0 ≤ len ∧ len ≤ 300) (hn : 0 ≤ n ∧ n ≤ 1000) : KX10_hasRoomFor l E [.ref a, .int (iZ n)] f (fun v f' => (∃ z : Int, v = some (.int (iZ z)) ∧ ((z = 1 ∧ len + n ≤ 300) ∨ (z = 0 ∧ 300 < len + n))) ∧ f = f') := by
  obtain ⟨b, st, sp, h0, h1, g0, g1⟩ := h
  exact c_X10_hasRoomFor h0 ha hn
theorem k_X10_addNumber {l : Launch} {E : JE} {rg : Nat → Nat} {f : Hp} {a : Nat} {g : Int → Int} {len : Int} {z : Int} (h : CTape E rg f a g len) (hl : 0 ≤ len ∧ len + 4 ≤ 300) (hz : -2147483648 ≤ z ∧ z < 2147483648) : KX10_addNumber l E [.ref a, .int (iZ z)] f (fun v f' => v = none ∧ CTape E rg f' a (put4 g len z) (len + 4) ∧ ∀ q, rg q ≠ 3 → f' q = f q) := by
  obtain ⟨b, st, sp, h0, h1, g0, g1⟩ := h
  refine ct_mono (c_X10_addNumber h0 h1 hl hz) ?_
  rintro v f' ⟨e1, e2, e3, e4⟩
  exact ⟨e1, ⟨b, st, sp, e2, e3, g0, g1⟩, fun q hq => e4 q (fun e => hq (by rw [e]; exact g0)) (fun e => hq (by rw [e]; exact g1))⟩
theorem k_X10_cut {l : Launch} {E : JE} {rg : Nat → Nat} {f : Hp} {a : Nat} {g : Int → Int} {len : Int} {n : Int} (h : CTape E rg f a g len) (ha : 0 ≤ len ∧ len ≤ 300) (hn : 0 ≤ n ∧ n ≤ len) : KX10_cut l E [.ref a, .int (iZ n)] f (fun v f' => v = none ∧ CTape E rg f' a g n ∧ ∀ q, rg q ≠ 3 → f' q = f q) := by
  obtain ⟨b, st, sp, h0, h1, g0, g1⟩ := h
  refine ct_mono (c_X10_cut h0 (by omega) (by omega)) ?_
  rintro v f' ⟨e1, e2, e3⟩
  rw [show max 0 (min n len) = n by omega] at e2
  exact ⟨e1, ⟨b, st, sp, e2, (e3 b (h_ne h1 h0 (Ne.symm oa_I))).trans h1, g0, g1⟩, fun q hq => e3 q (fun e => hq (by rw [e]; exact g0))⟩
theorem k_X6_rowsRead {l : Launch} {E : JE} {rg : Nat → Nat} {f : Hp} {c a : Nat} {n1 l1 t1 : Int} (h : CPrg E rg f c a n1 l1 t1) : KX6_rowsRead l E [.ref a] f (fun v f' => v = some (.int (iZ n1)) ∧ f = f') := c_X6_rowsRead h.1
theorem k_X6_rowsLate {l : Launch} {E : JE} {rg : Nat → Nat} {f : Hp} {c a : Nat} {n1 l1 t1 : Int} (h : CPrg E rg f c a n1 l1 t1) : KX6_rowsLate l E [.ref a] f (fun v f' => v = some (.int (iZ l1)) ∧ f = f') := c_X6_rowsLate h.1
theorem k_X6_greatestTime {l : Launch} {E : JE} {rg : Nat → Nat} {f : Hp} {c a : Nat} {n1 l1 t1 : Int} (h : CPrg E rg f c a n1 l1 t1) : KX6_greatestTime l E [.ref a] f (fun v f' => v = some (.int (iZ t1)) ∧ f = f') := c_X6_greatestTime h.1
theorem k_X6_clear {l : Launch} {E : JE} {rg : Nat → Nat} {f : Hp} {c a : Nat} {n1 l1 t1 : Int} (h : CPrg E rg f c a n1 l1 t1) : KX6_clear l E [.ref a] f (fun v f' => v = none ∧ CPrg E rg f' c a 0 0 (-1) ∧ ∀ q, rg q ≠ c → f' q = f q) := by
  refine ct_mono (c_X6_clear h.1) ?_
  rintro v f' ⟨e1, e2, e3⟩
  exact ⟨e1, ⟨e2, h.2⟩, fun q hq => e3 q (fun e => hq (by rw [e]; exact h.2))⟩
theorem k_X6_copy {l : Launch} {E : JE} {rg : Nat → Nat} {f : Hp} {c a : Nat} {n1 l1 t1 : Int} {c2 o : Nat} {n2 l2 t2 : Int} (h : CPrg E rg f c a n1 l1 t1) (h2 : CPrg E rg f c2 o n2 l2 t2) (hc : c2 ≠ c) : KX6_copy l E [.ref a, .ref o] f (fun v f' => v = none ∧ CPrg E rg f' c a n2 l2 t2 ∧ ∀ q, rg q ≠ c → f' q = f q) := by
  refine ct_mono (c_X6_copy h.1 h2.1 (fun e => hc (by rw [← h2.2, ← h.2, e]))) ?_
  rintro v f' ⟨e1, e2, e3⟩
  exact ⟨e1, ⟨e2, h.2⟩, fun q hq => e3 q (fun e => hq (by rw [e]; exact h.2))⟩
theorem k_X6_step {l : Launch} {E : JE} {rg : Nat → Nat} {f : Hp} {c a : Nat} {n1 l1 t1 : Int} {t z : Int} (h : CPrg E rg f c a n1 l1 t1) (hz : z = 0 ∨ z = 1) (hc : -2147483648 ≤ t1 ∧ t1 < 2147483648) (ht : -2147483648 ≤ t ∧ t < 2147483648) : KX6_step l E [.ref a, .int (iZ t), .int (iZ z)] f (fun v f' => v = none ∧ CPrg E rg f' c a (n1 + 1) (l1 + z) (max t1 t) ∧ ∀ q, rg q ≠ c → f' q = f q) := by
  refine ct_mono (c_X6_step h.1 hz hc ht) ?_
  rintro v f' ⟨e1, e2, e3⟩
  exact ⟨e1, ⟨e2, h.2⟩, fun q hq => e3 q (fun e => hq (by rw [e]; exact h.2))⟩
def chP (W : List Int) (i u : Int) : Int := if 0 ≤ i ∧ i < W.length then cP (W.getD i.toNat 0) u else -2000000000
theorem k_X0_size {l : Launch} {E : JE} {rg : Nat → Nat} {f : Hp} {c a : Nat} {W : List Int} (h : CChg E rg f c a W) : KX0_size l E [.ref a] f (fun v f' => v = some (.int (iZ (W.length : Int))) ∧ f = f') := by
  obtain ⟨e, gw, h0, h1, p0, p1, p2, g0, g1⟩ := h
  exact c_X0_size h0
theorem k_X0_clear {l : Launch} {E : JE} {rg : Nat → Nat} {f : Hp} {c a : Nat} {W : List Int} (h : CChg E rg f c a W) : KX0_clear l E [.ref a] f (fun v f' => v = none ∧ CChg E rg f' c a [] ∧ ∀ q, rg q ≠ c → f' q = f q) := by
  obtain ⟨e, gw, h0, h1, p0, p1, p2, g0, g1⟩ := h
  refine ct_mono (c_X0_clear h0) ?_
  rintro v f' ⟨e1, e2, e3⟩
  exact ⟨e1, ⟨e, gw, e2, (e3 e (h_ne h1 h0 (Ne.symm oa_J))).trans h1, p0, seg_nil (Int.le_refl _), by simp, g0, g1⟩, fun q hq => e3 q (fun e' => hq (by rw [e']; exact g0))⟩
theorem k_X0_partOf {l : Launch} {E : JE} {rg : Nat → Nat} {f : Hp} {c a : Nat} {W : List Int} {i u : Int} (h : CChg E rg f c a W) (hi : -2147483648 ≤ i ∧ i < 2147483648) (hu : -2147483648 ≤ u ∧ u < 2147483648) : KX0_partOf l E [.ref a, .int (iZ i), .int (iZ u)] f (fun v f' => v = some (.int (iZ (chP W i u))) ∧ f = f') := by
  obtain ⟨e, gw, h0, h1, p0, p1, p2, g0, g1⟩ := h
  refine ct_mono (c_X0_partOf h0 h1 (by omega) hi hu p0) ?_
  rintro v f' ⟨e1, e2⟩
  refine ⟨?_, e2⟩
  rw [e1]
  unfold chP
  by_cases hh : 0 ≤ i ∧ i < (W.length : Int)
  · rw [if_pos hh, if_pos hh, seg_gd p1 hh]
  · rw [if_neg hh, if_neg hh]
theorem fcp_app {g2 g : Int → Int} {O W : List Int} (h1 : seg g 0 (O.length : Int) = O) (h2 : seg g2 0 (W.length : Int) = W) : seg (fcp g2 g 0 (O.length : Int) (W.length : Int)) 0 ((O.length : Int) + (W.length : Int)) = O ++ W := by
  rw [seg_app (O.length : Int) (by omega) (by omega)]
  congr 1
  · refine Eq.trans (seg_congr (fun j j1 j2 => ?_)) h1
    unfold fcp; rw [if_neg (by omega)]
  · refine Eq.trans ?_ h2
    unfold seg
    rw [show ((O.length : Int) + (W.length : Int) - (O.length : Int)).toNat = ((W.length : Int) - 0).toNat by omega]
    apply List.map_congr_left
    intro i hi
    have := List.mem_range.mp hi
    unfold fcp; rw [if_pos (by omega)]
    congr 1; omega
theorem k_X0_addAll {l : Launch} {E : JE} {rg : Nat → Nat} {f : Hp} {c a c2 o : Nat} {O W : List Int} (h : CChg E rg f c a O) (k : CChg E rg f c2 o W) (hc : c2 ≠ c) : KX0_addAll l E [.ref a, .ref o] f (fun v f' => ∃ (z : Int) (O' : List Int), v = some (.int (iZ z)) ∧ CChg E rg f' c a O' ∧ (∀ q, rg q ≠ c → f' q = f q) ∧ ((z = 1 ∧ O.length + W.length ≤ 4000 ∧ O' = O ++ W) ∨ (z = 0 ∧ ¬ (O.length + W.length ≤ 4000) ∧ O = O'))) := by
  obtain ⟨e, gw, h0, h1, p0, p1, p2, g0, g1⟩ := h
  obtain ⟨e', gw', h0', h1', p0', p1', p2', g0', g1'⟩ := k
  refine ct_mono (c_X0_addAll h0 h1 h0' h1' (by omega) (by omega) (fun q => hc (by rw [← g0, ← g0', q])) (fun q => hc (by rw [← g1, ← g1', q]))) ?_
  rintro v f' (⟨e1, e2, rfl⟩ | ⟨e1, e2, e3, e4, e5⟩)
  · exact ⟨0, O, e2, ⟨e, gw, h0, h1, p0, p1, p2, g0, g1⟩, fun _ _ => rfl, Or.inr ⟨rfl, by omega, rfl⟩⟩
  · refine ⟨1, O ++ W, e2, ⟨e, _, ?_, e4, ?_, ?_, ?_, g0, g1⟩, fun q hq => e5 q (fun z => hq (by rw [z]; exact g0)) (fun z => hq (by rw [z]; exact g1)), Or.inl ⟨rfl, by omega, rfl⟩⟩
    · rw [e3, List.length_append]; rfl
    · intro j; unfold fcp; split
      · exact p0' _
      · exact p0 _
    · rw [List.length_append]; exact fcp_app p1 p1'
    · rw [List.length_append]; omega
/-- the CHANGES from A to B -/
def chg (A B : List Int) : List Int := (dif A B).map (fun x => 2 * x + 0) ++ (dif B A).map (fun x => 2 * x + 1)
theorem chg_len (A B : List Int) : (chg A B).length = (dif A B).length + (dif B A).length := by unfold chg; rw [List.length_append, List.length_map, List.length_map]
theorem chg_self (A : List Int) : chg A A = [] := by unfold chg; rw [dif_self]; rfl
theorem k_X0_addDifference {l : Launch} {E : JE} {rg : Nat → Nat} {f : Hp} {c a r1 c1 r2 c2 : Nat} {W A B : List Int} {b1 b2 : Int} (h : CChg E rg f c a W) (ha : rwAt E f r1 c1 (A, b1)) (hb : rwAt E f r2 c2 (B, b2)) : KX0_addDifference l E [.ref a, .ref r1, .ref r2] f (fun v f' => ∃ (z : Int) (W' : List Int), v = some (.int (iZ z)) ∧ CChg E rg f' c a W' ∧ (∀ q, rg q ≠ c → f' q = f q) ∧ ((z = 1 ∧ W.length + (chg A B).length ≤ 4000 ∧ W' = W ++ chg A B) ∨ (z = 0 ∧ ¬ (W.length + (chg A B).length ≤ 4000) ∧ W = W'))) := by
  obtain ⟨e, gw, h0, h1, p0, p1, p2, g0, g1⟩ := h
  obtain ⟨n, b, ga, a0, a1, a2, a3, a4, a5, a6⟩ := ha
  obtain ⟨n', b', gb, d0, d1, d2, d3, d4, d5, d6⟩ := hb
  have e1 : seg ga 0 n = A := a5
  have e2 : seg gb 0 n' = B := d5
  refine ct_mono (c_X0_addDifference h0 h1 a0 a1 d0 d1 a4 d4 (by omega) p0 a2 d2) ?_
  rw [e1, e2]
  have hcl := chg_len A B
  rintro v f' (⟨z1, g', z2, z3, z4, z5, z6, z7, z8⟩ | ⟨z1, g', z2, z3, z4, z6, z7, z8⟩)
  · refine ⟨1, W ++ chg A B, z1, ⟨e, g', ?_, z3, z4, ?_, ?_, g0, g1⟩, fun q hq => z8 q (fun z => hq (by rw [z]; exact g0)) (fun z => hq (by rw [z]; exact g1)), Or.inl ⟨rfl, by omega, rfl⟩⟩
    · rw [z2, List.length_append, hcl, show ((W.length + ((dif A B).length + (dif B A).length) : Nat) : Int) = (W.length : Int) + ((dif A B).length : Int) + ((dif B A).length : Int) by omega]
    · rw [List.length_append, hcl, show ((W.length + ((dif A B).length + (dif B A).length) : Nat) : Int) = (W.length : Int) + ((dif A B).length : Int) + ((dif B A).length : Int) by omega, seg_app (W.length : Int) (by omega) (by omega), z5]
      congr 1
      exact (seg_congr (fun j j1 j2 => z6 j j2)).trans p1
    · rw [List.length_append, hcl]; omega
  · exact ⟨0, W, z1, ⟨e, g', z2, z3, z4, (seg_congr (fun j j1 j2 => z6 j j2)).trans p1, p2, g0, g1⟩, fun q hq => z8 q (fun z => hq (by rw [z]; exact g0)) (fun z => hq (by rw [z]; exact g1)), Or.inr ⟨rfl, by omega, rfl⟩⟩
theorem k_X1_size {l : Launch} {E : JE} {rg : Nat → Nat} {f : Hp} {a : Nat} {th : Int → Int} (h : CHos E rg f a th) : KX1_size l E [.ref a] f (fun v f' => v = some (.int (iZ (hN th))) ∧ f = f') := by
  obtain ⟨p, u, go, h0, h1, h2, p0, g0, g1, g2⟩ := h
  exact c_X1_size h0
theorem k_X1_has {l : Launch} {E : JE} {rg : Nat → Nat} {f : Hp} {a : Nat} {th : Int → Int} {h0 : Int} (h : CHos E rg f a th) (ht : ∀ j, 0 ≤ j → j < 8 → th j = 0 ∨ th j = 1) (hh : -2147483648 ≤ h0 ∧ h0 < 2147483648) : KX1_has l E [.ref a, .int (iZ h0)] f (fun v f' => (∃ z : Int, v = some (.int (iZ z)) ∧ ((z = 1 ∧ 0 ≤ h0 ∧ h0 < 8 ∧ th h0 = 1) ∨ (z = 0 ∧ (h0 < 0 ∨ 8 ≤ h0 ∨ th h0 = 0)))) ∧ f = f') := by
  obtain ⟨p, u, go, k0, k1, k2, p0, g0, g1, g2⟩ := h
  refine ct_mono (c_X1_has k0 k1 hh ht) ?_
  rintro v f' ⟨⟨z, e1, e2, e3⟩, e4⟩
  refine ⟨⟨z, e1, ?_⟩, e4⟩
  rcases e2 with e2 | e2
  · refine Or.inr ⟨e2, ?_⟩
    by_cases c1 : 0 ≤ h0 ∧ h0 < 8
    · have := ht h0 c1.1 c1.2
      rcases this with q | q
      · exact Or.inr (Or.inr q)
      · have := e3.mpr ⟨c1.1, c1.2, q⟩; omega
    · omega
  · exact Or.inl ⟨e2, e3.mp e2⟩
theorem k_X1_ownerOf {l : Launch} {E : JE} {rg : Nat → Nat} {f : Hp} {a : Nat} {th : Int → Int} {k0 : Int} (h : CHos E rg f a th) (hh : -2147483648 ≤ k0 ∧ k0 < 2147483648) : KX1_ownerOf l E [.ref a, .int (iZ k0)] f (fun v f' => v = some (.int (iZ (if 0 ≤ k0 ∧ k0 < 32 then ownr th k0 else -1))) ∧ f = f') := by
  obtain ⟨p, u, go, h0, h1, h2, p0, g0, g1, g2⟩ := h
  refine ct_mono (c_X1_ownerOf h0 h2 hh) ?_
  rintro v f' ⟨e1, e2⟩
  refine ⟨?_, e2⟩
  rw [e1]
  by_cases c : 0 ≤ k0 ∧ k0 < 32
  · rw [if_pos c, if_pos c, p0 k0 c.1 c.2]
  · rw [if_neg c, if_neg c]
theorem k_X1_keysOf {l : Launch} {E : JE} {rg : Nat → Nat} {f : Hp} {a : Nat} {th : Int → Int} {h0 : Int} (h : CHos E rg f a th) (hh : -2147483648 ≤ h0 ∧ h0 < 2147483648) (h1' : 1 ≤ hN th) : KX1_keysOf l E [.ref a, .int (iZ h0)] f (fun v f' => (∃ x : Int32, v = some (.int x) ∧ ∀ k, 0 ≤ k → k < 32 → bt x k.toNat = decide (ownr th k = h0)) ∧ f = f') := by
  obtain ⟨p, u, go, k0, k1, k2, p0, g0, g1, g2⟩ := h
  refine ct_mono (c_X1_keysOf k0 k2 hh (fun j j1 j2 => by rw [p0 j j1 j2]; exact ownr_rng j1 h1')) ?_
  rintro v f' ⟨⟨x, e1, e2⟩, e3⟩
  exact ⟨⟨x, e1, fun k k1 k2 => by rw [e2 k k1 k2, p0 k k1 k2]⟩, e3⟩
theorem hN_fup {th : Int → Int} {h0 z : Int} (hh : 0 ≤ h0 ∧ h0 < 8) : hN (fup th h0 z) = hN th + z - th h0 := by
  have : h0 = 0 ∨ h0 = 1 ∨ h0 = 2 ∨ h0 = 3 ∨ h0 = 4 ∨ h0 = 5 ∨ h0 = 6 ∨ h0 = 7 := by omega
  unfold hN fup
  rcases this with rfl | rfl | rfl | rfl | rfl | rfl | rfl | rfl <;> simp <;> omega
theorem k_X1_change {l : Launch} {E : JE} {rg : Nat → Nat} {f : Hp} {a : Nat} {th : Int → Int} {h0 z : Int} (h : CHos E rg f a th) (ht : ∀ j, 0 ≤ j → j < 8 → th j = 0 ∨ th j = 1) (hh : 0 ≤ h0 ∧ h0 < 8) (hz : z = 0 ∨ z = 1) (hne : th h0 ≠ z) (h1' : 1 ≤ hN th) : KX1_change l E [.ref a, .int (iZ h0), .int (iZ z)] f (fun v f' => ∃ x : Int32, v = some (.int x) ∧ (∀ k, 0 ≤ k → k < 32 → bt x k.toNat = decide (ownr (fup th h0 z) k ≠ ownr th k)) ∧ CHos E rg f' a (fup th h0 z) ∧ ∀ q, rg q ≠ 8 → f' q = f q) := by
  obtain ⟨p, u, go, k0, k1, k2, p0, g0, g1, g2⟩ := h
  refine ct_mono (c_X1_change k0 k1 k2 hh hz hne ht (fun j j1 j2 => by rw [p0 j j1 j2]; have := ownr_rng (th := th) j1 h1'; omega)) ?_
  rintro v f' ⟨x, n', g', e1, e2, e3, e4, e5, e6, e7, e8⟩
  refine ⟨x, e1, fun k k1 k2 => by rw [e7 k k1 k2, p0 k k1 k2], ⟨p, u, g', ?_, e4, e5, e6, g0, g1, g2⟩, fun q hq => e8 q (fun z => hq (by rw [z]; exact g0)) (fun z => hq (by rw [z]; exact g1)) (fun z => hq (by rw [z]; exact g2))⟩
  have e9 : n' = hN (fup th h0 z) := by
    rw [hN_fup hh]
    have := ht h0 hh.1 hh.2
    omega
  rw [← e9]; exact e3
theorem k_X9_size {l : Launch} {E : JE} {rg : Nat → Nat} {f : Hp} {T : Nat} {M : Int → Int → Int} {sz : Nat} {D : Int → Int → Int} {dz : Int} {X : Int → List Int × Int} {gi : Int → Int} (h : CTab E rg f T M sz D dz X gi) : KX9_size l E [.ref T] f (fun v f' => v = some (.int (iZ (sz : Int))) ∧ f = f') := by
  obtain ⟨cu, ofr, mk, it, pl, dr, pm, dm, ra, ca, ma, da, gcu, gof, gmk, gpm, gdm, hT, hpl, hdr, hpm, hdm, hcu, hof, hmk, hit, hM, hD, hRW, gcu_, gof_, gmk_, gpm_, gdm_, hgi, hd, hma, hda, hmd, hco, hpc, hcl, hcr, hcc, hcm⟩ := h
  exact c_X9_size hT hpl
theorem k_X9_has {l : Launch} {E : JE} {rg : Nat → Nat} {f : Hp} {T : Nat} {M : Int → Int → Int} {sz : Nat} {D : Int → Int → Int} {dz : Int} {X : Int → List Int × Int} {gi : Int → Int} {i : Int} (h : CTab E rg f T M sz D dz X gi) (hsz : sz ≤ 12) (hi : -2147483648 ≤ i ∧ i < 2147483648) : KX9_has l E [.ref T, .int (iZ i)] f (fun v f' => (∃ z : Int, v = some (.int (iZ z)) ∧ ((z = 1 ∧ 0 ≤ i ∧ i < sz) ∨ (z = 0 ∧ (i < 0 ∨ (sz : Int) ≤ i)))) ∧ f = f') := by
  obtain ⟨cu, ofr, mk, it, pl, dr, pm, dm, ra, ca, ma, da, gcu, gof, gmk, gpm, gdm, hT, hpl, hdr, hpm, hdm, hcu, hof, hmk, hit, hM, hD, hRW, gcu_, gof_, gmk_, gpm_, gdm_, hgi, hd, hma, hda, hmd, hco, hpc, hcl, hcr, hcc, hcm⟩ := h
  exact c_X9_has hT hpl (by omega) hi
theorem k_X9_rowsOf {l : Launch} {E : JE} {rg : Nat → Nat} {f : Hp} {T : Nat} {M : Int → Int → Int} {sz : Nat} {D : Int → Int → Int} {dz : Int} {X : Int → List Int × Int} {gi : Int → Int} {i : Int} (h : CTab E rg f T M sz D dz X gi) (hsz : sz ≤ 12) (hi : 0 ≤ i ∧ i < sz) : KX9_rowsOf l E [.ref T, .int (iZ i)] f (fun v f' => ∃ r c : Nat, v = some (.ref r) ∧ rwAt E f r c (X i) ∧ f = f') := by
  obtain ⟨cu, ofr, mk, it, pl, dr, pm, dm, ra, ca, ma, da, gcu, gof, gmk, gpm, gdm, hT, hpl, hdr, hpm, hdm, hcu, hof, hmk, hit, hM, hD, hRW, gcu_, gof_, gmk_, gpm_, gdm_, hgi, hd, hma, hda, hmd, hco, hpc, hcl, hcr, hcc, hcm⟩ := h
  refine ct_mono (c_X9_rowsOf hT hpl hcu (by omega) (by omega) gcu_) ?_
  rintro v f' ⟨e1, e2⟩
  rw [if_pos hi] at e1
  exact ⟨_, _, e1, hRW.1 i (by omega) (by omega), e2⟩
theorem k_X9_countOfKeys {l : Launch} {E : JE} {rg : Nat → Nat} {f : Hp} {T : Nat} {M : Int → Int → Int} {sz : Nat} {D : Int → Int → Int} {dz : Int} {X : Int → List Int × Int} {gi : Int → Int} {x : Int32} (h : CTab E rg f T M sz D dz X gi) (hsz : sz ≤ 12) : KX9_countOfKeys l E [.ref T, .int x] f (fun v f' => v = some (.int (iZ (sumT (fun k => bt x k.toNat) (fun i => (X i).1) sz))) ∧ f = f') := by
  obtain ⟨cu, ofr, mk, it, pl, dr, pm, dm, ra, ca, ma, da, gcu, gof, gmk, gpm, gdm, hT, hpl, hdr, hpm, hdm, hcu, hof, hmk, hit, hM, hD, hRW, gcu_, gof_, gmk_, gpm_, gdm_, hgi, hd, hma, hda, hmd, hco, hpc, hcl, hcr, hcc, hcm⟩ := h
  exact c_X9_countOfKeys hT hpl hcu (by omega) gcu_ hRW
theorem k_X9_clear {l : Launch} {E : JE} {rg : Nat → Nat} {f : Hp} {T : Nat} {M : Int → Int → Int} {sz : Nat} {D : Int → Int → Int} {dz : Int} {X : Int → List Int × Int} {gi : Int → Int} (h : CTab E rg f T M sz D dz X gi) : KX9_clear l E [.ref T] f (fun v f' => v = none ∧ ∃ X' : Int → List Int × Int, CTab E rg f' T M sz D dz X' gi ∧ (∀ j, 0 ≤ j → j < 12 → X' j = ([], 0) ∧ X' (j + 24) = ([], 0)) ∧ (X' 36 = X 36) ∧ ∀ q, rg q ≠ 5 → f' q = f q) := by
  obtain ⟨cu, ofr, mk, it, pl, dr, pm, dm, ra, ca, ma, da, gcu, gof, gmk, gpm, gdm, hT, hpl, hdr, hpm, hdm, hcu, hof, hmk, hit, hM, hD, hRW, gcu_, gof_, gmk_, gpm_, gdm_, hgi, hd, hma, hda, hmd, hco, hpc, hcl, hcr, hcc, hcm⟩ := h
  refine ct_mono (c_X9_clear hT hcu hmk hd gcu_ gmk_ hRW) ?_
  rintro v f' ⟨e1, X', e2, e3, e4, e5⟩
  exact ⟨e1, X', ⟨cu, ofr, mk, it, pl, dr, pm, dm, ra, ca, ma, da, gcu, gof, gmk, gpm, gdm, (e5 _ (rw_out hRW hT (fun _ => oo_n (by decide)) (fun _ _ _ => oa_J)).1 (rw_out hRW hT (fun _ => oo_n (by decide)) (fun _ _ _ => oa_J)).2).trans hT, (e5 _ (rw_out hRW hpl (fun _ => oo_n (by decide)) (fun _ _ _ => oa_J)).1 (rw_out hRW hpl (fun _ => oo_n (by decide)) (fun _ _ _ => oa_J)).2).trans hpl, (e5 _ (rw_out hRW hdr (fun _ => oo_n (by decide)) (fun _ _ _ => oa_J)).1 (rw_out hRW hdr (fun _ => oo_n (by decide)) (fun _ _ _ => oa_J)).2).trans hdr, (e5 _ (rw_out hRW hpm (fun _ => Ne.symm oa_Q) (fun _ _ _ => Ne.symm aJQ)).1 (rw_out hRW hpm (fun _ => Ne.symm oa_Q) (fun _ _ _ => Ne.symm aJQ)).2).trans hpm, (e5 _ (rw_out hRW hdm (fun _ => Ne.symm oa_Q) (fun _ _ _ => Ne.symm aJQ)).1 (rw_out hRW hdm (fun _ => Ne.symm oa_Q) (fun _ _ _ => Ne.symm aJQ)).2).trans hdm, (e5 _ (rw_out hRW hcu (fun _ => Ne.symm oa_Q) (fun _ _ _ => Ne.symm aJQ)).1 (rw_out hRW hcu (fun _ => Ne.symm oa_Q) (fun _ _ _ => Ne.symm aJQ)).2).trans hcu, (e5 _ (rw_out hRW hof (fun _ => Ne.symm oa_Q) (fun _ _ _ => Ne.symm aJQ)).1 (rw_out hRW hof (fun _ => Ne.symm oa_Q) (fun _ _ _ => Ne.symm aJQ)).2).trans hof, (e5 _ (rw_out hRW hmk (fun _ => Ne.symm oa_Q) (fun _ _ _ => Ne.symm aJQ)).1 (rw_out hRW hmk (fun _ => Ne.symm oa_Q) (fun _ _ _ => Ne.symm aJQ)).2).trans hmk, (e5 _ (rw_out hRW hit (fun _ => Ne.symm oa_I) (fun _ _ _ => aIJ)).1 (rw_out hRW hit (fun _ => Ne.symm oa_I) (fun _ _ _ => aIJ)).2).trans hit, fun i i1 i2 => (e5 _ (rw_out hRW (hM i i1 i2) (fun _ => oo_n (by decide)) (fun _ _ _ => oa_J)).1 (rw_out hRW (hM i i1 i2) (fun _ => oo_n (by decide)) (fun _ _ _ => oa_J)).2).trans (hM i i1 i2), fun i i1 i2 => (e5 _ (rw_out hRW (hD i i1 i2) (fun _ => oo_n (by decide)) (fun _ _ _ => oa_J)).1 (rw_out hRW (hD i i1 i2) (fun _ => oo_n (by decide)) (fun _ _ _ => oa_J)).2).trans (hD i i1 i2), e2, gcu_, gof_, gmk_, gpm_, gdm_, hgi, hd, hma, hda, hmd, hco, hpc, hcl, hcr, hcc, hcm⟩, e3, e4 36 (by omega), fun q hq => e5 q (fun i i1 i2 e => hq (by rw [e]; exact hcr i i1 i2)) (fun i i1 i2 e => hq (by rw [e]; exact hcc i i1 i2))⟩
theorem k_X9_keep {l : Launch} {E : JE} {rg : Nat → Nat} {f : Hp} {T : Nat} {M : Int → Int → Int} {sz : Nat} {D : Int → Int → Int} {dz : Int} {X : Int → List Int × Int} {gi : Int → Int} (h : CTab E rg f T M sz D dz X gi) (hsz : sz ≤ 12) : KX9_keep l E [.ref T] f (fun v f' => v = none ∧ ∃ X' : Int → List Int × Int, CTab E rg f' T M sz D dz X' gi ∧ (∀ j : Nat, j < sz → X' (j + 24) = X j ∧ X' j = X j) ∧ (X' 36 = X 36) ∧ ∀ q, rg q ≠ 5 → f' q = f q) := by
  obtain ⟨cu, ofr, mk, it, pl, dr, pm, dm, ra, ca, ma, da, gcu, gof, gmk, gpm, gdm, hT, hpl, hdr, hpm, hdm, hcu, hof, hmk, hit, hM, hD, hRW, gcu_, gof_, gmk_, gpm_, gdm_, hgi, hd, hma, hda, hmd, hco, hpc, hcl, hcr, hcc, hcm⟩ := h
  refine ct_mono (c_X9_keep hT hpl hcu hmk (by omega) hd gcu_ gmk_ hRW) ?_
  rintro v f' ⟨e1, X', e2, e3, e4, e5⟩
  exact ⟨e1, X', ⟨cu, ofr, mk, it, pl, dr, pm, dm, ra, ca, ma, da, gcu, gof, gmk, gpm, gdm, (e5 _ (rw_out hRW hT (fun _ => oo_n (by decide)) (fun _ _ _ => oa_J)).1 (rw_out hRW hT (fun _ => oo_n (by decide)) (fun _ _ _ => oa_J)).2).trans hT, (e5 _ (rw_out hRW hpl (fun _ => oo_n (by decide)) (fun _ _ _ => oa_J)).1 (rw_out hRW hpl (fun _ => oo_n (by decide)) (fun _ _ _ => oa_J)).2).trans hpl, (e5 _ (rw_out hRW hdr (fun _ => oo_n (by decide)) (fun _ _ _ => oa_J)).1 (rw_out hRW hdr (fun _ => oo_n (by decide)) (fun _ _ _ => oa_J)).2).trans hdr, (e5 _ (rw_out hRW hpm (fun _ => Ne.symm oa_Q) (fun _ _ _ => Ne.symm aJQ)).1 (rw_out hRW hpm (fun _ => Ne.symm oa_Q) (fun _ _ _ => Ne.symm aJQ)).2).trans hpm, (e5 _ (rw_out hRW hdm (fun _ => Ne.symm oa_Q) (fun _ _ _ => Ne.symm aJQ)).1 (rw_out hRW hdm (fun _ => Ne.symm oa_Q) (fun _ _ _ => Ne.symm aJQ)).2).trans hdm, (e5 _ (rw_out hRW hcu (fun _ => Ne.symm oa_Q) (fun _ _ _ => Ne.symm aJQ)).1 (rw_out hRW hcu (fun _ => Ne.symm oa_Q) (fun _ _ _ => Ne.symm aJQ)).2).trans hcu, (e5 _ (rw_out hRW hof (fun _ => Ne.symm oa_Q) (fun _ _ _ => Ne.symm aJQ)).1 (rw_out hRW hof (fun _ => Ne.symm oa_Q) (fun _ _ _ => Ne.symm aJQ)).2).trans hof, (e5 _ (rw_out hRW hmk (fun _ => Ne.symm oa_Q) (fun _ _ _ => Ne.symm aJQ)).1 (rw_out hRW hmk (fun _ => Ne.symm oa_Q) (fun _ _ _ => Ne.symm aJQ)).2).trans hmk, (e5 _ (rw_out hRW hit (fun _ => Ne.symm oa_I) (fun _ _ _ => aIJ)).1 (rw_out hRW hit (fun _ => Ne.symm oa_I) (fun _ _ _ => aIJ)).2).trans hit, fun i i1 i2 => (e5 _ (rw_out hRW (hM i i1 i2) (fun _ => oo_n (by decide)) (fun _ _ _ => oa_J)).1 (rw_out hRW (hM i i1 i2) (fun _ => oo_n (by decide)) (fun _ _ _ => oa_J)).2).trans (hM i i1 i2), fun i i1 i2 => (e5 _ (rw_out hRW (hD i i1 i2) (fun _ => oo_n (by decide)) (fun _ _ _ => oa_J)).1 (rw_out hRW (hD i i1 i2) (fun _ => oo_n (by decide)) (fun _ _ _ => oa_J)).2).trans (hD i i1 i2), e2, gcu_, gof_, gmk_, gpm_, gdm_, hgi, hd, hma, hda, hmd, hco, hpc, hcl, hcr, hcc, hcm⟩, fun j hj => ⟨e3 j (by omega) (by omega), e4 j (by omega)⟩, e4 36 (by omega), fun q hq => e5 q (fun i i1 i2 e => hq (by rw [e]; exact hcr i i1 i2)) (fun i i1 i2 e => hq (by rw [e]; exact hcc i i1 i2))⟩
theorem k_X9_restore {l : Launch} {E : JE} {rg : Nat → Nat} {f : Hp} {T : Nat} {M : Int → Int → Int} {sz : Nat} {D : Int → Int → Int} {dz : Int} {X : Int → List Int × Int} {gi : Int → Int} (h : CTab E rg f T M sz D dz X gi) (hsz : sz ≤ 12) : KX9_restore l E [.ref T] f (fun v f' => v = none ∧ ∃ X' : Int → List Int × Int, CTab E rg f' T M sz D dz X' gi ∧ (∀ j : Nat, j < sz → X' (j + 24) = X (j + 24) ∧ X' j = X (j + 24)) ∧ (X' 36 = X 36) ∧ ∀ q, rg q ≠ 5 → f' q = f q) := by
  obtain ⟨cu, ofr, mk, it, pl, dr, pm, dm, ra, ca, ma, da, gcu, gof, gmk, gpm, gdm, hT, hpl, hdr, hpm, hdm, hcu, hof, hmk, hit, hM, hD, hRW, gcu_, gof_, gmk_, gpm_, gdm_, hgi, hd, hma, hda, hmd, hco, hpc, hcl, hcr, hcc, hcm⟩ := h
  refine ct_mono (c_X9_restore hT hpl hcu hmk (by omega) hd gcu_ gmk_ hRW) ?_
  rintro v f' ⟨e1, X', e2, e3, e4, e5⟩
  exact ⟨e1, X', ⟨cu, ofr, mk, it, pl, dr, pm, dm, ra, ca, ma, da, gcu, gof, gmk, gpm, gdm, (e5 _ (rw_out hRW hT (fun _ => oo_n (by decide)) (fun _ _ _ => oa_J)).1 (rw_out hRW hT (fun _ => oo_n (by decide)) (fun _ _ _ => oa_J)).2).trans hT, (e5 _ (rw_out hRW hpl (fun _ => oo_n (by decide)) (fun _ _ _ => oa_J)).1 (rw_out hRW hpl (fun _ => oo_n (by decide)) (fun _ _ _ => oa_J)).2).trans hpl, (e5 _ (rw_out hRW hdr (fun _ => oo_n (by decide)) (fun _ _ _ => oa_J)).1 (rw_out hRW hdr (fun _ => oo_n (by decide)) (fun _ _ _ => oa_J)).2).trans hdr, (e5 _ (rw_out hRW hpm (fun _ => Ne.symm oa_Q) (fun _ _ _ => Ne.symm aJQ)).1 (rw_out hRW hpm (fun _ => Ne.symm oa_Q) (fun _ _ _ => Ne.symm aJQ)).2).trans hpm, (e5 _ (rw_out hRW hdm (fun _ => Ne.symm oa_Q) (fun _ _ _ => Ne.symm aJQ)).1 (rw_out hRW hdm (fun _ => Ne.symm oa_Q) (fun _ _ _ => Ne.symm aJQ)).2).trans hdm, (e5 _ (rw_out hRW hcu (fun _ => Ne.symm oa_Q) (fun _ _ _ => Ne.symm aJQ)).1 (rw_out hRW hcu (fun _ => Ne.symm oa_Q) (fun _ _ _ => Ne.symm aJQ)).2).trans hcu, (e5 _ (rw_out hRW hof (fun _ => Ne.symm oa_Q) (fun _ _ _ => Ne.symm aJQ)).1 (rw_out hRW hof (fun _ => Ne.symm oa_Q) (fun _ _ _ => Ne.symm aJQ)).2).trans hof, (e5 _ (rw_out hRW hmk (fun _ => Ne.symm oa_Q) (fun _ _ _ => Ne.symm aJQ)).1 (rw_out hRW hmk (fun _ => Ne.symm oa_Q) (fun _ _ _ => Ne.symm aJQ)).2).trans hmk, (e5 _ (rw_out hRW hit (fun _ => Ne.symm oa_I) (fun _ _ _ => aIJ)).1 (rw_out hRW hit (fun _ => Ne.symm oa_I) (fun _ _ _ => aIJ)).2).trans hit, fun i i1 i2 => (e5 _ (rw_out hRW (hM i i1 i2) (fun _ => oo_n (by decide)) (fun _ _ _ => oa_J)).1 (rw_out hRW (hM i i1 i2) (fun _ => oo_n (by decide)) (fun _ _ _ => oa_J)).2).trans (hM i i1 i2), fun i i1 i2 => (e5 _ (rw_out hRW (hD i i1 i2) (fun _ => oo_n (by decide)) (fun _ _ _ => oa_J)).1 (rw_out hRW (hD i i1 i2) (fun _ => oo_n (by decide)) (fun _ _ _ => oa_J)).2).trans (hD i i1 i2), e2, gcu_, gof_, gmk_, gpm_, gdm_, hgi, hd, hma, hda, hmd, hco, hpc, hcl, hcr, hcc, hcm⟩, fun j hj => ⟨e4 (j + 24) (by omega), e3 j (by omega) (by omega)⟩, e4 36 (by omega), fun q hq => e5 q (fun i i1 i2 e => hq (by rw [e]; exact hcr i i1 i2)) (fun i i1 i2 e => hq (by rw [e]; exact hcc i i1 i2))⟩
theorem k_X8_size {l : Launch} {E : JE} {f : Hp} {a c : Nat} {L : List Int × Int} (h : rwAt E f a c L) : KX8_size l E [.ref a] f (fun v f' => v = some (.int (iZ (L.1.length : Int))) ∧ f = f') := by
  obtain ⟨n, b, g, h0, h1, h2, h3, h4, h5, h6⟩ := h
  have e : (L.1.length : Int) = n := by rw [← h5, seg_len]; omega
  rw [e]
  exact c_X8_size h0
theorem gd_mem {L : List Int} {i : Nat} (h : i < L.length) : L.getD i 0 ∈ L := by
  rw [List.getD_eq_getElem?_getD, List.getElem?_eq_getElem h, Option.getD_some]
  exact List.getElem_mem h
theorem hN_rng {th : Int → Int} (h : ∀ j, 0 ≤ j → j < 8 → th j = 0 ∨ th j = 1) : 0 ≤ hN th ∧ hN th ≤ 8 := by
  have a0 := h 0 (by omega) (by omega); have a1 := h 1 (by omega) (by omega); have a2 := h 2 (by omega) (by omega); have a3 := h 3 (by omega) (by omega)
  have a4 := h 4 (by omega) (by omega); have a5 := h 5 (by omega) (by omega); have a6 := h 6 (by omega) (by omega); have a7 := h 7 (by omega) (by omega)
  unfold hN; omega
theorem k_X8_at {l : Launch} {E : JE} {f : Hp} {a c : Nat} {L : List Int × Int} {i : Int} (h : rwAt E f a c L) (hi : 0 ≤ i ∧ i < (L.1.length : Int)) : KX8_at l E [.ref a, .int (iZ i)] f (fun v f' => v = some (.long (lZ (L.1.getD i.toNat 0))) ∧ f = f') := by
  obtain ⟨n, b, g, h0, h1, h2, h3, h4, h5, h6⟩ := h
  have e : (L.1.length : Int) = n := by rw [← h5, seg_len]; omega
  rw [← seg_gd h5 (by omega)]
  exact c_X8_at h0 h1 h4 (by omega)
/-- what an offer of one ROW more left: src before, src' after -/
def offd (M : Int → Int → Int) (sz : Nat) (X : Int → List Int × Int) (gi : Int → Int) (src src' : Int → List Int) : Prop := ∀ s : Nat, s < sz → (gi s = 1 → X (s + 12) = (tab M src' s, 0)) ∧ (gi s = 0 → tab M src s = tab M src' s)
theorem k_X9_offer {l : Launch} {E : JE} {rg : Nat → Nat} {f : Hp} {T : Nat} {M : Int → Int → Int} {sz : Nat} {D : Int → Int → Int} {dz : Int} {X : Int → List Int × Int} {gi : Int → Int} {sN x : Int} {src : Int → List Int} (h : CTab E rg f T M sz D dz X gi) (hsz : sz ≤ 12) (hsN : -2147483648 ≤ sN ∧ sN < 2147483648) (hMok : ∀ s : Nat, s < sz → mkOk M s) (hsl : ∀ s, lOk (src s)) (hx : rOk x ∧ rV x ≤ 1000000000) (hok : okF M src sz) (hX0 : ∀ s : Nat, s < sz → X s = (tab M src s, 0)) (h36 : X 36 = ([], 0)) : KX9_offer l E [.ref T, .int (iZ sN), .long (lZ x)] f (fun v f' => ∃ (z : Int) (gi' : Int → Int) (X' : Int → List Int × Int), v = some (.int (iZ z)) ∧ CTab E rg f' T M sz D dz X' gi' ∧ (∀ j, j < 12 ∨ 24 ≤ j → X' j = X j) ∧ (∀ q, rg q ≠ 5 → f' q = f q) ∧ ((z = 1 ∧ okF M (fup src sN (src sN ++ [x])) sz ∧ offd M sz X' gi' src (fup src sN (src sN ++ [x]))) ∨ (z = 0 ∧ ¬ okF M (fup src sN (src sN ++ [x])) sz))) := by
  obtain ⟨cu, ofr, mk, it, pl, dr, pm, dm, ra, ca, ma, da, gcu, gof, gmk, gpm, gdm, hT, hpl, hdr, hpm, hdm, hcu, hof, hmk, hit, hM, hD, hRW, gcu_, gof_, gmk_, gpm_, gdm_, hgi, hd, hma, hda, hmd, hco, hpc, hcl, hcr, hcc, hcm⟩ := h
  refine ct_mono (c_X9_offer (M := M) (src := src) hT hpl hpm hcu hof hit (by omega) hsN hd gcu_ gof_ gpm_ (fun s hs => hMok s (by omega)) hsl hx (fun t ht => hok t (by omega)) hgi (fun s hs => hX0 s (by omega)) h36 hRW hM) ?_
  rintro v f' ⟨z, gi', X', e1, e2, e3, e4, e5, e6, e7⟩
  have nT : T ≠ it := h_ne hT hit oa_I
  have npl : pl ≠ it := h_ne hpl hit oa_I
  have ndr : dr ≠ it := h_ne hdr hit oa_I
  have npm : pm ≠ it := h_ne hpm hit (Ne.symm aIQ)
  have ndm : dm ≠ it := h_ne hdm hit (Ne.symm aIQ)
  have ncu : cu ≠ it := h_ne hcu hit (Ne.symm aIQ)
  have nof : ofr ≠ it := h_ne hof hit (Ne.symm aIQ)
  have nmk : mk ≠ it := h_ne hmk hit (Ne.symm aIQ)
  refine ⟨z, gi', X', e1, ⟨cu, ofr, mk, it, pl, dr, pm, dm, ra, ca, ma, da, gcu, gof, gmk, gpm, gdm, (e7 _ nT (rw_out hRW hT (fun _ => oo_n (by decide)) (fun _ _ _ => oa_J)).1 (rw_out hRW hT (fun _ => oo_n (by decide)) (fun _ _ _ => oa_J)).2).trans hT, (e7 _ npl (rw_out hRW hpl (fun _ => oo_n (by decide)) (fun _ _ _ => oa_J)).1 (rw_out hRW hpl (fun _ => oo_n (by decide)) (fun _ _ _ => oa_J)).2).trans hpl, (e7 _ ndr (rw_out hRW hdr (fun _ => oo_n (by decide)) (fun _ _ _ => oa_J)).1 (rw_out hRW hdr (fun _ => oo_n (by decide)) (fun _ _ _ => oa_J)).2).trans hdr, (e7 _ npm (rw_out hRW hpm (fun _ => Ne.symm oa_Q) (fun _ _ _ => Ne.symm aJQ)).1 (rw_out hRW hpm (fun _ => Ne.symm oa_Q) (fun _ _ _ => Ne.symm aJQ)).2).trans hpm, (e7 _ ndm (rw_out hRW hdm (fun _ => Ne.symm oa_Q) (fun _ _ _ => Ne.symm aJQ)).1 (rw_out hRW hdm (fun _ => Ne.symm oa_Q) (fun _ _ _ => Ne.symm aJQ)).2).trans hdm, (e7 _ ncu (rw_out hRW hcu (fun _ => Ne.symm oa_Q) (fun _ _ _ => Ne.symm aJQ)).1 (rw_out hRW hcu (fun _ => Ne.symm oa_Q) (fun _ _ _ => Ne.symm aJQ)).2).trans hcu, (e7 _ nof (rw_out hRW hof (fun _ => Ne.symm oa_Q) (fun _ _ _ => Ne.symm aJQ)).1 (rw_out hRW hof (fun _ => Ne.symm oa_Q) (fun _ _ _ => Ne.symm aJQ)).2).trans hof, (e7 _ nmk (rw_out hRW hmk (fun _ => Ne.symm oa_Q) (fun _ _ _ => Ne.symm aJQ)).1 (rw_out hRW hmk (fun _ => Ne.symm oa_Q) (fun _ _ _ => Ne.symm aJQ)).2).trans hmk, e2, fun i i1 i2 => (e7 _ (h_ne (hM i i1 i2) hit oa_I) (rw_out hRW (hM i i1 i2) (fun _ => oo_n (by decide)) (fun _ _ _ => oa_J)).1 (rw_out hRW (hM i i1 i2) (fun _ => oo_n (by decide)) (fun _ _ _ => oa_J)).2).trans (hM i i1 i2), fun i i1 i2 => (e7 _ (h_ne (hD i i1 i2) hit oa_I) (rw_out hRW (hD i i1 i2) (fun _ => oo_n (by decide)) (fun _ _ _ => oa_J)).1 (rw_out hRW (hD i i1 i2) (fun _ => oo_n (by decide)) (fun _ _ _ => oa_J)).2).trans (hD i i1 i2), e4, gcu_, gof_, gmk_, gpm_, gdm_, e3, hd, hma, hda, hmd, hco, hpc, hcl, hcr, hcc, hcm⟩, e5, ?_, ?_⟩
  · exact fun q hq => e7 q (fun e => hq (by rw [e]; exact hcl.2.2.2.2.1)) (fun i i1 i2 e => hq (by rw [e]; exact hcr i i1 i2)) (fun i i1 i2 e => hq (by rw [e]; exact hcc i i1 i2))
  · rcases e6 with ⟨a1, a2, a3⟩ | ⟨a1, a2⟩
    · exact Or.inl ⟨a1, a2, fun s hs => a3 s (by omega)⟩
    · exact Or.inr ⟨a1, a2⟩
theorem k_X9_answer {l : Launch} {E : JE} {rg : Nat → Nat} {f : Hp} {T : Nat} {M : Int → Int → Int} {sz : Nat} {D : Int → Int → Int} {dz : Int} {X : Int → List Int × Int} {gi : Int → Int} (h : CTab E rg f T M sz D dz X gi) (hsz : 1 ≤ sz ∧ sz ≤ 12) : KX9_answer l E [.ref T] f (fun v f' => ∃ r c : Nat, v = some (.ref r) ∧ rwAt E f r c (X ((sz : Int) - 1)) ∧ f = f') := by
  obtain ⟨cu, ofr, mk, it, pl, dr, pm, dm, ra, ca, ma, da, gcu, gof, gmk, gpm, gdm, hT, hpl, hdr, hpm, hdm, hcu, hof, hmk, hit, hM, hD, hRW, gcu_, gof_, gmk_, gpm_, gdm_, hgi, hd, hma, hda, hmd, hco, hpc, hcl, hcr, hcc, hcm⟩ := h
  refine ct_mono (c_X9_answer hT hpl hcu (by omega) gcu_) ?_
  rintro v f' ⟨e1, e2⟩
  exact ⟨_, _, e1, hRW.1 _ (by omega) (by omega), e2⟩
theorem k_X9_answerOffered {l : Launch} {E : JE} {rg : Nat → Nat} {f : Hp} {T : Nat} {M : Int → Int → Int} {sz : Nat} {D : Int → Int → Int} {dz : Int} {X : Int → List Int × Int} {gi : Int → Int} (h : CTab E rg f T M sz D dz X gi) (hsz : 1 ≤ sz ∧ sz ≤ 12) : KX9_answerOffered l E [.ref T] f (fun v f' => ∃ r c : Nat, v = some (.ref r) ∧ rwAt E f r c (if gi ((sz : Int) - 1) = 1 then X ((sz : Int) - 1 + 12) else X ((sz : Int) - 1)) ∧ f = f') := by
  obtain ⟨cu, ofr, mk, it, pl, dr, pm, dm, ra, ca, ma, da, gcu, gof, gmk, gpm, gdm, hT, hpl, hdr, hpm, hdm, hcu, hof, hmk, hit, hM, hD, hRW, gcu_, gof_, gmk_, gpm_, gdm_, hgi, hd, hma, hda, hmd, hco, hpc, hcl, hcr, hcc, hcm⟩ := h
  refine ct_mono (c_X9_answerOffered hT hpl hcu hof hit (by omega) gcu_ gof_ hgi) ?_
  rintro v f' ⟨e1, e2⟩
  by_cases hc : gi ((sz : Int) - 1) = 1
  · rw [if_pos hc] at e1
    refine ⟨_, ca ((sz : Int) - 1 + 12), e1, ?_, e2⟩
    rw [if_pos hc]; exact hRW.1 _ (by omega) (by omega)
  · rw [if_neg hc] at e1
    refine ⟨_, ca ((sz : Int) - 1), e1, ?_, e2⟩
    rw [if_neg hc]; exact hRW.1 _ (by omega) (by omega)
theorem k_X9_acceptOffer {l : Launch} {E : JE} {rg : Nat → Nat} {f : Hp} {T : Nat} {M : Int → Int → Int} {sz : Nat} {D : Int → Int → Int} {dz : Int} {X : Int → List Int × Int} {gi : Int → Int} (h : CTab E rg f T M sz D dz X gi) (hsz : sz ≤ 12) : KX9_acceptOffer l E [.ref T] f (fun v f' => v = none ∧ ∃ X' : Int → List Int × Int, CTab E rg f' T M sz D dz X' gi ∧ (∀ j : Nat, j < sz → X' j = if gi j = 1 then X (j + 12) else X j) ∧ (∀ j, 24 ≤ j → X' j = X j) ∧ ∀ q, rg q ≠ 5 → f' q = f q) := by
  obtain ⟨cu, ofr, mk, it, pl, dr, pm, dm, ra, ca, ma, da, gcu, gof, gmk, gpm, gdm, hT, hpl, hdr, hpm, hdm, hcu, hof, hmk, hit, hM, hD, hRW, gcu_, gof_, gmk_, gpm_, gdm_, hgi, hd, hma, hda, hmd, hco, hpc, hcl, hcr, hcc, hcm⟩ := h
  refine ct_mono (c_X9_acceptOffer hT hpl hcu hof hit (by omega) hco.1 hgi hd hRW gcu_ gof_) ?_
  rintro v f' ⟨e1, ra', ca', X', gcu', gof', b1, b2, b3, b4, b5, b6, b7, b8, b9, b10, b11, b12, b13⟩
  refine ⟨e1, X', ⟨cu, ofr, mk, it, pl, dr, pm, dm, ra', ca', ma, da, gcu', gof', gmk, gpm, gdm, ?_, (b13 _ (h_ne hpl hcu oa_Q) (h_ne hpl hof oa_Q)).trans hpl, (b13 _ (h_ne hdr hcu oa_Q) (h_ne hdr hof oa_Q)).trans hdr, ?_, ?_, b3, b4, (b13 _ hco.2.1 hco.2.2.1).trans hmk, (b13 _ (h_ne hit hcu aIQ) (h_ne hit hof aIQ)).trans hit, fun i i1 i2 => (b13 _ (h_ne (hM i i1 i2) hcu oa_Q) (h_ne (hM i i1 i2) hof oa_Q)).trans (hM i i1 i2), fun i i1 i2 => (b13 _ (h_ne (hD i i1 i2) hcu oa_Q) (h_ne (hD i i1 i2) hof oa_Q)).trans (hD i i1 i2), b2, b5, b6, fun i i1 i2 => by rw [b7 (i + 24) (by omega)]; exact gmk_ i i1 i2, gpm_, gdm_, hgi, b1, hma, hda, hmd, hco, hpc, hcl, b11 (fun q => rg q = 5) hcr, b12 (fun q => rg q = 5) hcc, hcm⟩, fun j hj => ?_, fun j hj => b10 j hj, fun q hq => b13 q (fun e => hq (by rw [e]; exact hcl.2.1)) (fun e => hq (by rw [e]; exact hcl.2.2.1))⟩
  · rw [b7 36 (by omega), b8 37 (by omega)]
    exact (b13 _ (h_ne hT hcu oa_Q) (h_ne hT hof oa_Q)).trans hT
  · exact (b13 _ hpc.1 hpc.2.1).trans hpm
  · exact (b13 _ hpc.2.2.1 hpc.2.2.2).trans hdm
  · rw [b9 j (by omega) (by omega)]
    by_cases hc : gi j = 1
    · rw [if_pos ⟨by omega, hc⟩, if_pos hc]
    · rw [if_neg (fun q => hc q.2), if_neg hc]
theorem k_X9_takeDraft {l : Launch} {E : JE} {rg : Nat → Nat} {f : Hp} {T : Nat} {M : Int → Int → Int} {sz : Nat} {D : Int → Int → Int} {n : Nat} {X : Int → List Int × Int} {gi : Int → Int} (h : CTab E rg f T M sz D (n : Int) X gi) : KX9_takeDraft l E [.ref T] f (fun v f' => v = none ∧ CTab E rg f' T D n M (sz : Int) X gi ∧ ∀ q, rg q ≠ 5 → f' q = f q) := by
  obtain ⟨cu, ofr, mk, it, pl, dr, pm, dm, ra, ca, ma, da, gcu, gof, gmk, gpm, gdm, hT, hpl, hdr, hpm, hdm, hcu, hof, hmk, hit, hM, hD, hRW, gcu_, gof_, gmk_, gpm_, gdm_, hgi, hd, hma, hda, hmd, hco, hpc, hcl, hcr, hcc, hcm⟩ := h
  refine ct_mono (c_X9_takeDraft hT) ?_
  rintro v f' ⟨e1, e2, e3⟩
  have nn : ∀ {q : Nat} {A : va_E}, f q = A → (∀ fs, A ≠ oB 8 fs) → f' q = A := fun {q A} h1 h2 => (e3 q (h_ne h1 hT (h2 _))).trans h1
  refine ⟨e1, ⟨cu, ofr, mk, it, dr, pl, dm, pm, ra, ca, da, ma, gcu, gof, gmk, gdm, gpm, e2, nn hdr (fun _ => oo_n (by decide)), nn hpl (fun _ => oo_n (by decide)), nn hdm (fun _ => Ne.symm oa_Q), nn hpm (fun _ => Ne.symm oa_Q), nn hcu (fun _ => Ne.symm oa_Q), nn hof (fun _ => Ne.symm oa_Q), nn hmk (fun _ => Ne.symm oa_Q), nn hit (fun _ => Ne.symm oa_I), fun i i1 i2 => nn (hD i i1 i2) (fun _ => oo_n (by decide)), fun i i1 i2 => nn (hM i i1 i2) (fun _ => oo_n (by decide)), RWs_kept hRW (fun i i1 i2 => ⟨fun i3 => ?_, ?_⟩), gcu_, gof_, gmk_, gdm_, gpm_, hgi, hd, hda, hma, fun i j i1 i2 j1 j2 e => hmd j i j1 j2 i1 i2 e.symm, ⟨hco.1, hco.2.1, hco.2.2.1, Ne.symm hco.2.2.2⟩, ⟨hpc.2.2.1, hpc.2.2.2, hpc.1, hpc.2.1⟩, ⟨hcl.1, hcl.2.1, hcl.2.2.1, hcl.2.2.2.1, hcl.2.2.2.2.1, hcl.2.2.2.2.2.2.1, hcl.2.2.2.2.2.1, hcl.2.2.2.2.2.2.2.2, hcl.2.2.2.2.2.2.2.1⟩, hcr, hcc, fun i i1 i2 => ⟨(hcm i i1 i2).2, (hcm i i1 i2).1⟩⟩, fun q hq => e3 q (fun e => hq (by rw [e]; exact hcl.1))⟩
  · exact e3 _ (Ne.symm ((rw_out hRW hT (fun _ => oo_n (by decide)) (fun _ _ _ => oa_J)).1 i i1 i3))
  · exact e3 _ (Ne.symm ((rw_out hRW hT (fun _ => oo_n (by decide)) (fun _ _ _ => oa_J)).2 i i1 i2))
