theorem CLog_rg {E : JE} {rg rg' : Nat → Nat} {f : Hp} {a : Nat} {ls lr : Int → Int} {ln : Nat} (h : CLog E rg f a  ls lr  ln ) (k : ∀ q, rg q = 2 → rg' q = 2) : CLog E rg' f a  ls lr  ln  := by
  obtain ⟨p, u, h0, h1, h2, g0, g1, g2⟩ := h
  exact ⟨p, u, h0, h1, h2, k _ g0, k _ g1, k _ g2⟩
theorem CTape_rg {E : JE} {rg rg' : Nat → Nat} {f : Hp} {a : Nat} {g : Int → Int} {len : Int} (h : CTape E rg f a  g  len ) (k : ∀ q, rg q = 3 → rg' q = 3) : CTape E rg' f a  g  len  := by
  obtain ⟨b, st, sp, h0, h1, g0, g1⟩ := h
  exact ⟨b, st, sp, h0, h1, k _ g0, k _ g1⟩
theorem CPar_rg {E : JE} {rg rg' : Nat → Nat} {f : Hp} {a : Nat} (h : CPar E rg f a ) (k : ∀ q, rg q = 4 → rg' q = 4) : CPar E rg' f a  := by
  obtain ⟨b, tl, h0, h1, g0, g1⟩ := h
  exact ⟨b, tl, h0, h1, k _ g0, k _ g1⟩
theorem CHos_rg {E : JE} {rg rg' : Nat → Nat} {f : Hp} {a : Nat} {th : Int → Int} (h : CHos E rg f a  th ) (k : ∀ q, rg q = 8 → rg' q = 8) : CHos E rg' f a  th  := by
  obtain ⟨p, u, go, h0, h1, h2, p0, g0, g1, g2⟩ := h
  exact ⟨p, u, go, h0, h1, h2, p0, k _ g0, k _ g1, k _ g2⟩
theorem CChg_rg {E : JE} {rg rg' : Nat → Nat} {f : Hp} {c : Nat} {a : Nat} {W : List Int} (h : CChg E rg f c  a  W ) (k : ∀ q, rg q = c → rg' q = c) : CChg E rg' f c  a  W  := by
  obtain ⟨e, gw, h0, h1, p0, p1, p2, g0, g1⟩ := h
  exact ⟨e, gw, h0, h1, p0, p1, p2, k _ g0, k _ g1⟩
theorem CPrg_rg {E : JE} {rg rg' : Nat → Nat} {f : Hp} {c : Nat} {a : Nat} {n1 l1 t1 : Int} (h : CPrg E rg f c  a  n1 l1 t1 ) (k : ∀ q, rg q = c → rg' q = c) : CPrg E rg' f c  a  n1 l1 t1  := by
  obtain ⟨h0, g0⟩ := h
  exact ⟨h0, k _ g0⟩
theorem CTab_rg {E : JE} {rg rg' : Nat → Nat} {f : Hp} {T : Nat} {M : Int → Int → Int} {sz : Nat} {D : Int → Int → Int} {dz : Int} {X : Int → List Int × Int} {gi : Int → Int} (h : CTab E rg f T M sz D dz X gi) (k : ∀ q, rg q = 5 → rg' q = 5) : CTab E rg' f T M sz D dz X gi := by
  obtain ⟨cu, ofr, mk, it, pl, dr, pm, dm, ra, ca, ma, da, gcu, gof, gmk, gpm, gdm, hT, hpl, hdr, hpm, hdm, hcu, hof, hmk, hit, hM, hD, hRW, gcu_, gof_, gmk_, gpm_, gdm_, hgi, hd, hma, hda, hmd, hco, hpc, hcl, hcr, hcc, hcm⟩ := h
  exact ⟨cu, ofr, mk, it, pl, dr, pm, dm, ra, ca, ma, da, gcu, gof, gmk, gpm, gdm, hT, hpl, hdr, hpm, hdm, hcu, hof, hmk, hit, hM, hD, hRW, gcu_, gof_, gmk_, gpm_, gdm_, hgi, hd, hma, hda, hmd, hco, hpc, ⟨k _ hcl.1, k _ hcl.2.1, k _ hcl.2.2.1, k _ hcl.2.2.2.1, k _ hcl.2.2.2.2.1, k _ hcl.2.2.2.2.2.1, k _ hcl.2.2.2.2.2.2.1, k _ hcl.2.2.2.2.2.2.2.1, k _ hcl.2.2.2.2.2.2.2.2⟩, fun i a b => k _ (hcr i a b), fun i a b => k _ (hcc i a b), fun i a b => ⟨k _ (hcm i a b).1, k _ (hcm i a b).2⟩⟩
theorem CR_mv {E : JE} {rg rg' : Nat → Nat} {f f' : Hp} {x : Nat} {S : ST} (h : CR E rg f x S) (k : ∀ q, rg q ≠ 0 → rg' q = rg q ∧ f' q = f q) : CR E rg' f' x S := by
  obtain ⟨ls, lr, ln, M, sz, la, rd, mr, W, O, g, len, th, fa, re⟩ := S
  have kr : ∀ c, c ≠ 0 → ∀ q, rg q = c → rg' q = c := fun c hc q hq => (k q (by rw [hq]; exact hc)).1.trans hq
  have kf : ∀ c, c ≠ 0 → ∀ q, rg q = c → f' q = f q := fun c hc q hq => (k q (by rw [hq]; exact hc)).2
  obtain ⟨lg, tp, pa, T, wt, to, ho, nw, kp, D, dz, X, gi, Mh, ⟨hx, hc, a2, a3, a4, a5, a6, a7, a8, a9, a10⟩, r1, r2, r3⟩ := h
  exact ⟨lg, tp, pa, T, wt, to, ho, nw, kp, D, dz, X, gi, Mh, ⟨(kf 1 (by decide) x hc).trans hx, kr 1 (by decide) x hc, CLog_rg (CLog_kept a2 (kf 2 (by decide))) (kr 2 (by decide)), CTape_rg (CTape_kept a3 (kf 3 (by decide))) (kr 3 (by decide)), CPar_rg (CPar_kept a4 (kf 4 (by decide))) (kr 4 (by decide)), CTab_rg (CTab_kept a5 (kf 5 (by decide))) (kr 5 (by decide)), CChg_rg (CChg_kept a6 (kf 6 (by decide))) (kr 6 (by decide)), CChg_rg (CChg_kept a7 (kf 7 (by decide))) (kr 7 (by decide)), CHos_rg (CHos_kept a8 (kf 8 (by decide))) (kr 8 (by decide)), CPrg_rg (CPrg_kept a9 (kf 9 (by decide))) (kr 9 (by decide)), CPrg_rg (CPrg_kept a10 (kf 10 (by decide))) (kr 10 (by decide))⟩, r1, r2, r3⟩
theorem CR_x1 {E : JE} {rg : Nat → Nat} {f : Hp} {x : Nat} {S : ST} (h : CR E rg f x S) : f x ≠ eN := by
  obtain ⟨ls, lr, ln, M, sz, la, rd, mr, W, O, g, len, th, fa, re⟩ := S
  obtain ⟨lg, tp, pa, T, wt, to, ho, nw, kp, D, dz, X, gi, Mh, ⟨hx, -⟩, -⟩ := h
  rw [hx]; exact oB_ne (by decide)
theorem MR_base {E : JE} {rg : Nat → Nat} {f0 f f' : Hp} {m : Nat} {S : ST} (h : MR E rg f0 f m S) (k : ∀ q, (rg q = 0 ∨ 10 < rg q) → f' q = f q) : MR E rg f' f' m S := by
  obtain ⟨A, V, G, h1, h2⟩ := h
  obtain ⟨a1, a2, a3, a4⟩ := h1
  exact ⟨A, V, G, ⟨(k _ (Or.inr (by rw [a2]; decide))).trans a1, a2, fun i hi => ⟨(k _ (Or.inr (by rw [(a3 i hi).2]; omega))).trans (a3 i hi).1, (a3 i hi).2⟩, fun _ _ => rfl⟩, h2⟩
theorem MR_low {E : JE} {rg : Nat → Nat} {f0 f : Hp} {m : Nat} {S : ST} (h : MR E rg f0 f m S) : ∀ q, rg q < 11 → f q = f0 q := by
  obtain ⟨A, V, G, h1, h2⟩ := h
  exact h1.2.2.2
theorem CR_le {E : JE} {rg : Nat → Nat} {f f' : Hp} {x : Nat} {S : ST} (h : CR E rg f x S) (k : ∀ q, rg q < 11 → f' q = f q) : CR E rg f' x S := by
  obtain ⟨ls, lr, ln, M, sz, la, rd, mr, W, O, g, len, th, fa, re⟩ := S
  obtain ⟨lg, tp, pa, T, wt, to, ho, nw, kp, D, dz, X, gi, Mh, ⟨hx, hc, a2, a3, a4, a5, a6, a7, a8, a9, a10⟩, r1, r2, r3⟩ := h
  have kf : ∀ c, c < 11 → ∀ q, rg q = c → f' q = f q := fun c hc q hq => k q (by rw [hq]; exact hc)
  exact ⟨lg, tp, pa, T, wt, to, ho, nw, kp, D, dz, X, gi, Mh, ⟨(kf 1 (by decide) x hc).trans hx, hc, CLog_kept a2 (kf 2 (by decide)), CTape_kept a3 (kf 3 (by decide)), CPar_kept a4 (kf 4 (by decide)), CTab_kept a5 (kf 5 (by decide)), CChg_kept a6 (kf 6 (by decide)), CChg_kept a7 (kf 7 (by decide)), CHos_kept a8 (kf 8 (by decide)), CPrg_kept a9 (kf 9 (by decide)), CPrg_kept a10 (kf 10 (by decide))⟩, r1, r2, r3⟩
theorem SOk_0 : SOk S00 := by
  refine ⟨⟨Nat.zero_le _, fun j hj => absurd hj (Nat.not_lt_zero j)⟩, ⟨Nat.zero_le _, fun j hj => absurd hj (Nat.not_lt_zero j)⟩, by decide, by decide, fun j hj => absurd hj (Nat.not_lt_zero j), fun j hj => absurd hj (Nat.not_lt_zero j), by decide, ?_, by decide, ?_, ?_⟩
  · intro i; show (0 : Int) ≤ 0 ∧ (0 : Int) < 256; decide
  · intro j _ _
    by_cases e : j = 0
    · right; rw [e]; exact fup_s _ _ _
    · left; exact fup_n _ _ e
  · decide
theorem MS_0 : MS V00 (fun _ _ => 0) S00 := by
  refine ⟨⟨rfl, fun j hj => absurd hj (Nat.not_lt_zero j)⟩, ⟨rfl, rfl, rfl⟩, fun j hj => absurd hj (Nat.not_lt_zero j), ⟨rfl, fun j hj => absurd hj (Nat.not_lt_zero j)⟩, fun j hj => absurd hj (Nat.not_lt_zero j), ⟨rfl, ?_⟩, ⟨rfl, ?_⟩, ⟨rfl, rfl⟩, by decide, rfl, rfl⟩
  · intro j hj; exact absurd hj (Nat.not_lt_zero j)
  · intro j hj; exact absurd hj (Nat.not_lt_zero j)
/-- both objects, as their constructors left them: one colouring -/
theorem start_ok {E : JE} {f fx fm fe : Hp} {x m : Nat} {L : List Value} {A : Nat → Nat} (hC : ∃ rg : Nat → Nat, CR E rg fx x S00 ∧ (∀ q, rg q ≠ 0 → q = x ∨ (f q = eN ∧ fx q ≠ eN)) ∧ (∀ q, rg q ≤ 10)) (em : fx m = eN) (hm : fm m = oB 11 L) (fr : ∀ b, b ≠ m → fm b = fx b) (he : fe m = oB 11 (mO A V00)) (hA : AW E fm fe m 52 A) : ∃ rg : Nat → Nat, CR E rg fe x S00 ∧ MR E rg fe fe m S00 := by
  obtain ⟨rgc, h1, h2, h3⟩ := hC
  obtain ⟨a1, a2, a3, a4⟩ := hA
  have nz : ∀ q, rgc q ≠ 0 → fx q ≠ eN := fun q hq => by
    rcases h2 q hq with e | e
    · rw [e]; exact CR_x1 h1
    · exact e.2
  have nm : ∀ q, rgc q ≠ 0 → q ≠ m := fun q hq e => nz q hq (by rw [e]; exact em)
  have iA : ∀ i, isA i = true → i < 52 := fun i hi => by
    apply Classical.byContradiction
    intro c
    have : ∀ k : Nat, 52 ≤ k → isA k = false := fun k hk => by
      unfold isA
      have z : ∀ n, n < 52 → Nat.beq k n = false := fun n hn => by
        cases e : Nat.beq k n with
        | false => rfl
        | true => have := Nat.eq_of_beq_eq_true e; omega
      simp only [z 3 (by decide), z 4 (by decide), z 5 (by decide), z 6 (by decide), z 7 (by decide), z 12 (by decide), z 13 (by decide), z 14 (by decide), z 15 (by decide), z 16 (by decide), z 17 (by decide), z 18 (by decide), z 19 (by decide), z 20 (by decide), z 21 (by decide), z 22 (by decide), z 23 (by decide), z 24 (by decide), z 27 (by decide), z 28 (by decide), z 29 (by decide), z 30 (by decide), z 32 (by decide), z 33 (by decide), z 34 (by decide), z 35 (by decide), z 37 (by decide), z 38 (by decide), z 39 (by decide), z 40 (by decide), z 41 (by decide), z 42 (by decide), z 43 (by decide), Bool.or_false]
    rw [this i (by omega)] at hi; exact absurd hi (by decide)
  have nA : ∀ q, rgc q ≠ 0 → ∀ i, isA i = true → A i ≠ q := fun q hq i hi e => by
    have z := (a1 i (iA i hi) hi).2.1
    rw [e, fr q (nm q hq)] at z
    exact nz q hq z
  let rg : Nat → Nat := fun q => @ite Nat (q = m) (Classical.propDecidable _) 11 (@dite Nat (∃ i, isA i = true ∧ A i = q) (Classical.propDecidable _) (fun h => 12 + Classical.choose h) (fun _ => rgc q))
  have rm : rg m = 11 := if_pos rfl
  have rA : ∀ i, isA i = true → rg (A i) = 12 + i := fun i hi => by
    have ex : ∃ j, isA j = true ∧ A j = A i := ⟨i, hi, rfl⟩
    have e1 : rg (A i) = 12 + Classical.choose ex := (if_neg (a1 i (iA i hi) hi).2.2).trans (dif_pos ex)
    have sp := Classical.choose_spec ex
    rw [e1, a2 _ i (iA _ sp.1) (iA i hi) sp.1 hi sp.2]
  have rC : ∀ q, rgc q ≠ 0 → rg q = rgc q ∧ fe q = fx q := fun q hq => by
    refine ⟨(if_neg (nm q hq)).trans (dif_neg (fun ⟨i, hi, e⟩ => nA q hq i hi e)), ?_⟩
    have e1 := fr q (nm q hq)
    exact (a3 q (by rw [e1]; exact nz q hq) (nm q hq)).trans e1
  exact ⟨rg, CR_mv h1 rC, A, V00, fun _ _ => 0, ⟨he, rm, fun i hi => ⟨(a1 i (iA i hi) hi).1, rA i hi⟩, fun _ _ => rfl⟩, MS_0⟩
