/-! ===== what a run's state is ===== -/
def ltst (lr : Int → Int) : Nat → Int
  | 0 => -1
  | n + 1 => max (ltst lr n) (rT (lr n))
def lateB (lr : Int → Int) (la : Int) (n : Nat) : Bool := decide (la ≠ -1 ∧ rT (lr n) < ltst lr n - la)
def nlat (lr : Int → Int) (la : Int) : Nat → Int
  | 0 => 0
  | n + 1 => nlat lr la n + (if lateB lr la n = true then 1 else 0)
/-- what the SOURCES told, the first n of THE LOG, without those that came LATE -/
def srcN (ls lr : Int → Int) (la : Int) : Nat → Int → List Int
  | 0 => fun _ => []
  | n + 1 => if lateB lr la n = true then srcN ls lr la n else fup (srcN ls lr la n) (ls n) (srcN ls lr la n (ls n) ++ [lr n])
theorem ltst_congr {lr lr' : Int → Int} : ∀ n : Nat, (∀ j : Nat, j < n → lr j = lr' j) → ltst lr n = ltst lr' n
  | 0, _ => rfl
  | n + 1, h => by
    unfold ltst
    rw [ltst_congr n (fun j hj => h j (by omega)), h n (by omega)]
theorem lateB_congr {lr lr' : Int → Int} {la : Int} {n : Nat} (h : ∀ j : Nat, j < n + 1 → lr j = lr' j) : lateB lr la n = lateB lr' la n := by
  unfold lateB
  rw [ltst_congr n (fun j hj => h j (by omega)), h n (by omega)]
theorem nlat_congr {lr lr' : Int → Int} {la : Int} : ∀ n : Nat, (∀ j : Nat, j < n → lr j = lr' j) → nlat lr la n = nlat lr' la n
  | 0, _ => rfl
  | n + 1, h => by
    unfold nlat
    rw [nlat_congr n (fun j hj => h j (by omega)), lateB_congr h]
theorem srcN_congr {ls lr ls' lr' : Int → Int} {la : Int} : ∀ n : Nat, (∀ j : Nat, j < n → ls j = ls' j ∧ lr j = lr' j) → srcN ls lr la n = srcN ls' lr' la n
  | 0, _ => rfl
  | n + 1, h => by
    unfold srcN
    rw [srcN_congr n (fun j hj => h j (by omega)), lateB_congr (fun j hj => (h j hj).2), (h n (by omega)).1, (h n (by omega)).2]
theorem ltst_rng {lr : Int → Int} : ∀ n : Nat, (∀ j : Nat, j < n → rOk (lr j)) → -1 ≤ ltst lr n ∧ ltst lr n < 16384
  | 0, _ => by unfold ltst; omega
  | n + 1, h => by
    have := ltst_rng n (fun j hj => h j (by omega))
    have := rT_rng (h n (by omega))
    unfold ltst; omega
theorem nlat_rng {lr : Int → Int} {la : Int} : ∀ n : Nat, 0 ≤ nlat lr la n ∧ nlat lr la n ≤ n
  | 0 => by unfold nlat; omega
  | n + 1 => by
    have := nlat_rng (lr := lr) (la := la) n
    unfold nlat; split <;> omega
theorem srcN_l {ls lr : Int → Int} {la : Int} : ∀ n : Nat, (∀ j : Nat, j < n → rOk (lr j) ∧ rV (lr j) ≤ 1000000000) → ∀ s, lOk (srcN ls lr la n s)
  | 0, _ => fun s x hx => by cases hx
  | n + 1, h => by
    have ih := srcN_l (ls := ls) (la := la) n (fun j hj => h j (by omega))
    unfold srcN
    split
    · exact ih
    · exact src_new ih (h n (by omega))
theorem grp_nil {kd s m : Int} : grp kd s m [] = [] := rfl
theorem rawOf_nil {kd col rel num : Int} : rawOf kd col rel num [] [] = [] := by
  unfold rawOf
  repeat' split
  all_goals rfl
theorem tab_empty {M : Int → Int → Int} {src : Int → List Int} (h : ∀ s, src s = []) : ∀ t : Nat, rawT M src t (tabF M src t) = [] := by
  intro t
  induction t using Nat.strongRecOn with
  | _ t ih =>
    have hV : ∀ i : Int, tabF M src t i = [] := by
      intro i
      by_cases h0 : i < 0 ∨ (t : Int) ≤ i
      · exact tabF_out M src t i h0
      · obtain ⟨j, rfl⟩ := Int.eq_ofNat_of_zero_le (show 0 ≤ i by omega)
        rw [tabF_lt M src t j (by omega)]
        unfold tab mkT
        rw [ih j (by omega)]; rfl
    unfold rawT
    split
    · rw [h]; rfl
    · rw [hV, hV]; exact rawOf_nil
theorem tab_empty2 {M : Int → Int → Int} {src : Int → List Int} (h : ∀ s, src s = []) (t : Nat) : tab M src t = [] := by
  unfold tab mkT; rw [tab_empty h t]; rfl
theorem okF_empty {M : Int → Int → Int} {src : Int → List Int} (h : ∀ s, src s = []) (n : Nat) : okF M src n := fun t _ => by
  rw [tab_empty h t]; exact ⟨by simp, fun p hp => by cases hp⟩
theorem dif_self : ∀ l : List Int, dif l l = []
  | [] => dif_nil_l _
  | x :: l => by rw [dif_cons, if_neg (by omega), if_pos rfl]; exact dif_self l
def hN (th : Int → Int) : Int := th 0 + th 1 + th 2 + th 3 + th 4 + th 5 + th 6 + th 7
theorem bst_none {th : Int → Int} {k : Int} (hk : 0 ≤ k) : ∀ n : Nat, ((bst th k n).1 = -1 ↔ (bst th k n).2 = -1) ∧ ((bst th k n).1 = -1 → ∀ j : Nat, j < n → th j = 0)
  | 0 => by unfold bst; exact ⟨by simp, fun _ j hj => absurd hj (Nat.not_lt_zero j)⟩
  | n + 1 => by
    have ih := bst_none (th := th) hk n
    have hw : 0 ≤ (k + 1) * (2 * (n : Int) + 3) % 97 := Int.emod_nonneg _ (by decide)
    unfold bst
    split
    · exact ⟨by constructor <;> (intro h; simp only [] at h; omega), fun h => by simp only [] at h; omega⟩
    · rename_i hc
      refine ⟨ih.1, fun h j hj => ?_⟩
      by_cases e : j = n
      · subst e
        have h2 := ih.1.mp h
        apply Decidable.byContradiction
        intro h3
        exact hc ⟨h3, by omega⟩
      · exact ih.2 h j (by omega)
theorem ownr_rng {th : Int → Int} {k : Int} (hk : 0 ≤ k) (h : 1 ≤ hN th) : 0 ≤ ownr th k ∧ ownr th k < 8 := by
  have a := bst_rng th k 8
  have b := bst_none (th := th) hk 8
  unfold ownr
  by_cases e : (bst th k 8).1 = -1
  · have z := b.2 e
    have z0 := z 0 (by omega); have z1 := z 1 (by omega); have z2 := z 2 (by omega); have z3 := z 3 (by omega)
    have z4 := z 4 (by omega); have z5 := z 5 (by omega); have z6 := z 6 (by omega); have z7 := z 7 (by omega)
    unfold hN at h
    simp only [Int.natCast_zero, Int.natCast_one, Int.cast_ofNat_Int] at *
    omega
  · omega
/-- the class's TABLES: colour 5 -/
def CTab (E : JE) (rg : Nat → Nat) (f : Hp) (T : Nat) (M : Int → Int → Int) (sz : Nat) (D : Int → Int → Int) (dz : Int) (X : Int → List Int × Int) (gi : Int → Int) : Prop := ∃ (cu ofr mk it pl dr pm dm : Nat) (ra ca ma da : Int → Nat) (gcu gof gmk gpm gdm : Int → Option Nat), f T = oB 8 [.ref cu, .ref ofr, .ref mk, .ref it, .ref (ra 36), .ref (ca 37), .ref pl, .ref dr] ∧ f pl = oB 5 [.ref pm, .int (iZ (sz : Int))] ∧ f dr = oB 5 [.ref dm, .int (iZ dz)] ∧ f pm = aQ (E.2.1 5) 12 gpm ∧ f dm = aQ (E.2.1 5) 12 gdm ∧ f cu = aQ (E.2.1 4) 12 gcu ∧ f ofr = aQ (E.2.1 4) 12 gof ∧ f mk = aQ (E.2.1 4) 12 gmk ∧ f it = aI (E.2.1 2) 12 gi ∧ (∀ i, 0 ≤ i → i < 12 → f (ma i) = oB 3 [.int (iZ (M i 0)), .int (iZ (M i 1)), .int (iZ (M i 2)), .int (iZ (M i 3)), .int (iZ (M i 4)), .int (iZ (M i 5))]) ∧ (∀ i, 0 ≤ i → i < 12 → f (da i) = oB 3 [.int (iZ (D i 0)), .int (iZ (D i 1)), .int (iZ (D i 2)), .int (iZ (D i 3)), .int (iZ (D i 4)), .int (iZ (D i 5))]) ∧ (RWs E f ra ca X) ∧ (∀ i, 0 ≤ i → i < 12 → gcu i = some (ra i)) ∧ (∀ i, 0 ≤ i → i < 12 → gof i = some (ra (i + 12))) ∧ (∀ i, 0 ≤ i → i < 12 → gmk i = some (ra (i + 24))) ∧ (∀ i, 0 ≤ i → i < 12 → gpm i = some (ma i)) ∧ (∀ i, 0 ≤ i → i < 12 → gdm i = some (da i)) ∧ (∀ i, 0 ≤ i → i < 12 → gi i = 0 ∨ gi i = 1) ∧ (rwD ra ca) ∧ (∀ i j, 0 ≤ i → i < 12 → 0 ≤ j → j < 12 → ma i = ma j → i = j) ∧ (∀ i j, 0 ≤ i → i < 12 → 0 ≤ j → j < 12 → da i = da j → i = j) ∧ (∀ i j, 0 ≤ i → i < 12 → 0 ≤ j → j < 12 → ma i ≠ da j) ∧ (cu ≠ ofr ∧ mk ≠ cu ∧ mk ≠ ofr ∧ pl ≠ dr) ∧ (pm ≠ cu ∧ pm ≠ ofr ∧ dm ≠ cu ∧ dm ≠ ofr) ∧ (rg T = 5 ∧ rg cu = 5 ∧ rg ofr = 5 ∧ rg mk = 5 ∧ rg it = 5 ∧ rg pl = 5 ∧ rg dr = 5 ∧ rg pm = 5 ∧ rg dm = 5) ∧ (∀ i, 0 ≤ i → i < 37 → rg (ra i) = 5) ∧ (∀ i, 0 ≤ i → i < 38 → rg (ca i) = 5) ∧ (∀ i, 0 ≤ i → i < 12 → rg (ma i) = 5 ∧ rg (da i) = 5)
def CLog (E : JE) (rg : Nat → Nat) (f : Hp) (a : Nat) (ls lr : Int → Int) (ln : Nat) : Prop := ∃ p u : Nat, f a = oB 2 [.ref p, .ref u, .int (iZ (ln : Int))] ∧ f p = aI (E.2.1 0) 150 ls ∧ f u = aJ (E.2.1 1) 150 lr ∧ rg a = 2 ∧ rg p = 2 ∧ rg u = 2
theorem CLog_kept {E : JE} {rg : Nat → Nat} {f f' : Hp} {a : Nat} {ls lr : Int → Int} {ln : Nat} (h : CLog E rg f a  ls lr  ln ) (k : ∀ q, rg q = 2 → f' q = f q) : CLog E rg f' a  ls lr  ln  := by
  obtain ⟨p, u, h0, h1, h2, g0, g1, g2⟩ := h
  exact ⟨p, u, (k _ g0).trans h0, (k _ g1).trans h1, (k _ g2).trans h2, g0, g1, g2⟩
def CTape (E : JE) (rg : Nat → Nat) (f : Hp) (a : Nat) (g : Int → Int) (len : Int) : Prop := ∃ (b : Nat) (st sp : Int), f a = oB 9 [.ref b, .int (iZ len), .int (iZ st), .int (iZ sp)] ∧ f b = aI (E.2.1 3) 300 g ∧ rg a = 3 ∧ rg b = 3
theorem CTape_kept {E : JE} {rg : Nat → Nat} {f f' : Hp} {a : Nat} {g : Int → Int} {len : Int} (h : CTape E rg f a  g  len ) (k : ∀ q, rg q = 3 → f' q = f q) : CTape E rg f' a  g  len  := by
  obtain ⟨b, st, sp, h0, h1, g0, g1⟩ := h
  exact ⟨b, st, sp, (k _ g0).trans h0, (k _ g1).trans h1, g0, g1⟩
def CPar (E : JE) (rg : Nat → Nat) (f : Hp) (a : Nat) : Prop := ∃ (b : Nat) (tl : Int → Int), f a = oB 4 [.ref b] ∧ f b = aI (E.2.1 0) 26 tl ∧ rg a = 4 ∧ rg b = 4
theorem CPar_kept {E : JE} {rg : Nat → Nat} {f f' : Hp} {a : Nat} (h : CPar E rg f a ) (k : ∀ q, rg q = 4 → f' q = f q) : CPar E rg f' a  := by
  obtain ⟨b, tl, h0, h1, g0, g1⟩ := h
  exact ⟨b, tl, (k _ g0).trans h0, (k _ g1).trans h1, g0, g1⟩
def CHos (E : JE) (rg : Nat → Nat) (f : Hp) (a : Nat) (th : Int → Int) : Prop := ∃ (p u : Nat) (go : Int → Int), f a = oB 1 [.ref p, .ref u, .int (iZ (hN th))] ∧ f p = aI (E.2.1 2) 8 th ∧ f u = aI (E.2.1 0) 32 go ∧ (∀ k, 0 ≤ k → k < 32 → go k = ownr th k) ∧ rg a = 8 ∧ rg p = 8 ∧ rg u = 8
theorem CHos_kept {E : JE} {rg : Nat → Nat} {f f' : Hp} {a : Nat} {th : Int → Int} (h : CHos E rg f a  th ) (k : ∀ q, rg q = 8 → f' q = f q) : CHos E rg f' a  th  := by
  obtain ⟨p, u, go, h0, h1, h2, p0, g0, g1, g2⟩ := h
  exact ⟨p, u, go, (k _ g0).trans h0, (k _ g1).trans h1, (k _ g2).trans h2, p0, g0, g1, g2⟩
def CChg (E : JE) (rg : Nat → Nat) (f : Hp) (c : Nat) (a : Nat) (W : List Int) : Prop := ∃ (e : Nat) (gw : Int → Int), f a = oB 0 [.ref e, .int (iZ (W.length : Int))] ∧ f e = aJ (E.2.1 1) 4000 gw ∧ (cOk gw) ∧ (seg gw 0 (W.length : Int) = W) ∧ (W.length ≤ 4000) ∧ rg a = c ∧ rg e = c
theorem CChg_kept {E : JE} {rg : Nat → Nat} {f f' : Hp} {c : Nat} {a : Nat} {W : List Int} (h : CChg E rg f c  a  W ) (k : ∀ q, rg q = c → f' q = f q) : CChg E rg f' c  a  W  := by
  obtain ⟨e, gw, h0, h1, p0, p1, p2, g0, g1⟩ := h
  exact ⟨e, gw, (k _ g0).trans h0, (k _ g1).trans h1, p0, p1, p2, g0, g1⟩
def CPrg (E : JE) (rg : Nat → Nat) (f : Hp) (c : Nat) (a : Nat) (n1 l1 t1 : Int) : Prop := f a = oB 6 [.int (iZ n1), .int (iZ l1), .int (iZ t1)] ∧ rg a = c
theorem CPrg_kept {E : JE} {rg : Nat → Nat} {f f' : Hp} {c : Nat} {a : Nat} {n1 l1 t1 : Int} (h : CPrg E rg f c  a  n1 l1 t1 ) (k : ∀ q, rg q = c → f' q = f q) : CPrg E rg f' c  a  n1 l1 t1  := by
  obtain ⟨h0, g0⟩ := h
  exact ⟨(k _ g0).trans h0, g0⟩
theorem CTab_kept {E : JE} {rg : Nat → Nat} {f f' : Hp} {T : Nat} {M : Int → Int → Int} {sz : Nat} {D : Int → Int → Int} {dz : Int} {X : Int → List Int × Int} {gi : Int → Int} (h : CTab E rg f T M sz D dz X gi) (k : ∀ q, rg q = 5 → f' q = f q) : CTab E rg f' T M sz D dz X gi := by
  obtain ⟨cu, ofr, mk, it, pl, dr, pm, dm, ra, ca, ma, da, gcu, gof, gmk, gpm, gdm, hT, hpl, hdr, hpm, hdm, hcu, hof, hmk, hit, hM, hD, hRW, gcu_, gof_, gmk_, gpm_, gdm_, hgi, hd, hma, hda, hmd, hco, hpc, hcl, hcr, hcc, hcm⟩ := h
  exact ⟨cu, ofr, mk, it, pl, dr, pm, dm, ra, ca, ma, da, gcu, gof, gmk, gpm, gdm, (k _ hcl.1).trans hT, (k _ hcl.2.2.2.2.2.1).trans hpl, (k _ hcl.2.2.2.2.2.2.1).trans hdr, (k _ hcl.2.2.2.2.2.2.2.1).trans hpm, (k _ hcl.2.2.2.2.2.2.2.2).trans hdm, (k _ hcl.2.1).trans hcu, (k _ hcl.2.2.1).trans hof, (k _ hcl.2.2.2.1).trans hmk, (k _ hcl.2.2.2.2.1).trans hit, fun i i1 i2 => (k _ (hcm i i1 i2).1).trans (hM i i1 i2), fun i i1 i2 => (k _ (hcm i i1 i2).2).trans (hD i i1 i2), RWs_kept hRW (fun i i1 i2 => ⟨fun i3 => k _ (hcr i i1 i3), k _ (hcc i i1 i2)⟩), gcu_, gof_, gmk_, gpm_, gdm_, hgi, hd, hma, hda, hmd, hco, hpc, hcl, hcr, hcc, hcm⟩
theorem rw_out {E : JE} {f : Hp} {ra ca : Int → Nat} {X : Int → List Int × Int} {q : Nat} {A : va_E} (h : RWs E f ra ca X) (hq : f q = A) (h1 : ∀ fs, A ≠ oB 7 fs) (h2 : ∀ (c : ClassId) (N : Nat) g, A ≠ aJ c N g) : (∀ i, 0 ≤ i → i < 37 → q ≠ ra i) ∧ (∀ i, 0 ≤ i → i < 38 → q ≠ ca i) := by
  refine ⟨fun i i1 i2 e => ?_, fun i i1 i2 e => ?_⟩
  · obtain ⟨n, b, g, e1, -⟩ := h.1 i i1 i2
    rw [← e, hq] at e1
    exact h1 _ e1
  · by_cases i3 : i < 37
    · obtain ⟨n, b, g, -, e1, -⟩ := h.1 i i1 i3
      rw [← e, hq] at e1
      exact h2 _ _ _ e1
    · obtain ⟨g, e1, -⟩ := h.2
      rw [show i = 37 by omega] at e
      rw [← e, hq] at e1
      exact h2 _ _ _ e1
def CRA (E : JE) (rg : Nat → Nat) (f : Hp) (x lg tp pa T wt to ho nw kp : Nat) (ls : Int → Int) (lr : Int → Int) (ln : Nat) (g : Int → Int) (len : Int) (M : Int → Int → Int) (sz : Nat) (D : Int → Int → Int) (dz : Int) (X : Int → List Int × Int) (gi : Int → Int) (W : List Int) (O : List Int) (th : Int → Int) (n1 : Int) (l1 : Int) (t1 : Int) (n2 : Int) (l2 : Int) (t2 : Int) (la : Int) (fa : Int) (re : Int) : Prop := f x = oB 10 [.ref lg, .ref tp, .ref pa, .ref T, .ref wt, .ref to, .ref ho, .ref nw, .ref kp, .int (iZ la), .int (iZ fa), .int (iZ re)] ∧ rg x = 1 ∧ CLog E rg f lg ls lr ln ∧ CTape E rg f tp g len ∧ CPar E rg f pa ∧ CTab E rg f T M sz D dz X gi ∧ CChg E rg f 6 wt W ∧ CChg E rg f 7 to O ∧ CHos E rg f ho th ∧ CPrg E rg f 9 nw n1 l1 t1 ∧ CPrg E rg f 10 kp n2 l2 t2
theorem CRA_x {E : JE} {rg : Nat → Nat} {f : Hp} {x lg tp pa T wt to ho nw kp : Nat} {ls : Int → Int} {lr : Int → Int} {ln : Nat} {g : Int → Int} {len : Int} {M : Int → Int → Int} {sz : Nat} {D : Int → Int → Int} {dz : Int} {X : Int → List Int × Int} {gi : Int → Int} {W : List Int} {O : List Int} {th : Int → Int} {n1 : Int} {l1 : Int} {t1 : Int} {n2 : Int} {l2 : Int} {t2 : Int} {la : Int} {fa : Int} {re : Int} (h : CRA E rg f x lg tp pa T wt to ho nw kp ls lr ln g len M sz D dz X gi W O th n1 l1 t1 n2 l2 t2 la fa re) : f x = oB 10 [.ref lg, .ref tp, .ref pa, .ref T, .ref wt, .ref to, .ref ho, .ref nw, .ref kp, .int (iZ la), .int (iZ fa), .int (iZ re)] := h.1
theorem CRA_s1 {E : JE} {rg : Nat → Nat} {f f' : Hp} {x lg tp pa T wt to ho nw kp : Nat} {ls : Int → Int} {lr : Int → Int} {ln : Nat} {g : Int → Int} {len : Int} {M : Int → Int → Int} {sz : Nat} {D : Int → Int → Int} {dz : Int} {X : Int → List Int × Int} {gi : Int → Int} {W : List Int} {O : List Int} {th : Int → Int} {n1 : Int} {l1 : Int} {t1 : Int} {n2 : Int} {l2 : Int} {t2 : Int} {la : Int} {fa : Int} {re : Int} {la' fa' re' : Int} (h : CRA E rg f x lg tp pa T wt to ho nw kp ls lr ln g len M sz D dz X gi W O th n1 l1 t1 n2 l2 t2 la fa re) (hx : f' x = oB 10 [.ref lg, .ref tp, .ref pa, .ref T, .ref wt, .ref to, .ref ho, .ref nw, .ref kp, .int (iZ la'), .int (iZ fa'), .int (iZ re')]) (k : ∀ q, q ≠ x → f' q = f q) : CRA E rg f' x lg tp pa T wt to ho nw kp ls lr ln g len M sz D dz X gi W O th n1 l1 t1 n2 l2 t2 la' fa' re' := by
  obtain ⟨-, hc, a2, a3, a4, a5, a6, a7, a8, a9, a10⟩ := h
  exact ⟨hx, hc, CLog_kept a2 (fun q hq => k q (fun e => by rw [e, hc] at hq; exact absurd hq (by decide))), CTape_kept a3 (fun q hq => k q (fun e => by rw [e, hc] at hq; exact absurd hq (by decide))), CPar_kept a4 (fun q hq => k q (fun e => by rw [e, hc] at hq; exact absurd hq (by decide))), CTab_kept a5 (fun q hq => k q (fun e => by rw [e, hc] at hq; exact absurd hq (by decide))), CChg_kept a6 (fun q hq => k q (fun e => by rw [e, hc] at hq; exact absurd hq (by decide))), CChg_kept a7 (fun q hq => k q (fun e => by rw [e, hc] at hq; exact absurd hq (by decide))), CHos_kept a8 (fun q hq => k q (fun e => by rw [e, hc] at hq; exact absurd hq (by decide))), CPrg_kept a9 (fun q hq => k q (fun e => by rw [e, hc] at hq; exact absurd hq (by decide))), CPrg_kept a10 (fun q hq => k q (fun e => by rw [e, hc] at hq; exact absurd hq (by decide)))⟩
theorem CRA_c2 {E : JE} {rg : Nat → Nat} {f : Hp} {x lg tp pa T wt to ho nw kp : Nat} {ls : Int → Int} {lr : Int → Int} {ln : Nat} {g : Int → Int} {len : Int} {M : Int → Int → Int} {sz : Nat} {D : Int → Int → Int} {dz : Int} {X : Int → List Int × Int} {gi : Int → Int} {W : List Int} {O : List Int} {th : Int → Int} {n1 : Int} {l1 : Int} {t1 : Int} {n2 : Int} {l2 : Int} {t2 : Int} {la : Int} {fa : Int} {re : Int} (h : CRA E rg f x lg tp pa T wt to ho nw kp ls lr ln g len M sz D dz X gi W O th n1 l1 t1 n2 l2 t2 la fa re) : CLog E rg f lg ls lr ln := h.2.2.1
theorem CRA_s2 {E : JE} {rg : Nat → Nat} {f f' : Hp} {x lg tp pa T wt to ho nw kp : Nat} {ls : Int → Int} {lr : Int → Int} {ln : Nat} {g : Int → Int} {len : Int} {M : Int → Int → Int} {sz : Nat} {D : Int → Int → Int} {dz : Int} {X : Int → List Int × Int} {gi : Int → Int} {W : List Int} {O : List Int} {th : Int → Int} {n1 : Int} {l1 : Int} {t1 : Int} {n2 : Int} {l2 : Int} {t2 : Int} {la : Int} {fa : Int} {re : Int} {ls' : Int → Int} {lr' : Int → Int} {ln' : Nat} (h : CRA E rg f x lg tp pa T wt to ho nw kp ls lr ln g len M sz D dz X gi W O th n1 l1 t1 n2 l2 t2 la fa re) (hn : CLog E rg f' lg ls' lr' ln') (k : ∀ q, rg q ≠ 2 → f' q = f q) : CRA E rg f' x lg tp pa T wt to ho nw kp ls' lr' ln' g len M sz D dz X gi W O th n1 l1 t1 n2 l2 t2 la fa re := by
  obtain ⟨hx, hc, a2, a3, a4, a5, a6, a7, a8, a9, a10⟩ := h
  exact ⟨(k _ (by rw [hc]; decide)).trans hx, hc, hn, CTape_kept a3 (fun q hq => k q (by rw [hq]; decide)), CPar_kept a4 (fun q hq => k q (by rw [hq]; decide)), CTab_kept a5 (fun q hq => k q (by rw [hq]; decide)), CChg_kept a6 (fun q hq => k q (by rw [hq]; decide)), CChg_kept a7 (fun q hq => k q (by rw [hq]; decide)), CHos_kept a8 (fun q hq => k q (by rw [hq]; decide)), CPrg_kept a9 (fun q hq => k q (by rw [hq]; decide)), CPrg_kept a10 (fun q hq => k q (by rw [hq]; decide))⟩
theorem CRA_c3 {E : JE} {rg : Nat → Nat} {f : Hp} {x lg tp pa T wt to ho nw kp : Nat} {ls : Int → Int} {lr : Int → Int} {ln : Nat} {g : Int → Int} {len : Int} {M : Int → Int → Int} {sz : Nat} {D : Int → Int → Int} {dz : Int} {X : Int → List Int × Int} {gi : Int → Int} {W : List Int} {O : List Int} {th : Int → Int} {n1 : Int} {l1 : Int} {t1 : Int} {n2 : Int} {l2 : Int} {t2 : Int} {la : Int} {fa : Int} {re : Int} (h : CRA E rg f x lg tp pa T wt to ho nw kp ls lr ln g len M sz D dz X gi W O th n1 l1 t1 n2 l2 t2 la fa re) : CTape E rg f tp g len := h.2.2.2.1
theorem CRA_s3 {E : JE} {rg : Nat → Nat} {f f' : Hp} {x lg tp pa T wt to ho nw kp : Nat} {ls : Int → Int} {lr : Int → Int} {ln : Nat} {g : Int → Int} {len : Int} {M : Int → Int → Int} {sz : Nat} {D : Int → Int → Int} {dz : Int} {X : Int → List Int × Int} {gi : Int → Int} {W : List Int} {O : List Int} {th : Int → Int} {n1 : Int} {l1 : Int} {t1 : Int} {n2 : Int} {l2 : Int} {t2 : Int} {la : Int} {fa : Int} {re : Int} {g' : Int → Int} {len' : Int} (h : CRA E rg f x lg tp pa T wt to ho nw kp ls lr ln g len M sz D dz X gi W O th n1 l1 t1 n2 l2 t2 la fa re) (hn : CTape E rg f' tp g' len') (k : ∀ q, rg q ≠ 3 → f' q = f q) : CRA E rg f' x lg tp pa T wt to ho nw kp ls lr ln g' len' M sz D dz X gi W O th n1 l1 t1 n2 l2 t2 la fa re := by
  obtain ⟨hx, hc, a2, a3, a4, a5, a6, a7, a8, a9, a10⟩ := h
  exact ⟨(k _ (by rw [hc]; decide)).trans hx, hc, CLog_kept a2 (fun q hq => k q (by rw [hq]; decide)), hn, CPar_kept a4 (fun q hq => k q (by rw [hq]; decide)), CTab_kept a5 (fun q hq => k q (by rw [hq]; decide)), CChg_kept a6 (fun q hq => k q (by rw [hq]; decide)), CChg_kept a7 (fun q hq => k q (by rw [hq]; decide)), CHos_kept a8 (fun q hq => k q (by rw [hq]; decide)), CPrg_kept a9 (fun q hq => k q (by rw [hq]; decide)), CPrg_kept a10 (fun q hq => k q (by rw [hq]; decide))⟩
theorem CRA_c4 {E : JE} {rg : Nat → Nat} {f : Hp} {x lg tp pa T wt to ho nw kp : Nat} {ls : Int → Int} {lr : Int → Int} {ln : Nat} {g : Int → Int} {len : Int} {M : Int → Int → Int} {sz : Nat} {D : Int → Int → Int} {dz : Int} {X : Int → List Int × Int} {gi : Int → Int} {W : List Int} {O : List Int} {th : Int → Int} {n1 : Int} {l1 : Int} {t1 : Int} {n2 : Int} {l2 : Int} {t2 : Int} {la : Int} {fa : Int} {re : Int} (h : CRA E rg f x lg tp pa T wt to ho nw kp ls lr ln g len M sz D dz X gi W O th n1 l1 t1 n2 l2 t2 la fa re) : CPar E rg f pa := h.2.2.2.2.1
theorem CRA_s4 {E : JE} {rg : Nat → Nat} {f f' : Hp} {x lg tp pa T wt to ho nw kp : Nat} {ls : Int → Int} {lr : Int → Int} {ln : Nat} {g : Int → Int} {len : Int} {M : Int → Int → Int} {sz : Nat} {D : Int → Int → Int} {dz : Int} {X : Int → List Int × Int} {gi : Int → Int} {W : List Int} {O : List Int} {th : Int → Int} {n1 : Int} {l1 : Int} {t1 : Int} {n2 : Int} {l2 : Int} {t2 : Int} {la : Int} {fa : Int} {re : Int}  (h : CRA E rg f x lg tp pa T wt to ho nw kp ls lr ln g len M sz D dz X gi W O th n1 l1 t1 n2 l2 t2 la fa re) (hn : CPar E rg f' pa) (k : ∀ q, rg q ≠ 4 → f' q = f q) : CRA E rg f' x lg tp pa T wt to ho nw kp ls lr ln g len M sz D dz X gi W O th n1 l1 t1 n2 l2 t2 la fa re := by
  obtain ⟨hx, hc, a2, a3, a4, a5, a6, a7, a8, a9, a10⟩ := h
  exact ⟨(k _ (by rw [hc]; decide)).trans hx, hc, CLog_kept a2 (fun q hq => k q (by rw [hq]; decide)), CTape_kept a3 (fun q hq => k q (by rw [hq]; decide)), hn, CTab_kept a5 (fun q hq => k q (by rw [hq]; decide)), CChg_kept a6 (fun q hq => k q (by rw [hq]; decide)), CChg_kept a7 (fun q hq => k q (by rw [hq]; decide)), CHos_kept a8 (fun q hq => k q (by rw [hq]; decide)), CPrg_kept a9 (fun q hq => k q (by rw [hq]; decide)), CPrg_kept a10 (fun q hq => k q (by rw [hq]; decide))⟩
theorem CRA_c5 {E : JE} {rg : Nat → Nat} {f : Hp} {x lg tp pa T wt to ho nw kp : Nat} {ls : Int → Int} {lr : Int → Int} {ln : Nat} {g : Int → Int} {len : Int} {M : Int → Int → Int} {sz : Nat} {D : Int → Int → Int} {dz : Int} {X : Int → List Int × Int} {gi : Int → Int} {W : List Int} {O : List Int} {th : Int → Int} {n1 : Int} {l1 : Int} {t1 : Int} {n2 : Int} {l2 : Int} {t2 : Int} {la : Int} {fa : Int} {re : Int} (h : CRA E rg f x lg tp pa T wt to ho nw kp ls lr ln g len M sz D dz X gi W O th n1 l1 t1 n2 l2 t2 la fa re) : CTab E rg f T M sz D dz X gi := h.2.2.2.2.2.1
theorem CRA_s5 {E : JE} {rg : Nat → Nat} {f f' : Hp} {x lg tp pa T wt to ho nw kp : Nat} {ls : Int → Int} {lr : Int → Int} {ln : Nat} {g : Int → Int} {len : Int} {M : Int → Int → Int} {sz : Nat} {D : Int → Int → Int} {dz : Int} {X : Int → List Int × Int} {gi : Int → Int} {W : List Int} {O : List Int} {th : Int → Int} {n1 : Int} {l1 : Int} {t1 : Int} {n2 : Int} {l2 : Int} {t2 : Int} {la : Int} {fa : Int} {re : Int} {M' : Int → Int → Int} {sz' : Nat} {D' : Int → Int → Int} {dz' : Int} {X' : Int → List Int × Int} {gi' : Int → Int} (h : CRA E rg f x lg tp pa T wt to ho nw kp ls lr ln g len M sz D dz X gi W O th n1 l1 t1 n2 l2 t2 la fa re) (hn : CTab E rg f' T M' sz' D' dz' X' gi') (k : ∀ q, rg q ≠ 5 → f' q = f q) : CRA E rg f' x lg tp pa T wt to ho nw kp ls lr ln g len M' sz' D' dz' X' gi' W O th n1 l1 t1 n2 l2 t2 la fa re := by
  obtain ⟨hx, hc, a2, a3, a4, a5, a6, a7, a8, a9, a10⟩ := h
  exact ⟨(k _ (by rw [hc]; decide)).trans hx, hc, CLog_kept a2 (fun q hq => k q (by rw [hq]; decide)), CTape_kept a3 (fun q hq => k q (by rw [hq]; decide)), CPar_kept a4 (fun q hq => k q (by rw [hq]; decide)), hn, CChg_kept a6 (fun q hq => k q (by rw [hq]; decide)), CChg_kept a7 (fun q hq => k q (by rw [hq]; decide)), CHos_kept a8 (fun q hq => k q (by rw [hq]; decide)), CPrg_kept a9 (fun q hq => k q (by rw [hq]; decide)), CPrg_kept a10 (fun q hq => k q (by rw [hq]; decide))⟩
theorem CRA_c6 {E : JE} {rg : Nat → Nat} {f : Hp} {x lg tp pa T wt to ho nw kp : Nat} {ls : Int → Int} {lr : Int → Int} {ln : Nat} {g : Int → Int} {len : Int} {M : Int → Int → Int} {sz : Nat} {D : Int → Int → Int} {dz : Int} {X : Int → List Int × Int} {gi : Int → Int} {W : List Int} {O : List Int} {th : Int → Int} {n1 : Int} {l1 : Int} {t1 : Int} {n2 : Int} {l2 : Int} {t2 : Int} {la : Int} {fa : Int} {re : Int} (h : CRA E rg f x lg tp pa T wt to ho nw kp ls lr ln g len M sz D dz X gi W O th n1 l1 t1 n2 l2 t2 la fa re) : CChg E rg f 6 wt W := h.2.2.2.2.2.2.1
theorem CRA_s6 {E : JE} {rg : Nat → Nat} {f f' : Hp} {x lg tp pa T wt to ho nw kp : Nat} {ls : Int → Int} {lr : Int → Int} {ln : Nat} {g : Int → Int} {len : Int} {M : Int → Int → Int} {sz : Nat} {D : Int → Int → Int} {dz : Int} {X : Int → List Int × Int} {gi : Int → Int} {W : List Int} {O : List Int} {th : Int → Int} {n1 : Int} {l1 : Int} {t1 : Int} {n2 : Int} {l2 : Int} {t2 : Int} {la : Int} {fa : Int} {re : Int} {W' : List Int} (h : CRA E rg f x lg tp pa T wt to ho nw kp ls lr ln g len M sz D dz X gi W O th n1 l1 t1 n2 l2 t2 la fa re) (hn : CChg E rg f' 6 wt W') (k : ∀ q, rg q ≠ 6 → f' q = f q) : CRA E rg f' x lg tp pa T wt to ho nw kp ls lr ln g len M sz D dz X gi W' O th n1 l1 t1 n2 l2 t2 la fa re := by
  obtain ⟨hx, hc, a2, a3, a4, a5, a6, a7, a8, a9, a10⟩ := h
  exact ⟨(k _ (by rw [hc]; decide)).trans hx, hc, CLog_kept a2 (fun q hq => k q (by rw [hq]; decide)), CTape_kept a3 (fun q hq => k q (by rw [hq]; decide)), CPar_kept a4 (fun q hq => k q (by rw [hq]; decide)), CTab_kept a5 (fun q hq => k q (by rw [hq]; decide)), hn, CChg_kept a7 (fun q hq => k q (by rw [hq]; decide)), CHos_kept a8 (fun q hq => k q (by rw [hq]; decide)), CPrg_kept a9 (fun q hq => k q (by rw [hq]; decide)), CPrg_kept a10 (fun q hq => k q (by rw [hq]; decide))⟩
theorem CRA_c7 {E : JE} {rg : Nat → Nat} {f : Hp} {x lg tp pa T wt to ho nw kp : Nat} {ls : Int → Int} {lr : Int → Int} {ln : Nat} {g : Int → Int} {len : Int} {M : Int → Int → Int} {sz : Nat} {D : Int → Int → Int} {dz : Int} {X : Int → List Int × Int} {gi : Int → Int} {W : List Int} {O : List Int} {th : Int → Int} {n1 : Int} {l1 : Int} {t1 : Int} {n2 : Int} {l2 : Int} {t2 : Int} {la : Int} {fa : Int} {re : Int} (h : CRA E rg f x lg tp pa T wt to ho nw kp ls lr ln g len M sz D dz X gi W O th n1 l1 t1 n2 l2 t2 la fa re) : CChg E rg f 7 to O := h.2.2.2.2.2.2.2.1
theorem CRA_s7 {E : JE} {rg : Nat → Nat} {f f' : Hp} {x lg tp pa T wt to ho nw kp : Nat} {ls : Int → Int} {lr : Int → Int} {ln : Nat} {g : Int → Int} {len : Int} {M : Int → Int → Int} {sz : Nat} {D : Int → Int → Int} {dz : Int} {X : Int → List Int × Int} {gi : Int → Int} {W : List Int} {O : List Int} {th : Int → Int} {n1 : Int} {l1 : Int} {t1 : Int} {n2 : Int} {l2 : Int} {t2 : Int} {la : Int} {fa : Int} {re : Int} {O' : List Int} (h : CRA E rg f x lg tp pa T wt to ho nw kp ls lr ln g len M sz D dz X gi W O th n1 l1 t1 n2 l2 t2 la fa re) (hn : CChg E rg f' 7 to O') (k : ∀ q, rg q ≠ 7 → f' q = f q) : CRA E rg f' x lg tp pa T wt to ho nw kp ls lr ln g len M sz D dz X gi W O' th n1 l1 t1 n2 l2 t2 la fa re := by
  obtain ⟨hx, hc, a2, a3, a4, a5, a6, a7, a8, a9, a10⟩ := h
  exact ⟨(k _ (by rw [hc]; decide)).trans hx, hc, CLog_kept a2 (fun q hq => k q (by rw [hq]; decide)), CTape_kept a3 (fun q hq => k q (by rw [hq]; decide)), CPar_kept a4 (fun q hq => k q (by rw [hq]; decide)), CTab_kept a5 (fun q hq => k q (by rw [hq]; decide)), CChg_kept a6 (fun q hq => k q (by rw [hq]; decide)), hn, CHos_kept a8 (fun q hq => k q (by rw [hq]; decide)), CPrg_kept a9 (fun q hq => k q (by rw [hq]; decide)), CPrg_kept a10 (fun q hq => k q (by rw [hq]; decide))⟩
theorem CRA_c8 {E : JE} {rg : Nat → Nat} {f : Hp} {x lg tp pa T wt to ho nw kp : Nat} {ls : Int → Int} {lr : Int → Int} {ln : Nat} {g : Int → Int} {len : Int} {M : Int → Int → Int} {sz : Nat} {D : Int → Int → Int} {dz : Int} {X : Int → List Int × Int} {gi : Int → Int} {W : List Int} {O : List Int} {th : Int → Int} {n1 : Int} {l1 : Int} {t1 : Int} {n2 : Int} {l2 : Int} {t2 : Int} {la : Int} {fa : Int} {re : Int} (h : CRA E rg f x lg tp pa T wt to ho nw kp ls lr ln g len M sz D dz X gi W O th n1 l1 t1 n2 l2 t2 la fa re) : CHos E rg f ho th := h.2.2.2.2.2.2.2.2.1
theorem CRA_s8 {E : JE} {rg : Nat → Nat} {f f' : Hp} {x lg tp pa T wt to ho nw kp : Nat} {ls : Int → Int} {lr : Int → Int} {ln : Nat} {g : Int → Int} {len : Int} {M : Int → Int → Int} {sz : Nat} {D : Int → Int → Int} {dz : Int} {X : Int → List Int × Int} {gi : Int → Int} {W : List Int} {O : List Int} {th : Int → Int} {n1 : Int} {l1 : Int} {t1 : Int} {n2 : Int} {l2 : Int} {t2 : Int} {la : Int} {fa : Int} {re : Int} {th' : Int → Int} (h : CRA E rg f x lg tp pa T wt to ho nw kp ls lr ln g len M sz D dz X gi W O th n1 l1 t1 n2 l2 t2 la fa re) (hn : CHos E rg f' ho th') (k : ∀ q, rg q ≠ 8 → f' q = f q) : CRA E rg f' x lg tp pa T wt to ho nw kp ls lr ln g len M sz D dz X gi W O th' n1 l1 t1 n2 l2 t2 la fa re := by
  obtain ⟨hx, hc, a2, a3, a4, a5, a6, a7, a8, a9, a10⟩ := h
  exact ⟨(k _ (by rw [hc]; decide)).trans hx, hc, CLog_kept a2 (fun q hq => k q (by rw [hq]; decide)), CTape_kept a3 (fun q hq => k q (by rw [hq]; decide)), CPar_kept a4 (fun q hq => k q (by rw [hq]; decide)), CTab_kept a5 (fun q hq => k q (by rw [hq]; decide)), CChg_kept a6 (fun q hq => k q (by rw [hq]; decide)), CChg_kept a7 (fun q hq => k q (by rw [hq]; decide)), hn, CPrg_kept a9 (fun q hq => k q (by rw [hq]; decide)), CPrg_kept a10 (fun q hq => k q (by rw [hq]; decide))⟩
theorem CRA_c9 {E : JE} {rg : Nat → Nat} {f : Hp} {x lg tp pa T wt to ho nw kp : Nat} {ls : Int → Int} {lr : Int → Int} {ln : Nat} {g : Int → Int} {len : Int} {M : Int → Int → Int} {sz : Nat} {D : Int → Int → Int} {dz : Int} {X : Int → List Int × Int} {gi : Int → Int} {W : List Int} {O : List Int} {th : Int → Int} {n1 : Int} {l1 : Int} {t1 : Int} {n2 : Int} {l2 : Int} {t2 : Int} {la : Int} {fa : Int} {re : Int} (h : CRA E rg f x lg tp pa T wt to ho nw kp ls lr ln g len M sz D dz X gi W O th n1 l1 t1 n2 l2 t2 la fa re) : CPrg E rg f 9 nw n1 l1 t1 := h.2.2.2.2.2.2.2.2.2.1
theorem CRA_s9 {E : JE} {rg : Nat → Nat} {f f' : Hp} {x lg tp pa T wt to ho nw kp : Nat} {ls : Int → Int} {lr : Int → Int} {ln : Nat} {g : Int → Int} {len : Int} {M : Int → Int → Int} {sz : Nat} {D : Int → Int → Int} {dz : Int} {X : Int → List Int × Int} {gi : Int → Int} {W : List Int} {O : List Int} {th : Int → Int} {n1 : Int} {l1 : Int} {t1 : Int} {n2 : Int} {l2 : Int} {t2 : Int} {la : Int} {fa : Int} {re : Int} {n1' : Int} {l1' : Int} {t1' : Int} (h : CRA E rg f x lg tp pa T wt to ho nw kp ls lr ln g len M sz D dz X gi W O th n1 l1 t1 n2 l2 t2 la fa re) (hn : CPrg E rg f' 9 nw n1' l1' t1') (k : ∀ q, rg q ≠ 9 → f' q = f q) : CRA E rg f' x lg tp pa T wt to ho nw kp ls lr ln g len M sz D dz X gi W O th n1' l1' t1' n2 l2 t2 la fa re := by
  obtain ⟨hx, hc, a2, a3, a4, a5, a6, a7, a8, a9, a10⟩ := h
  exact ⟨(k _ (by rw [hc]; decide)).trans hx, hc, CLog_kept a2 (fun q hq => k q (by rw [hq]; decide)), CTape_kept a3 (fun q hq => k q (by rw [hq]; decide)), CPar_kept a4 (fun q hq => k q (by rw [hq]; decide)), CTab_kept a5 (fun q hq => k q (by rw [hq]; decide)), CChg_kept a6 (fun q hq => k q (by rw [hq]; decide)), CChg_kept a7 (fun q hq => k q (by rw [hq]; decide)), CHos_kept a8 (fun q hq => k q (by rw [hq]; decide)), hn, CPrg_kept a10 (fun q hq => k q (by rw [hq]; decide))⟩
theorem CRA_c10 {E : JE} {rg : Nat → Nat} {f : Hp} {x lg tp pa T wt to ho nw kp : Nat} {ls : Int → Int} {lr : Int → Int} {ln : Nat} {g : Int → Int} {len : Int} {M : Int → Int → Int} {sz : Nat} {D : Int → Int → Int} {dz : Int} {X : Int → List Int × Int} {gi : Int → Int} {W : List Int} {O : List Int} {th : Int → Int} {n1 : Int} {l1 : Int} {t1 : Int} {n2 : Int} {l2 : Int} {t2 : Int} {la : Int} {fa : Int} {re : Int} (h : CRA E rg f x lg tp pa T wt to ho nw kp ls lr ln g len M sz D dz X gi W O th n1 l1 t1 n2 l2 t2 la fa re) : CPrg E rg f 10 kp n2 l2 t2 := h.2.2.2.2.2.2.2.2.2.2
theorem CRA_s10 {E : JE} {rg : Nat → Nat} {f f' : Hp} {x lg tp pa T wt to ho nw kp : Nat} {ls : Int → Int} {lr : Int → Int} {ln : Nat} {g : Int → Int} {len : Int} {M : Int → Int → Int} {sz : Nat} {D : Int → Int → Int} {dz : Int} {X : Int → List Int × Int} {gi : Int → Int} {W : List Int} {O : List Int} {th : Int → Int} {n1 : Int} {l1 : Int} {t1 : Int} {n2 : Int} {l2 : Int} {t2 : Int} {la : Int} {fa : Int} {re : Int} {n2' : Int} {l2' : Int} {t2' : Int} (h : CRA E rg f x lg tp pa T wt to ho nw kp ls lr ln g len M sz D dz X gi W O th n1 l1 t1 n2 l2 t2 la fa re) (hn : CPrg E rg f' 10 kp n2' l2' t2') (k : ∀ q, rg q ≠ 10 → f' q = f q) : CRA E rg f' x lg tp pa T wt to ho nw kp ls lr ln g len M sz D dz X gi W O th n1 l1 t1 n2' l2' t2' la fa re := by
  obtain ⟨hx, hc, a2, a3, a4, a5, a6, a7, a8, a9, a10⟩ := h
  exact ⟨(k _ (by rw [hc]; decide)).trans hx, hc, CLog_kept a2 (fun q hq => k q (by rw [hq]; decide)), CTape_kept a3 (fun q hq => k q (by rw [hq]; decide)), CPar_kept a4 (fun q hq => k q (by rw [hq]; decide)), CTab_kept a5 (fun q hq => k q (by rw [hq]; decide)), CChg_kept a6 (fun q hq => k q (by rw [hq]; decide)), CChg_kept a7 (fun q hq => k q (by rw [hq]; decide)), CHos_kept a8 (fun q hq => k q (by rw [hq]; decide)), CPrg_kept a9 (fun q hq => k q (by rw [hq]; decide)), hn⟩
abbrev ST : Type := (Int → Int) × (Int → Int) × (Nat) × (Int → Int → Int) × (Nat) × (Int) × (Nat) × (Nat) × (List Int) × (List Int) × (Int → Int) × (Int) × (Int → Int) × (Int) × (Int)
/-- what holds of a run's state -/
def SOk (S : ST) : Prop := match S with
  | (ls, lr, ln, M, sz, la, rd, mr, W, O, g, len, th, fa, re) => (ln ≤ 150 ∧ ∀ j : Nat, j < ln → (rOk (lr j) ∧ rV (lr j) ≤ 1000000000) ∧ 0 ≤ ls j ∧ ls j ≤ 2) ∧ (sz ≤ 12 ∧ ∀ t : Nat, t < sz → mkOk M t) ∧ (-1 ≤ la ∧ la ≤ 10000) ∧ (mr ≤ rd ∧ rd ≤ ln) ∧ okF M (srcN ls lr la rd) sz ∧ okF M (srcN ls lr la mr) sz ∧ (W.length ≤ 4000 ∧ O.length ≤ 4000) ∧ bOk g ∧ (0 ≤ len ∧ len ≤ 300) ∧ (∀ j, 0 ≤ j → j < 8 → th j = 0 ∨ th j = 1) ∧ 1 ≤ hN th
/-- the class's object x has the state S -/
def CR (E : JE) (rg : Nat → Nat) (f : Hp) (x : Nat) (S : ST) : Prop := match S with
  | (ls, lr, ln, M, sz, la, rd, mr, W, O, g, len, th, fa, re) => ∃ (lg tp pa T wt to ho nw kp : Nat) (D : Int → Int → Int) (dz : Int) (X : Int → List Int × Int) (gi : Int → Int) (Mh : Int → Int → Int), CRA E rg f x lg tp pa T wt to ho nw kp ls lr ln g len Mh sz D dz X gi W O th ((rd : Int)) ((nlat lr la rd)) ((ltst lr rd)) ((mr : Int)) ((nlat lr la mr)) ((ltst lr mr)) la fa re ∧ (∀ i : Nat, i < sz → Mh i = M i) ∧ (∀ s : Nat, s < sz → X s = (tab M (srcN ls lr la rd) s, 0) ∧ X (s + 24) = (tab M (srcN ls lr la mr) s, 0)) ∧ X 36 = ([], 0)
