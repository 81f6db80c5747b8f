/-! ===== what lies on the heap ===== -/
def aI (c : ClassId) (n : Nat) (g : Int → Int) : va_E := .inl (c, n, .inl (fun j => iZ (g j)))
def aJ (c : ClassId) (n : Nat) (g : Int → Int) : va_E := .inl (c, n, .inr (.inl (fun j => lZ (g j))))
def aQ (c : ClassId) (n : Nat) (g : Int → Option Nat) : va_E := .inl (c, n, .inr (.inr (.inr (.inr (fun j => g j)))))
def oB (ci : Nat) (fs : List Value) : va_E := .inr (ci, fs)
def fup {α : Type} (g : Int → α) (i : Int) (v : α) : Int → α := fun j => if j = i then v else g j
theorem fup_s {α : Type} (g : Int → α) (i : Int) (v : α) : fup g i v i = v := if_pos rfl
theorem fup_n {α : Type} (g : Int → α) {i j : Int} (v : α) (h : j ≠ i) : fup g i v j = g j := if_neg h
theorem aI_ne {c : ClassId} {n : Nat} {g : Int → Int} : aI c n g ≠ eN := fun h => by cases h
theorem aJ_ne {c : ClassId} {n : Nat} {g : Int → Int} : aJ c n g ≠ eN := fun h => by cases h
theorem aQ_ne {c : ClassId} {n : Nat} {g : Int → Option Nat} : aQ c n g ≠ eN := fun h => by cases h
theorem oB_ne {ci : Nat} {fs : List Value} (h : ci < 999) : oB ci fs ≠ eN := fun q => by
  have h1 : ((ci, fs) : Nat × List Value) = (999, []) := Sum.inr.inj q
  have h2 : ci = 999 := congrArg Prod.fst h1
  omega
/-- two addresses that hold what differs are two -/
theorem h_ne {f : Hp} {a b : Nat} {x y : va_E} (ha : f a = x) (hb : f b = y) (h : x ≠ y) : a ≠ b := fun e => h (by rw [← ha, ← hb, e])
theorem oa_I {ci : Nat} {fs : List Value} {c : ClassId} {n : Nat} {g : Int → Int} : oB ci fs ≠ aI c n g := fun h => by cases h
theorem oa_J {ci : Nat} {fs : List Value} {c : ClassId} {n : Nat} {g : Int → Int} : oB ci fs ≠ aJ c n g := fun h => by cases h
theorem oa_Q {ci : Nat} {fs : List Value} {c : ClassId} {n : Nat} {g : Int → Option Nat} : oB ci fs ≠ aQ c n g := fun h => by cases h
theorem oo_n {ci cj : Nat} {fs gs : List Value} (h : ci ≠ cj) : oB ci fs ≠ oB cj gs := fun q => h (congrArg Prod.fst (Sum.inr.inj q))
theorem aIJ {c d : ClassId} {n k : Nat} {g g' : Int → Int} : aI c n g ≠ aJ d k g' := fun h => by
  have h1 := Sum.inl.inj h
  have h2 := congrArg (fun q => q.2.2) h1
  cases h2
theorem aIQ {c d : ClassId} {n k : Nat} {g : Int → Int} {g' : Int → Option Nat} : aI c n g ≠ aQ d k g' := fun h => by
  have h1 := Sum.inl.inj h
  have h2 := congrArg (fun q => q.2.2) h1
  cases h2
theorem aJQ {c d : ClassId} {n k : Nat} {g : Int → Int} {g' : Int → Option Nat} : aJ c n g ≠ aQ d k g' := fun h => by
  have h1 := Sum.inl.inj h
  have h2 := congrArg (fun q => q.2.2) h1
  have h3 : (Sum.inl (fun j : Nat => lZ (g j)) : (Nat → Int64) ⊕ (Nat → UInt32) ⊕ (Nat → UInt64) ⊕ (Nat → Option Nat)) = Sum.inr (Sum.inr (Sum.inr (fun j : Nat => g' j))) := Sum.inr.inj h2
  cases h3
theorem aI_n {c d : ClassId} {n k : Nat} {g g' : Int → Int} (h : n ≠ k) : aI c n g ≠ aI d k g' := fun q => h (congrArg (fun q => q.2.1) (Sum.inl.inj q))
theorem aJ_n {c d : ClassId} {n k : Nat} {g g' : Int → Int} (h : n ≠ k) : aJ c n g ≠ aJ d k g' := fun q => h (congrArg (fun q => q.2.1) (Sum.inl.inj q))
theorem aI_c {c d : ClassId} {n k : Nat} {g g' : Int → Int} (h : c ≠ d) : aI c n g ≠ aI d k g' := fun q => h (congrArg (fun q => q.1) (Sum.inl.inj q))
/-! ===== fields: what the tables say of an entry of a class' pool ===== -/
def jF (own : String) (idx ci k : Nat) : Prop := ∃ (C : String) (T : u_T) (N : Nat), vwCl[ci]? = some (C, T, N) ∧ k < N ∧ (∀ w ∈ u_ws C T N, w ∈ gw_tbl) ∧ Cond.fieldLink own idx C (T k).2.1 (T k).2.2.1 ∈ gw_tbl ∧ (T k).1 = C ∧ ci < 999
def jFp (own : String) (idx ci k : Nat) (ty : FieldType) : Prop := ∃ (C : String) (T : u_T) (N : Nat) (ty0 : Nat → FieldType), vwCl[ci]? = some (C, T, N) ∧ k < N ∧ (∀ w ∈ u_ws C T N, w ∈ gw_tbl) ∧ Cond.fieldLink own idx C (T k).2.1 (T k).2.2.1 ∈ gw_tbl ∧ (T k).1 = C ∧ ci < 999 ∧ (∀ k, k < N → parseFieldDescriptor (T k).2.2.1 = some (ty0 k)) ∧ (∀ a, a < N → ∀ b, b < N → a ≠ b → (T a).2.1 ≠ (T b).2.1) ∧ (T k).2.2.2 = false ∧ parseFieldDescriptor (T k).2.2.1 = some ty
def jFf (own : String) (idx ci k : Nat) (ty : FieldType) : Prop := ∃ (C : String) (T : u_T) (N : Nat) (ty0 : Nat → FieldType), vwCl[ci]? = some (C, T, N) ∧ k < N ∧ (∀ w ∈ u_ws C T N, w ∈ gw_tbl) ∧ Cond.fieldLink own idx C (T k).2.1 (T k).2.2.1 ∈ gw_tbl ∧ (T k).1 = C ∧ ci < 999 ∧ (∀ k, k < N → parseFieldDescriptor (T k).2.2.1 = some (ty0 k)) ∧ (∀ a, a < N → ∀ b, b < N → a ≠ b → (T a).2.1 ≠ (T b).2.1) ∧ (T k).2.2.2 = true ∧ parseFieldDescriptor (T k).2.2.1 = some ty ∧ C = own
/-- a place of the pool, set -/
theorem jset {L : List Nat} {f : Hp} {A : Nat → Prop} {D : va_G} {H : Heap} {a i : Nat} {x : va_E} (hdm : jdom L f) (ha : a ∈ L) (hi : (va_pl L f)[i]? = some (a, f a)) (hD0 : va_D A (va_pl L f)) (hx : x ≠ eN) (hP : va_P D vwCl ((va_pl L f).set i (a, x)) H) (hD : va_D A ((va_pl L f).set i (a, x))) : jdom L (va_up f a x) ∧ va_P D vwCl (va_pl L (va_up f a x)) H ∧ va_D A (va_pl L (va_up f a x)) := by
  have e := va_pl_set (X := []) (e := x) (by simpa using hD0) ha (by simpa using hi)
  simp only [List.nil_append] at e
  rw [e] at hP hD
  refine ⟨fun b => ?_, hP, hD⟩
  by_cases hb : b = a
  · subst hb
    rw [va_up_self]
    exact ⟨fun _ => hx, fun _ => ha⟩
  · rw [va_up_ne _ _ hb]
    exact hdm b
theorem jmem {L : List Nat} {f : Hp} {a : Nat} {x : va_E} (hdm : jdom L f) (h : f a = x) (hx : x ≠ eN) : a ∈ L ∧ ∃ i : Nat, (va_pl L f)[i]? = some (a, x) := by
  have ha : a ∈ L := (hdm a).mpr (by rw [h]; exact hx)
  obtain ⟨i, hi⟩ := va_pl_get (X := []) (f := f) ha
  exact ⟨ha, i, by rw [h] at hi; simpa using hi⟩
section JH
variable {G : JG} {l : Launch} {E : JE} {cc : ByteArray} {own : String} {nL : Nat} {rm : Room} {k n : Nat} {f : Hp} {pc : Nat} {lv : List (Nat × Value)} {st : List Value}
theorem j_get (hG : jX G l E cc own nL rm) {idx ci q a : Nat} {fs : List Value} {v : Value} (hF : jF own idx ci q) (hd : decode cc pc = .ok (.getfield idx, 3)) (h : f a = oB ci fs) (hv : fs[q]? = some v) (kk : J G k n f (pc + 3) lv (v :: st)) : J G k n f pc lv (.ref a :: st) := by
  obtain ⟨p, l', e, R, s, m, args, below, meth, c, E', A, Z⟩ := G
  obtain ⟨rfl, rfl, rfl, hx, hb, hml, hown, hlocks, hts, hK, hA, hNw, hRs, hSS⟩ := hG
  intro L H locs ls hdm hP hD hS hl
  obtain ⟨C, T, N, h1, h2, h3, h4, h5, h6⟩ := hF
  obtain ⟨-, i, hi⟩ := jmem hdm h (oB_ne h6)
  exact va_get (C := C) (T := T) (N := N) (ref := C) hx hb hts h3 hown hK hP i hi h1 q h2 (hts _ h4) (fun x hx => by rw [← h5] at *; exact hx) hv hd (kk L H locs ls hdm hP hD hS hl)
theorem j_put (hG : jX G l E cc own nL rm) {idx ci q a : Nat} {fs : List Value} {v : Value} {ty : FieldType} (hF : jFp own idx ci q ty) (hd : decode cc pc = .ok (.putfield idx, 3)) (h : f a = oB ci fs) (hn : narrow ty v = v) (hfit : fits ty v = true) (hq : q < fs.length) (kk : ∀ f' : Hp, f' a = oB ci (fs.set q v) → (∀ b, b ≠ a → f' b = f b) → J G k n f' (pc + 3) lv st) : J G k n f pc lv (v :: .ref a :: st) := by
  obtain ⟨p, l', e, R, s, m, args, below, meth, c, E', A, Z⟩ := G
  obtain ⟨rfl, rfl, rfl, hx, hb, hml, hown, hlocks, hts, hK, hA, hNw, hRs, hSS⟩ := hG
  intro L H locs ls hdm hP hD hS hl
  obtain ⟨C, T, N, ty0, h1, h2, h3, h4, h5, h6, h7, h8, h9, h10⟩ := hF
  obtain ⟨ha, i, hi⟩ := jmem hdm h (oB_ne h6)
  refine va_put (C := C) (T := T) (N := N) (ref := C) hx hb hts h3 ty0 h7 h8 hown hK hP hD hS i hi h1 q h2 (hts _ h4) (fun x hx => by rw [← h5] at *; exact hx) h9 h10 hn hfit hq hd (fun H1 locs1 hP1 hD1 hS1 => ?_)
  obtain ⟨e1, e2, e3⟩ := jset hdm ha (by rw [h]; exact hi) hD (oB_ne h6) hP1 hD1
  exact kk (va_up f a (oB ci (fs.set q v))) (va_up_self _ _ _) (fun b hb => va_up_ne _ _ hb) L H1 locs1 ls e1 e2 e3 hS1 hl
def jI (G : JG) : Prop :=
  match G with
  | (_, _, _, _, _, _, _, _, meth, _, _, _, _) => meth.name = "<init>"
theorem j_putF (hG : jX G l E cc own nL rm) (hin : jI G) {idx ci q a : Nat} {fs : List Value} {v : Value} {ty : FieldType} (hF : jFf own idx ci q ty) (hd : decode cc pc = .ok (.putfield idx, 3)) (h : f a = oB ci fs) (hn : narrow ty v = v) (hfit : fits ty v = true) (hq : q < fs.length) (kk : ∀ f' : Hp, f' a = oB ci (fs.set q v) → (∀ b, b ≠ a → f' b = f b) → J G k n f' (pc + 3) lv st) : J G k n f pc lv (v :: .ref a :: st) := by
  obtain ⟨p, l', e, R, s, m, args, below, meth, c, E', A, Z⟩ := G
  obtain ⟨rfl, rfl, rfl, hx, hb, hml, hown, hlocks, hts, hK, hA, hNw, hRs, hSS⟩ := hG
  have hin2 : meth.name = "<init>" := hin
  intro L H locs ls hdm hP hD hS hl
  obtain ⟨C, T, N, ty0, h1, h2, h3, h4, h5, h6, h7, h8, h9, h10, h11⟩ := hF
  obtain ⟨ha, i, hi⟩ := jmem hdm h (oB_ne h6)
  refine va_putF (C := C) (T := T) (N := N) (ref := C) hx hb hts h3 ty0 h7 h8 hown hK hP hD hS i hi h1 q h2 (hts _ h4) (fun x hx => by rw [← h5] at *; exact hx) h9 hin2 (by rw [h5]; exact h11) h10 hn hfit hq hd (fun H1 locs1 hP1 hD1 hS1 => ?_)
  obtain ⟨e1, e2, e3⟩ := jset hdm ha (by rw [h]; exact hi) hD (oB_ne h6) hP1 hD1
  exact kk (va_up f a (oB ci (fs.set q v))) (va_up_self _ _ _) (fun b hb => va_up_ne _ _ hb) L H1 locs1 ls e1 e2 e3 hS1 hl
theorem j_iald (hG : jX G l E cc own nL rm) {a N : Nat} {i : Int} {g : Int → Int} (hd : decode cc pc = .ok (.iaload, 1)) (h : f a = aI (E.2.1 0) N g) (hin : 0 ≤ i ∧ i < (N : Int)) (hN : N < 2147483648) (kk : J G k n f (pc + 1) lv (.int (iZ (g i)) :: st)) : J G k n f pc lv (.int (iZ i) :: .ref a :: st) := by
  obtain ⟨p, l', e, R, s, m, args, below, meth, c, E', A, Z⟩ := G
  obtain ⟨rfl, rfl, rfl, hx, hb, hml, hown, hlocks, hts, hK, hA, hNw, hRs, hSS⟩ := hG
  intro L H locs ls hdm hP hD hS hl
  obtain ⟨-, q, hq⟩ := jmem hdm h aI_ne
  refine va_iald hx hb hK hP q 0 hq rfl (iZ_in hin hN) hd ?_
  rw [iZ_cl (by omega)]
  have e : ((i.toNat : Nat) : Int) = i := Int.toNat_of_nonneg hin.1
  rw [e]
  exact kk L H locs ls hdm hP hD hS hl
theorem j_zald (hG : jX G l E cc own nL rm) {a N : Nat} {i : Int} {g : Int → Int} (hd : decode cc pc = .ok (.baload, 1)) (h : f a = aI (E.2.1 2) N g) (hin : 0 ≤ i ∧ i < (N : Int)) (hN : N < 2147483648) (kk : J G k n f (pc + 1) lv (.int (iZ (g i)) :: st)) : J G k n f pc lv (.int (iZ i) :: .ref a :: st) := by
  obtain ⟨p, l', e, R, s, m, args, below, meth, c, E', A, Z⟩ := G
  obtain ⟨rfl, rfl, rfl, hx, hb, hml, hown, hlocks, hts, hK, hA, hNw, hRs, hSS⟩ := hG
  intro L H locs ls hdm hP hD hS hl
  obtain ⟨-, q, hq⟩ := jmem hdm h aI_ne
  refine va_zald hx hb hK hP q 2 hq rfl (iZ_in hin hN) hd ?_
  rw [iZ_cl (by omega)]
  have e : ((i.toNat : Nat) : Int) = i := Int.toNat_of_nonneg hin.1
  rw [e]
  exact kk L H locs ls hdm hP hD hS hl
theorem j_cald (hG : jX G l E cc own nL rm) {a N : Nat} {i : Int} {g : Int → Int} (hd : decode cc pc = .ok (.caload, 1)) (h : f a = aI (E.2.1 3) N g) (hin : 0 ≤ i ∧ i < (N : Int)) (hN : N < 2147483648) (kk : J G k n f (pc + 1) lv (.int (iZ (g i)) :: st)) : J G k n f pc lv (.int (iZ i) :: .ref a :: st) := by
  obtain ⟨p, l', e, R, s, m, args, below, meth, c, E', A, Z⟩ := G
  obtain ⟨rfl, rfl, rfl, hx, hb, hml, hown, hlocks, hts, hK, hA, hNw, hRs, hSS⟩ := hG
  intro L H locs ls hdm hP hD hS hl
  obtain ⟨-, q, hq⟩ := jmem hdm h aI_ne
  refine va_cald hx hb hK hP q 3 hq rfl (iZ_in hin hN) hd ?_
  rw [iZ_cl (by omega)]
  have e : ((i.toNat : Nat) : Int) = i := Int.toNat_of_nonneg hin.1
  rw [e]
  exact kk L H locs ls hdm hP hD hS hl
theorem j_lald (hG : jX G l E cc own nL rm) {a N : Nat} {i : Int} {g : Int → Int} (hd : decode cc pc = .ok (.laload, 1)) (h : f a = aJ (E.2.1 1) N g) (hin : 0 ≤ i ∧ i < (N : Int)) (hN : N < 2147483648) (kk : J G k n f (pc + 1) lv (.long (lZ (g i)) :: st)) : J G k n f pc lv (.int (iZ i) :: .ref a :: st) := by
  obtain ⟨p, l', e, R, s, m, args, below, meth, c, E', A, Z⟩ := G
  obtain ⟨rfl, rfl, rfl, hx, hb, hml, hown, hlocks, hts, hK, hA, hNw, hRs, hSS⟩ := hG
  intro L H locs ls hdm hP hD hS hl
  obtain ⟨-, q, hq⟩ := jmem hdm h aJ_ne
  refine va_lald hx hb hK hP q 1 hq rfl (iZ_in hin hN) hd ?_
  rw [iZ_cl (by omega)]
  have e : ((i.toNat : Nat) : Int) = i := Int.toNat_of_nonneg hin.1
  rw [e]
  exact kk L H locs ls hdm hP hD hS hl
theorem j_ald4 (hG : jX G l E cc own nL rm) {a N b : Nat} {i : Int} {g : Int → Option Nat} (hd : decode cc pc = .ok (.aaload, 1)) (h : f a = aQ (E.2.1 4) N g) (hin : 0 ≤ i ∧ i < (N : Int)) (hN : N < 2147483648) (hg : g i = some b) (kk : J G k n f (pc + 1) lv (.ref b :: st)) : J G k n f pc lv (.int (iZ i) :: .ref a :: st) := by
  obtain ⟨p, l', e, R, s, m, args, below, meth, c, E', A, Z⟩ := G
  obtain ⟨rfl, rfl, rfl, hx, hb, hml, hown, hlocks, hts, hK, hA, hNw, hRs, hSS⟩ := hG
  intro L H locs ls hdm hP hD hS hl
  obtain ⟨-, q, hq⟩ := jmem hdm h aQ_ne
  refine va_aldq hx hb hK hP q 4 hq rfl (iZ_in hin hN) hd ?_
  rw [iZ_cl (by omega)]
  have e : ((i.toNat : Nat) : Int) = i := Int.toNat_of_nonneg hin.1
  rw [e, hg]
  exact kk L H locs ls hdm hP hD hS hl
theorem j_ald5 (hG : jX G l E cc own nL rm) {a N b : Nat} {i : Int} {g : Int → Option Nat} (hd : decode cc pc = .ok (.aaload, 1)) (h : f a = aQ (E.2.1 5) N g) (hin : 0 ≤ i ∧ i < (N : Int)) (hN : N < 2147483648) (hg : g i = some b) (kk : J G k n f (pc + 1) lv (.ref b :: st)) : J G k n f pc lv (.int (iZ i) :: .ref a :: st) := by
  obtain ⟨p, l', e, R, s, m, args, below, meth, c, E', A, Z⟩ := G
  obtain ⟨rfl, rfl, rfl, hx, hb, hml, hown, hlocks, hts, hK, hA, hNw, hRs, hSS⟩ := hG
  intro L H locs ls hdm hP hD hS hl
  obtain ⟨-, q, hq⟩ := jmem hdm h aQ_ne
  refine va_aldq hx hb hK hP q 5 hq rfl (iZ_in hin hN) hd ?_
  rw [iZ_cl (by omega)]
  have e : ((i.toNat : Nat) : Int) = i := Int.toNat_of_nonneg hin.1
  rw [e, hg]
  exact kk L H locs ls hdm hP hD hS hl
theorem j_alenJ (hG : jX G l E cc own nL rm) {a N : Nat} {g : Int → Int} (hd : decode cc pc = .ok (.arraylength, 1)) (h : f a = aJ (E.2.1 1) N g) (kk : J G k n f (pc + 1) lv (.int (iZ N) :: st)) : J G k n f pc lv (.ref a :: st) := by
  obtain ⟨p, l', e, R, s, m, args, below, meth, c, E', A, Z⟩ := G
  obtain ⟨rfl, rfl, rfl, hx, hb, hml, hown, hlocks, hts, hK, hA, hNw, hRs, hSS⟩ := hG
  intro L H locs ls hdm hP hD hS hl
  obtain ⟨-, q, hq⟩ := jmem hdm h aJ_ne
  exact va_alen hx hb hK hP q 1 hq (ty := .long) rfl (iZ_nI N) hd (kk L H locs ls hdm hP hD hS hl)
theorem j_alenI (hG : jX G l E cc own nL rm) {a N : Nat} {g : Int → Int} (hd : decode cc pc = .ok (.arraylength, 1)) (h : f a = aI (E.2.1 0) N g) (kk : J G k n f (pc + 1) lv (.int (iZ N) :: st)) : J G k n f pc lv (.ref a :: st) := by
  obtain ⟨p, l', e, R, s, m, args, below, meth, c, E', A, Z⟩ := G
  obtain ⟨rfl, rfl, rfl, hx, hb, hml, hown, hlocks, hts, hK, hA, hNw, hRs, hSS⟩ := hG
  intro L H locs ls hdm hP hD hS hl
  obtain ⟨-, q, hq⟩ := jmem hdm h aI_ne
  exact va_alen hx hb hK hP q 0 hq (ty := .int) rfl (iZ_nI N) hd (kk L H locs ls hdm hP hD hS hl)
theorem fun_upd {g : Int → Int} {i v : Int} (hi : 0 ≤ i) : upd (fun j : Nat => iZ (g j)) i.toNat (iZ v) = fun j : Nat => iZ (fup g i v j) := by
  funext j
  unfold upd fup
  by_cases h : j = i.toNat
  · rw [if_pos h, if_pos (by omega)]
  · rw [if_neg h, if_neg (by omega)]
theorem fun_updL {g : Int → Int} {i v : Int} (hi : 0 ≤ i) : vp_updL (fun j : Nat => lZ (g j)) i.toNat (lZ v) = fun j : Nat => lZ (fup g i v j) := by
  funext j
  unfold vp_updL fup
  by_cases h : j = i.toNat
  · rw [if_pos h, if_pos (by omega)]
  · rw [if_neg h, if_neg (by omega)]
theorem fun_updQ {g : Int → Option Nat} {i : Int} {v : Option Nat} (hi : 0 ≤ i) : va_up (fun j : Nat => g j) i.toNat v = fun j : Nat => fup g i v j := by
  funext j
  unfold va_up fup
  by_cases h : j = i.toNat
  · rw [if_pos h, if_pos (by omega)]
  · rw [if_neg h, if_neg (by omega)]
theorem nar_z {v : Int} (h : v = 0 ∨ v = 1) : vp_nar .boolean (iZ v) = iZ v := by rcases h with rfl | rfl <;> decide
theorem nar_c {v : Int} (h : 0 ≤ v ∧ v < 65536) : vp_nar .char (iZ v) = iZ v := by
  obtain ⟨m, rfl⟩ := Int.eq_ofNat_of_zero_le h.1
  rw [← iZ_nI]
  have h1 := (pk_charN (q := m) (by omega)).1
  unfold vp_nar
  rw [h1]
theorem j_iast (hG : jX G l E cc own nL rm) {a N : Nat} {i v : Int} {g : Int → Int} (hd : decode cc pc = .ok (.iastore, 1)) (h : f a = aI (E.2.1 0) N g) (hin : 0 ≤ i ∧ i < (N : Int)) (hN : N < 2147483648) (kk : ∀ f' : Hp, f' a = aI (E.2.1 0) N (fup g i v) → (∀ b, b ≠ a → f' b = f b) → J G k n f' (pc + 1) lv st) : J G k n f pc lv (.int (iZ v) :: .int (iZ i) :: .ref a :: st) := by
  obtain ⟨p, l', e, R, s, m, args, below, meth, c, E', A, Z⟩ := G
  obtain ⟨rfl, rfl, rfl, hx, hb, hml, hown, hlocks, hts, hK, hA, hNw, hRs, hSS⟩ := hG
  intro L H locs ls hdm hP hD hS hl
  obtain ⟨ha, q, hq⟩ := jmem hdm h aI_ne
  refine va_iast hx hb hK hP hD hS q 0 hq rfl (iZ_in hin hN) hd (fun H1 locs1 hP1 hD1 hS1 => ?_)
  rw [iZ_cl (by omega), fun_upd hin.1] at hP1 hD1
  obtain ⟨e1, e2, e3⟩ := jset (x := aI (E'.2.1 0) N (fup g i v)) hdm ha (by rw [h]; exact hq) hD aI_ne hP1 hD1
  exact kk _ (va_up_self _ _ _) (fun b hb => va_up_ne _ _ hb) L H1 locs1 ls e1 e2 e3 hS1 hl
theorem j_zast (hG : jX G l E cc own nL rm) {a N : Nat} {i v : Int} {g : Int → Int} (hd : decode cc pc = .ok (.bastore, 1)) (h : f a = aI (E.2.1 2) N g) (hin : 0 ≤ i ∧ i < (N : Int)) (hN : N < 2147483648) (hv : v = 0 ∨ v = 1) (kk : ∀ f' : Hp, f' a = aI (E.2.1 2) N (fup g i v) → (∀ b, b ≠ a → f' b = f b) → J G k n f' (pc + 1) lv st) : J G k n f pc lv (.int (iZ v) :: .int (iZ i) :: .ref a :: st) := by
  obtain ⟨p, l', e, R, s, m, args, below, meth, c, E', A, Z⟩ := G
  obtain ⟨rfl, rfl, rfl, hx, hb, hml, hown, hlocks, hts, hK, hA, hNw, hRs, hSS⟩ := hG
  intro L H locs ls hdm hP hD hS hl
  obtain ⟨ha, q, hq⟩ := jmem hdm h aI_ne
  refine va_zast hx hb hK hP hD hS q 2 hq rfl (iZ_in hin hN) hd (fun H1 locs1 hP1 hD1 hS1 => ?_)
  rw [nar_z hv, iZ_cl (by omega), fun_upd hin.1] at hP1 hD1
  obtain ⟨e1, e2, e3⟩ := jset (x := aI (E'.2.1 2) N (fup g i v)) hdm ha (by rw [h]; exact hq) hD aI_ne hP1 hD1
  exact kk _ (va_up_self _ _ _) (fun b hb => va_up_ne _ _ hb) L H1 locs1 ls e1 e2 e3 hS1 hl
theorem j_cast (hG : jX G l E cc own nL rm) {a N : Nat} {i v : Int} {g : Int → Int} (hd : decode cc pc = .ok (.castore, 1)) (h : f a = aI (E.2.1 3) N g) (hin : 0 ≤ i ∧ i < (N : Int)) (hN : N < 2147483648) (hv : 0 ≤ v ∧ v < 65536) (kk : ∀ f' : Hp, f' a = aI (E.2.1 3) N (fup g i v) → (∀ b, b ≠ a → f' b = f b) → J G k n f' (pc + 1) lv st) : J G k n f pc lv (.int (iZ v) :: .int (iZ i) :: .ref a :: st) := by
  obtain ⟨p, l', e, R, s, m, args, below, meth, c, E', A, Z⟩ := G
  obtain ⟨rfl, rfl, rfl, hx, hb, hml, hown, hlocks, hts, hK, hA, hNw, hRs, hSS⟩ := hG
  intro L H locs ls hdm hP hD hS hl
  obtain ⟨ha, q, hq⟩ := jmem hdm h aI_ne
  refine va_cast hx hb hK hP hD hS q 3 hq rfl (iZ_in hin hN) hd (fun H1 locs1 hP1 hD1 hS1 => ?_)
  rw [nar_c hv, iZ_cl (by omega), fun_upd hin.1] at hP1 hD1
  obtain ⟨e1, e2, e3⟩ := jset (x := aI (E'.2.1 3) N (fup g i v)) hdm ha (by rw [h]; exact hq) hD aI_ne hP1 hD1
  exact kk _ (va_up_self _ _ _) (fun b hb => va_up_ne _ _ hb) L H1 locs1 ls e1 e2 e3 hS1 hl
theorem j_last (hG : jX G l E cc own nL rm) {a N : Nat} {i v : Int} {g : Int → Int} (hd : decode cc pc = .ok (.lastore, 1)) (h : f a = aJ (E.2.1 1) N g) (hin : 0 ≤ i ∧ i < (N : Int)) (hN : N < 2147483648) (kk : ∀ f' : Hp, f' a = aJ (E.2.1 1) N (fup g i v) → (∀ b, b ≠ a → f' b = f b) → J G k n f' (pc + 1) lv st) : J G k n f pc lv (.long (lZ v) :: .int (iZ i) :: .ref a :: st) := by
  obtain ⟨p, l', e, R, s, m, args, below, meth, c, E', A, Z⟩ := G
  obtain ⟨rfl, rfl, rfl, hx, hb, hml, hown, hlocks, hts, hK, hA, hNw, hRs, hSS⟩ := hG
  intro L H locs ls hdm hP hD hS hl
  obtain ⟨ha, q, hq⟩ := jmem hdm h aJ_ne
  refine va_last hx hb hK hP hD hS q 1 hq rfl (iZ_in hin hN) hd (fun H1 locs1 hP1 hD1 hS1 => ?_)
  rw [iZ_cl (by omega), fun_updL hin.1] at hP1 hD1
  obtain ⟨e1, e2, e3⟩ := jset (x := aJ (E'.2.1 1) N (fup g i v)) hdm ha (by rw [h]; exact hq) hD aJ_ne hP1 hD1
  exact kk _ (va_up_self _ _ _) (fun b hb => va_up_ne _ _ hb) L H1 locs1 ls e1 e2 e3 hS1 hl
theorem j_ast4 (hG : jX G l E cc own nL rm) {a N b : Nat} {i : Int} {fs : List Value} {g : Int → Option Nat} (hd : decode cc pc = .ok (.aastore, 1)) (h : f a = aQ (E.2.1 4) N g) (hin : 0 ≤ i ∧ i < (N : Int)) (hN : N < 2147483648) (hb0 : f b = oB 7 fs) (kk : ∀ f' : Hp, f' a = aQ (E.2.1 4) N (fup g i (some b)) → (∀ b, b ≠ a → f' b = f b) → J G k n f' (pc + 1) lv st) : J G k n f pc lv (.ref b :: .int (iZ i) :: .ref a :: st) := by
  obtain ⟨p, l', e, R, s, m, args, below, meth, c, E', A, Z⟩ := G
  obtain ⟨rfl, rfl, rfl, hx, hb, hml, hown, hlocks, hts, hK, hA, hNw, hRs, hSS⟩ := hG
  intro L H locs ls hdm hP hD hS hl
  obtain ⟨ha, q, hq⟩ := jmem hdm h aQ_ne
  obtain ⟨-, q2, hq2⟩ := jmem hdm hb0 (oB_ne (by decide))
  refine va_astq hx hb hK hP hD hS q 4 q2 7 (r := (RX8, TX8, 3)) hq rfl hq2 rfl (iZ_in hin hN) hd (fun H1 locs1 hP1 hD1 hS1 => ?_)
  rw [iZ_cl (by omega), fun_updQ hin.1] at hP1 hD1
  obtain ⟨e1, e2, e3⟩ := jset (x := aQ (E'.2.1 4) N (fup g i (some b))) hdm ha (by rw [h]; exact hq) hD aQ_ne hP1 hD1
  exact kk _ (va_up_self _ _ _) (fun b hb => va_up_ne _ _ hb) L H1 locs1 ls e1 e2 e3 hS1 hl
theorem j_ast5 (hG : jX G l E cc own nL rm) {a N b : Nat} {i : Int} {fs : List Value} {g : Int → Option Nat} (hd : decode cc pc = .ok (.aastore, 1)) (h : f a = aQ (E.2.1 5) N g) (hin : 0 ≤ i ∧ i < (N : Int)) (hN : N < 2147483648) (hb0 : f b = oB 3 fs) (kk : ∀ f' : Hp, f' a = aQ (E.2.1 5) N (fup g i (some b)) → (∀ b, b ≠ a → f' b = f b) → J G k n f' (pc + 1) lv st) : J G k n f pc lv (.ref b :: .int (iZ i) :: .ref a :: st) := by
  obtain ⟨p, l', e, R, s, m, args, below, meth, c, E', A, Z⟩ := G
  obtain ⟨rfl, rfl, rfl, hx, hb, hml, hown, hlocks, hts, hK, hA, hNw, hRs, hSS⟩ := hG
  intro L H locs ls hdm hP hD hS hl
  obtain ⟨ha, q, hq⟩ := jmem hdm h aQ_ne
  obtain ⟨-, q2, hq2⟩ := jmem hdm hb0 (oB_ne (by decide))
  refine va_astq hx hb hK hP hD hS q 5 q2 3 (r := (RX3, TX3, 6)) hq rfl hq2 rfl (iZ_in hin hN) hd (fun H1 locs1 hP1 hD1 hS1 => ?_)
  rw [iZ_cl (by omega), fun_updQ hin.1] at hP1 hD1
  obtain ⟨e1, e2, e3⟩ := jset (x := aQ (E'.2.1 5) N (fup g i (some b))) hdm ha (by rw [h]; exact hq) hD aQ_ne hP1 hD1
  exact kk _ (va_up_self _ _ _) (fun b hb => va_up_ne _ _ hb) L H1 locs1 ls e1 e2 e3 hS1 hl
theorem j_ret_q {P : Option Value → Hp → Prop} {p : Program} {e : Env} {R : Room} {s : State} {m : MethodId} {args : Array Value} {A : Nat → Prop} {L : List Nat} {H : Heap} {locs : List Loc} {v : Option Value} (hdm : jdom L f) (hP : va_P E.1 vwCl (va_pl L f) H) (hD : va_D A (va_pl L f)) (hS : va_S A s.heap H locs) (h : P v f) (t : State) (ht : t.heap = H) : jQ E P A args s (.returned v) t :=
  ⟨⟨v, f, L, rfl, h, hdm, by rw [ht]; exact hP, hD⟩, hS.F ht⟩
theorem j_iret (hG : jX G l E cc own nL rm) {P : Option Value → Hp → Prop} {x : Int32} (hZ : jZ G (some .int) P) (hd : decode cc pc = .ok (.ireturn, 1)) (hk : k ≤ rm.cells) (hn : n ≤ rm.slots) (h : P (some (.int x)) f) : J G k n f pc lv [.int x] := by
  obtain ⟨p, l', e, R, s, m, args, below, meth, c, E', A, Z⟩ := G
  obtain ⟨rfl, rfl, rfl, hx, hb, hml, hown, hlocks, hts, hK, hA, hNw, hRs, hSS⟩ := hG
  obtain ⟨rfl, hr⟩ := hZ
  intro L H locs ls hdm hP hD hS hl
  refine W.widen hk hn ?_
  exact W.iret hx hb hr (fun t ht _ => j_ret_q (p := p) (e := e) (R := R) (m := m) hdm hP hD hS h t ht) hS.2.2 hd hlocks
theorem j_lret (hG : jX G l E cc own nL rm) {P : Option Value → Hp → Prop} {x : Int64} (hZ : jZ G (some .long) P) (hd : decode cc pc = .ok (.lreturn, 1)) (hk : k ≤ rm.cells) (hn : n ≤ rm.slots) (h : P (some (.long x)) f) : J G k n f pc lv [.long x] := by
  obtain ⟨p, l', e, R, s, m, args, below, meth, c, E', A, Z⟩ := G
  obtain ⟨rfl, rfl, rfl, hx, hb, hml, hown, hlocks, hts, hK, hA, hNw, hRs, hSS⟩ := hG
  obtain ⟨rfl, hr⟩ := hZ
  intro L H locs ls hdm hP hD hS hl
  refine W.widen hk hn ?_
  exact W.lret hx hb hr (fun t ht _ => j_ret_q (p := p) (e := e) (R := R) (m := m) hdm hP hD hS h t ht) hS.2.2 hd hlocks
theorem j_zret (hG : jX G l E cc own nL rm) {P : Option Value → Hp → Prop} {x : Int32} {ty : FieldType} (hZ : jZ G (some ty) P) (hd : decode cc pc = .ok (.ireturn, 1)) (hk : k ≤ rm.cells) (hn : n ≤ rm.slots) (hx0 : narrow ty (.int x) = .int x) (h : P (some (.int x)) f) : J G k n f pc lv [.int x] := by
  obtain ⟨p, l', e, R, s, m, args, below, meth, c, E', A, Z⟩ := G
  obtain ⟨rfl, rfl, rfl, hx, hb, hml, hown, hlocks, hts, hK, hA, hNw, hRs, hSS⟩ := hG
  obtain ⟨rfl, hr⟩ := hZ
  intro L H locs ls hdm hP hD hS hl
  refine W.widen hk hn ?_
  exact W.zret hx hb hr hx0 (fun t ht _ => j_ret_q (p := p) (e := e) (R := R) (m := m) hdm hP hD hS h t ht) hS.2.2 hd hlocks
theorem j_vret (hG : jX G l E cc own nL rm) {P : Option Value → Hp → Prop} (hZ : jZ G none P) (hd : decode cc pc = .ok (.return_, 1)) (hk : k ≤ rm.cells) (hn : n ≤ rm.slots) (h : P none f) : J G k n f pc lv [] := by
  obtain ⟨p, l', e, R, s, m, args, below, meth, c, E', A, Z⟩ := G
  obtain ⟨rfl, rfl, rfl, hx, hb, hml, hown, hlocks, hts, hK, hA, hNw, hRs, hSS⟩ := hG
  obtain ⟨rfl, hr⟩ := hZ
  intro L H locs ls hdm hP hD hS hl
  refine W.widen hk hn ?_
  exact W.vret hx hb hr (fun t ht _ => j_ret_q (p := p) (e := e) (R := R) (m := m) hdm hP hD hS h t ht) hS.2.2 hd hlocks
theorem j_aret (hG : jX G l E cc own nL rm) {P : Option Value → Hp → Prop} {a : Nat} {nm : String} (hZ : jZ G (some (.object nm)) P) (hd : decode cc pc = .ok (.areturn, 1)) (hk : k ≤ rm.cells) (hn : n ≤ rm.slots) (h : P (some (.ref a)) f) : J G k n f pc lv [.ref a] := by
  obtain ⟨p, l', e, R, s, m, args, below, meth, c, E', A, Z⟩ := G
  obtain ⟨rfl, rfl, rfl, hx, hb, hml, hown, hlocks, hts, hK, hA, hNw, hRs, hSS⟩ := hG
  obtain ⟨rfl, hr⟩ := hZ
  intro L H locs ls hdm hP hD hS hl
  refine W.widen hk hn ?_
  exact W.aret hx hb hr (Or.inl ⟨nm, rfl⟩) (Or.inr ⟨a, rfl⟩) (fun t ht _ => j_ret_q (p := p) (e := e) (R := R) (m := m) hdm hP hD hS h t ht) hS.2.2 hd hlocks
theorem nar_zr {v : Int} (h : v = 0 ∨ v = 1) : narrow .boolean (.int (iZ v)) = .int (iZ v) := by rcases h with rfl | rfl <;> decide
end JH
