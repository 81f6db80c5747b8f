/-! ===== the walk: a judgement over the map ===== -/
abbrev JG : Type := Program × Launch × Env × Room × State × MethodId × Array Value × List Frame × Method × Code × JE × (Nat → Prop) × (State → Prop)
def J (G : JG) (k n : Nat) (f : Hp) (pc : Nat) (lv : List (Nat × Value)) (st : List Value) : Prop :=
  match G with
  | (p, l, e, R, s, m, args, below, meth, c, E, A, Z) => ∀ (L : List Nat) (H : Heap) (locs : List Loc) (ls : Array Slot), jdom L f → va_P E.1 vwCl (va_pl L f) H → va_D A (va_pl L f) → va_S A s.heap H locs → lv_has ls c.maxLocals lv → W p l e R s m args below meth c H locs k n Z (F0 m pc ls st)
/-- what holds of a method's walk -/
def jX (G : JG) (l : Launch) (E : JE) (cc : ByteArray) (own : String) (nL : Nat) (rm : Room) : Prop :=
  match G with
  | (p, l', _, R, s, m, args, _, meth, c, E', A, _) => l' = l ∧ E' = E ∧ R = rm ∧ p.tables.exec = Jvm.exec ∧ c.code = cc ∧ c.maxLocals = nL ∧ s.vm.findClass own = some m.cls ∧ meth.locks = false ∧ (∀ w ∈ gw_tbl, w.before args s = true) ∧ va_K E.1 vwCl (tysK E.2.1) s ∧ (∀ q, s.heap.size ≤ q → A q) ∧ jN s ∧ jR E s ∧ jS E A s s.heap
def jQ (E : JE) (P : Option Value → Hp → Prop) (A : Nat → Prop) : Array Value → State → Outcome → State → Prop := fun _ st oc t => (∃ (v : Option Value) (f' : Hp) (L : List Nat), oc = .returned v ∧ P v f' ∧ jdom L f' ∧ va_P E.1 vwCl (va_pl L f') t.heap ∧ va_D A (va_pl L f')) ∧ va_F A st t
/-- how it ends -/
def jZ (G : JG) (ret : Option FieldType) (P : Option Value → Hp → Prop) : Prop :=
  match G with
  | (_, _, _, R, s, _, args, below, meth, _, E, A, Z) => Z = MQ below (jQ E P A) args s R.cells R.slots A ∧ meth.sig.returnType = ret
def jPre (E : JE) (f : Hp) (sz : Nat) (U : State) : Prop := U.heap.size = sz ∧ (∃ L, jdom L f ∧ va_P E.1 vwCl (va_pl L f) U.heap ∧ va_D (fun _ => True) (va_pl L f)) ∧ va_K E.1 vwCl (tysK E.2.1) U ∧ jN U ∧ jR E U ∧ jS E (AF f sz) U U.heap
/-- a method's contract: from the map f, with the values av -/
def Ct (l : Launch) (E : JE) (y : MethodName) (cc : ByteArray) (maxL : Nat) (ret : Option FieldType) (rm : Room) (av : List Value) (f : Hp) (P : Option Value → Hp → Prop) : Prop :=
  ∀ sz : Nat, Met l y (Cond.code y cc maxL ret :: gw_tbl) rm (va_Pc av (jPre E f sz)) (jQ E P (AF f sz)) rm.cells rm.slots (AF f sz)
theorem jPre_blind {E : JE} {f : Hp} {sz : Nat} {av : List Value} : FrameBlind (va_Pc av (jPre E f sz)) := by
  intro a U g mk h
  obtain ⟨h0, h1, h2, h3, h4, h5, h6⟩ := h
  refine ⟨h0, h1, h2, va_K.moved (u := U) (U := U.calling g mk a) (Vm.Alike.refl U.vm) h3, ?_, ?_, ?_⟩
  · exact ⟨fun q hq => va_Nw.same rfl (u := U) (U := U.calling g mk a) rfl (h4.1 q hq), h4.2.1.moved (u := U) (U := U.calling g mk a) (Vm.Alike.refl U.vm), h4.2.2.moved (u := U) (U := U.calling g mk a) (Vm.Alike.refl U.vm)⟩
  · exact fun i q hq => vk_R.same (u := U) (U := U.calling g mk a) rfl (h5 i q hq)
  · exact jS.moved (u := U) (U := U.calling g mk a) (Vm.Alike.refl U.vm) h6
theorem ct_of {l : Launch} {E : JE} {y : MethodName} {cc : ByteArray} {maxL : Nat} {ret : Option FieldType} {rm : Room} {av : List Value} {f : Hp} {P : Option Value → Hp → Prop} {own : String} {lv : List (Nat × Value)} (hy : plainName y.cls = true) (hown : y.cls = own) (hl : (lg_sl av).length ≤ maxL) (hlv : lv_args 0 av = lv)
    (body : ∀ G : JG, jX G l E cc own maxL rm → jZ G ret P → J G 0 0 f 0 lv []) : Ct l E y cc maxL ret rm av f P := by
  intro sz
  refine Met.ofW (cc := cc) (maxL := maxL) (ret := ret) hy rfl ?_
  intro p e s m args below meth c s₁ B hml hv
  obtain ⟨rfl, hsz, ⟨L, hdm, hP, hD⟩, hK, hN, hR, hSS⟩ := hv
  subst hsz
  subst hown
  have hts := atoms_spec (ws := Cond.code y cc maxL ret :: gw_tbl) B.pre
  have hA : ∀ q : Nat, s.heap.size ≤ q → AF f s.heap.size q := fun q h => Or.inr h
  have hD2 : va_D (AF f s.heap.size) (va_pl L f) := ⟨hD.1, fun k q hq => by
    obtain ⟨a, ha, rfl⟩ := List.mem_map.mp (List.mem_of_getElem? hq)
    exact Or.inl ((hdm a).mp ha)⟩
  have b := body (p, l, e, rm, s, m, av.toArray, below, meth, c, E, AF f s.heap.size, MQ below (jQ E P (AF f s.heap.size)) av.toArray s rm.cells rm.slots (AF f s.heap.size)) ⟨rfl, rfl, rfl, B.exec, B.bytes, hml, findClass_of_methodNamed B.named, B.notSynchronized, fun w hw => hts w (List.mem_cons_of_mem _ hw), hK, hA, hN, hR, hSS⟩ ⟨rfl, B.returns⟩
  rw [lg_entry_eq]
  have hle := lv_entry av (n := maxL) hl
  rw [hlv] at hle
  exact b L s.heap [] _ hdm hP hD2 va_S.rf (by rw [hml]; exact hle)
/-! locals -/
def lget (lv : List (Nat × Value)) (i : Nat) : Option Value := (lv.find? (fun q => q.1 == i)).map (fun q => q.2)
def lput (lv : List (Nat × Value)) (i w : Nat) (v : Value) : List (Nat × Value) := lv.filter (fun q => Nat.blt q.1 i && !(q.1 + 1 == i && q.2.category == 2)) ++ (i, v) :: lv.filter (fun q => Nat.blt (i + w) (q.1 + 1))
theorem lget_at {ls : Array Slot} {nL : Nat} {lv : List (Nat × Value)} {i : Nat} {v : Value} (h : lv_has ls nL lv) (hg : lget lv i = some v) : ls[i]? = some (.val v) := by
  unfold lget at hg
  cases hf : lv.find? (fun q => q.1 == i) with
  | none => rw [hf] at hg; cases hg
  | some q =>
    rw [hf] at hg
    have h1 : q.2 = v := Option.some.inj hg
    have h2 : q.1 = i := by simpa using List.find?_some hf
    have h3 := h.2.2 q (List.mem_of_find?_eq_some hf)
    rw [h1, h2] at h3
    exact h3
theorem lput_has {ls : Array Slot} {nL : Nat} {lv lv' : List (Nat × Value)} {i w : Nat} {v : Value} (hl : lput lv i w v = lv') (hw : w = 1 ∨ w = 2) (h : lv_has ls nL ((i, v) :: lv.filter (fun q => !(q.1 == i) && (w == 1 || !(q.1 == i + 1)) && !(q.1 + 1 == i && q.2.category == 2)))) : lv_has ls nL lv' := by
  refine ⟨h.1, h.2.1, fun q hq => h.2.2 q ?_⟩
  rw [← hl] at hq
  unfold lput at hq
  rcases List.mem_append.mp hq with h1 | h1
  · obtain ⟨h2, h3⟩ := List.mem_filter.mp h1
    refine List.mem_cons_of_mem _ (List.mem_filter.mpr ⟨h2, ?_⟩)
    simp only [Bool.and_eq_true, Nat.blt_eq] at h3
    obtain ⟨h3, h4⟩ := h3
    have e1 : (q.1 == i) = false := by simp; omega
    have e2 : (q.1 == i + 1) = false := by simp; omega
    rw [e1, e2, h4]
    simp
  · rcases List.mem_cons.mp h1 with rfl | h1
    · exact List.mem_cons_self
    · obtain ⟨h2, h3⟩ := List.mem_filter.mp h1
      refine List.mem_cons_of_mem _ (List.mem_filter.mpr ⟨h2, ?_⟩)
      simp only [Nat.blt_eq] at h3
      have e1 : (q.1 == i) = false := by simp; omega
      have e3 : (q.1 + 1 == i) = false := by simp; omega
      rw [e1, e3]
      rcases hw with rfl | rfl
      · simp
      · have e2 : (q.1 == i + 1) = false := by simp; omega
        rw [e2]; simp
theorem fil_1 (lv : List (Nat × Value)) (i : Nat) : lv.filter (fun q => !(q.1 == i) && !(q.1 + 1 == i && q.2.category == 2)) = lv.filter (fun q => !(q.1 == i) && (1 == 1 || !(q.1 == i + 1)) && !(q.1 + 1 == i && q.2.category == 2)) := by simp
theorem fil_2 (lv : List (Nat × Value)) (i : Nat) : lv.filter (fun q => !(q.1 == i) && (!(q.1 == i + 1) && !(q.1 + 1 == i && q.2.category == 2))) = lv.filter (fun q => !(q.1 == i) && (2 == 1 || !(q.1 == i + 1)) && !(q.1 + 1 == i && q.2.category == 2)) := by
  congr 1
  funext q
  simp [Bool.and_assoc]
section JR
variable {G : JG} {l : Launch} {E : JE} {cc : ByteArray} {own : String} {nL : Nat} {rm : Room} {k n : Nat} {f : Hp} {pc : Nat} {lv : List (Nat × Value)} {st : List Value}
theorem j_st {st' : List Value} (h : st = st') (kk : J G k n f pc lv st') : J G k n f pc lv st := h ▸ kk
theorem j_lv {lv' : List (Nat × Value)} (h : ∀ q ∈ lv', q ∈ lv) (kk : J G k n f pc lv' st) : J G k n f pc lv st := by
  obtain ⟨p, l, e, R, s, m, args, below, meth, c, E, A, Z⟩ := G
  intro L H locs ls hdm hP hD hS hl
  exact kk L H locs ls hdm hP hD hS ⟨hl.1, hl.2.1, fun q hq => hl.2.2 q (h q hq)⟩
theorem j_eqi {x y : Int32} (h : x = y) (kk : J G k n f pc lv (.int y :: st)) : J G k n f pc lv (.int x :: st) := h ▸ kk
theorem j_eql {x y : Int64} (h : x = y) (kk : J G k n f pc lv (.long y :: st)) : J G k n f pc lv (.long x :: st) := h ▸ kk
theorem j_eq {a b : Int} (h : a = b) (kk : J G k n f pc lv (.int (iZ b) :: st)) : J G k n f pc lv (.int (iZ a) :: st) := h ▸ kk
theorem j_eqL {a b : Int} (h : a = b) (kk : J G k n f pc lv (.long (lZ b) :: st)) : J G k n f pc lv (.long (lZ a) :: st) := h ▸ kk
theorem j_iconst (hG : jX G l E cc own nL rm) {z : Int} (hd : decode cc pc = .ok (.iconst z, 1)) (kk : J G k n f (pc + 1) lv (.int (iZ z) :: st)) : J G k n f pc lv (st) := by
  obtain ⟨p, l', e, R, s, m, args, below, meth, c, E', A, Z⟩ := G
  obtain ⟨rfl, rfl, rfl, hx, hb, hml, hown, hlocks, hts, hK, hA, hN, hR, hSS⟩ := hG
  intro L H locs ls hdm hP hD hS hl
  exact lv_iconst hx hb hd rfl (kk L H locs ls hdm hP hD hS hl)
theorem j_bipush (hG : jX G l E cc own nL rm) {z : Int} (hd : decode cc pc = .ok (.bipush z, 2)) (hz : (Int8.ofInt z).toInt32 = iZ z) (kk : J G k n f (pc + 2) lv (.int (iZ z) :: st)) : J G k n f pc lv (st) := by
  obtain ⟨p, l', e, R, s, m, args, below, meth, c, E', A, Z⟩ := G
  obtain ⟨rfl, rfl, rfl, hx, hb, hml, hown, hlocks, hts, hK, hA, hN, hR, hSS⟩ := hG
  intro L H locs ls hdm hP hD hS hl
  exact lv_bipush hx hb hd hz (kk L H locs ls hdm hP hD hS hl)
theorem j_sipush (hG : jX G l E cc own nL rm) {z : Int} (hd : decode cc pc = .ok (.sipush z, 3)) (hz : (Int16.ofInt z).toInt32 = iZ z) (kk : J G k n f (pc + 3) lv (.int (iZ z) :: st)) : J G k n f pc lv (st) := by
  obtain ⟨p, l', e, R, s, m, args, below, meth, c, E', A, Z⟩ := G
  obtain ⟨rfl, rfl, rfl, hx, hb, hml, hown, hlocks, hts, hK, hA, hN, hR, hSS⟩ := hG
  intro L H locs ls hdm hP hD hS hl
  exact lv_sipush hx hb hd hz (kk L H locs ls hdm hP hD hS hl)
theorem j_lconst (hG : jX G l E cc own nL rm) {z : Fin 2} {y : Int} (hd : decode cc pc = .ok (.lconst z, 1)) (hz : Int64.ofNat (z : Nat) = lZ y) (kk : J G k n f (pc + 1) lv (.long (lZ y) :: st)) : J G k n f pc lv (st) := by
  obtain ⟨p, l', e, R, s, m, args, below, meth, c, E', A, Z⟩ := G
  obtain ⟨rfl, rfl, rfl, hx, hb, hml, hown, hlocks, hts, hK, hA, hN, hR, hSS⟩ := hG
  intro L H locs ls hdm hP hD hS hl
  exact lv_lconst hx hb hd hz (kk L H locs ls hdm hP hD hS hl)
theorem j_ldc (hG : jX G l E cc own nL rm) {i : Nat} {x : Int32} {z : Int} (hd : decode cc pc = .ok (.ldc i, 2)) (hw : Cond.constant own i x ∈ gw_tbl) (hz : x = iZ z) (kk : J G k n f (pc + 2) lv (.int (iZ z) :: st)) : J G k n f pc lv (st) := by
  obtain ⟨p, l', e, R, s, m, args, below, meth, c, E', A, Z⟩ := G
  obtain ⟨rfl, rfl, rfl, hx, hb, hml, hown, hlocks, hts, hK, hA, hN, hR, hSS⟩ := hG
  intro L H locs ls hdm hP hD hS hl
  subst hz
  exact lv_ldc hx hb hown (hts _ hw) hd (kk L H locs ls hdm hP hD hS hl)
theorem j_ldc2 (hG : jX G l E cc own nL rm) {i : Nat} {x : Int64} {z : Int} (hd : decode cc pc = .ok (.ldc2_w i, 3)) (hw : Cond.constantLong own i x ∈ gw_tbl) (hz : x = lZ z) (kk : J G k n f (pc + 3) lv (.long (lZ z) :: st)) : J G k n f pc lv (st) := by
  obtain ⟨p, l', e, R, s, m, args, below, meth, c, E', A, Z⟩ := G
  obtain ⟨rfl, rfl, rfl, hx, hb, hml, hown, hlocks, hts, hK, hA, hN, hR, hSS⟩ := hG
  intro L H locs ls hdm hP hD hS hl
  subst hz
  exact lv_ldc2 hx hb hown (hts _ hw) hd (kk L H locs ls hdm hP hD hS hl)
theorem j_null (hG : jX G l E cc own nL rm) (hd : decode cc pc = .ok (.aconst_null, 1)) (kk : J G k n f (pc + 1) lv (.null :: st)) : J G k n f pc lv (st) := by
  obtain ⟨p, l', e, R, s, m, args, below, meth, c, E', A, Z⟩ := G
  obtain ⟨rfl, rfl, rfl, hx, hb, hml, hown, hlocks, hts, hK, hA, hN, hR, hSS⟩ := hG
  intro L H locs ls hdm hP hD hS hl
  exact lv_null hx hb hd (kk L H locs ls hdm hP hD hS hl)
theorem j_iload_n (hG : jX G l E cc own nL rm) {i : Fin 4} {j : Nat} {x : Int32} (hd : decode cc pc = .ok (.iload_n i, 1)) (hi : (i : Nat) = j) (hg : lget lv j = some (.int x)) (kk : J G k n f (pc + 1) lv (.int x :: st)) : J G k n f pc lv (st) := by
  obtain ⟨p, l', e, R, s, m, args, below, meth, c, E', A, Z⟩ := G
  obtain ⟨rfl, rfl, rfl, hx, hb, hml, hown, hlocks, hts, hK, hA, hN, hR, hSS⟩ := hG
  intro L H locs ls hdm hP hD hS hl
  exact lv_iload_n hx hb hd hi (lget_at hl hg) (kk L H locs ls hdm hP hD hS hl)
theorem j_iload (hG : jX G l E cc own nL rm) {j : Nat} {x : Int32} (hd : decode cc pc = .ok (.iload j, 2)) (hg : lget lv j = some (.int x)) (kk : J G k n f (pc + 2) lv (.int x :: st)) : J G k n f pc lv (st) := by
  obtain ⟨p, l', e, R, s, m, args, below, meth, c, E', A, Z⟩ := G
  obtain ⟨rfl, rfl, rfl, hx, hb, hml, hown, hlocks, hts, hK, hA, hN, hR, hSS⟩ := hG
  intro L H locs ls hdm hP hD hS hl
  exact lv_iload hx hb hd (lget_at hl hg) (kk L H locs ls hdm hP hD hS hl)
theorem j_istore_n (hG : jX G l E cc own nL rm) {i : Fin 4} {j : Nat} {x : Int32} {lv' : List (Nat × Value)} (hd : decode cc pc = .ok (.istore_n i, 1)) (hi : (i : Nat) = j) (hn : j < nL) (hp : lput lv j 1 (.int x) = lv') (kk : J G k n f (pc + 1) lv' st) : J G k n f pc lv (.int x :: st) := by
  obtain ⟨p, l', e, R, s, m, args, below, meth, c, E', A, Z⟩ := G
  obtain ⟨rfl, rfl, rfl, hx, hb, hml, hown, hlocks, hts, hK, hA, hN, hR, hSS⟩ := hG
  intro L H locs ls hdm hP hD hS hl
  refine lv_istore_n hx hb hd hi hl (by rw [hml]; exact hn) rfl (fun ls' hl' => kk L H locs ls' hdm hP hD hS (lput_has hp (by decide) ?_))
  rw [← fil_1]
  exact hl'
theorem j_istore (hG : jX G l E cc own nL rm) {j : Nat} {x : Int32} {lv' : List (Nat × Value)} (hd : decode cc pc = .ok (.istore j, 2)) (hn : j < nL) (hp : lput lv j 1 (.int x) = lv') (kk : J G k n f (pc + 2) lv' st) : J G k n f pc lv (.int x :: st) := by
  obtain ⟨p, l', e, R, s, m, args, below, meth, c, E', A, Z⟩ := G
  obtain ⟨rfl, rfl, rfl, hx, hb, hml, hown, hlocks, hts, hK, hA, hN, hR, hSS⟩ := hG
  intro L H locs ls hdm hP hD hS hl
  refine lv_istore hx hb hd hl (by rw [hml]; exact hn) rfl (fun ls' hl' => kk L H locs ls' hdm hP hD hS (lput_has hp (by decide) ?_))
  rw [← fil_1]
  exact hl'
theorem j_lload_n (hG : jX G l E cc own nL rm) {i : Fin 4} {j : Nat} {x : Int64} (hd : decode cc pc = .ok (.lload_n i, 1)) (hi : (i : Nat) = j) (hg : lget lv j = some (.long x)) (kk : J G k n f (pc + 1) lv (.long x :: st)) : J G k n f pc lv (st) := by
  obtain ⟨p, l', e, R, s, m, args, below, meth, c, E', A, Z⟩ := G
  obtain ⟨rfl, rfl, rfl, hx, hb, hml, hown, hlocks, hts, hK, hA, hN, hR, hSS⟩ := hG
  intro L H locs ls hdm hP hD hS hl
  exact lv_lload_n hx hb hd hi (lget_at hl hg) (kk L H locs ls hdm hP hD hS hl)
theorem j_lload (hG : jX G l E cc own nL rm) {j : Nat} {x : Int64} (hd : decode cc pc = .ok (.lload j, 2)) (hg : lget lv j = some (.long x)) (kk : J G k n f (pc + 2) lv (.long x :: st)) : J G k n f pc lv (st) := by
  obtain ⟨p, l', e, R, s, m, args, below, meth, c, E', A, Z⟩ := G
  obtain ⟨rfl, rfl, rfl, hx, hb, hml, hown, hlocks, hts, hK, hA, hN, hR, hSS⟩ := hG
  intro L H locs ls hdm hP hD hS hl
  exact lv_lload hx hb hd (lget_at hl hg) (kk L H locs ls hdm hP hD hS hl)
theorem j_lstore_n (hG : jX G l E cc own nL rm) {i : Fin 4} {j : Nat} {x : Int64} {lv' : List (Nat × Value)} (hd : decode cc pc = .ok (.lstore_n i, 1)) (hi : (i : Nat) = j) (hn : j + 1 < nL) (hp : lput lv j 2 (.long x) = lv') (kk : J G k n f (pc + 1) lv' st) : J G k n f pc lv (.long x :: st) := by
  obtain ⟨p, l', e, R, s, m, args, below, meth, c, E', A, Z⟩ := G
  obtain ⟨rfl, rfl, rfl, hx, hb, hml, hown, hlocks, hts, hK, hA, hN, hR, hSS⟩ := hG
  intro L H locs ls hdm hP hD hS hl
  refine lv_lstore_n hx hb hd hi hl (by rw [hml]; exact hn) rfl (fun ls' hl' => kk L H locs ls' hdm hP hD hS (lput_has hp (by decide) ?_))
  rw [← fil_2]
  exact hl'
theorem j_lstore (hG : jX G l E cc own nL rm) {j : Nat} {x : Int64} {lv' : List (Nat × Value)} (hd : decode cc pc = .ok (.lstore j, 2)) (hn : j + 1 < nL) (hp : lput lv j 2 (.long x) = lv') (kk : J G k n f (pc + 2) lv' st) : J G k n f pc lv (.long x :: st) := by
  obtain ⟨p, l', e, R, s, m, args, below, meth, c, E', A, Z⟩ := G
  obtain ⟨rfl, rfl, rfl, hx, hb, hml, hown, hlocks, hts, hK, hA, hN, hR, hSS⟩ := hG
  intro L H locs ls hdm hP hD hS hl
  refine lv_lstore hx hb hd hl (by rw [hml]; exact hn) rfl (fun ls' hl' => kk L H locs ls' hdm hP hD hS (lput_has hp (by decide) ?_))
  rw [← fil_2]
  exact hl'
theorem j_aload_n (hG : jX G l E cc own nL rm) {i : Fin 4} {j : Nat} {x : Nat} (hd : decode cc pc = .ok (.aload_n i, 1)) (hi : (i : Nat) = j) (hg : lget lv j = some (.ref x)) (kk : J G k n f (pc + 1) lv (.ref x :: st)) : J G k n f pc lv (st) := by
  obtain ⟨p, l', e, R, s, m, args, below, meth, c, E', A, Z⟩ := G
  obtain ⟨rfl, rfl, rfl, hx, hb, hml, hown, hlocks, hts, hK, hA, hN, hR, hSS⟩ := hG
  intro L H locs ls hdm hP hD hS hl
  exact lv_aload_n hx hb hd hi (lget_at hl hg) (kk L H locs ls hdm hP hD hS hl)
theorem j_aload (hG : jX G l E cc own nL rm) {j : Nat} {x : Nat} (hd : decode cc pc = .ok (.aload j, 2)) (hg : lget lv j = some (.ref x)) (kk : J G k n f (pc + 2) lv (.ref x :: st)) : J G k n f pc lv (st) := by
  obtain ⟨p, l', e, R, s, m, args, below, meth, c, E', A, Z⟩ := G
  obtain ⟨rfl, rfl, rfl, hx, hb, hml, hown, hlocks, hts, hK, hA, hN, hR, hSS⟩ := hG
  intro L H locs ls hdm hP hD hS hl
  exact lv_aload hx hb hd (lget_at hl hg) (kk L H locs ls hdm hP hD hS hl)
theorem j_astore_n (hG : jX G l E cc own nL rm) {i : Fin 4} {j : Nat} {x : Nat} {lv' : List (Nat × Value)} (hd : decode cc pc = .ok (.astore_n i, 1)) (hi : (i : Nat) = j) (hn : j < nL) (hp : lput lv j 1 (.ref x) = lv') (kk : J G k n f (pc + 1) lv' st) : J G k n f pc lv (.ref x :: st) := by
  obtain ⟨p, l', e, R, s, m, args, below, meth, c, E', A, Z⟩ := G
  obtain ⟨rfl, rfl, rfl, hx, hb, hml, hown, hlocks, hts, hK, hA, hN, hR, hSS⟩ := hG
  intro L H locs ls hdm hP hD hS hl
  refine lv_astore_n hx hb hd hi hl (by rw [hml]; exact hn) rfl (fun ls' hl' => kk L H locs ls' hdm hP hD hS (lput_has hp (by decide) ?_))
  rw [← fil_1]
  exact hl'
theorem j_astore (hG : jX G l E cc own nL rm) {j : Nat} {x : Nat} {lv' : List (Nat × Value)} (hd : decode cc pc = .ok (.astore j, 2)) (hn : j < nL) (hp : lput lv j 1 (.ref x) = lv') (kk : J G k n f (pc + 2) lv' st) : J G k n f pc lv (.ref x :: st) := by
  obtain ⟨p, l', e, R, s, m, args, below, meth, c, E', A, Z⟩ := G
  obtain ⟨rfl, rfl, rfl, hx, hb, hml, hown, hlocks, hts, hK, hA, hN, hR, hSS⟩ := hG
  intro L H locs ls hdm hP hD hS hl
  refine lv_astore hx hb hd hl (by rw [hml]; exact hn) rfl (fun ls' hl' => kk L H locs ls' hdm hP hD hS (lput_has hp (by decide) ?_))
  rw [← fil_1]
  exact hl'
theorem j_iinc (hG : jX G l E cc own nL rm) {j : Nat} {d a : Int} {lv' : List (Nat × Value)} (hd : decode cc pc = .ok (.iinc j d, 3)) (hg : lget lv j = some (.int (iZ a))) (hn : j < nL) (hp : lput lv j 1 (.int (iZ (a + d))) = lv') (kk : J G k n f (pc + 3) lv' st) : J G k n f pc lv st := by
  obtain ⟨p, l', e, R, s, m, args, below, meth, c, E', A, Z⟩ := G
  obtain ⟨rfl, rfl, rfl, hx, hb, hml, hown, hlocks, hts, hK, hA, hN, hR, hSS⟩ := hG
  intro L H locs ls hdm hP hD hS hl
  have hg2 := lget_at hl hg
  have hmem : ∃ q : Nat, lv[q]? = some (j, Value.int (iZ a)) := by
    unfold lget at hg
    cases hf : lv.find? (fun q => q.1 == j) with
    | none => rw [hf] at hg; cases hg
    | some q =>
      rw [hf] at hg
      have h1 : q.2 = Value.int (iZ a) := Option.some.inj hg
      have h2 : q.1 = j := by simpa using List.find?_some hf
      obtain ⟨i, hi⟩ := List.getElem?_of_mem (List.mem_of_find?_eq_some hf)
      exact ⟨i, by rw [hi, ← h1, ← h2]⟩
  obtain ⟨q, hq⟩ := hmem
  refine lv_iinc (v := iZ (a + d)) hx hb hd hl hq (iZ_add a d) (by rw [hml]; exact hn) rfl (fun ls' hl' => kk L H locs ls' hdm hP hD hS (lput_has hp (by decide) ?_))
  rw [← fil_1]
  exact hl'
theorem j_iadd (hG : jX G l E cc own nL rm) {a b : Int} (hd : decode cc pc = .ok (.iadd, 1)) (kk : J G k n f (pc + 1) lv (.int (iZ (a + b)) :: st)) : J G k n f pc lv (.int (iZ b) :: .int (iZ a) :: st) := by
  obtain ⟨p, l', e, R, s, m, args, below, meth, c, E', A, Z⟩ := G
  obtain ⟨rfl, rfl, rfl, hx, hb, hml, hown, hlocks, hts, hK, hA, hN, hR, hSS⟩ := hG
  intro L H locs ls hdm hP hD hS hl
  refine lv_iadd hx hb hd ?_
  rw [iZ_add]
  exact kk L H locs ls hdm hP hD hS hl
theorem j_ladd (hG : jX G l E cc own nL rm) {a b : Int} (hd : decode cc pc = .ok (.ladd, 1)) (kk : J G k n f (pc + 1) lv (.long (lZ (a + b)) :: st)) : J G k n f pc lv (.long (lZ b) :: .long (lZ a) :: st) := by
  obtain ⟨p, l', e, R, s, m, args, below, meth, c, E', A, Z⟩ := G
  obtain ⟨rfl, rfl, rfl, hx, hb, hml, hown, hlocks, hts, hK, hA, hN, hR, hSS⟩ := hG
  intro L H locs ls hdm hP hD hS hl
  refine lv_ladd hx hb hd ?_
  rw [lZ_add]
  exact kk L H locs ls hdm hP hD hS hl
theorem j_isub (hG : jX G l E cc own nL rm) {a b : Int} (hd : decode cc pc = .ok (.isub, 1)) (kk : J G k n f (pc + 1) lv (.int (iZ (a - b)) :: st)) : J G k n f pc lv (.int (iZ b) :: .int (iZ a) :: st) := by
  obtain ⟨p, l', e, R, s, m, args, below, meth, c, E', A, Z⟩ := G
  obtain ⟨rfl, rfl, rfl, hx, hb, hml, hown, hlocks, hts, hK, hA, hN, hR, hSS⟩ := hG
  intro L H locs ls hdm hP hD hS hl
  refine lv_isub hx hb hd ?_
  rw [iZ_sub]
  exact kk L H locs ls hdm hP hD hS hl
theorem j_lsub (hG : jX G l E cc own nL rm) {a b : Int} (hd : decode cc pc = .ok (.lsub, 1)) (kk : J G k n f (pc + 1) lv (.long (lZ (a - b)) :: st)) : J G k n f pc lv (.long (lZ b) :: .long (lZ a) :: st) := by
  obtain ⟨p, l', e, R, s, m, args, below, meth, c, E', A, Z⟩ := G
  obtain ⟨rfl, rfl, rfl, hx, hb, hml, hown, hlocks, hts, hK, hA, hN, hR, hSS⟩ := hG
  intro L H locs ls hdm hP hD hS hl
  refine lv_lsub hx hb hd ?_
  rw [lZ_sub]
  exact kk L H locs ls hdm hP hD hS hl
theorem j_imul (hG : jX G l E cc own nL rm) {a b : Int} (hd : decode cc pc = .ok (.imul, 1)) (kk : J G k n f (pc + 1) lv (.int (iZ (a * b)) :: st)) : J G k n f pc lv (.int (iZ b) :: .int (iZ a) :: st) := by
  obtain ⟨p, l', e, R, s, m, args, below, meth, c, E', A, Z⟩ := G
  obtain ⟨rfl, rfl, rfl, hx, hb, hml, hown, hlocks, hts, hK, hA, hN, hR, hSS⟩ := hG
  intro L H locs ls hdm hP hD hS hl
  refine lv_imul hx hb hd ?_
  rw [iZ_mul]
  exact kk L H locs ls hdm hP hD hS hl
theorem j_lmul (hG : jX G l E cc own nL rm) {a b : Int} (hd : decode cc pc = .ok (.lmul, 1)) (kk : J G k n f (pc + 1) lv (.long (lZ (a * b)) :: st)) : J G k n f pc lv (.long (lZ b) :: .long (lZ a) :: st) := by
  obtain ⟨p, l', e, R, s, m, args, below, meth, c, E', A, Z⟩ := G
  obtain ⟨rfl, rfl, rfl, hx, hb, hml, hown, hlocks, hts, hK, hA, hN, hR, hSS⟩ := hG
  intro L H locs ls hdm hP hD hS hl
  refine lv_lmul hx hb hd ?_
  rw [lZ_mul]
  exact kk L H locs ls hdm hP hD hS hl
theorem j_ineg (hG : jX G l E cc own nL rm) {a : Int} (hd : decode cc pc = .ok (.ineg, 1)) (kk : J G k n f (pc + 1) lv (.int (iZ (-a)) :: st)) : J G k n f pc lv (.int (iZ a) :: st) := by
  obtain ⟨p, l', e, R, s, m, args, below, meth, c, E', A, Z⟩ := G
  obtain ⟨rfl, rfl, rfl, hx, hb, hml, hown, hlocks, hts, hK, hA, hN, hR, hSS⟩ := hG
  intro L H locs ls hdm hP hD hS hl
  refine lv_ineg hx hb hd ?_
  rw [iZ_neg]
  exact kk L H locs ls hdm hP hD hS hl
theorem j_irem (hG : jX G l E cc own nL rm) {a b : Int} (hd : decode cc pc = .ok (.irem, 1)) (ha : 0 ≤ a ∧ a < 2147483648) (hb0 : 0 < b ∧ b < 2147483648) (kk : J G k n f (pc + 1) lv (.int (iZ (a % b)) :: st)) : J G k n f pc lv (.int (iZ b) :: .int (iZ a) :: st) := by
  obtain ⟨p, l', e, R, s, m, args, below, meth, c, E', A, Z⟩ := G
  obtain ⟨rfl, rfl, rfl, hx, hb, hml, hown, hlocks, hts, hK, hA, hN, hR, hSS⟩ := hG
  intro L H locs ls hdm hP hD hS hl
  refine lv_irem hx hb hd (fun h => ?_) ?_
  · rw [iZ_0, iZ_eq (by omega) (by omega)] at h
    omega
  · rw [iZ_rem ha hb0]
    exact kk L H locs ls hdm hP hD hS hl
theorem j_iand (hG : jX G l E cc own nL rm) {x y : Int32} (hd : decode cc pc = .ok (.iand, 1)) (kk : J G k n f (pc + 1) lv (.int (x &&& y) :: st)) : J G k n f pc lv (.int y :: .int x :: st) := by
  obtain ⟨p, l', e, R, s, m, args, below, meth, c, E', A, Z⟩ := G
  obtain ⟨rfl, rfl, rfl, hx, hb, hml, hown, hlocks, hts, hK, hA, hN, hR, hSS⟩ := hG
  intro L H locs ls hdm hP hD hS hl
  exact lv_iand hx hb hd (kk L H locs ls hdm hP hD hS hl)
theorem j_ior (hG : jX G l E cc own nL rm) {x y : Int32} (hd : decode cc pc = .ok (.ior, 1)) (kk : J G k n f (pc + 1) lv (.int (x ||| y) :: st)) : J G k n f pc lv (.int y :: .int x :: st) := by
  obtain ⟨p, l', e, R, s, m, args, below, meth, c, E', A, Z⟩ := G
  obtain ⟨rfl, rfl, rfl, hx, hb, hml, hown, hlocks, hts, hK, hA, hN, hR, hSS⟩ := hG
  intro L H locs ls hdm hP hD hS hl
  exact lv_ior hx hb hd (kk L H locs ls hdm hP hD hS hl)
theorem j_ixor (hG : jX G l E cc own nL rm) {x y : Int32} (hd : decode cc pc = .ok (.ixor, 1)) (kk : J G k n f (pc + 1) lv (.int (x ^^^ y) :: st)) : J G k n f pc lv (.int y :: .int x :: st) := by
  obtain ⟨p, l', e, R, s, m, args, below, meth, c, E', A, Z⟩ := G
  obtain ⟨rfl, rfl, rfl, hx, hb, hml, hown, hlocks, hts, hK, hA, hN, hR, hSS⟩ := hG
  intro L H locs ls hdm hP hD hS hl
  exact lv_ixor hx hb hd (kk L H locs ls hdm hP hD hS hl)
theorem j_land (hG : jX G l E cc own nL rm) {x y : Int64} (hd : decode cc pc = .ok (.land, 1)) (kk : J G k n f (pc + 1) lv (.long (x &&& y) :: st)) : J G k n f pc lv (.long y :: .long x :: st) := by
  obtain ⟨p, l', e, R, s, m, args, below, meth, c, E', A, Z⟩ := G
  obtain ⟨rfl, rfl, rfl, hx, hb, hml, hown, hlocks, hts, hK, hA, hN, hR, hSS⟩ := hG
  intro L H locs ls hdm hP hD hS hl
  exact lv_land hx hb hd (kk L H locs ls hdm hP hD hS hl)
theorem j_lor (hG : jX G l E cc own nL rm) {x y : Int64} (hd : decode cc pc = .ok (.lor, 1)) (kk : J G k n f (pc + 1) lv (.long (x ||| y) :: st)) : J G k n f pc lv (.long y :: .long x :: st) := by
  obtain ⟨p, l', e, R, s, m, args, below, meth, c, E', A, Z⟩ := G
  obtain ⟨rfl, rfl, rfl, hx, hb, hml, hown, hlocks, hts, hK, hA, hN, hR, hSS⟩ := hG
  intro L H locs ls hdm hP hD hS hl
  exact lv_lor hx hb hd (kk L H locs ls hdm hP hD hS hl)
theorem j_ishl (hG : jX G l E cc own nL rm) {x y : Int32} (hd : decode cc pc = .ok (.ishl, 1)) (kk : J G k n f (pc + 1) lv (.int (x <<< (y &&& 31)) :: st)) : J G k n f pc lv (.int y :: .int x :: st) := by
  obtain ⟨p, l', e, R, s, m, args, below, meth, c, E', A, Z⟩ := G
  obtain ⟨rfl, rfl, rfl, hx, hb, hml, hown, hlocks, hts, hK, hA, hN, hR, hSS⟩ := hG
  intro L H locs ls hdm hP hD hS hl
  exact lv_ishl hx hb hd (kk L H locs ls hdm hP hD hS hl)
theorem j_ishr (hG : jX G l E cc own nL rm) {x y : Int32} (hd : decode cc pc = .ok (.ishr, 1)) (kk : J G k n f (pc + 1) lv (.int (x >>> (y &&& 31)) :: st)) : J G k n f pc lv (.int y :: .int x :: st) := by
  obtain ⟨p, l', e, R, s, m, args, below, meth, c, E', A, Z⟩ := G
  obtain ⟨rfl, rfl, rfl, hx, hb, hml, hown, hlocks, hts, hK, hA, hN, hR, hSS⟩ := hG
  intro L H locs ls hdm hP hD hS hl
  exact lv_ishr hx hb hd (kk L H locs ls hdm hP hD hS hl)
theorem j_iushr (hG : jX G l E cc own nL rm) {x y : Int32} (hd : decode cc pc = .ok (.iushr, 1)) (kk : J G k n f (pc + 1) lv (.int ((x.toUInt32 >>> (y.toUInt32 &&& Int32.toUInt32 31)).toInt32) :: st)) : J G k n f pc lv (.int y :: .int x :: st) := by
  obtain ⟨p, l', e, R, s, m, args, below, meth, c, E', A, Z⟩ := G
  obtain ⟨rfl, rfl, rfl, hx, hb, hml, hown, hlocks, hts, hK, hA, hN, hR, hSS⟩ := hG
  intro L H locs ls hdm hP hD hS hl
  exact lv_iushr hx hb hd rfl (kk L H locs ls hdm hP hD hS hl)
theorem j_lushr (hG : jX G l E cc own nL rm) {x : Int64} {y : Int32} (hd : decode cc pc = .ok (.lushr, 1)) (kk : J G k n f (pc + 1) lv (.long ((x.toUInt64 >>> (y.toInt64.toUInt64 &&& Int64.toUInt64 63)).toInt64) :: st)) : J G k n f pc lv (.int y :: .long x :: st) := by
  obtain ⟨p, l', e, R, s, m, args, below, meth, c, E', A, Z⟩ := G
  obtain ⟨rfl, rfl, rfl, hx, hb, hml, hown, hlocks, hts, hK, hA, hN, hR, hSS⟩ := hG
  intro L H locs ls hdm hP hD hS hl
  exact lv_lushr hx hb hd rfl (kk L H locs ls hdm hP hD hS hl)
theorem j_lshl (hG : jX G l E cc own nL rm) {x : Int64} {y : Int32} (hd : decode cc pc = .ok (.lshl, 1)) (kk : J G k n f (pc + 1) lv (.long (x <<< (y.toInt64 &&& 63)) :: st)) : J G k n f pc lv (.int y :: .long x :: st) := by
  obtain ⟨p, l', e, R, s, m, args, below, meth, c, E', A, Z⟩ := G
  obtain ⟨rfl, rfl, rfl, hx, hb, hml, hown, hlocks, hts, hK, hA, hN, hR, hSS⟩ := hG
  intro L H locs ls hdm hP hD hS hl
  exact lv_lshl hx hb hd rfl (kk L H locs ls hdm hP hD hS hl)
theorem j_i2l (hG : jX G l E cc own nL rm) {a : Int} (hd : decode cc pc = .ok (.i2l, 1)) (ha : -2147483648 ≤ a ∧ a < 2147483648) (kk : J G k n f (pc + 1) lv (.long (lZ a) :: st)) : J G k n f pc lv (.int (iZ a) :: st) := by
  obtain ⟨p, l', e, R, s, m, args, below, meth, c, E', A, Z⟩ := G
  obtain ⟨rfl, rfl, rfl, hx, hb, hml, hown, hlocks, hts, hK, hA, hN, hR, hSS⟩ := hG
  intro L H locs ls hdm hP hD hS hl
  exact lv_i2l hx hb hd (iZ_l ha) (kk L H locs ls hdm hP hD hS hl)
theorem j_l2i (hG : jX G l E cc own nL rm) {a : Int} (hd : decode cc pc = .ok (.l2i, 1)) (kk : J G k n f (pc + 1) lv (.int (iZ a) :: st)) : J G k n f pc lv (.long (lZ a) :: st) := by
  obtain ⟨p, l', e, R, s, m, args, below, meth, c, E', A, Z⟩ := G
  obtain ⟨rfl, rfl, rfl, hx, hb, hml, hown, hlocks, hts, hK, hA, hN, hR, hSS⟩ := hG
  intro L H locs ls hdm hP hD hS hl
  exact lv_l2i hx hb hd (lZ_i a) (kk L H locs ls hdm hP hD hS hl)
theorem j_i2c (hG : jX G l E cc own nL rm) {x y : Int32} (hd : decode cc pc = .ok (.i2c, 1)) (h : (x.toUInt32 % 65536).toInt32 = y) (kk : J G k n f (pc + 1) lv (.int y :: st)) : J G k n f pc lv (.int x :: st) := by
  obtain ⟨p, l', e, R, s, m, args, below, meth, c, E', A, Z⟩ := G
  obtain ⟨rfl, rfl, rfl, hx, hb, hml, hown, hlocks, hts, hK, hA, hN, hR, hSS⟩ := hG
  intro L H locs ls hdm hP hD hS hl
  exact lv_i2c hx hb hd h (kk L H locs ls hdm hP hD hS hl)
theorem j_lcmp (hG : jX G l E cc own nL rm) {a b : Int} (hd : decode cc pc = .ok (.lcmp, 1)) (ha : -9223372036854775808 ≤ a ∧ a < 9223372036854775808) (hb0 : -9223372036854775808 ≤ b ∧ b < 9223372036854775808) (kk : J G k n f (pc + 1) lv (.int (iZ (cI a b)) :: st)) : J G k n f pc lv (.long (lZ b) :: .long (lZ a) :: st) := by
  obtain ⟨p, l', e, R, s, m, args, below, meth, c, E', A, Z⟩ := G
  obtain ⟨rfl, rfl, rfl, hx, hb, hml, hown, hlocks, hts, hK, hA, hN, hR, hSS⟩ := hG
  intro L H locs ls hdm hP hD hS hl
  refine W.lcmp hx hb hd ?_
  rw [lZ_cmp ha hb0]
  exact kk L H locs ls hdm hP hD hS hl
theorem j_dup (hG : jX G l E cc own nL rm) {v : Value} (hd : decode cc pc = .ok (.dup, 1)) (hv : v.category = 1) (kk : J G k n f (pc + 1) lv (v :: v :: st)) : J G k n f pc lv (v :: st) := by
  obtain ⟨p, l', e, R, s, m, args, below, meth, c, E', A, Z⟩ := G
  obtain ⟨rfl, rfl, rfl, hx, hb, hml, hown, hlocks, hts, hK, hA, hN, hR, hSS⟩ := hG
  intro L H locs ls hdm hP hD hS hl
  exact lv_dup hx hb hd hv (kk L H locs ls hdm hP hD hS hl)
theorem j_pop (hG : jX G l E cc own nL rm) {v : Value} (hd : decode cc pc = .ok (.pop, 1)) (hv : v.category = 1) (kk : J G k n f (pc + 1) lv (st)) : J G k n f pc lv (v :: st) := by
  obtain ⟨p, l', e, R, s, m, args, below, meth, c, E', A, Z⟩ := G
  obtain ⟨rfl, rfl, rfl, hx, hb, hml, hown, hlocks, hts, hK, hA, hN, hR, hSS⟩ := hG
  intro L H locs ls hdm hP hD hS hl
  exact lv_pop hx hb hd hv (kk L H locs ls hdm hP hD hS hl)
theorem j_dup_x1 (hG : jX G l E cc own nL rm) {v w : Value} (hd : decode cc pc = .ok (.dup_x1, 1)) (hv : v.category = 1) (hw : w.category = 1) (kk : J G k n f (pc + 1) lv (v :: w :: v :: st)) : J G k n f pc lv (v :: w :: st) := by
  obtain ⟨p, l', e, R, s, m, args, below, meth, c, E', A, Z⟩ := G
  obtain ⟨rfl, rfl, rfl, hx, hb, hml, hown, hlocks, hts, hK, hA, hN, hR, hSS⟩ := hG
  intro L H locs ls hdm hP hD hS hl
  exact lv_dup_x1 hx hb hd hv hw (kk L H locs ls hdm hP hD hS hl)
theorem j_dup2 (hG : jX G l E cc own nL rm) {v w : Value} (hd : decode cc pc = .ok (.dup2, 1)) (hv : v.category = 1) (hw : w.category = 1) (kk : J G k n f (pc + 1) lv (v :: w :: v :: w :: st)) : J G k n f pc lv (v :: w :: st) := by
  obtain ⟨p, l', e, R, s, m, args, below, meth, c, E', A, Z⟩ := G
  obtain ⟨rfl, rfl, rfl, hx, hb, hml, hown, hlocks, hts, hK, hA, hN, hR, hSS⟩ := hG
  intro L H locs ls hdm hP hD hS hl
  exact lv_dup2_11 hx hb hd hv hw (kk L H locs ls hdm hP hD hS hl)
theorem j_icmp_eq (hG : jX G l E cc own nL rm) {a b : Int} {off : Int} {tgt : Nat} (hd : decode cc pc = .ok (.if_icmp .eq off, 3)) (ht : (pc : Int) + off = (tgt : Int)) (ha : -2147483648 ≤ a ∧ a < 2147483648) (hb0 : -2147483648 ≤ b ∧ b < 2147483648) (kt : a = b → J G k n f tgt lv st) (kf : a ≠ b → J G k n f (pc + 3) lv st) : J G k n f pc lv (.int (iZ b) :: .int (iZ a) :: st) := by
  obtain ⟨p, l', e, R, s, m, args, below, meth, c, E', A, Z⟩ := G
  obtain ⟨rfl, rfl, rfl, hx, hb, hml, hown, hlocks, hts, hK, hA, hN, hR, hSS⟩ := hG
  intro L H locs ls hdm hP hD hS hl
  refine lv_icmp_eq hx hb hd ht (fun h => ?_) (fun h => ?_)
  · rw [iZ_eq ha hb0] at h
    exact kt (by omega) L H locs ls hdm hP hD hS hl
  · rw [iZ_eq ha hb0] at h
    exact kf (by omega) L H locs ls hdm hP hD hS hl
theorem j_if_eq (hG : jX G l E cc own nL rm) {a : Int} {off : Int} {tgt : Nat} (hd : decode cc pc = .ok (.ifCond .eq off, 3)) (ht : (pc : Int) + off = (tgt : Int)) (ha : -2147483648 ≤ a ∧ a < 2147483648) (kt : a = 0 → J G k n f tgt lv st) (kf : a ≠ 0 → J G k n f (pc + 3) lv st) : J G k n f pc lv (.int (iZ a) :: st) := by
  obtain ⟨p, l', e, R, s, m, args, below, meth, c, E', A, Z⟩ := G
  obtain ⟨rfl, rfl, rfl, hx, hb, hml, hown, hlocks, hts, hK, hA, hN, hR, hSS⟩ := hG
  intro L H locs ls hdm hP hD hS hl
  refine lv_if_eq hx hb hd ht (fun h => ?_) (fun h => ?_)
  · rw [iZ_0, iZ_eq ha (by decide)] at h
    exact kt (by omega) L H locs ls hdm hP hD hS hl
  · rw [iZ_0, iZ_eq ha (by decide)] at h
    exact kf (by omega) L H locs ls hdm hP hD hS hl
theorem j_icmp_ne (hG : jX G l E cc own nL rm) {a b : Int} {off : Int} {tgt : Nat} (hd : decode cc pc = .ok (.if_icmp .ne off, 3)) (ht : (pc : Int) + off = (tgt : Int)) (ha : -2147483648 ≤ a ∧ a < 2147483648) (hb0 : -2147483648 ≤ b ∧ b < 2147483648) (kt : a ≠ b → J G k n f tgt lv st) (kf : a = b → J G k n f (pc + 3) lv st) : J G k n f pc lv (.int (iZ b) :: .int (iZ a) :: st) := by
  obtain ⟨p, l', e, R, s, m, args, below, meth, c, E', A, Z⟩ := G
  obtain ⟨rfl, rfl, rfl, hx, hb, hml, hown, hlocks, hts, hK, hA, hN, hR, hSS⟩ := hG
  intro L H locs ls hdm hP hD hS hl
  refine lv_icmp_ne hx hb hd ht (fun h => ?_) (fun h => ?_)
  · rw [iZ_eq ha hb0] at h
    exact kt (by omega) L H locs ls hdm hP hD hS hl
  · rw [iZ_eq ha hb0] at h
    exact kf (by omega) L H locs ls hdm hP hD hS hl
theorem j_if_ne (hG : jX G l E cc own nL rm) {a : Int} {off : Int} {tgt : Nat} (hd : decode cc pc = .ok (.ifCond .ne off, 3)) (ht : (pc : Int) + off = (tgt : Int)) (ha : -2147483648 ≤ a ∧ a < 2147483648) (kt : a ≠ 0 → J G k n f tgt lv st) (kf : a = 0 → J G k n f (pc + 3) lv st) : J G k n f pc lv (.int (iZ a) :: st) := by
  obtain ⟨p, l', e, R, s, m, args, below, meth, c, E', A, Z⟩ := G
  obtain ⟨rfl, rfl, rfl, hx, hb, hml, hown, hlocks, hts, hK, hA, hN, hR, hSS⟩ := hG
  intro L H locs ls hdm hP hD hS hl
  refine lv_if_ne hx hb hd ht (fun h => ?_) (fun h => ?_)
  · rw [iZ_0, iZ_eq ha (by decide)] at h
    exact kt (by omega) L H locs ls hdm hP hD hS hl
  · rw [iZ_0, iZ_eq ha (by decide)] at h
    exact kf (by omega) L H locs ls hdm hP hD hS hl
theorem j_icmp_lt (hG : jX G l E cc own nL rm) {a b : Int} {off : Int} {tgt : Nat} (hd : decode cc pc = .ok (.if_icmp .lt off, 3)) (ht : (pc : Int) + off = (tgt : Int)) (ha : -2147483648 ≤ a ∧ a < 2147483648) (hb0 : -2147483648 ≤ b ∧ b < 2147483648) (kt : a < b → J G k n f tgt lv st) (kf : b ≤ a → J G k n f (pc + 3) lv st) : J G k n f pc lv (.int (iZ b) :: .int (iZ a) :: st) := by
  obtain ⟨p, l', e, R, s, m, args, below, meth, c, E', A, Z⟩ := G
  obtain ⟨rfl, rfl, rfl, hx, hb, hml, hown, hlocks, hts, hK, hA, hN, hR, hSS⟩ := hG
  intro L H locs ls hdm hP hD hS hl
  refine lv_icmp_lt hx hb hd ht (fun h => ?_) (fun h => ?_)
  · rw [iZ_lt ha hb0] at h
    exact kt (by omega) L H locs ls hdm hP hD hS hl
  · rw [iZ_lt ha hb0] at h
    exact kf (by omega) L H locs ls hdm hP hD hS hl
theorem j_if_lt (hG : jX G l E cc own nL rm) {a : Int} {off : Int} {tgt : Nat} (hd : decode cc pc = .ok (.ifCond .lt off, 3)) (ht : (pc : Int) + off = (tgt : Int)) (ha : -2147483648 ≤ a ∧ a < 2147483648) (kt : a < 0 → J G k n f tgt lv st) (kf : 0 ≤ a → J G k n f (pc + 3) lv st) : J G k n f pc lv (.int (iZ a) :: st) := by
  obtain ⟨p, l', e, R, s, m, args, below, meth, c, E', A, Z⟩ := G
  obtain ⟨rfl, rfl, rfl, hx, hb, hml, hown, hlocks, hts, hK, hA, hN, hR, hSS⟩ := hG
  intro L H locs ls hdm hP hD hS hl
  refine lv_if_lt hx hb hd ht (fun h => ?_) (fun h => ?_)
  · rw [iZ_0, iZ_lt ha (by decide)] at h
    exact kt (by omega) L H locs ls hdm hP hD hS hl
  · rw [iZ_0, iZ_lt ha (by decide)] at h
    exact kf (by omega) L H locs ls hdm hP hD hS hl
theorem j_icmp_ge (hG : jX G l E cc own nL rm) {a b : Int} {off : Int} {tgt : Nat} (hd : decode cc pc = .ok (.if_icmp .ge off, 3)) (ht : (pc : Int) + off = (tgt : Int)) (ha : -2147483648 ≤ a ∧ a < 2147483648) (hb0 : -2147483648 ≤ b ∧ b < 2147483648) (kt : b ≤ a → J G k n f tgt lv st) (kf : a < b → J G k n f (pc + 3) lv st) : J G k n f pc lv (.int (iZ b) :: .int (iZ a) :: st) := by
  obtain ⟨p, l', e, R, s, m, args, below, meth, c, E', A, Z⟩ := G
  obtain ⟨rfl, rfl, rfl, hx, hb, hml, hown, hlocks, hts, hK, hA, hN, hR, hSS⟩ := hG
  intro L H locs ls hdm hP hD hS hl
  refine lv_icmp_ge hx hb hd ht (fun h => ?_) (fun h => ?_)
  · rw [iZ_le hb0 ha] at h
    exact kt (by omega) L H locs ls hdm hP hD hS hl
  · rw [iZ_le hb0 ha] at h
    exact kf (by omega) L H locs ls hdm hP hD hS hl
theorem j_if_ge (hG : jX G l E cc own nL rm) {a : Int} {off : Int} {tgt : Nat} (hd : decode cc pc = .ok (.ifCond .ge off, 3)) (ht : (pc : Int) + off = (tgt : Int)) (ha : -2147483648 ≤ a ∧ a < 2147483648) (kt : 0 ≤ a → J G k n f tgt lv st) (kf : a < 0 → J G k n f (pc + 3) lv st) : J G k n f pc lv (.int (iZ a) :: st) := by
  obtain ⟨p, l', e, R, s, m, args, below, meth, c, E', A, Z⟩ := G
  obtain ⟨rfl, rfl, rfl, hx, hb, hml, hown, hlocks, hts, hK, hA, hN, hR, hSS⟩ := hG
  intro L H locs ls hdm hP hD hS hl
  refine lv_if_ge hx hb hd ht (fun h => ?_) (fun h => ?_)
  · rw [iZ_0, iZ_le (by decide) ha] at h
    exact kt (by omega) L H locs ls hdm hP hD hS hl
  · rw [iZ_0, iZ_le (by decide) ha] at h
    exact kf (by omega) L H locs ls hdm hP hD hS hl
theorem j_icmp_gt (hG : jX G l E cc own nL rm) {a b : Int} {off : Int} {tgt : Nat} (hd : decode cc pc = .ok (.if_icmp .gt off, 3)) (ht : (pc : Int) + off = (tgt : Int)) (ha : -2147483648 ≤ a ∧ a < 2147483648) (hb0 : -2147483648 ≤ b ∧ b < 2147483648) (kt : b < a → J G k n f tgt lv st) (kf : a ≤ b → J G k n f (pc + 3) lv st) : J G k n f pc lv (.int (iZ b) :: .int (iZ a) :: st) := by
  obtain ⟨p, l', e, R, s, m, args, below, meth, c, E', A, Z⟩ := G
  obtain ⟨rfl, rfl, rfl, hx, hb, hml, hown, hlocks, hts, hK, hA, hN, hR, hSS⟩ := hG
  intro L H locs ls hdm hP hD hS hl
  refine lv_icmp_gt hx hb hd ht (fun h => ?_) (fun h => ?_)
  · rw [iZ_lt hb0 ha] at h
    exact kt (by omega) L H locs ls hdm hP hD hS hl
  · rw [iZ_lt hb0 ha] at h
    exact kf (by omega) L H locs ls hdm hP hD hS hl
theorem j_if_gt (hG : jX G l E cc own nL rm) {a : Int} {off : Int} {tgt : Nat} (hd : decode cc pc = .ok (.ifCond .gt off, 3)) (ht : (pc : Int) + off = (tgt : Int)) (ha : -2147483648 ≤ a ∧ a < 2147483648) (kt : 0 < a → J G k n f tgt lv st) (kf : a ≤ 0 → J G k n f (pc + 3) lv st) : J G k n f pc lv (.int (iZ a) :: st) := by
  obtain ⟨p, l', e, R, s, m, args, below, meth, c, E', A, Z⟩ := G
  obtain ⟨rfl, rfl, rfl, hx, hb, hml, hown, hlocks, hts, hK, hA, hN, hR, hSS⟩ := hG
  intro L H locs ls hdm hP hD hS hl
  refine lv_if_gt hx hb hd ht (fun h => ?_) (fun h => ?_)
  · rw [iZ_0, iZ_lt (by decide) ha] at h
    exact kt (by omega) L H locs ls hdm hP hD hS hl
  · rw [iZ_0, iZ_lt (by decide) ha] at h
    exact kf (by omega) L H locs ls hdm hP hD hS hl
theorem j_icmp_le (hG : jX G l E cc own nL rm) {a b : Int} {off : Int} {tgt : Nat} (hd : decode cc pc = .ok (.if_icmp .le off, 3)) (ht : (pc : Int) + off = (tgt : Int)) (ha : -2147483648 ≤ a ∧ a < 2147483648) (hb0 : -2147483648 ≤ b ∧ b < 2147483648) (kt : a ≤ b → J G k n f tgt lv st) (kf : b < a → J G k n f (pc + 3) lv st) : J G k n f pc lv (.int (iZ b) :: .int (iZ a) :: st) := by
  obtain ⟨p, l', e, R, s, m, args, below, meth, c, E', A, Z⟩ := G
  obtain ⟨rfl, rfl, rfl, hx, hb, hml, hown, hlocks, hts, hK, hA, hN, hR, hSS⟩ := hG
  intro L H locs ls hdm hP hD hS hl
  refine lv_icmp_le hx hb hd ht (fun h => ?_) (fun h => ?_)
  · rw [iZ_le ha hb0] at h
    exact kt (by omega) L H locs ls hdm hP hD hS hl
  · rw [iZ_le ha hb0] at h
    exact kf (by omega) L H locs ls hdm hP hD hS hl
theorem j_if_le (hG : jX G l E cc own nL rm) {a : Int} {off : Int} {tgt : Nat} (hd : decode cc pc = .ok (.ifCond .le off, 3)) (ht : (pc : Int) + off = (tgt : Int)) (ha : -2147483648 ≤ a ∧ a < 2147483648) (kt : a ≤ 0 → J G k n f tgt lv st) (kf : 0 < a → J G k n f (pc + 3) lv st) : J G k n f pc lv (.int (iZ a) :: st) := by
  obtain ⟨p, l', e, R, s, m, args, below, meth, c, E', A, Z⟩ := G
  obtain ⟨rfl, rfl, rfl, hx, hb, hml, hown, hlocks, hts, hK, hA, hN, hR, hSS⟩ := hG
  intro L H locs ls hdm hP hD hS hl
  refine lv_if_le hx hb hd ht (fun h => ?_) (fun h => ?_)
  · rw [iZ_0, iZ_le ha (by decide)] at h
    exact kt (by omega) L H locs ls hdm hP hD hS hl
  · rw [iZ_0, iZ_le ha (by decide)] at h
    exact kf (by omega) L H locs ls hdm hP hD hS hl
theorem j_goto (hG : jX G l E cc own nL rm) {off : Int} {tgt : Nat} (hd : decode cc pc = .ok (.goto off, 3)) (ht : (pc : Int) + off = (tgt : Int)) (kk : J G k n f tgt lv st) : J G k n f pc lv st := by
  obtain ⟨p, l', e, R, s, m, args, below, meth, c, E', A, Z⟩ := G
  obtain ⟨rfl, rfl, rfl, hx, hb, hml, hown, hlocks, hts, hK, hA, hN, hR, hSS⟩ := hG
  intro L H locs ls hdm hP hD hS hl
  exact lv_goto hx hb hd ht (kk L H locs ls hdm hP hD hS hl)
end JR
