/-! ===== the JDK's own: Math.max, Math.min, System.arraycopy; Object(); switches; new things ===== -/
theorem wM_max : Cond.static Lib.Math.max.name ∈ gw_tbl ∧ Cond.initialized "java/lang/Math" ∈ gw_tbl := ⟨gm 367 (by decide +kernel) (by decide +kernel), gm 69 (by decide +kernel) (by decide +kernel)⟩
set_option maxRecDepth 40000 in
theorem wC_max : Cond.code Lib.Math.max.name Lib.Math.max.code 2 (some .int) ∈ gw_tbl := gm 368 (by decide +kernel) rfl
theorem wM_min : Cond.static Lib.Math.min.name ∈ gw_tbl ∧ Cond.initialized "java/lang/Math" ∈ gw_tbl := ⟨gm 364 (by decide +kernel) (by decide +kernel), gm 69 (by decide +kernel) (by decide +kernel)⟩
set_option maxRecDepth 40000 in
theorem wC_min : Cond.code Lib.Math.min.name Lib.Math.min.code 2 (some .int) ∈ gw_tbl := gm 365 (by decide +kernel) rfl
theorem wAC : Cond.native arraycopyName ∈ gw_tbl ∧ Cond.static arraycopyName ∈ gw_tbl ∧ Cond.initialized "java/lang/System" ∈ gw_tbl := ⟨gm 645 (by decide +kernel) (by decide +kernel), gm 644 (by decide +kernel) (by decide +kernel), gm 75 (by decide +kernel) (by decide +kernel)⟩
theorem wOI : Cond.instanceMethod objectInit ∈ gw_tbl ∧ Cond.code objectInit ⟨#[0xb1]⟩ 1 none ∈ gw_tbl := ⟨gm 82 (by decide +kernel) (by decide +kernel), gm 83 (by decide +kernel) rfl⟩
theorem vX11_1 : Cond.methodLink RX11 1 objectInit ∈ gw_tbl := gm 81 (by decide +kernel) (by decide +kernel)
theorem vX2_3 : Cond.methodLink RX2 3 objectInit ∈ gw_tbl := gm 89 (by decide +kernel) (by decide +kernel)
theorem vX10_3 : Cond.methodLink RX10 3 objectInit ∈ gw_tbl := gm 107 (by decide +kernel) (by decide +kernel)
theorem vX4_3 : Cond.methodLink RX4 3 objectInit ∈ gw_tbl := gm 127 (by decide +kernel) (by decide +kernel)
theorem vX9_3 : Cond.methodLink RX9 3 objectInit ∈ gw_tbl := gm 137 (by decide +kernel) (by decide +kernel)
theorem vX8_3 : Cond.methodLink RX8 3 objectInit ∈ gw_tbl := gm 144 (by decide +kernel) (by decide +kernel)
theorem vX5_3 : Cond.methodLink RX5 3 objectInit ∈ gw_tbl := gm 160 (by decide +kernel) (by decide +kernel)
theorem vX3_3 : Cond.methodLink RX3 3 objectInit ∈ gw_tbl := gm 167 (by decide +kernel) (by decide +kernel)
theorem vX0_3 : Cond.methodLink RX0 3 objectInit ∈ gw_tbl := gm 235 (by decide +kernel) (by decide +kernel)
theorem vX1_3 : Cond.methodLink RX1 3 objectInit ∈ gw_tbl := gm 248 (by decide +kernel) (by decide +kernel)
theorem vX6_3 : Cond.methodLink RX6 3 objectInit ∈ gw_tbl := gm 264 (by decide +kernel) (by decide +kernel)
theorem vX10_19 : Cond.methodLink RX10 19 Lib.Math.min.name ∈ gw_tbl := gm 363 (by decide +kernel) (by decide +kernel)
theorem vX10_25 : Cond.methodLink RX10 25 Lib.Math.max.name ∈ gw_tbl := gm 366 (by decide +kernel) (by decide +kernel)
theorem vX11_131 : Cond.methodLink RX11 131 Lib.Math.min.name ∈ gw_tbl := gm 603 (by decide +kernel) (by decide +kernel)
theorem vX8_41 : Cond.methodLink RX8 41 arraycopyName ∈ gw_tbl := gm 643 (by decide +kernel) (by decide +kernel)
theorem vX3_101 : Cond.methodLink RX3 101 Lib.Math.max.name ∈ gw_tbl := gm 708 (by decide +kernel) (by decide +kernel)
theorem vX8_47 : Cond.methodLink RX8 47 Lib.Math.min.name ∈ gw_tbl := gm 738 (by decide +kernel) (by decide +kernel)
theorem vX6_21 : Cond.methodLink RX6 21 Lib.Math.max.name ∈ gw_tbl := gm 769 (by decide +kernel) (by decide +kernel)
theorem vX0_30 : Cond.methodLink RX0 30 arraycopyName ∈ gw_tbl := gm 778 (by decide +kernel) (by decide +kernel)
theorem vX12_1 : Cond.methodLink RX12 1 objectInit ∈ gw_tbl := gm 886 (by decide +kernel) (by decide +kernel)
section JM
variable {G : JG} {l : Launch} {E : JE} {cc : ByteArray} {own : String} {nL : Nat} {rm : Room} {k n : Nat} {f : Hp} {pc : Nat} {lv : List (Nat × Value)} {st : List Value}
theorem j_max (hG : jX G l E cc own nL rm) {idx : Nat} {a b : Int} (hw : Cond.methodLink own idx Lib.Math.max.name ∈ gw_tbl) (hd : decode cc pc = .ok (.invokestatic idx, 3)) (ha : -2147483648 ≤ a ∧ a < 2147483648) (hb0 : -2147483648 ≤ b ∧ b < 2147483648) (hfr : 1 ≤ rm.frames) (hlo : 21 ≤ rm.locals) (hrs : (st.map fun v => v.category).sum ≤ 8) (hkc : k ≤ rm.cells) (hks : n ≤ rm.slots) (kk : J G k n f (pc + 3) lv (.int (iZ (max a b)) :: st)) : J G k n f pc lv (.int (iZ b) :: .int (iZ a) :: st) := by
  obtain ⟨p, l', e, R, s, m, args, below, meth, c, E', A, Z⟩ := G
  obtain ⟨rfl, rfl, rfl, hx, hb, hml, hown, hlocks, hts, hK, hA, hNw, hRs, hSS⟩ := hG
  intro L H locs ls hdm hP hD hS hl
  refine va_mmax hx hb hl.1.symm hown (hts _ hw) (hts _ wM_max.1) (hts _ wM_max.2) (hts _ wC_max) hfr (by omega) hkc hks hd ?_
  have e : (if iZ a < iZ b then iZ b else iZ a) = iZ (max a b) := by
    by_cases h : iZ a < iZ b
    · rw [if_pos h]
      rw [iZ_lt ha hb0] at h
      congr 1; omega
    · rw [if_neg h]
      rw [iZ_lt ha hb0] at h
      congr 1; omega
  rw [e]
  exact kk L H locs ls hdm hP hD hS hl
theorem j_min (hG : jX G l E cc own nL rm) {idx : Nat} {a b : Int} (hw : Cond.methodLink own idx Lib.Math.min.name ∈ gw_tbl) (hd : decode cc pc = .ok (.invokestatic idx, 3)) (ha : -2147483648 ≤ a ∧ a < 2147483648) (hb0 : -2147483648 ≤ b ∧ b < 2147483648) (hfr : 1 ≤ rm.frames) (hlo : 21 ≤ rm.locals) (hrs : (st.map fun v => v.category).sum ≤ 8) (hkc : k ≤ rm.cells) (hks : n ≤ rm.slots) (kk : J G k n f (pc + 3) lv (.int (iZ (min a b)) :: st)) : J G k n f pc lv (.int (iZ b) :: .int (iZ a) :: st) := by
  obtain ⟨p, l', e, R, s, m, args, below, meth, c, E', A, Z⟩ := G
  obtain ⟨rfl, rfl, rfl, hx, hb, hml, hown, hlocks, hts, hK, hA, hNw, hRs, hSS⟩ := hG
  intro L H locs ls hdm hP hD hS hl
  refine va_mmin hx hb hl.1.symm hown (hts _ hw) (hts _ wM_min.1) (hts _ wM_min.2) (hts _ wC_min) hfr (by omega) hkc hks hd ?_
  have e : (if iZ b < iZ a then iZ b else iZ a) = iZ (min a b) := by
    by_cases h : iZ b < iZ a
    · rw [if_pos h]
      rw [iZ_lt hb0 ha] at h
      congr 1; omega
    · rw [if_neg h]
      rw [iZ_lt hb0 ha] at h
      congr 1; omega
  rw [e]
  exact kk L H locs ls hdm hP hD hS hl
def fcp (g h : Int → Int) (sp dp m : Int) : Int → Int := fun j => if dp ≤ j ∧ j < dp + m then g (sp + (j - dp)) else h j
theorem j_copyl (hG : jX G l E cc own nL rm) {idx a b N M : Nat} {sp dp u : Int} {g h : Int → Int} (hw : Cond.methodLink own idx arraycopyName ∈ gw_tbl) (hd : decode cc pc = .ok (.invokestatic idx, 3)) (ha : f a = aJ (E.2.1 1) N g) (hb0 : f b = aJ (E.2.1 1) M h) (h1 : 0 ≤ sp ∧ 0 ≤ dp ∧ 0 ≤ u) (h2 : sp + u ≤ N) (h3 : dp + u ≤ M) (hN : N < 2147483648) (hM : M < 2147483648) (hfr : 1 ≤ rm.frames) (hlo : (st.map fun v => v.category).sum + (nativeFrameWords "java/lang/System" "arraycopy" 5 + 11) ≤ rm.locals) (kk : ∀ f' : Hp, f' b = aJ (E.2.1 1) M (fcp g h sp dp u) → (∀ q, q ≠ b → f' q = f q) → J G k n f' (pc + 3) lv st) : J G k n f pc lv (.int (iZ u) :: .int (iZ dp) :: .ref b :: .int (iZ sp) :: .ref a :: st) := by
  obtain ⟨p, l', e, R, s, m, args, below, meth, c, E', A, Z⟩ := G
  obtain ⟨rfl, rfl, rfl, hx, hb, hml, hown, hlocks, hts, hK, hA, hNw, hRs, hSS⟩ := hG
  intro L H locs ls hdm hP hD hS hl
  obtain ⟨-, q0, hq0⟩ := jmem hdm ha aJ_ne
  obtain ⟨hbL, q1, hq1⟩ := jmem hdm hb0 aJ_ne
  have c1 := iZ_cl (a := sp) (by omega)
  have c2 := iZ_cl (a := dp) (by omega)
  have c3 := iZ_cl (a := u) (by omega)
  have z0 : ∀ z : Int, 0 ≤ z ∧ z < 2147483648 → ¬ iZ z < 0 := fun z hz h => by
    rw [iZ_0, iZ_lt (by omega) (by omega)] at h
    omega
  refine va_copyl hx hb hl.1.symm hown (hts _ hw) (hts _ wAC.1) (hts _ wAC.2.1) (hts _ wAC.2.2) hK hP hD hS q0 q1 1 1 hq0 hq1 (ty := .long) rfl rfl rfl (z0 _ (by omega)) (z0 _ (by omega)) (z0 _ (by omega)) (by rw [c1, c3]; omega) (by rw [c2, c3]; omega) (fun _ _ => rfl) hfr hlo hd (fun H1 locs1 hP1 hD1 hS1 => ?_)
  have e : va_cpy (fun j : Nat => lZ (g j)) (fun j : Nat => lZ (h j)) (iZ sp).toNatClampNeg (iZ dp).toNatClampNeg (iZ u).toNatClampNeg = fun j : Nat => lZ (fcp g h sp dp u j) := by
    rw [c1, c2, c3]
    funext j
    unfold va_cpy fcp
    by_cases hj : dp.toNat ≤ j ∧ j < dp.toNat + u.toNat
    · rw [if_pos hj, if_pos (by omega)]
      have e9 : ((sp.toNat + (j - dp.toNat) : Nat) : Int) = sp + ((j : Int) - dp) := by omega
      exact congrArg (fun z => lZ (g z)) e9
    · rw [if_neg hj, if_neg (by omega)]
  rw [e] at hP1 hD1
  obtain ⟨e1, e2, e3⟩ := jset (x := aJ (E'.2.1 1) M (fcp g h sp dp u)) hdm hbL (by rw [hb0]; exact hq1) hD aJ_ne hP1 hD1
  exact kk _ (va_up_self _ _ _) (fun b hb => va_up_ne _ _ hb) L H1 locs1 ls e1 e2 e3 hS1 hl
theorem j_objInit (hG : jX G l E cc own nL rm) {idx a : Nat} (hw : Cond.methodLink own idx objectInit ∈ gw_tbl) (hd : decode cc pc = .ok (.invokespecial idx, 3)) (hfr : 1 ≤ rm.frames) (hlo : (st.map fun v => v.category).sum + 12 ≤ rm.locals) (kk : J G k n f (pc + 3) lv st) : J G k n f pc lv (.ref a :: st) := by
  obtain ⟨p, l', e, R, s, m, args, below, meth, c, E', A, Z⟩ := G
  obtain ⟨rfl, rfl, rfl, hx, hb, hml, hown, hlocks, hts, hK, hA, hNw, hRs, hSS⟩ := hG
  intro L H locs ls hdm hP hD hS hl
  exact W.objInit hx hb hown (hts _ hw) (hts _ wOI.1) (hts _ wOI.2) rfl hl.1 rfl hd hfr (by show 2 * 0 + _ + 12 ≤ _; omega) (kk L H locs ls hdm hP hD hS hl)
theorem j_ldcw (hG : jX G l E cc own nL rm) {i : Nat} {x : Int32} {z : Int} (hd : decode cc pc = .ok (.ldc_w i, 3)) (hw : Cond.constant own i x ∈ gw_tbl) (hz : x = iZ z) (kk : J G k n f (pc + 3) lv (.int (iZ z) :: st)) : J G k n f pc lv st := by
  obtain ⟨p, l', e, R, s, m, args, below, meth, c, E', A, Z⟩ := G
  obtain ⟨rfl, rfl, rfl, hx, hb, hml, hown, hlocks, hts, hK, hA, hNw, hRs, hSS⟩ := hG
  intro L H locs ls hdm hP hD hS hl
  subst hz
  exact lv_ldcw hx hb hown (hts _ hw) hd (kk L H locs ls hdm hP hD hS hl)
theorem j_ldcS (hG : jX G l E cc RX4 nL rm) {i idx : Nat} {tx : String} (hd : decode cc pc = .ok (.ldc idx, 2)) (hi : strQ[i]? = some (idx, tx)) (kk : J G k n f (pc + 2) lv (.ref (E.2.2.1 i) :: st)) : J G k n f pc lv st := by
  obtain ⟨p, l', e, R, s, m, args, below, meth, c, E', A, Z⟩ := G
  obtain ⟨rfl, rfl, rfl, hx, hb, hml, hown, hlocks, hts, hK, hA, hNw, hRs, hSS⟩ := hG
  intro L H locs ls hdm hP hD hS hl
  exact va_ldcS hx hb hown (hRs i _ hi) hd (kk L H locs ls hdm hP hD hS hl)
theorem j_tswIn (hG : jX G l E cc own nL rm) {a : Int} {dflt lo hi off : Int} {offs : Array Int} {len tgt : Nat} (z : Int) (hd : decode cc pc = .ok (.tableswitch dflt lo hi offs, len)) (hz : a = z) (h1 : lo ≤ z ∧ z ≤ hi) (hr : -2147483648 ≤ z ∧ z < 2147483648) (ho : offs[(z - lo).toNat]? = some off) (ht : (pc : Int) + off = (tgt : Int)) (kk : J G k n f tgt lv st) : J G k n f pc lv (.int (iZ a) :: st) := by
  obtain ⟨p, l', e, R, s, m, args, below, meth, c, E', A, Z⟩ := G
  obtain ⟨rfl, rfl, rfl, hx, hb, hml, hown, hlocks, hts, hK, hA, hNw, hRs, hSS⟩ := hG
  intro L H locs ls hdm hP hD hS hl
  subst hz
  have e := iZ_toInt hr
  exact lv_tableIn hx hb hd (by rw [e]; omega) (by rw [e]; omega) (by rw [e]; exact ho) ht (kk L H locs ls hdm hP hD hS hl)
theorem j_tswOut (hG : jX G l E cc own nL rm) {a : Int} {dflt lo hi : Int} {offs : Array Int} {len tgt : Nat} (hd : decode cc pc = .ok (.tableswitch dflt lo hi offs, len)) (hz : a < lo ∨ hi < a) (hr : -2147483648 ≤ a ∧ a < 2147483648) (ht : (pc : Int) + dflt = (tgt : Int)) (kk : J G k n f tgt lv st) : J G k n f pc lv (.int (iZ a) :: st) := by
  obtain ⟨p, l', e, R, s, m, args, below, meth, c, E', A, Z⟩ := G
  obtain ⟨rfl, rfl, rfl, hx, hb, hml, hown, hlocks, hts, hK, hA, hNw, hRs, hSS⟩ := hG
  intro L H locs ls hdm hP hD hS hl
  have e := iZ_toInt hr
  exact lv_tableOut hx hb hd (by rw [e]; exact hz) ht (kk L H locs ls hdm hP hD hS hl)
theorem jpush {L : List Nat} {f : Hp} {A : Nat → Prop} {D : va_G} {H : Heap} {a : Nat} {x : va_E} (hdm : jdom L f) (hx : x ≠ eN) (hP : va_P D vwCl (va_pl L f ++ [(a, x)]) H) (hD : va_D A (va_pl L f ++ [(a, x)])) : f a = eN ∧ ∃ L', jdom L' (va_up f a x) ∧ va_P D vwCl (va_pl L' (va_up f a x)) H ∧ va_D A (va_pl L' (va_up f a x)) := by
  have hn : a ∉ L := fun h => by
    obtain ⟨i, hi⟩ := va_pl_get (X := []) (f := f) h
    rw [List.nil_append] at hi
    have hl := (List.getElem?_eq_some_iff.mp hi).1
    have h1 : (va_pl L f ++ [(a, x)])[i]? = some (a, f a) := by rw [List.getElem?_append_left hl]; exact hi
    have h2 : (va_pl L f ++ [(a, x)])[(va_pl L f).length]? = some (a, x) := by simp
    have := hD.1 i _ _ _ h1 h2 rfl
    omega
  have hf : f a = eN := by
    by_cases h : f a = eN
    · exact h
    · exact absurd ((hdm a).mpr h) hn
  rw [va_pl_push hn] at hP hD
  refine ⟨hf, L ++ [a], fun b => ?_, hP, hD⟩
  by_cases hb : b = a
  · subst hb
    rw [va_up_self]
    exact ⟨fun _ => hx, fun _ => by simp⟩
  · rw [va_up_ne _ _ hb]
    constructor
    · intro h
      rcases List.mem_append.mp h with h | h
      · exact (hdm b).mp h
      · exact absurd (List.mem_singleton.mp h) hb
    · intro h
      exact List.mem_append_left _ ((hdm b).mpr h)
def jNw (own : String) (idx ci : Nat) (fs : List Value) : Prop := ∃ (C : String) (T : u_T) (N : Nat) (ty : Nat → FieldType), vwCl[ci]? = some (C, T, N) ∧ ci < 999 ∧ (∀ w ∈ u_ws C T N, w ∈ gw_tbl) ∧ (∀ k, k < N → parseFieldDescriptor (T k).2.2.1 = some (ty k)) ∧ (∀ w ∈ [Cond.classLink own idx C, Cond.instantiable C N, Cond.initialized C], w ∈ gw_tbl) ∧ (∀ j, j < N → defaultValue (ty j) = vp_V fs j) ∧ fs.length = N
theorem j_new (hG : jX G l E cc own nL rm) {idx ci : Nat} {fs : List Value} (hF : jNw own idx ci fs) (hd : decode cc pc = .ok (.new idx, 3)) (hkc : k + 1 ≤ rm.cells) (hks : n + fs.length ≤ rm.slots) (kk : ∀ (q : Nat) (f' : Hp), f q = eN → f' q = oB ci fs → (∀ b, b ≠ q → f' b = f b) → J G (k + 1) (n + fs.length) f' (pc + 3) lv (.ref q :: st)) : J G k n f pc lv st := by
  obtain ⟨p, l', e, R, s, m, args, below, meth, c, E', A, Z⟩ := G
  obtain ⟨rfl, rfl, rfl, hx, hb, hml, hown, hlocks, hts, hK, hA, hNw, hRs, hSS⟩ := hG
  intro L H locs ls hdm hP hD hS hl
  obtain ⟨C, T, N, ty, h1, h2, h3, h4, h5, h6, h7⟩ := hF
  subst h7
  refine va_new (C := C) (T := T) (fs := fs) hx hb hts h3 ty h4 hown (hts _ (h5 _ List.mem_cons_self)) (hts _ (h5 _ (List.mem_cons_of_mem _ List.mem_cons_self))) (hts _ (h5 _ (List.mem_cons_of_mem _ (List.mem_cons_of_mem _ List.mem_cons_self)))) hK hP hD hS hA h1 h6 hkc hks hd (fun q H1 hP1 hD1 hS1 => ?_)
  obtain ⟨e0, L', e1, e2, e3⟩ := jpush (x := oB ci fs) hdm (oB_ne h2) hP1 hD1
  exact kk q _ e0 (va_up_self _ _ _) (fun b hb => va_up_ne _ _ hb) L' H1 locs ls e1 e2 e3 hS1 hl
theorem j_newI (hG : jX G l E cc own nL rm) {N : Nat} (hw : Cond.arrayClass .int ∈ gw_tbl) (hd : decode cc pc = .ok (.newarray .int, 2)) (hN : N < 100000) (hkc : k + 1 ≤ rm.cells) (hks : n + N ≤ rm.slots) (kk : ∀ (q : Nat) (f' : Hp), f q = eN → f' q = aI (E.2.1 0) N (fun _ => 0) → (∀ b, b ≠ q → f' b = f b) → J G (k + 1) (n + N) f' (pc + 2) lv (.ref q :: st)) : J G k n f pc lv (.int (iZ N) :: st) := by
  obtain ⟨p, l', e, R, s, m, args, below, meth, c, E', A, Z⟩ := G
  obtain ⟨rfl, rfl, rfl, hx, hb, hml, hown, hlocks, hts, hK, hA, hNw, hRs, hSS⟩ := hG
  intro L H locs ls hdm hP hD hS hl
  refine va_newa (atype := .int) (ty := .int) (a0 := (N, .inl (fun _ => 0))) hx hb (hts _ hw) rfl hK hP hD hS hA (fun cA => by first | rfl | (rw [vp_cell_i]; rfl) | (rw [vp_cell_l]; rfl)) (fun h => ?_) (by rw [iZ_cl (by omega)]; omega) (by show N * 4 ≤ _; omega) hkc hks hd (fun q cA H1 hK1 hP1 hD1 hS1 => ?_)
  · rw [iZ_0, iZ_lt (by omega) (by omega)] at h
    omega
  · have k1 := (hK1.2 6 (cA, .int) rfl).2
    have k2 := (hK.2 0 (E'.2.1 0, .int) rfl).2
    have ec : cA = E'.2.1 0 := Option.some.inj (k1.symm.trans k2)
    subst ec
    obtain ⟨e0, L', e1, e2, e3⟩ := jpush (x := aI (E'.2.1 0) N (fun _ => 0)) hdm aI_ne hP1 hD1
    exact kk q _ e0 (va_up_self _ _ _) (fun b hb => va_up_ne _ _ hb) L' H1 locs ls e1 e2 e3 hS1 hl
theorem j_newJ (hG : jX G l E cc own nL rm) {N : Nat} (hw : Cond.arrayClass .long ∈ gw_tbl) (hd : decode cc pc = .ok (.newarray .long, 2)) (hN : N < 100000) (hkc : k + 1 ≤ rm.cells) (hks : n + N ≤ rm.slots) (kk : ∀ (q : Nat) (f' : Hp), f q = eN → f' q = aJ (E.2.1 1) N (fun _ => 0) → (∀ b, b ≠ q → f' b = f b) → J G (k + 1) (n + N) f' (pc + 2) lv (.ref q :: st)) : J G k n f pc lv (.int (iZ N) :: st) := by
  obtain ⟨p, l', e, R, s, m, args, below, meth, c, E', A, Z⟩ := G
  obtain ⟨rfl, rfl, rfl, hx, hb, hml, hown, hlocks, hts, hK, hA, hNw, hRs, hSS⟩ := hG
  intro L H locs ls hdm hP hD hS hl
  refine va_newa (atype := .long) (ty := .long) (a0 := (N, .inr (.inl (fun _ => 0)))) hx hb (hts _ hw) rfl hK hP hD hS hA (fun cA => by first | rfl | (rw [vp_cell_i]; rfl) | (rw [vp_cell_l]; rfl)) (fun h => ?_) (by rw [iZ_cl (by omega)]; omega) (by show N * 8 ≤ _; omega) hkc hks hd (fun q cA H1 hK1 hP1 hD1 hS1 => ?_)
  · rw [iZ_0, iZ_lt (by omega) (by omega)] at h
    omega
  · have k1 := (hK1.2 6 (cA, .long) rfl).2
    have k2 := (hK.2 1 (E'.2.1 1, .long) rfl).2
    have ec : cA = E'.2.1 1 := Option.some.inj (k1.symm.trans k2)
    subst ec
    obtain ⟨e0, L', e1, e2, e3⟩ := jpush (x := aJ (E'.2.1 1) N (fun _ => 0)) hdm aJ_ne hP1 hD1
    exact kk q _ e0 (va_up_self _ _ _) (fun b hb => va_up_ne _ _ hb) L' H1 locs ls e1 e2 e3 hS1 hl
theorem j_newZ (hG : jX G l E cc own nL rm) {N : Nat} (hw : Cond.arrayClass .boolean ∈ gw_tbl) (hd : decode cc pc = .ok (.newarray .boolean, 2)) (hN : N < 100000) (hkc : k + 1 ≤ rm.cells) (hks : n + N ≤ rm.slots) (kk : ∀ (q : Nat) (f' : Hp), f q = eN → f' q = aI (E.2.1 2) N (fun _ => 0) → (∀ b, b ≠ q → f' b = f b) → J G (k + 1) (n + N) f' (pc + 2) lv (.ref q :: st)) : J G k n f pc lv (.int (iZ N) :: st) := by
  obtain ⟨p, l', e, R, s, m, args, below, meth, c, E', A, Z⟩ := G
  obtain ⟨rfl, rfl, rfl, hx, hb, hml, hown, hlocks, hts, hK, hA, hNw, hRs, hSS⟩ := hG
  intro L H locs ls hdm hP hD hS hl
  refine va_newa (atype := .boolean) (ty := .boolean) (a0 := (N, .inl (fun _ => 0))) hx hb (hts _ hw) rfl hK hP hD hS hA (fun cA => by first | rfl | (rw [vp_cell_i]; rfl) | (rw [vp_cell_l]; rfl)) (fun h => ?_) (by rw [iZ_cl (by omega)]; omega) (by show N * 1 ≤ _; omega) hkc hks hd (fun q cA H1 hK1 hP1 hD1 hS1 => ?_)
  · rw [iZ_0, iZ_lt (by omega) (by omega)] at h
    omega
  · have k1 := (hK1.2 6 (cA, .boolean) rfl).2
    have k2 := (hK.2 2 (E'.2.1 2, .boolean) rfl).2
    have ec : cA = E'.2.1 2 := Option.some.inj (k1.symm.trans k2)
    subst ec
    obtain ⟨e0, L', e1, e2, e3⟩ := jpush (x := aI (E'.2.1 2) N (fun _ => 0)) hdm aI_ne hP1 hD1
    exact kk q _ e0 (va_up_self _ _ _) (fun b hb => va_up_ne _ _ hb) L' H1 locs ls e1 e2 e3 hS1 hl
theorem j_newC (hG : jX G l E cc own nL rm) {N : Nat} (hw : Cond.arrayClass .char ∈ gw_tbl) (hd : decode cc pc = .ok (.newarray .char, 2)) (hN : N < 100000) (hkc : k + 1 ≤ rm.cells) (hks : n + N ≤ rm.slots) (kk : ∀ (q : Nat) (f' : Hp), f q = eN → f' q = aI (E.2.1 3) N (fun _ => 0) → (∀ b, b ≠ q → f' b = f b) → J G (k + 1) (n + N) f' (pc + 2) lv (.ref q :: st)) : J G k n f pc lv (.int (iZ N) :: st) := by
  obtain ⟨p, l', e, R, s, m, args, below, meth, c, E', A, Z⟩ := G
  obtain ⟨rfl, rfl, rfl, hx, hb, hml, hown, hlocks, hts, hK, hA, hNw, hRs, hSS⟩ := hG
  intro L H locs ls hdm hP hD hS hl
  refine va_newa (atype := .char) (ty := .char) (a0 := (N, .inl (fun _ => 0))) hx hb (hts _ hw) rfl hK hP hD hS hA (fun cA => by first | rfl | (rw [vp_cell_i]; rfl) | (rw [vp_cell_l]; rfl)) (fun h => ?_) (by rw [iZ_cl (by omega)]; omega) (by show N * 2 ≤ _; omega) hkc hks hd (fun q cA H1 hK1 hP1 hD1 hS1 => ?_)
  · rw [iZ_0, iZ_lt (by omega) (by omega)] at h
    omega
  · have k1 := (hK1.2 6 (cA, .char) rfl).2
    have k2 := (hK.2 3 (E'.2.1 3, .char) rfl).2
    have ec : cA = E'.2.1 3 := Option.some.inj (k1.symm.trans k2)
    subst ec
    obtain ⟨e0, L', e1, e2, e3⟩ := jpush (x := aI (E'.2.1 3) N (fun _ => 0)) hdm aI_ne hP1 hD1
    exact kk q _ e0 (va_up_self _ _ _) (fun b hb => va_up_ne _ _ hb) L' H1 locs ls e1 e2 e3 hS1 hl
theorem j_newQ4 (hG : jX G l E cc own nL rm) {idx N : Nat} (hw : Cond.classLink own idx "TableStreams$Rows" ∈ gw_tbl) (hd : decode cc pc = .ok (.anewarray idx, 3)) (hN : N < 100000) (hkc : k + 1 ≤ rm.cells) (hks : n + N ≤ rm.slots) (kk : ∀ (q : Nat) (f' : Hp), f q = eN → f' q = aQ (E.2.1 4) N (fun _ => none) → (∀ b, b ≠ q → f' b = f b) → J G (k + 1) (n + N) f' (pc + 3) lv (.ref q :: st)) : J G k n f pc lv (.int (iZ N) :: st) := by
  obtain ⟨p, l', e, R, s, m, args, below, meth, c, E', A, Z⟩ := G
  obtain ⟨rfl, rfl, rfl, hx, hb, hml, hown, hlocks, hts, hK, hA, hNw, hRs, hSS⟩ := hG
  intro L H locs ls hdm hP hD hS hl
  refine va_newq hx hb hown (hts _ hw) hNw.2.1 hK hP hD hS hA (N' := N) (fun h => ?_) (by rw [iZ_cl (by omega)]; omega) (by omega) hkc hks hd (fun q cA H1 hK1 hP1 hD1 hS1 => ?_)
  · rw [iZ_0, iZ_lt (by omega) (by omega)] at h
    omega
  · obtain ⟨_, _, -, -, -, k1⟩ := (hK1.2 6 (cA, .object "TableStreams$Rows") rfl).2
    obtain ⟨_, _, -, -, -, k2⟩ := (hK.2 4 (E'.2.1 4, .object "TableStreams$Rows") rfl).2
    have ec : cA = E'.2.1 4 := Option.some.inj (k1.symm.trans k2)
    subst ec
    obtain ⟨e0, L', e1, e2, e3⟩ := jpush (x := aQ (E'.2.1 4) N (fun _ => none)) hdm aQ_ne hP1 hD1
    exact kk q _ e0 (va_up_self _ _ _) (fun b hb => va_up_ne _ _ hb) L' H1 locs ls e1 e2 e3 hS1 hl
theorem j_newQ5 (hG : jX G l E cc own nL rm) {idx N : Nat} (hw : Cond.classLink own idx "TableStreams$Making" ∈ gw_tbl) (hd : decode cc pc = .ok (.anewarray idx, 3)) (hN : N < 100000) (hkc : k + 1 ≤ rm.cells) (hks : n + N ≤ rm.slots) (kk : ∀ (q : Nat) (f' : Hp), f q = eN → f' q = aQ (E.2.1 5) N (fun _ => none) → (∀ b, b ≠ q → f' b = f b) → J G (k + 1) (n + N) f' (pc + 3) lv (.ref q :: st)) : J G k n f pc lv (.int (iZ N) :: st) := by
  obtain ⟨p, l', e, R, s, m, args, below, meth, c, E', A, Z⟩ := G
  obtain ⟨rfl, rfl, rfl, hx, hb, hml, hown, hlocks, hts, hK, hA, hNw, hRs, hSS⟩ := hG
  intro L H locs ls hdm hP hD hS hl
  refine va_newq hx hb hown (hts _ hw) hNw.2.2 hK hP hD hS hA (N' := N) (fun h => ?_) (by rw [iZ_cl (by omega)]; omega) (by omega) hkc hks hd (fun q cA H1 hK1 hP1 hD1 hS1 => ?_)
  · rw [iZ_0, iZ_lt (by omega) (by omega)] at h
    omega
  · obtain ⟨_, _, -, -, -, k1⟩ := (hK1.2 6 (cA, .object "TableStreams$Making") rfl).2
    obtain ⟨_, _, -, -, -, k2⟩ := (hK.2 5 (E'.2.1 5, .object "TableStreams$Making") rfl).2
    have ec : cA = E'.2.1 5 := Option.some.inj (k1.symm.trans k2)
    subst ec
    obtain ⟨e0, L', e1, e2, e3⟩ := jpush (x := aQ (E'.2.1 5) N (fun _ => none)) hdm aQ_ne hP1 hD1
    exact kk q _ e0 (va_up_self _ _ _) (fun b hb => va_up_ne _ _ hb) L' H1 locs ls e1 e2 e3 hS1 hl
end JM
