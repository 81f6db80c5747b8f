/-! ===== the start ===== -/
def tmJ (i : Nat) : Term := .string RX4 (strQ.getD i (0, "")).1
abbrev gvC : Cond := Jvm.Cond.and given_1 narrow_1
theorem st_ex : ∀ i : Nat, i < 16 → Cond.exactly (tmJ i) "java/lang/String" ∈ flatC gvC := by decide +kernel
theorem st_co : ∀ i : Nat, i < 16 → Cond.eq (.field (tmJ i) "java/lang/String" "coder" "B") (.int 0) ∈ flatC gvC := by decide +kernel
theorem st_ar : ∀ i : Nat, i < 16 → Cond.arrayOf (.field (tmJ i) "java/lang/String" "value" "[B") .byte ∈ flatC gvC := by decide +kernel
theorem st_le : ∀ i : Nat, i < 16 → Cond.eq (.length (.field (tmJ i) "java/lang/String" "value" "[B")) (.int (Int32.ofNat (lenJS.getD i 0))) ∈ flatC gvC := by decide +kernel
theorem st_el : ∀ i : Nat, i < 16 → ∀ j : Nat, j < lenJS.getD i 0 → Cond.eq (.elem (.field (tmJ i) "java/lang/String" "value" "[B") (.int (Int32.ofNat j))) (.int ((bytJS.getD i []).getD j 0)) ∈ flatC gvC := by decide +kernel
theorem st_ne : ∀ j : Nat, j < 16 → ∀ i : Nat, i < j → Cond.not (Cond.eq (tmJ i) (tmJ j)) ∈ flatC gvC := by decide +kernel
theorem st_sr : ∀ i : Nat, i < 16 → Cond.stringRef RX4 (strQ.getD i (0, "")).1 (strQ.getD i (0, "")).2 ∈ lw_tbl := by decide +kernel
theorem st_nq : ∀ q ∈ nestQ, Cond.methodLinkNest q.1 q.2.1 q.2.2 "TableStreams" ∈ lw_tbl := by decide +kernel
theorem arr_of {s : State} {args : Array Value} {ty : FieldType} (h : (Cond.arrayClass ty).before args s = true) : ∃ c : ClassId, ArrOfT s c ty ∧ s.vm.findClass ("[" ++ ty.toString) = some c := by
  obtain ⟨c, k, comp, h1, h2, h3⟩ := Cond.arrayClass_spec h
  exact ⟨c, fun n z => ⟨fun k h => (by cases h), k, h2, comp, h3⟩, h1⟩
theorem arr_ofO {s : State} {args : Array Value} {C : String} (h : (Cond.arrayOver (.object C)).before args s = true) : ∃ c : ClassId, ArrOfT s c (.object C) ∧ va_RA s c (.object C) := by
  obtain ⟨comp, c, k, h1, h2, h3, h4, h5⟩ := Cond.arrayOver_spec h
  exact ⟨c, fun n z => ⟨fun k h => (by cases h), k, h3, comp, h4⟩, k, comp, h3, h4, h1, h5⟩
theorem jX_start {s : State} {args : Array Value} (hts : ∀ w ∈ lw_tbl, w.before args s = true) (hgv : gvC.before args s = true) : ∃ E : JE, va_K E.1 vwCl (tysK E.2.1) s ∧ jN s ∧ jR E s ∧ jS E (fun q => s.heap.size ≤ q) s s.heap := by
  have hgw : ∀ w ∈ gw_tbl, w.before args s = true := fun w hw => hts w (List.mem_filter.mp hw).1
  have hs := flat_of_before _ hgv
  obtain ⟨c0, i0, k0⟩ := u_known (C := RX0) (T := TX0) (N := 2) (n := 2) hgw inX0 (hts (.instantiable RX0 2) (List.mem_of_getElem? (i := 231) (by decide +kernel)))
  obtain ⟨c1, i1, k1⟩ := u_known (C := RX1) (T := TX1) (N := 3) (n := 3) hgw inX1 (hts (.instantiable RX1 3) (List.mem_of_getElem? (i := 244) (by decide +kernel)))
  obtain ⟨c2, i2, k2⟩ := u_known (C := RX2) (T := TX2) (N := 3) (n := 3) hgw inX2 (hts (.instantiable RX2 3) (List.mem_of_getElem? (i := 85) (by decide +kernel)))
  obtain ⟨c3, i3, k3⟩ := u_known (C := RX3) (T := TX3) (N := 6) (n := 6) hgw inX3 (hts (.instantiable RX3 6) (List.mem_of_getElem? (i := 163) (by decide +kernel)))
  obtain ⟨c4, i4, k4⟩ := u_known (C := RX4) (T := TX4) (N := 1) (n := 1) hgw inX4 (hts (.instantiable RX4 1) (List.mem_of_getElem? (i := 123) (by decide +kernel)))
  obtain ⟨c5, i5, k5⟩ := u_known (C := RX5) (T := TX5) (N := 2) (n := 2) hgw inX5 (hts (.instantiable RX5 2) (List.mem_of_getElem? (i := 156) (by decide +kernel)))
  obtain ⟨c6, i6, k6⟩ := u_known (C := RX6) (T := TX6) (N := 3) (n := 3) hgw inX6 (hts (.instantiable RX6 3) (List.mem_of_getElem? (i := 260) (by decide +kernel)))
  obtain ⟨c7, i7, k7⟩ := u_known (C := RX8) (T := TX8) (N := 3) (n := 3) hgw inX8 (hts (.instantiable RX8 3) (List.mem_of_getElem? (i := 140) (by decide +kernel)))
  obtain ⟨c8, i8, k8⟩ := u_known (C := RX9) (T := TX9) (N := 8) (n := 8) hgw inX9 (hts (.instantiable RX9 8) (List.mem_of_getElem? (i := 133) (by decide +kernel)))
  obtain ⟨c9, i9, k9⟩ := u_known (C := RX10) (T := TX10) (N := 4) (n := 4) hgw inX10 (hts (.instantiable RX10 4) (List.mem_of_getElem? (i := 103) (by decide +kernel)))
  obtain ⟨c10, i10, k10⟩ := u_known (C := RX11) (T := TX11) (N := 12) (n := 12) hgw inX11 (hts (.instantiable RX11 12) (List.mem_of_getElem? (i := 77) (by decide +kernel)))
  obtain ⟨c11, i11, k11⟩ := u_known (C := RX12) (T := TX12) (N := 52) (n := 52) hgw inX12 (hts (.instantiable RX12 52) (List.mem_of_getElem? (i := 882) (by decide +kernel)))
  obtain ⟨a0, b0, d0⟩ := arr_of (hgw _ wA_I)
  obtain ⟨a1, b1, d1⟩ := arr_of (hgw _ wA_J)
  obtain ⟨a2, b2, d2⟩ := arr_of (hgw _ wA_Z)
  obtain ⟨a3, b3, d3⟩ := arr_of (hgw _ wA_C)
  have o4 := hts (.arrayOver (.object "TableStreams$Rows")) (List.mem_of_getElem? (i := 139) (by decide +kernel))
  have o5 := hts (.arrayOver (.object "TableStreams$Making")) (List.mem_of_getElem? (i := 162) (by decide +kernel))
  obtain ⟨a4, b4, d4⟩ := arr_ofO o4
  obtain ⟨a5, b5, d5⟩ := arr_ofO o5
  have hA : ∀ a : Nat, a < s.heap.size → ¬ (fun q => s.heap.size ≤ q) a := fun a ha => Nat.not_le.mpr ha
  obtain ⟨adK, adV, hS, hE⟩ := vk_Sof (N := 16) (tm := tmJ) (len := lenJS) (byt := bytJS) (A := fun q => s.heap.size ≤ q) (by decide) (fun i hi => hs _ (st_ex i hi)) (fun i hi => hs _ (st_co i hi)) (fun i hi => hs _ (st_ar i hi)) (fun i hi => hs _ (st_le i hi)) (fun i hi j hj => hs _ (st_el i hi j hj)) (fun i j hi hj hij => by
    rcases Nat.lt_or_gt_of_ne hij with h | h
    · exact Or.inl (hs _ (st_ne j hj i h))
    · exact Or.inr (hs _ (st_ne i hi j h))) hA
  refine ⟨((fun k => match k with | 0 => c0 | 1 => c1 | 2 => c2 | 3 => c3 | 4 => c4 | 5 => c5 | 6 => c6 | 7 => c7 | 8 => c8 | 9 => c9 | 10 => c10 | _ => c11, fun k => match k with | 0 => i0 | 1 => i1 | 2 => i2 | 3 => i3 | 4 => i4 | 5 => i5 | 6 => i6 | 7 => i7 | 8 => i8 | 9 => i9 | 10 => i10 | _ => i11), (fun k => match k with | 0 => a0 | 1 => a1 | 2 => a2 | 3 => a3 | 4 => a4 | _ => a5), adK, adV), ⟨?_, ?_⟩, ⟨?_, va_AO.of o4, va_AO.of o5⟩, ?_, hS, ?_, ?_⟩
  · intro k q hq
    match k, hq with
    | 0, hq => cases hq; exact k0
    | 1, hq => cases hq; exact k1
    | 2, hq => cases hq; exact k2
    | 3, hq => cases hq; exact k3
    | 4, hq => cases hq; exact k4
    | 5, hq => cases hq; exact k5
    | 6, hq => cases hq; exact k6
    | 7, hq => cases hq; exact k7
    | 8, hq => cases hq; exact k8
    | 9, hq => cases hq; exact k9
    | 10, hq => cases hq; exact k10
    | 11, hq => cases hq; exact k11
    | k + 12, hq => simp [vwCl] at hq
  · intro k q hq
    match k, hq with
    | 0, hq => cases hq; exact ⟨b0, d0⟩
    | 1, hq => cases hq; exact ⟨b1, d1⟩
    | 2, hq => cases hq; exact ⟨b2, d2⟩
    | 3, hq => cases hq; exact ⟨b3, d3⟩
    | 4, hq => cases hq; exact ⟨b4, d4⟩
    | 5, hq => cases hq; exact ⟨b5, d5⟩
    | k + 6, hq => simp [tysK] at hq
  · intro q hq
    exact va_Nw.of rfl (hts _ (st_nq q hq))
  · intro i q hq
    have hi : i < 16 := (List.getElem?_eq_some_iff.mp hq).1
    have e : strQ.getD i (0, "") = q := by rw [List.getD_eq_getElem?_getD, hq]; rfl
    have w1 := hts _ (st_sr i hi)
    have w2 := hE i hi
    unfold tmJ at w2
    rw [e] at w1 w2
    exact vk_R.of w1 w2
  · exact va_Zof (hts (.laysStatic "java/lang/String" "COMPACT_STRINGS" "Z") (List.mem_of_getElem? (i := 463) (by decide +kernel))) (hts (.initialized "java/lang/String") (List.mem_of_getElem? (i := 71) (by decide +kernel))) (va_eqt (hs _ (by decide +kernel))) hA
  · exact va_Zqof (hts (.laysStatic "jdk/internal/util/Preconditions" "SIOOBE_FORMATTER" "Ljava/util/function/BiFunction;") (List.mem_of_getElem? (i := 479) (by decide +kernel))) (hts (.initialized "jdk/internal/util/Preconditions") (List.mem_of_getElem? (i := 73) (by decide +kernel))) (hs _ (by decide +kernel)) hA
