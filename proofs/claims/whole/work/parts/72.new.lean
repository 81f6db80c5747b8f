theorem ct_ofI {l : Launch} {E : JE} {y : MethodName} {cc : ByteArray} {maxL : Nat} {ret : Option FieldType} {rm : Room} {av : List Value} {f : Hp} {P : Option Value → Hp → Prop} {own : String} {lv : List (Nat × Value)} (hy : plainName y.cls = true) (hni : y.name = "<init>") (hown : y.cls = own) (hl : (lg_sl av).length ≤ maxL) (hlv : lv_args 0 av = lv)
    (body : ∀ G : JG, jX G l E cc own maxL rm → jZ G ret P → jI G → J G 0 0 f 0 lv []) : Ct l E y cc maxL ret rm av f P := by
  intro sz
  refine Met.ofW (cc := cc) (maxL := maxL) (ret := ret) hy rfl ?_
  intro p e s m args below meth c s₁ B hml hv
  obtain ⟨rfl, hsz, ⟨L, hdm, hP, hD⟩, hK, hN, hR, hSS⟩ := hv
  subst hsz
  subst hown
  have hts := atoms_spec (ws := Cond.code y cc maxL ret :: gw_tbl) B.pre
  have hA : ∀ q : Nat, s.heap.size ≤ q → AF f s.heap.size q := fun q h => Or.inr h
  have hD2 : va_D (AF f s.heap.size) (va_pl L f) := ⟨hD.1, fun k q hq => by
    obtain ⟨a, ha, rfl⟩ := List.mem_map.mp (List.mem_of_getElem? hq)
    exact Or.inl ((hdm a).mp ha)⟩
  have b := body (p, l, e, rm, s, m, av.toArray, below, meth, c, E, AF f s.heap.size, MQ below (jQ E P (AF f s.heap.size)) av.toArray s rm.cells rm.slots (AF f s.heap.size)) ⟨rfl, rfl, rfl, B.exec, B.bytes, hml, findClass_of_methodNamed B.named, B.notSynchronized, fun w hw => hts w (List.mem_cons_of_mem _ hw), hK, hA, hN, hR, hSS⟩ ⟨rfl, B.returns⟩ ((name_of_methodNamed B.named B.method).1.trans hni)
  rw [lg_entry_eq]
  have hle := lv_entry av (n := maxL) hl
  rw [hlv] at hle
  exact b L s.heap [] _ hdm hP hD2 va_S.rf (by rw [hml]; exact hle)
/-- cells that are there stay, but for a -/
def stay (f f' : Hp) (a : Nat) : Prop := ∀ q, f q ≠ eN → q ≠ a → f' q = f q
theorem ne_of {f : Hp} {q : Nat} {x : va_E} (h : f q = x) (hx : x ≠ eN) : f q ≠ eN := by rw [h]; exact hx
theorem c_X2_init {l : Launch} {E : JE} {f : Hp} {a : Nat}  (h : f a = oB 2 [.null, .null, .int (iZ (0))])  : KX2_init l E [.ref a] f (fun v f' => v = none ∧ ∃ p u : Nat, f' a = oB 2 [.ref p, .ref u, .int (iZ 0)] ∧ f' p = aI (E.2.1 0) 150 (fun _ => 0) ∧ f' u = aJ (E.2.1 1) 150 (fun _ => 0) ∧ f p = eN ∧ f u = eN ∧ (∀ q, q ≠ a → q ≠ p → q ≠ u → f' q = f q)) := by
  refine ct_ofI (own := RX2) (lv := [(0, .ref a)]) (by decide +kernel) rfl rfl (Nat.le_of_ble_eq_true rfl) rfl ?_
  intro G hG hZ hI
  refine j_aload_n hG dX2_init_0 rfl rfl ?_
  refine j_objInit hG vX2_3 dX2_init_1 (by decide) (by decide) ?_
  refine j_aload_n hG dX2_init_4 rfl rfl ?_
  refine j_sipush hG dX2_init_5 (by decide) ?_
  refine j_newI (N := 150) hG wA_I dX2_init_8 (by decide) (by decide) (by decide) (fun q1 f2 e3 h4 fr5 => ?_)
  have h6 := (fr5 a (h_ne h e3 (oB_ne (by decide)))).trans h
  refine j_kn (k := 1) (n := 150) rfl rfl ?_
  refine j_putF hG hI pX2_9 dX2_init_10 h6 rfl rfl (Nat.le_of_ble_eq_true rfl) (fun f8 h9 fr10 => ?_)
  have h9 : f8 a = oB 2 [.ref q1, .null, .int (iZ (0))] := h9
  have h11 := (fr10 q1 (h_ne h4 h6 (Ne.symm oa_I))).trans h4
  refine j_aload_n hG dX2_init_13 rfl rfl ?_
  refine j_sipush hG dX2_init_14 (by decide) ?_
  refine j_newJ (N := 150) hG wA_J dX2_init_17 (by decide) (by decide) (by decide) (fun q12 f13 e14 h15 fr16 => ?_)
  have h17 := (fr16 q1 (h_ne h11 e14 aI_ne)).trans h11
  have h18 := (fr16 a (h_ne h9 e14 (oB_ne (by decide)))).trans h9
  refine j_kn (k := 2) (n := 300) rfl rfl ?_
  have z19 : f q12 = eN := (Eq.symm (Eq.trans (fr10 q12 (Ne.symm (h_ne h9 e14 (oB_ne (by decide))))) (fr5 q12 (Ne.symm (h_ne h11 e14 aI_ne))))).trans e14
  refine j_putF hG hI pX2_15 dX2_init_19 h18 rfl rfl (Nat.le_of_ble_eq_true rfl) (fun f20 h21 fr22 => ?_)
  have h21 : f20 a = oB 2 [.ref q1, .ref q12, .int (iZ (0))] := h21
  have h23 := (fr22 q1 (h_ne h17 h18 (Ne.symm oa_I))).trans h17
  have h24 := (fr22 q12 (h_ne h15 h18 (Ne.symm oa_J))).trans h15
  exact j_vret hG hZ dX2_init_22 (by decide) (by decide) (⟨rfl, q1, q12, h21, h23, h24, e3, z19, fun q q0 q1 q2 => (Eq.trans (fr22 q q0) (Eq.trans (fr16 q q2) (Eq.trans (fr10 q q0) (fr5 q q1))))⟩)
theorem c_X10_init {l : Launch} {E : JE} {f : Hp} {a : Nat}  (h : f a = oB 9 [.null, .int (iZ (0)), .int (iZ (0)), .int (iZ (0))])  : KX10_init l E [.ref a] f (fun v f' => v = none ∧ ∃ p : Nat, f' a = oB 9 [.ref p, .int (iZ 0), .int (iZ 0), .int (iZ 0)] ∧ f' p = aI (E.2.1 3) 300 (fun _ => 0) ∧ f p = eN ∧ (∀ q, q ≠ a → q ≠ p → f' q = f q)) := by
  refine ct_ofI (own := RX10) (lv := [(0, .ref a)]) (by decide +kernel) rfl rfl (Nat.le_of_ble_eq_true rfl) rfl ?_
  intro G hG hZ hI
  refine j_aload_n hG dX10_init_0 rfl rfl ?_
  refine j_objInit hG vX10_3 dX10_init_1 (by decide) (by decide) ?_
  refine j_aload_n hG dX10_init_4 rfl rfl ?_
  refine j_sipush hG dX10_init_5 (by decide) ?_
  refine j_newC (N := 300) hG wA_C dX10_init_8 (by decide) (by decide) (by decide) (fun q1 f2 e3 h4 fr5 => ?_)
  have h6 := (fr5 a (h_ne h e3 (oB_ne (by decide)))).trans h
  refine j_kn (k := 1) (n := 300) rfl rfl ?_
  refine j_putF hG hI pX10_9 dX10_init_10 h6 rfl rfl (Nat.le_of_ble_eq_true rfl) (fun f8 h9 fr10 => ?_)
  have h9 : f8 a = oB 9 [.ref q1, .int (iZ (0)), .int (iZ (0)), .int (iZ (0))] := h9
  have h11 := (fr10 q1 (h_ne h4 h6 (Ne.symm oa_I))).trans h4
  exact j_vret hG hZ dX10_init_13 (by decide) (by decide) (⟨rfl, q1, h9, h11, e3, fun q q0 q1 => (Eq.trans (fr10 q q0) (fr5 q q1))⟩)
theorem c_X4_init {l : Launch} {E : JE} {f : Hp} {a : Nat}  (h : f a = oB 4 [.null])  : KX4_init l E [.ref a] f (fun v f' => v = none ∧ ∃ p : Nat, f' a = oB 4 [.ref p] ∧ f' p = aI (E.2.1 0) 26 (fun _ => 0) ∧ f p = eN ∧ (∀ q, q ≠ a → q ≠ p → f' q = f q)) := by
  refine ct_ofI (own := RX4) (lv := [(0, .ref a)]) (by decide +kernel) rfl rfl (Nat.le_of_ble_eq_true rfl) rfl ?_
  intro G hG hZ hI
  refine j_aload_n hG dX4_init_0 rfl rfl ?_
  refine j_objInit hG vX4_3 dX4_init_1 (by decide) (by decide) ?_
  refine j_aload_n hG dX4_init_4 rfl rfl ?_
  refine j_bipush hG dX4_init_5 (by decide) ?_
  refine j_newI (N := 26) hG wA_I dX4_init_7 (by decide) (by decide) (by decide) (fun q1 f2 e3 h4 fr5 => ?_)
  have h6 := (fr5 a (h_ne h e3 (oB_ne (by decide)))).trans h
  refine j_kn (k := 1) (n := 26) rfl rfl ?_
  refine j_putF hG hI pX4_9 dX4_init_9 h6 rfl rfl (Nat.le_of_ble_eq_true rfl) (fun f8 h9 fr10 => ?_)
  have h9 : f8 a = oB 4 [.ref q1] := h9
  have h11 := (fr10 q1 (h_ne h4 h6 (Ne.symm oa_I))).trans h4
  exact j_vret hG hZ dX4_init_12 (by decide) (by decide) (⟨rfl, q1, h9, h11, e3, fun q q0 q1 => (Eq.trans (fr10 q q0) (fr5 q q1))⟩)
theorem c_X8_init {l : Launch} {E : JE} {f : Hp} {a : Nat}  (h : f a = oB 7 [.null, .int (iZ (0)), .int (iZ (0))])  : KX8_init l E [.ref a] f (fun v f' => v = none ∧ ∃ p : Nat, f' a = oB 7 [.ref p, .int (iZ 0), .int (iZ 0)] ∧ f' p = aJ (E.2.1 1) 400 (fun _ => 0) ∧ f p = eN ∧ (∀ q, q ≠ a → q ≠ p → f' q = f q)) := by
  refine ct_ofI (own := RX8) (lv := [(0, .ref a)]) (by decide +kernel) rfl rfl (Nat.le_of_ble_eq_true rfl) rfl ?_
  intro G hG hZ hI
  refine j_aload_n hG dX8_init_0 rfl rfl ?_
  refine j_objInit hG vX8_3 dX8_init_1 (by decide) (by decide) ?_
  refine j_aload_n hG dX8_init_4 rfl rfl ?_
  refine j_sipush hG dX8_init_5 (by decide) ?_
  refine j_newJ (N := 400) hG wA_J dX8_init_8 (by decide) (by decide) (by decide) (fun q1 f2 e3 h4 fr5 => ?_)
  have h6 := (fr5 a (h_ne h e3 (oB_ne (by decide)))).trans h
  refine j_kn (k := 1) (n := 400) rfl rfl ?_
  refine j_putF hG hI pX8_9 dX8_init_10 h6 rfl rfl (Nat.le_of_ble_eq_true rfl) (fun f8 h9 fr10 => ?_)
  have h9 : f8 a = oB 7 [.ref q1, .int (iZ (0)), .int (iZ (0))] := h9
  have h11 := (fr10 q1 (h_ne h4 h6 (Ne.symm oa_J))).trans h4
  exact j_vret hG hZ dX8_init_13 (by decide) (by decide) (⟨rfl, q1, h9, h11, e3, fun q q0 q1 => (Eq.trans (fr10 q q0) (fr5 q q1))⟩)
theorem c_X0_init {l : Launch} {E : JE} {f : Hp} {a : Nat}  (h : f a = oB 0 [.null, .int (iZ (0))])  : KX0_init l E [.ref a] f (fun v f' => v = none ∧ ∃ p : Nat, f' a = oB 0 [.ref p, .int (iZ 0)] ∧ f' p = aJ (E.2.1 1) 4000 (fun _ => 0) ∧ f p = eN ∧ (∀ q, q ≠ a → q ≠ p → f' q = f q)) := by
  refine ct_ofI (own := RX0) (lv := [(0, .ref a)]) (by decide +kernel) rfl rfl (Nat.le_of_ble_eq_true rfl) rfl ?_
  intro G hG hZ hI
  refine j_aload_n hG dX0_init_0 rfl rfl ?_
  refine j_objInit hG vX0_3 dX0_init_1 (by decide) (by decide) ?_
  refine j_aload_n hG dX0_init_4 rfl rfl ?_
  refine j_sipush hG dX0_init_5 (by decide) ?_
  refine j_newJ (N := 4000) hG wA_J dX0_init_8 (by decide) (by decide) (by decide) (fun q1 f2 e3 h4 fr5 => ?_)
  have h6 := (fr5 a (h_ne h e3 (oB_ne (by decide)))).trans h
  refine j_kn (k := 1) (n := 4000) rfl rfl ?_
  refine j_putF hG hI pX0_9 dX0_init_10 h6 rfl rfl (Nat.le_of_ble_eq_true rfl) (fun f8 h9 fr10 => ?_)
  have h9 : f8 a = oB 0 [.ref q1, .int (iZ (0))] := h9
  have h11 := (fr10 q1 (h_ne h4 h6 (Ne.symm oa_J))).trans h4
  exact j_vret hG hZ dX0_init_13 (by decide) (by decide) (⟨rfl, q1, h9, h11, e3, fun q q0 q1 => (Eq.trans (fr10 q q0) (fr5 q q1))⟩)
theorem c_X1_init {l : Launch} {E : JE} {f : Hp} {a : Nat}  (h : f a = oB 1 [.null, .null, .int (iZ (0))])  : KX1_init l E [.ref a] f (fun v f' => v = none ∧ ∃ p u : Nat, f' a = oB 1 [.ref p, .ref u, .int (iZ 1)] ∧ f' p = aI (E.2.1 2) 8 (fup (fun _ => 0) 0 1) ∧ f' u = aI (E.2.1 0) 32 (fun _ => 0) ∧ f p = eN ∧ f u = eN ∧ (∀ q, q ≠ a → q ≠ p → q ≠ u → f' q = f q)) := by
  refine ct_ofI (own := RX1) (lv := [(0, .ref a)]) (by decide +kernel) rfl rfl (Nat.le_of_ble_eq_true rfl) rfl ?_
  intro G hG hZ hI
  refine j_aload_n hG dX1_init_0 rfl rfl ?_
  refine j_objInit hG vX1_3 dX1_init_1 (by decide) (by decide) ?_
  refine j_aload_n hG dX1_init_4 rfl rfl ?_
  refine j_bipush hG dX1_init_5 (by decide) ?_
  refine j_newZ (N := 8) hG wA_Z dX1_init_7 (by decide) (by decide) (by decide) (fun q1 f2 e3 h4 fr5 => ?_)
  have h6 := (fr5 a (h_ne h e3 (oB_ne (by decide)))).trans h
  refine j_kn (k := 1) (n := 8) rfl rfl ?_
  refine j_putF hG hI pX1_9 dX1_init_9 h6 rfl rfl (Nat.le_of_ble_eq_true rfl) (fun f8 h9 fr10 => ?_)
  have h9 : f8 a = oB 1 [.ref q1, .null, .int (iZ (0))] := h9
  have h11 := (fr10 q1 (h_ne h4 h6 (Ne.symm oa_I))).trans h4
  refine j_aload_n hG dX1_init_12 rfl rfl ?_
  refine j_get hG fX1_9 dX1_init_13 h9 rfl ?_
  refine j_iconst hG dX1_init_16 ?_
  refine j_iconst hG dX1_init_17 ?_
  refine j_zast hG dX1_init_18 h11 (by omega) (by decide) (by omega) (fun f12 h13 fr14 => ?_)
  have h15 := (fr14 a (h_ne h9 h11 oa_I)).trans h9
  refine j_aload_n hG dX1_init_19 rfl rfl ?_
  refine j_iconst hG dX1_init_20 ?_
  refine j_put hG pX1_15 dX1_init_21 h15 rfl rfl (Nat.le_of_ble_eq_true rfl) (fun f16 h17 fr18 => ?_)
  have h17 : f16 a = oB 1 [.ref q1, .null, .int (iZ (1))] := h17
  have h19 := (fr18 q1 (h_ne h13 h15 (Ne.symm oa_I))).trans h13
  refine j_aload_n hG dX1_init_24 rfl rfl ?_
  refine j_bipush hG dX1_init_25 (by decide) ?_
  refine j_newI (N := 32) hG wA_I dX1_init_27 (by decide) (by decide) (by decide) (fun q20 f21 e22 h23 fr24 => ?_)
  have h25 := (fr24 q1 (h_ne h19 e22 aI_ne)).trans h19
  have h26 := (fr24 a (h_ne h17 e22 (oB_ne (by decide)))).trans h17
  refine j_kn (k := 2) (n := 40) rfl rfl ?_
  have z27 : f q20 = eN := (Eq.symm (Eq.trans (fr18 q20 (Ne.symm (h_ne h17 e22 (oB_ne (by decide))))) (Eq.trans (fr14 q20 (Ne.symm (h_ne h19 e22 aI_ne))) (Eq.trans (fr10 q20 (Ne.symm (h_ne h17 e22 (oB_ne (by decide))))) (fr5 q20 (Ne.symm (h_ne h19 e22 aI_ne))))))).trans e22
  refine j_putF hG hI pX1_19 dX1_init_29 h26 rfl rfl (Nat.le_of_ble_eq_true rfl) (fun f28 h29 fr30 => ?_)
  have h29 : f28 a = oB 1 [.ref q1, .ref q20, .int (iZ (1))] := h29
  have h31 := (fr30 q1 (h_ne h25 h26 (Ne.symm oa_I))).trans h25
  have h32 := (fr30 q20 (h_ne h23 h26 (Ne.symm oa_I))).trans h23
  exact j_vret hG hZ dX1_init_32 (by decide) (by decide) (⟨rfl, q1, q20, h29, h31, h32, e3, z27, fun q q0 q1 q2 => (Eq.trans (fr30 q q0) (Eq.trans (fr24 q q2) (Eq.trans (fr18 q q0) (Eq.trans (fr14 q q1) (Eq.trans (fr10 q q0) (fr5 q q1))))))⟩)
theorem c_X3_init {l : Launch} {E : JE} {f : Hp} {a : Nat}  (h : f a = oB 3 [.int (iZ (0)), .int (iZ (0)), .int (iZ (0)), .int (iZ (0)), .int (iZ (0)), .int (iZ (0))])  : KX3_init l E [.ref a] f (fun v f' => v = none ∧ f = f') := by
  refine ct_ofI (own := RX3) (lv := [(0, .ref a)]) (by decide +kernel) rfl rfl (Nat.le_of_ble_eq_true rfl) rfl ?_
  intro G hG hZ hI
  refine j_aload_n hG dX3_init_0 rfl rfl ?_
  refine j_objInit hG vX3_3 dX3_init_1 (by decide) (by decide) ?_
  exact j_vret hG hZ dX3_init_4 (Nat.zero_le _) (Nat.zero_le _) (⟨rfl, rfl⟩)
theorem c_X6_init {l : Launch} {E : JE} {f : Hp} {a : Nat}  (h : f a = oB 6 [.int (iZ (0)), .int (iZ (0)), .int (iZ (0))])  : KX6_init l E [.ref a] f (fun v f' => v = none ∧ f' a = oB 6 [.int (iZ 0), .int (iZ 0), .int (iZ (-1))] ∧ (∀ q, q ≠ a → f' q = f q)) := by
  refine ct_ofI (own := RX6) (lv := [(0, .ref a)]) (by decide +kernel) rfl rfl (Nat.le_of_ble_eq_true rfl) rfl ?_
  intro G hG hZ hI
  refine j_aload_n hG dX6_init_0 rfl rfl ?_
  refine j_objInit hG vX6_3 dX6_init_1 (by decide) (by decide) ?_
  refine j_aload_n hG dX6_init_4 rfl rfl ?_
  refine j_iconst hG dX6_init_5 ?_
  refine j_put hG pX6_9 dX6_init_6 h rfl rfl (Nat.le_of_ble_eq_true rfl) (fun f1 h2 fr3 => ?_)
  have h2 : f1 a = oB 6 [.int (iZ (0)), .int (iZ (0)), .int (iZ (-1))] := h2
  exact j_vret hG hZ dX6_init_9 (Nat.zero_le _) (Nat.zero_le _) (⟨rfl, h2, fun q q0 => (fr3 q q0)⟩)
