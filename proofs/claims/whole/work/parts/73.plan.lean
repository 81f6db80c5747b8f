theorem j_mk {G : JG} {l : Launch} {E : JE} {k n : Nat} {f : Hp} {pc : Nat} {lv : List (Nat × Value)} {st : List Value} (hG : jX G l E cX5_init RX5 2 rmX5_init) (hd1 : decode cX5_init pc = .ok (.new 9, 3)) (hd2 : decode cX5_init (pc + 3) = .ok (.dup, 1)) (hd3 : decode cX5_init (pc + 3 + 1) = .ok (.invokespecial 17, 3)) (hk : k + 1 ≤ 13) (hn : n + 6 ≤ 84) (hst : (st.map fun v => v.category).sum ≤ 7) (kk : ∀ (q : Nat) (f' : Hp), f q = eN → f' q = oB 3 [.int (iZ (0)), .int (iZ (0)), .int (iZ (0)), .int (iZ (0)), .int (iZ (0)), .int (iZ (0))] → (∀ b, b ≠ q → f' b = f b) → J G (k + 1) (n + 6) f' (pc + 7) lv (.ref q :: st)) : J G k n f pc lv st := by
  refine j_new hG nX5_9 hd1 hk hn (fun q f1 e0 hq fr => ?_)
  refine j_dup hG hd2 rfl ?_
  refine j_callIN (rest := .ref q :: st) hG vX5_17 hd3 (c_X3_init hq) rfl rfl (by decide) (by decide) ?_ rfl rfl hk hn ?_
  · show 1 + (st.map fun v => v.category).sum ≤ 8; omega
  · rintro _ _ ⟨rfl, rfl⟩
    exact kk q f1 e0 hq fr
theorem j_row {G : JG} {l : Launch} {E : JE} {k n : Nat} {f : Hp} {pc : Nat} {lv : List (Nat × Value)} {st : List Value} (hG : jX G l E cX9_init RX9 2 rmX9_init) (hd1 : decode cX9_init pc = .ok (.new 9, 3)) (hd2 : decode cX9_init (pc + 3) = .ok (.dup, 1)) (hd3 : decode cX9_init (pc + 3 + 1) = .ok (.invokespecial 23, 3)) (hk : k + 2 ≤ 107) (hn : n + 403 ≤ 15531) (hst : (st.map fun v => v.category).sum ≤ 7) (kk : ∀ (q c : Nat) (f' : Hp), f q = eN → f c = eN → q ≠ c → f' q = oB 7 [.ref c, .int (iZ 0), .int (iZ 0)] → f' c = aJ (E.2.1 1) 400 (fun _ => 0) → (∀ b, b ≠ q → b ≠ c → f' b = f b) → J G (k + 2) (n + 403) f' (pc + 7) lv (.ref q :: st)) : J G k n f pc lv st := by
  refine j_new hG nX9_9 hd1 (by show k + 1 ≤ 107; omega) (by show n + 3 ≤ 15531; omega) (fun q f1 e0 hq fr => ?_)
  refine j_dup hG hd2 rfl ?_
  refine j_callIA (rest := .ref q :: st) hG vX9_23 hd3 (c_X8_init hq) rfl rfl (by decide) (by decide) ?_ (by show k + 1 + 1 ≤ 107; omega) (by show n + 3 + 400 ≤ 15531; omega) ?_
  · show 1 + (st.map fun v => v.category).sum ≤ 8; omega
  · rintro _ f2 ⟨rfl, c, h1, h2, h3, h4⟩
    have qc : q ≠ c := fun e => by rw [← e, hq] at h3; exact absurd h3 (oB_ne (by decide))
    refine j_kn (k := k + 2) (n := n + 403) rfl rfl ?_
    exact kk q c f2 e0 ((fr c (Ne.symm qc)).symm.trans h3) qc h1 h2 (fun b b1 b2 => (h4 b b1 b2).trans (fr b b1))
/-- the MAKINGS of a new Plan, the first t -/
def PMk (f0 f : Hp) (t : Nat) (gp : Int → Option Nat) (ma : Int → Nat) : Prop := (∀ i, 0 ≤ i → i < (t : Int) → gp i = some (ma i) ∧ f (ma i) = oB 3 [.int (iZ (0)), .int (iZ (0)), .int (iZ (0)), .int (iZ (0)), .int (iZ (0)), .int (iZ (0))] ∧ f0 (ma i) = eN) ∧ ∀ i j, 0 ≤ i → i < (t : Int) → 0 ≤ j → j < (t : Int) → ma i = ma j → i = j
theorem l_X5_init {G : JG} {l : Launch} {E : JE} (hG : jX G l E cX5_init RX5 2 rmX5_init) {a pm : Nat} {f0 : Hp} (ha0 : f0 a ≠ eN) (hp0 : f0 pm = eN) (hN : ∀ (f' : Hp) (gp : Int → Option Nat) (ma : Int → Nat), f' a = oB 5 [.ref pm, .int (iZ 0)] → f' pm = aQ (E.2.1 5) 12 gp → PMk f0 f' 12 gp ma → stay f0 f' a → J G 13 84 f' 40 [(0, .ref a), (1, .int (iZ 12))] []) :
    ∀ (d t : Nat) (gp : Int → Option Nat) (ma : Int → Nat) (f1 : Hp), f1 a = oB 5 [.ref pm, .int (iZ 0)] → f1 pm = aQ (E.2.1 5) 12 gp → PMk f0 f1 t gp ma → stay f0 f1 a → t ≤ 12 → 12 - t < d → J G (1 + t) (12 + 6 * t) f1 15 [(0, .ref a), (1, .int (iZ (t : Int)))] [] := by
  intro d
  induction d with
  | zero => intro t gp ma f1 h hp hm hs ht hd; omega
  | succ d ih =>
    intro t gp ma f1 h hp hm hs ht hd
    refine j_iload_n hG dX5_init_15 rfl rfl ?_
    refine j_bipush hG dX5_init_16 (by decide) ?_
    refine j_icmp_ge (tgt := 40) hG dX5_init_18 (by decide) (by omega) (by omega) (fun c => ?_) (fun c => ?_)
    · have e : t = 12 := by omega
      subst e
      exact hN f1 gp ma h hp hm hs
    · refine j_aload_n hG dX5_init_21 rfl rfl ?_
      refine j_get hG fX5_11 dX5_init_22 h rfl ?_
      refine j_iload_n hG dX5_init_25 rfl rfl ?_
      refine j_mk hG dX5_init_26 dX5_init_29 dX5_init_30 (by omega) (by omega) (Nat.le_of_ble_eq_true rfl) (fun q f2 e0 hq fr => ?_)
      have h2 := (fr a (h_ne h e0 (oB_ne (by decide)))).trans h
      have hp2 := (fr pm (h_ne hp e0 aQ_ne)).trans hp
      refine j_ast5 hG dX5_init_33 hp2 (by omega) (by decide) hq (fun f3 h3 fr3 => ?_)
      have qp : q ≠ pm := h_ne hq hp2 oa_Q
      have ap : a ≠ pm := h_ne h hp oa_Q
      refine j_iinc (a := (t : Int)) (lv' := [(0, .ref a), (1, .int (iZ ((t : Int) + 1)))]) hG dX5_init_34 rfl (by decide) rfl ?_
      refine j_goto (tgt := 15) hG dX5_init_37 (by decide) ?_
      refine j_kn (k := 1 + (t + 1)) (n := 12 + 6 * (t + 1)) (by omega) (by omega) ?_
      have hq0 : f0 q = eN := by
        apply Classical.byContradiction
        intro hc
        have q1 := hs q hc (fun e => by rw [e, h] at e0; exact absurd e0 (oB_ne (by decide)))
        rw [e0] at q1; exact hc q1.symm
      have mq : ∀ i, 0 ≤ i → i < (t : Int) → ma i ≠ q := fun i i1 i2 e => by
        have := (hm.1 i i1 i2).2.1
        rw [e, e0] at this; exact absurd this.symm (oB_ne (by decide))
      have mp : ∀ i, 0 ≤ i → i < (t : Int) → ma i ≠ pm := fun i i1 i2 => h_ne (hm.1 i i1 i2).2.1 hp oa_Q
      refine ih (t + 1) _ (fup ma (t : Int) q) f3 ((fr3 a ap).trans h2) h3 ⟨fun i i1 i2 => ?_, fun i j i1 i2 j1 j2 e => ?_⟩ (fun b b1 b2 => (fr3 b (fun e => b1 (by rw [e]; exact hp0))).trans ((fr b (fun e => b1 (by rw [e]; exact hq0))).trans (hs b b1 b2))) (by omega) (by omega)
      · by_cases c1 : i = (t : Int)
        · rw [c1, fup_s, fup_s]; exact ⟨rfl, (fr3 q qp).trans hq, hq0⟩
        · rw [fup_n _ _ c1, fup_n _ _ c1]
          have m := hm.1 i i1 (by omega)
          exact ⟨m.1, (fr3 _ (mp i i1 (by omega))).trans ((fr _ (mq i i1 (by omega))).trans m.2.1), m.2.2⟩
      · by_cases c1 : i = (t : Int)
        · by_cases c2 : j = (t : Int)
          · omega
          · rw [c1, fup_s, fup_n _ _ c2] at e; exact absurd e.symm (mq j j1 (by omega))
        · by_cases c2 : j = (t : Int)
          · rw [c2, fup_s, fup_n _ _ c1] at e; exact absurd e (mq i i1 (by omega))
          · rw [fup_n _ _ c1, fup_n _ _ c2] at e; exact hm.2 i j i1 (by omega) j1 (by omega) e
theorem c_X5_init {l : Launch} {E : JE} {f : Hp} {a : Nat} (h : f a = oB 5 [.null, .int (iZ 0)]) : KX5_init l E [.ref a] f (fun v f' => v = none ∧ ∃ (pm : Nat) (gp : Int → Option Nat) (ma : Int → Nat), f' a = oB 5 [.ref pm, .int (iZ 0)] ∧ f' pm = aQ (E.2.1 5) 12 gp ∧ f pm = eN ∧ PMk f f' 12 gp ma ∧ stay f f' a) := by
  refine ct_ofI (own := RX5) (lv := [(0, .ref a)]) (by decide +kernel) rfl rfl (Nat.le_of_ble_eq_true rfl) rfl ?_
  intro G hG hZ hI
  refine j_aload_n hG dX5_init_0 rfl rfl ?_
  refine j_objInit hG vX5_3 dX5_init_1 (by decide) (by decide) ?_
  refine j_aload_n hG dX5_init_4 rfl rfl ?_
  refine j_bipush hG dX5_init_5 (by decide) ?_
  refine j_newQ5 (N := 12) hG nqX5_9 dX5_init_7 (by decide) (by decide) (by decide) (fun pm f1 e0 hp fr => ?_)
  have h1 := (fr a (h_ne h e0 (oB_ne (by decide)))).trans h
  refine j_putF hG hI pX5_11 dX5_init_10 h1 rfl rfl (Nat.le_of_ble_eq_true rfl) (fun f2 h2 fr2 => ?_)
  have h2 : f2 a = oB 5 [.ref pm, .int (iZ 0)] := h2
  have ap : pm ≠ a := h_ne hp h1 (Ne.symm oa_Q)
  have hp2 := (fr2 pm ap).trans hp
  refine j_iconst hG dX5_init_13 ?_
  refine j_istore_n (lv' := [(0, .ref a), (1, .int (iZ 0))]) hG dX5_init_14 rfl (by decide) rfl ?_
  refine j_kn (k := 1 + 0) (n := 12 + 6 * 0) rfl rfl ?_
  refine l_X5_init hG (a := a) (pm := pm) (f0 := f) (by rw [h]; exact oB_ne (by decide)) e0 (fun f' gp ma b1 b2 b3 b4 => ?_) 13 0 _ (fun _ => 0) f2 h2 hp2 ⟨fun i i1 i2 => by omega, fun i j i1 i2 => by omega⟩ (fun b b1 b2 => (fr2 b b2).trans (fr b (fun e => b1 (by rw [e]; exact e0)))) (by omega) (by omega)
  exact j_vret hG hZ dX5_init_40 (by decide) (by decide) ⟨rfl, pm, gp, ma, b1, b2, e0, b3, b4⟩
