noncomputable def stg (f g : Hp) (c : Nat) (r : Nat → Nat) : Nat → Nat := fun q => @ite Nat (f q = eN ∧ g q ≠ eN) (Classical.propDecidable _) c (r q)
theorem stg_y {f g : Hp} {c q : Nat} {r : Nat → Nat} (h : f q = eN ∧ g q ≠ eN) : stg f g c r q = c := if_pos h
theorem stg_n {f g : Hp} {c q : Nat} {r : Nat → Nat} (h : ¬ (f q = eN ∧ g q ≠ eN)) : stg f g c r q = r q := if_neg h
theorem stg_o {f g : Hp} {c c' q : Nat} {r : Nat → Nat} (h : stg f g c r q = c') (hc : c ≠ c') : r q = c' := by
  by_cases k : f q = eN ∧ g q ≠ eN
  · rw [stg_y k] at h; exact absurd h hc
  · rw [stg_n k] at h; exact h
theorem stg_i {f g : Hp} {c q : Nat} {r : Nat → Nat} (h : stg f g c r q = c) (hr : r q ≠ c) : f q = eN ∧ g q ≠ eN := by
  apply Classical.byContradiction
  intro k
  rw [stg_n k] at h; exact hr h
theorem stg_any {f g : Hp} {c : Nat} {r : Nat → Nat} {Q : Nat → Prop} (h1 : ∀ q, f q = eN ∧ g q ≠ eN → Q q) (h2 : ∀ q, r q ≠ 0 → Q q) : ∀ q, stg f g c r q ≠ 0 → Q q := fun q h => by
  by_cases k : f q = eN ∧ g q ≠ eN
  · exact h1 q k
  · rw [stg_n k] at h; exact h2 q h
theorem stg_le {f g : Hp} {c : Nat} {r : Nat → Nat} (hc : c ≤ 10) (h : ∀ q, r q ≤ 10) : ∀ q, stg f g c r q ≤ 10 := fun q => by
  by_cases k : f q = eN ∧ g q ≠ eN
  · rw [stg_y k]; exact hc
  · rw [stg_n k]; exact h q
def th0 : Int → Int := fup (fun _ => 0) 0 1
theorem ownr_0 (k : Int) : ownr th0 k = 0 := by
  have e : ∀ n : Nat, (bst th0 k (n + 1)).1 = 0 := fun n => by
    induction n with
    | zero =>
      have hw : 0 ≤ (k + 1) * (2 * ((0 : Nat) : Int) + 3) % 97 := Int.emod_nonneg _ (by decide)
      have t : th0 ((0 : Nat) : Int) = 1 := fup_s _ _ _
      rw [bst, if_pos ⟨by rw [t]; decide, by show (-1 : Int) < _; omega⟩]; rfl
    | succ n ih =>
      have t : th0 ((n + 1 : Nat) : Int) = 0 := fup_n _ _ (by omega)
      rw [bst, if_neg (fun q => q.1 t)]; exact ih
  exact e 7
abbrev S00 : ST := ((fun _ => 0), (fun _ => 0), 0, (fun _ _ => 0), 0, -1, 0, 0, [], [], (fun _ => 0), 0, th0, -1, 0)
theorem cok0 : cOk (fun _ => 0) := fun _ => ⟨Int.le_refl 0, show (0 : Int) < 2251799813685248 by decide⟩
theorem c_X11_init {l : Launch} {E : JE} {f : Hp} {x : Nat} (h : f x = oB 10 [.null, .null, .null, .null, .null, .null, .null, .null, .null, .int (iZ 0), .int (iZ 0), .int (iZ 0)]) : KX11_init l E [.ref x] f (fun v f' => v = none ∧ stay f f' x ∧ ∃ rg : Nat → Nat, CR E rg f' x S00 ∧ (∀ q, rg q ≠ 0 → q = x ∨ (f q = eN ∧ f' q ≠ eN)) ∧ (∀ q, rg q ≤ 10)) := by
  refine ct_ofI (own := RX11) (lv := [(0, .ref x)]) (by decide +kernel) rfl rfl (Nat.le_of_ble_eq_true rfl) rfl ?_
  intro G hG hZ hI
  refine j_aload_n hG dX11_init_0 rfl rfl ?_
  refine j_objInit hG vX11_1 dX11_init_1 (by decide) (by decide) ?_
  refine j_aload_n hG dX11_init_4 rfl rfl ?_
  refine j_new hG nX11_7 dX11_init_5 (by decide) (by decide) (fun lg olg elg hlg frlg => ?_)
  refine j_kn (k := 1) (n := 3) rfl rfl ?_
  have hxolg := (frlg x (h_ne h elg (oB_ne (by decide)))).trans h
  have solg : stay f olg x := stay_al elg frlg
  have nxlg : lg ≠ x := h_ne hlg hxolg (oo_n (by decide))
  have vlg : ∀ q, olg q = eN → f q = eN := fun q q1 => by
    apply Classical.byContradiction
    intro c
    by_cases e : q = x
    · rw [e, hxolg] at q1; exact absurd q1 (oB_ne (by decide))
    · exact c ((solg q c e).symm.trans q1)
  refine j_dup hG dX11_init_8 rfl ?_
  refine j_callIA (rest := [.ref lg, .ref x]) hG vX11_9 dX11_init_9 (c_X2_init hlg) rfl rfl (by decide) (by decide) (Nat.le_of_ble_eq_true rfl) (Nat.le_of_ble_eq_true rfl) (Nat.le_of_ble_eq_true rfl) ?_
  rintro _ ilg ⟨rfl, plg, ulg, k1lg, k2lg, k3lg, k4lg, k5lg, wlg⟩
  refine j_kn (k := 3) (n := 303) rfl rfl ?_
  refine j_st (st' := [.ref lg, .ref x]) rfl ?_
  have swlg : stay olg ilg lg := (fun q q1 q2 => wlg q q2 (fun e => q1 (by rw [e]; exact k4lg)) (fun e => q1 (by rw [e]; exact k5lg)))
  have hxilg := (swlg x (by rw [hxolg]; exact oB_ne (by decide)) (Ne.symm nxlg)).trans hxolg
  have silg : stay f ilg x := fun q q1 q2 => (swlg q (by rw [solg q q1 q2]; exact q1) (fun e => q1 (by rw [e]; exact elg))).trans (solg q q1 q2)
  refine j_putF hG hI pX11_10 dX11_init_12 hxilg rfl rfl (Nat.le_of_ble_eq_true rfl) (fun glg hglg frglg => ?_)
  have hglg : glg x = oB 10 [.ref lg, .null, .null, .null, .null, .null, .null, .null, .null, .int (iZ 0), .int (iZ 0), .int (iZ 0)] := hglg
  have sglg : stay f glg x := stay_tr silg (stay_put frglg)
  have Blg : ∀ rg : Nat → Nat, rg x ≠ 2 → (∀ q, f q = eN → glg q ≠ eN → rg q = 2) → CLog E rg glg lg (fun _ => 0) (fun _ => 0) 0 := fun rg rx rn => by
    have cl : ∀ q y, f q = eN → q ≠ x → ilg q = y → y ≠ eN → rg q = 2 := fun q y q1 q2 q3 q4 => rn q q1 (by rw [frglg q q2, q3]; exact q4)
    have np : plg ≠ x := h_ne k2lg hxilg (Ne.symm oa_I)
    have nu : ulg ≠ x := h_ne k3lg hxilg (Ne.symm oa_J)
    exact ⟨plg, ulg, (frglg lg nxlg).trans k1lg, (frglg plg np).trans k2lg, (frglg ulg nu).trans k3lg, cl lg _ elg nxlg k1lg (oB_ne (by decide)), cl plg _ (vlg _ k4lg) np k2lg aI_ne, cl ulg _ (vlg _ k5lg) nu k3lg aJ_ne⟩
  refine j_aload_n hG dX11_init_15 rfl rfl ?_
  refine j_new hG nX11_16 dX11_init_16 (by decide) (by decide) (fun tp otp etp htp frtp => ?_)
  refine j_kn (k := 4) (n := 307) rfl rfl ?_
  have hxotp := (frtp x (h_ne hglg etp (oB_ne (by decide)))).trans hglg
  have sotp : stay glg otp x := stay_al etp frtp
  have nxtp : tp ≠ x := h_ne htp hxotp (oo_n (by decide))
  have vtp : ∀ q, otp q = eN → glg q = eN := fun q q1 => by
    apply Classical.byContradiction
    intro c
    by_cases e : q = x
    · rw [e, hxotp] at q1; exact absurd q1 (oB_ne (by decide))
    · exact c ((sotp q c e).symm.trans q1)
  refine j_dup hG dX11_init_19 rfl ?_
  refine j_callIA (rest := [.ref tp, .ref x]) hG vX11_18 dX11_init_20 (c_X10_init htp) rfl rfl (by decide) (by decide) (Nat.le_of_ble_eq_true rfl) (Nat.le_of_ble_eq_true rfl) (Nat.le_of_ble_eq_true rfl) ?_
  rintro _ itp ⟨rfl, ptp, k1tp, k2tp, k4tp, wtp⟩
  refine j_kn (k := 5) (n := 607) rfl rfl ?_
  refine j_st (st' := [.ref tp, .ref x]) rfl ?_
  have swtp : stay otp itp tp := (fun q q1 q2 => wtp q q2 (fun e => q1 (by rw [e]; exact k4tp)))
  have hxitp := (swtp x (by rw [hxotp]; exact oB_ne (by decide)) (Ne.symm nxtp)).trans hxotp
  have sitp : stay glg itp x := fun q q1 q2 => (swtp q (by rw [sotp q q1 q2]; exact q1) (fun e => q1 (by rw [e]; exact etp))).trans (sotp q q1 q2)
  refine j_putF hG hI pX11_19 dX11_init_23 hxitp rfl rfl (Nat.le_of_ble_eq_true rfl) (fun gtp hgtp frgtp => ?_)
  have hgtp : gtp x = oB 10 [.ref lg, .ref tp, .null, .null, .null, .null, .null, .null, .null, .int (iZ 0), .int (iZ 0), .int (iZ 0)] := hgtp
  have sgtp : stay glg gtp x := stay_tr sitp (stay_put frgtp)
  have Btp : ∀ rg : Nat → Nat, rg x ≠ 3 → (∀ q, glg q = eN → gtp q ≠ eN → rg q = 3) → CTape E rg gtp tp (fun _ => 0) 0 := fun rg rx rn => by
    have cl : ∀ q y, glg q = eN → q ≠ x → itp q = y → y ≠ eN → rg q = 3 := fun q y q1 q2 q3 q4 => rn q q1 (by rw [frgtp q q2, q3]; exact q4)
    have np : ptp ≠ x := h_ne k2tp hxitp (Ne.symm oa_I)
    exact ⟨ptp, 0, 0, (frgtp tp nxtp).trans k1tp, (frgtp ptp np).trans k2tp, cl tp _ etp nxtp k1tp (oB_ne (by decide)), cl ptp _ (vtp _ k4tp) np k2tp aI_ne⟩
  refine j_aload_n hG dX11_init_26 rfl rfl ?_
  refine j_new hG nX11_23 dX11_init_27 (by decide) (by decide) (fun pa opa epa hpa frpa => ?_)
  refine j_kn (k := 6) (n := 608) rfl rfl ?_
  have hxopa := (frpa x (h_ne hgtp epa (oB_ne (by decide)))).trans hgtp
  have sopa : stay gtp opa x := stay_al epa frpa
  have nxpa : pa ≠ x := h_ne hpa hxopa (oo_n (by decide))
  have vpa : ∀ q, opa q = eN → gtp q = eN := fun q q1 => by
    apply Classical.byContradiction
    intro c
    by_cases e : q = x
    · rw [e, hxopa] at q1; exact absurd q1 (oB_ne (by decide))
    · exact c ((sopa q c e).symm.trans q1)
  refine j_dup hG dX11_init_30 rfl ?_
  refine j_callIA (rest := [.ref pa, .ref x]) hG vX11_25 dX11_init_31 (c_X4_init hpa) rfl rfl (by decide) (by decide) (Nat.le_of_ble_eq_true rfl) (Nat.le_of_ble_eq_true rfl) (Nat.le_of_ble_eq_true rfl) ?_
  rintro _ ipa ⟨rfl, ppa, k1pa, k2pa, k4pa, wpa⟩
  refine j_kn (k := 7) (n := 634) rfl rfl ?_
  refine j_st (st' := [.ref pa, .ref x]) rfl ?_
  have swpa : stay opa ipa pa := (fun q q1 q2 => wpa q q2 (fun e => q1 (by rw [e]; exact k4pa)))
  have hxipa := (swpa x (by rw [hxopa]; exact oB_ne (by decide)) (Ne.symm nxpa)).trans hxopa
  have sipa : stay gtp ipa x := fun q q1 q2 => (swpa q (by rw [sopa q q1 q2]; exact q1) (fun e => q1 (by rw [e]; exact epa))).trans (sopa q q1 q2)
  refine j_putF hG hI pX11_26 dX11_init_34 hxipa rfl rfl (Nat.le_of_ble_eq_true rfl) (fun gpa hgpa frgpa => ?_)
  have hgpa : gpa x = oB 10 [.ref lg, .ref tp, .ref pa, .null, .null, .null, .null, .null, .null, .int (iZ 0), .int (iZ 0), .int (iZ 0)] := hgpa
  have sgpa : stay gtp gpa x := stay_tr sipa (stay_put frgpa)
  have Bpa : ∀ rg : Nat → Nat, rg x ≠ 4 → (∀ q, gtp q = eN → gpa q ≠ eN → rg q = 4) → CPar E rg gpa pa := fun rg rx rn => by
    have cl : ∀ q y, gtp q = eN → q ≠ x → ipa q = y → y ≠ eN → rg q = 4 := fun q y q1 q2 q3 q4 => rn q q1 (by rw [frgpa q q2, q3]; exact q4)
    have np : ppa ≠ x := h_ne k2pa hxipa (Ne.symm oa_I)
    exact ⟨ppa, _, (frgpa pa nxpa).trans k1pa, (frgpa ppa np).trans k2pa, cl pa _ epa nxpa k1pa (oB_ne (by decide)), cl ppa _ (vpa _ k4pa) np k2pa aI_ne⟩
  refine j_aload_n hG dX11_init_37 rfl rfl ?_
  refine j_new hG nX11_30 dX11_init_38 (by decide) (by decide) (fun T oT eT hT frT => ?_)
  refine j_kn (k := 8) (n := 642) rfl rfl ?_
  have hxoT := (frT x (h_ne hgpa eT (oB_ne (by decide)))).trans hgpa
  have soT : stay gpa oT x := stay_al eT frT
  have nxT : T ≠ x := h_ne hT hxoT (oo_n (by decide))
  have vT : ∀ q, oT q = eN → gpa q = eN := fun q q1 => by
    apply Classical.byContradiction
    intro c
    by_cases e : q = x
    · rw [e, hxoT] at q1; exact absurd q1 (oB_ne (by decide))
    · exact c ((soT q c e).symm.trans q1)
  refine j_dup hG dX11_init_41 rfl ?_
  refine j_callIA (rest := [.ref T, .ref x]) hG vX11_32 dX11_init_42 (c_X9_init hT) rfl rfl (by decide) (by decide) (Nat.le_of_ble_eq_true rfl) (Nat.le_of_ble_eq_true rfl) (Nat.le_of_ble_eq_true rfl) ?_
  rintro _ iT ⟨rfl, wT, k1T⟩
  refine j_kn (k := 115) (n := 16173) rfl rfl ?_
  refine j_st (st' := [.ref T, .ref x]) rfl ?_
  have swT : stay oT iT T := wT
  have hxiT := (swT x (by rw [hxoT]; exact oB_ne (by decide)) (Ne.symm nxT)).trans hxoT
  have siT : stay gpa iT x := fun q q1 q2 => (swT q (by rw [soT q q1 q2]; exact q1) (fun e => q1 (by rw [e]; exact eT))).trans (soT q q1 q2)
  refine j_putF hG hI pX11_33 dX11_init_45 hxiT rfl rfl (Nat.le_of_ble_eq_true rfl) (fun gT hgT frgT => ?_)
  have hgT : gT x = oB 10 [.ref lg, .ref tp, .ref pa, .ref T, .null, .null, .null, .null, .null, .int (iZ 0), .int (iZ 0), .int (iZ 0)] := hgT
  have sgT : stay gpa gT x := stay_tr siT (stay_put frgT)
  have BT : ∀ rg : Nat → Nat, rg x ≠ 5 → (∀ q, gpa q = eN → gT q ≠ eN → rg q = 5) → CTab E rg gT T (fun _ _ => 0) 0 (fun _ _ => 0) 0 (fun _ => ([], 0)) (fun _ => 0) := fun rg rx rn => by
    have cl : ∀ q y, gpa q = eN → q ≠ x → iT q = y → y ≠ eN → rg q = 5 := fun q y q1 q2 q3 q4 => rn q q1 (by rw [frgT q q2, q3]; exact q4)
    have hT : iT T ≠ eN := fun q => by
      have := CTab_hd (k1T (fun _ => 5) rfl (fun _ _ _ => rfl))
      obtain ⟨fs, hf⟩ := this
      rw [q] at hf; exact absurd hf.symm (oB_ne (by decide))
    have rT : rg T = 5 := rn T eT (by rw [frgT T nxT]; exact hT)
    refine CTab_kept (k1T rg rT (fun q q1 q2 => rn q (vT _ q1) (by rw [frgT q (fun e => by rw [e, hxoT] at q1; exact absurd q1 (oB_ne (by decide)))]; exact q2))) (fun q hq => frgT q (fun e => rx (by rw [← e]; exact hq)))
  refine j_aload_n hG dX11_init_48 rfl rfl ?_
  refine j_new hG nX11_37 dX11_init_49 (by decide) (by decide) (fun wt owt ewt hwt frwt => ?_)
  refine j_kn (k := 116) (n := 16175) rfl rfl ?_
  have hxowt := (frwt x (h_ne hgT ewt (oB_ne (by decide)))).trans hgT
  have sowt : stay gT owt x := stay_al ewt frwt
  have nxwt : wt ≠ x := h_ne hwt hxowt (oo_n (by decide))
  have vwt : ∀ q, owt q = eN → gT q = eN := fun q q1 => by
    apply Classical.byContradiction
    intro c
    by_cases e : q = x
    · rw [e, hxowt] at q1; exact absurd q1 (oB_ne (by decide))
    · exact c ((sowt q c e).symm.trans q1)
  refine j_dup hG dX11_init_52 rfl ?_
  refine j_callIA (rest := [.ref wt, .ref x]) hG vX11_39 dX11_init_53 (c_X0_init hwt) rfl rfl (by decide) (by decide) (Nat.le_of_ble_eq_true rfl) (Nat.le_of_ble_eq_true rfl) (Nat.le_of_ble_eq_true rfl) ?_
  rintro _ iwt ⟨rfl, pwt, k1wt, k2wt, k4wt, wwt⟩
  refine j_kn (k := 117) (n := 20175) rfl rfl ?_
  refine j_st (st' := [.ref wt, .ref x]) rfl ?_
  have swwt : stay owt iwt wt := (fun q q1 q2 => wwt q q2 (fun e => q1 (by rw [e]; exact k4wt)))
  have hxiwt := (swwt x (by rw [hxowt]; exact oB_ne (by decide)) (Ne.symm nxwt)).trans hxowt
  have siwt : stay gT iwt x := fun q q1 q2 => (swwt q (by rw [sowt q q1 q2]; exact q1) (fun e => q1 (by rw [e]; exact ewt))).trans (sowt q q1 q2)
  refine j_putF hG hI pX11_40 dX11_init_56 hxiwt rfl rfl (Nat.le_of_ble_eq_true rfl) (fun gwt hgwt frgwt => ?_)
  have hgwt : gwt x = oB 10 [.ref lg, .ref tp, .ref pa, .ref T, .ref wt, .null, .null, .null, .null, .int (iZ 0), .int (iZ 0), .int (iZ 0)] := hgwt
  have sgwt : stay gT gwt x := stay_tr siwt (stay_put frgwt)
  have Bwt : ∀ rg : Nat → Nat, rg x ≠ 6 → (∀ q, gT q = eN → gwt q ≠ eN → rg q = 6) → CChg E rg gwt 6 wt [] := fun rg rx rn => by
    have cl : ∀ q y, gT q = eN → q ≠ x → iwt q = y → y ≠ eN → rg q = 6 := fun q y q1 q2 q3 q4 => rn q q1 (by rw [frgwt q q2, q3]; exact q4)
    have np : pwt ≠ x := h_ne k2wt hxiwt (Ne.symm oa_J)
    exact ⟨pwt, fun _ => 0, (frgwt wt nxwt).trans k1wt, (frgwt pwt np).trans k2wt, cok0, seg_nil (Int.le_refl _), Nat.zero_le _, cl wt _ ewt nxwt k1wt (oB_ne (by decide)), cl pwt _ (vwt _ k4wt) np k2wt aJ_ne⟩
  refine j_aload_n hG dX11_init_59 rfl rfl ?_
  refine j_new hG nX11_37 dX11_init_60 (by decide) (by decide) (fun to oto eto hto frto => ?_)
  refine j_kn (k := 118) (n := 20177) rfl rfl ?_
  have hxoto := (frto x (h_ne hgwt eto (oB_ne (by decide)))).trans hgwt
  have soto : stay gwt oto x := stay_al eto frto
  have nxto : to ≠ x := h_ne hto hxoto (oo_n (by decide))
  have vto : ∀ q, oto q = eN → gwt q = eN := fun q q1 => by
    apply Classical.byContradiction
    intro c
    by_cases e : q = x
    · rw [e, hxoto] at q1; exact absurd q1 (oB_ne (by decide))
    · exact c ((soto q c e).symm.trans q1)
  refine j_dup hG dX11_init_63 rfl ?_
  refine j_callIA (rest := [.ref to, .ref x]) hG vX11_39 dX11_init_64 (c_X0_init hto) rfl rfl (by decide) (by decide) (Nat.le_of_ble_eq_true rfl) (Nat.le_of_ble_eq_true rfl) (Nat.le_of_ble_eq_true rfl) ?_
  rintro _ ito ⟨rfl, pto, k1to, k2to, k4to, wto⟩
  refine j_kn (k := 119) (n := 24177) rfl rfl ?_
  refine j_st (st' := [.ref to, .ref x]) rfl ?_
  have swto : stay oto ito to := (fun q q1 q2 => wto q q2 (fun e => q1 (by rw [e]; exact k4to)))
  have hxito := (swto x (by rw [hxoto]; exact oB_ne (by decide)) (Ne.symm nxto)).trans hxoto
  have sito : stay gwt ito x := fun q q1 q2 => (swto q (by rw [soto q q1 q2]; exact q1) (fun e => q1 (by rw [e]; exact eto))).trans (soto q q1 q2)
  refine j_putF hG hI pX11_44 dX11_init_67 hxito rfl rfl (Nat.le_of_ble_eq_true rfl) (fun gto hgto frgto => ?_)
  have hgto : gto x = oB 10 [.ref lg, .ref tp, .ref pa, .ref T, .ref wt, .ref to, .null, .null, .null, .int (iZ 0), .int (iZ 0), .int (iZ 0)] := hgto
  have sgto : stay gwt gto x := stay_tr sito (stay_put frgto)
  have Bto : ∀ rg : Nat → Nat, rg x ≠ 7 → (∀ q, gwt q = eN → gto q ≠ eN → rg q = 7) → CChg E rg gto 7 to [] := fun rg rx rn => by
    have cl : ∀ q y, gwt q = eN → q ≠ x → ito q = y → y ≠ eN → rg q = 7 := fun q y q1 q2 q3 q4 => rn q q1 (by rw [frgto q q2, q3]; exact q4)
    have np : pto ≠ x := h_ne k2to hxito (Ne.symm oa_J)
    exact ⟨pto, fun _ => 0, (frgto to nxto).trans k1to, (frgto pto np).trans k2to, cok0, seg_nil (Int.le_refl _), Nat.zero_le _, cl to _ eto nxto k1to (oB_ne (by decide)), cl pto _ (vto _ k4to) np k2to aJ_ne⟩
  refine j_aload_n hG dX11_init_70 rfl rfl ?_
  refine j_new hG nX11_47 dX11_init_71 (by decide) (by decide) (fun ho oho eho hho frho => ?_)
  refine j_kn (k := 120) (n := 24180) rfl rfl ?_
  have hxoho := (frho x (h_ne hgto eho (oB_ne (by decide)))).trans hgto
  have soho : stay gto oho x := stay_al eho frho
  have nxho : ho ≠ x := h_ne hho hxoho (oo_n (by decide))
  have vho : ∀ q, oho q = eN → gto q = eN := fun q q1 => by
    apply Classical.byContradiction
    intro c
    by_cases e : q = x
    · rw [e, hxoho] at q1; exact absurd q1 (oB_ne (by decide))
    · exact c ((soho q c e).symm.trans q1)
  refine j_dup hG dX11_init_74 rfl ?_
  refine j_callIA (rest := [.ref ho, .ref x]) hG vX11_49 dX11_init_75 (c_X1_init hho) rfl rfl (by decide) (by decide) (Nat.le_of_ble_eq_true rfl) (Nat.le_of_ble_eq_true rfl) (Nat.le_of_ble_eq_true rfl) ?_
  rintro _ iho ⟨rfl, pho, uho, k1ho, k2ho, k3ho, k4ho, k5ho, who⟩
  refine j_kn (k := 122) (n := 24220) rfl rfl ?_
  refine j_st (st' := [.ref ho, .ref x]) rfl ?_
  have swho : stay oho iho ho := (fun q q1 q2 => who q q2 (fun e => q1 (by rw [e]; exact k4ho)) (fun e => q1 (by rw [e]; exact k5ho)))
  have hxiho := (swho x (by rw [hxoho]; exact oB_ne (by decide)) (Ne.symm nxho)).trans hxoho
  have siho : stay gto iho x := fun q q1 q2 => (swho q (by rw [soho q q1 q2]; exact q1) (fun e => q1 (by rw [e]; exact eho))).trans (soho q q1 q2)
  refine j_putF hG hI pX11_50 dX11_init_78 hxiho rfl rfl (Nat.le_of_ble_eq_true rfl) (fun gho hgho frgho => ?_)
  have hgho : gho x = oB 10 [.ref lg, .ref tp, .ref pa, .ref T, .ref wt, .ref to, .ref ho, .null, .null, .int (iZ 0), .int (iZ 0), .int (iZ 0)] := hgho
  have sgho : stay gto gho x := stay_tr siho (stay_put frgho)
  have Bho : ∀ rg : Nat → Nat, rg x ≠ 8 → (∀ q, gto q = eN → gho q ≠ eN → rg q = 8) → CHos E rg gho ho th0 := fun rg rx rn => by
    have cl : ∀ q y, gto q = eN → q ≠ x → iho q = y → y ≠ eN → rg q = 8 := fun q y q1 q2 q3 q4 => rn q q1 (by rw [frgho q q2, q3]; exact q4)
    have np : pho ≠ x := h_ne k2ho hxiho (Ne.symm oa_I)
    have nu : uho ≠ x := h_ne k3ho hxiho (Ne.symm oa_I)
    exact ⟨pho, uho, fun _ => 0, (frgho ho nxho).trans k1ho, (frgho pho np).trans k2ho, (frgho uho nu).trans k3ho, fun k _ _ => (ownr_0 k).symm, cl ho _ eho nxho k1ho (oB_ne (by decide)), cl pho _ (vho _ k4ho) np k2ho aI_ne, cl uho _ (vho _ k5ho) nu k3ho aI_ne⟩
  refine j_aload_n hG dX11_init_81 rfl rfl ?_
  refine j_new hG nX11_54 dX11_init_82 (by decide) (by decide) (fun nw onw enw hnw frnw => ?_)
  refine j_kn (k := 123) (n := 24223) rfl rfl ?_
  have hxonw := (frnw x (h_ne hgho enw (oB_ne (by decide)))).trans hgho
  have sonw : stay gho onw x := stay_al enw frnw
  have nxnw : nw ≠ x := h_ne hnw hxonw (oo_n (by decide))
  have vnw : ∀ q, onw q = eN → gho q = eN := fun q q1 => by
    apply Classical.byContradiction
    intro c
    by_cases e : q = x
    · rw [e, hxonw] at q1; exact absurd q1 (oB_ne (by decide))
    · exact c ((sonw q c e).symm.trans q1)
  refine j_dup hG dX11_init_85 rfl ?_
  refine j_callI (rest := [.ref nw, .ref x]) hG vX11_56 dX11_init_86 (c_X6_init hnw) rfl rfl (by decide) (by decide) (Nat.le_of_ble_eq_true rfl) rfl rfl (Nat.le_of_ble_eq_true rfl) (Nat.le_of_ble_eq_true rfl) ?_
  rintro _ inw ⟨rfl, k1nw, wnw⟩
  refine j_kn (k := 123) (n := 24223) rfl rfl ?_
  refine j_st (st' := [.ref nw, .ref x]) rfl ?_
  have swnw : stay onw inw nw := (fun q _ q2 => wnw q q2)
  have hxinw := (swnw x (by rw [hxonw]; exact oB_ne (by decide)) (Ne.symm nxnw)).trans hxonw
  have sinw : stay gho inw x := fun q q1 q2 => (swnw q (by rw [sonw q q1 q2]; exact q1) (fun e => q1 (by rw [e]; exact enw))).trans (sonw q q1 q2)
  refine j_putF hG hI pX11_57 dX11_init_89 hxinw rfl rfl (Nat.le_of_ble_eq_true rfl) (fun gnw hgnw frgnw => ?_)
  have hgnw : gnw x = oB 10 [.ref lg, .ref tp, .ref pa, .ref T, .ref wt, .ref to, .ref ho, .ref nw, .null, .int (iZ 0), .int (iZ 0), .int (iZ 0)] := hgnw
  have sgnw : stay gho gnw x := stay_tr sinw (stay_put frgnw)
  have Bnw : ∀ rg : Nat → Nat, rg x ≠ 9 → (∀ q, gho q = eN → gnw q ≠ eN → rg q = 9) → CPrg E rg gnw 9 nw 0 0 (-1) := fun rg rx rn => by
    have cl : ∀ q y, gho q = eN → q ≠ x → inw q = y → y ≠ eN → rg q = 9 := fun q y q1 q2 q3 q4 => rn q q1 (by rw [frgnw q q2, q3]; exact q4)
    exact ⟨(frgnw nw nxnw).trans k1nw, cl nw _ enw nxnw k1nw (oB_ne (by decide))⟩
  refine j_aload_n hG dX11_init_92 rfl rfl ?_
  refine j_new hG nX11_54 dX11_init_93 (by decide) (by decide) (fun kp okp ekp hkp frkp => ?_)
  refine j_kn (k := 124) (n := 24226) rfl rfl ?_
  have hxokp := (frkp x (h_ne hgnw ekp (oB_ne (by decide)))).trans hgnw
  have sokp : stay gnw okp x := stay_al ekp frkp
  have nxkp : kp ≠ x := h_ne hkp hxokp (oo_n (by decide))
  have vkp : ∀ q, okp q = eN → gnw q = eN := fun q q1 => by
    apply Classical.byContradiction
    intro c
    by_cases e : q = x
    · rw [e, hxokp] at q1; exact absurd q1 (oB_ne (by decide))
    · exact c ((sokp q c e).symm.trans q1)
  refine j_dup hG dX11_init_96 rfl ?_
  refine j_callI (rest := [.ref kp, .ref x]) hG vX11_56 dX11_init_97 (c_X6_init hkp) rfl rfl (by decide) (by decide) (Nat.le_of_ble_eq_true rfl) rfl rfl (Nat.le_of_ble_eq_true rfl) (Nat.le_of_ble_eq_true rfl) ?_
  rintro _ ikp ⟨rfl, k1kp, wkp⟩
  refine j_kn (k := 124) (n := 24226) rfl rfl ?_
  refine j_st (st' := [.ref kp, .ref x]) rfl ?_
  have swkp : stay okp ikp kp := (fun q _ q2 => wkp q q2)
  have hxikp := (swkp x (by rw [hxokp]; exact oB_ne (by decide)) (Ne.symm nxkp)).trans hxokp
  have sikp : stay gnw ikp x := fun q q1 q2 => (swkp q (by rw [sokp q q1 q2]; exact q1) (fun e => q1 (by rw [e]; exact ekp))).trans (sokp q q1 q2)
  refine j_putF hG hI pX11_61 dX11_init_100 hxikp rfl rfl (Nat.le_of_ble_eq_true rfl) (fun gkp hgkp frgkp => ?_)
  have hgkp : gkp x = oB 10 [.ref lg, .ref tp, .ref pa, .ref T, .ref wt, .ref to, .ref ho, .ref nw, .ref kp, .int (iZ 0), .int (iZ 0), .int (iZ 0)] := hgkp
  have sgkp : stay gnw gkp x := stay_tr sikp (stay_put frgkp)
  have Bkp : ∀ rg : Nat → Nat, rg x ≠ 10 → (∀ q, gnw q = eN → gkp q ≠ eN → rg q = 10) → CPrg E rg gkp 10 kp 0 0 (-1) := fun rg rx rn => by
    have cl : ∀ q y, gnw q = eN → q ≠ x → ikp q = y → y ≠ eN → rg q = 10 := fun q y q1 q2 q3 q4 => rn q q1 (by rw [frgkp q q2, q3]; exact q4)
    exact ⟨(frgkp kp nxkp).trans k1kp, cl kp _ ekp nxkp k1kp (oB_ne (by decide))⟩
  refine j_aload_n hG dX11_init_103 rfl rfl ?_
  refine j_iconst hG dX11_init_104 ?_
  refine j_put hG pX11_64 dX11_init_105 hgkp rfl rfl (Nat.le_of_ble_eq_true rfl) (fun yla hyla fryla => ?_)
  have hyla : yla x = oB 10 [.ref lg, .ref tp, .ref pa, .ref T, .ref wt, .ref to, .ref ho, .ref nw, .ref kp, .int (iZ (-1)), .int (iZ 0), .int (iZ 0)] := hyla
  have syla : stay gkp yla x := stay_put fryla
  refine j_aload_n hG dX11_init_108 rfl rfl ?_
  refine j_iconst hG dX11_init_109 ?_
  refine j_put hG pX11_68 dX11_init_110 hyla rfl rfl (Nat.le_of_ble_eq_true rfl) (fun yfa hyfa fryfa => ?_)
  have hyfa : yfa x = oB 10 [.ref lg, .ref tp, .ref pa, .ref T, .ref wt, .ref to, .ref ho, .ref nw, .ref kp, .int (iZ (-1)), .int (iZ (-1)), .int (iZ 0)] := hyfa
  have syfa : stay yla yfa x := stay_put fryfa
  refine j_aload_n hG dX11_init_113 rfl rfl ?_
  refine j_iconst hG dX11_init_114 ?_
  refine j_put hG pX11_71 dX11_init_115 hyfa rfl rfl (Nat.le_of_ble_eq_true rfl) (fun yre hyre fryre => ?_)
  have hyre : yre x = oB 10 [.ref lg, .ref tp, .ref pa, .ref T, .ref wt, .ref to, .ref ho, .ref nw, .ref kp, .int (iZ (-1)), .int (iZ (-1)), .int (iZ 0)] := hyre
  have syre : stay yfa yre x := stay_put fryre
  have sE : stay f yre x := (stay_tr sglg (stay_tr sgtp (stay_tr sgpa (stay_tr sgT (stay_tr sgwt (stay_tr sgto (stay_tr sgho (stay_tr sgnw (stay_tr sgkp (stay_tr syla (stay_tr syfa syre)))))))))))
  obtain ⟨rg, hrg⟩ : ∃ rg : Nat → Nat, rg = (stg f glg 2 (stg glg gtp 3 (stg gtp gpa 4 (stg gpa gT 5 (stg gT gwt 6 (stg gwt gto 7 (stg gto gho 8 (stg gho gnw 9 (stg gnw gkp 10 (fun q => if q = x then 1 else 0)))))))))) := ⟨_, rfl⟩
  have xxlg : f x ≠ eN := by rw [h]; exact oB_ne (by decide)
  have xxtp : glg x ≠ eN := by rw [hglg]; exact oB_ne (by decide)
  have xxpa : gtp x ≠ eN := by rw [hgtp]; exact oB_ne (by decide)
  have xxT : gpa x ≠ eN := by rw [hgpa]; exact oB_ne (by decide)
  have xxwt : gT x ≠ eN := by rw [hgT]; exact oB_ne (by decide)
  have xxto : gwt x ≠ eN := by rw [hgwt]; exact oB_ne (by decide)
  have xxho : gto x ≠ eN := by rw [hgto]; exact oB_ne (by decide)
  have xxnw : gho x ≠ eN := by rw [hgho]; exact oB_ne (by decide)
  have xxkp : gnw x ≠ eN := by rw [hgnw]; exact oB_ne (by decide)
  have rx : rg x = 1 := by
    rw [hrg, stg_n (fun q => xxlg q.1), stg_n (fun q => xxtp q.1), stg_n (fun q => xxpa q.1), stg_n (fun q => xxT q.1), stg_n (fun q => xxwt q.1), stg_n (fun q => xxto q.1), stg_n (fun q => xxho q.1), stg_n (fun q => xxnw q.1), stg_n (fun q => xxkp q.1)]; exact if_pos rfl
  have fwlg : ∀ q, f q = eN → glg q ≠ eN → rg q = 2 := fun q q1 q2 => by
    have qx : q ≠ x := fun e => xxlg (by rw [← e]; exact q1)
    rw [hrg, stg_y ⟨q1, q2⟩]
  have bklg : ∀ q, rg q = 2 → yre q = glg q := fun q hq => by
    rw [hrg] at hq
    have q1 := stg_i hq (fun z => by have z1 := (stg_o (stg_o (stg_o (stg_o (stg_o (stg_o (stg_o (stg_o z (by decide)) (by decide)) (by decide)) (by decide)) (by decide)) (by decide)) (by decide)) (by decide)); by_cases e : q = x; (rw [if_pos e] at z1; exact absurd z1 (by decide)); (rw [if_neg e] at z1; exact absurd z1 (by decide)))
    exact (stay_tr sgtp (stay_tr sgpa (stay_tr sgT (stay_tr sgwt (stay_tr sgto (stay_tr sgho (stay_tr sgnw (stay_tr sgkp (stay_tr syla (stay_tr syfa syre)))))))))) q q1.2 (fun e => xxlg (by rw [← e]; exact q1.1))
  have fwtp : ∀ q, glg q = eN → gtp q ≠ eN → rg q = 3 := fun q q1 q2 => by
    have qx : q ≠ x := fun e => xxtp (by rw [← e]; exact q1)
    rw [hrg, stg_n (fun z => z.2 q1), stg_y ⟨q1, q2⟩]
  have bktp : ∀ q, rg q = 3 → yre q = gtp q := fun q hq => by
    rw [hrg] at hq
    have q1 := stg_i (stg_o hq (by decide)) (fun z => by have z1 := (stg_o (stg_o (stg_o (stg_o (stg_o (stg_o (stg_o z (by decide)) (by decide)) (by decide)) (by decide)) (by decide)) (by decide)) (by decide)); by_cases e : q = x; (rw [if_pos e] at z1; exact absurd z1 (by decide)); (rw [if_neg e] at z1; exact absurd z1 (by decide)))
    exact (stay_tr sgpa (stay_tr sgT (stay_tr sgwt (stay_tr sgto (stay_tr sgho (stay_tr sgnw (stay_tr sgkp (stay_tr syla (stay_tr syfa syre))))))))) q q1.2 (fun e => xxtp (by rw [← e]; exact q1.1))
  have fwpa : ∀ q, gtp q = eN → gpa q ≠ eN → rg q = 4 := fun q q1 q2 => by
    have qx : q ≠ x := fun e => xxpa (by rw [← e]; exact q1)
    rw [hrg, stg_n (fun z => z.2 (by have z1 := sgtp; apply Classical.byContradiction; intro z2; exact z2 ((z1 q z2 qx).symm.trans q1))), stg_n (fun z => z.2 q1), stg_y ⟨q1, q2⟩]
  have bkpa : ∀ q, rg q = 4 → yre q = gpa q := fun q hq => by
    rw [hrg] at hq
    have q1 := stg_i (stg_o (stg_o hq (by decide)) (by decide)) (fun z => by have z1 := (stg_o (stg_o (stg_o (stg_o (stg_o (stg_o z (by decide)) (by decide)) (by decide)) (by decide)) (by decide)) (by decide)); by_cases e : q = x; (rw [if_pos e] at z1; exact absurd z1 (by decide)); (rw [if_neg e] at z1; exact absurd z1 (by decide)))
    exact (stay_tr sgT (stay_tr sgwt (stay_tr sgto (stay_tr sgho (stay_tr sgnw (stay_tr sgkp (stay_tr syla (stay_tr syfa syre)))))))) q q1.2 (fun e => xxpa (by rw [← e]; exact q1.1))
  have fwT : ∀ q, gpa q = eN → gT q ≠ eN → rg q = 5 := fun q q1 q2 => by
    have qx : q ≠ x := fun e => xxT (by rw [← e]; exact q1)
    rw [hrg, stg_n (fun z => z.2 (by have z1 := (stay_tr sgtp sgpa); apply Classical.byContradiction; intro z2; exact z2 ((z1 q z2 qx).symm.trans q1))), stg_n (fun z => z.2 (by have z1 := sgpa; apply Classical.byContradiction; intro z2; exact z2 ((z1 q z2 qx).symm.trans q1))), stg_n (fun z => z.2 q1), stg_y ⟨q1, q2⟩]
  have bkT : ∀ q, rg q = 5 → yre q = gT q := fun q hq => by
    rw [hrg] at hq
    have q1 := stg_i (stg_o (stg_o (stg_o hq (by decide)) (by decide)) (by decide)) (fun z => by have z1 := (stg_o (stg_o (stg_o (stg_o (stg_o z (by decide)) (by decide)) (by decide)) (by decide)) (by decide)); by_cases e : q = x; (rw [if_pos e] at z1; exact absurd z1 (by decide)); (rw [if_neg e] at z1; exact absurd z1 (by decide)))
    exact (stay_tr sgwt (stay_tr sgto (stay_tr sgho (stay_tr sgnw (stay_tr sgkp (stay_tr syla (stay_tr syfa syre))))))) q q1.2 (fun e => xxT (by rw [← e]; exact q1.1))
  have fwwt : ∀ q, gT q = eN → gwt q ≠ eN → rg q = 6 := fun q q1 q2 => by
    have qx : q ≠ x := fun e => xxwt (by rw [← e]; exact q1)
    rw [hrg, stg_n (fun z => z.2 (by have z1 := (stay_tr sgtp (stay_tr sgpa sgT)); apply Classical.byContradiction; intro z2; exact z2 ((z1 q z2 qx).symm.trans q1))), stg_n (fun z => z.2 (by have z1 := (stay_tr sgpa sgT); apply Classical.byContradiction; intro z2; exact z2 ((z1 q z2 qx).symm.trans q1))), stg_n (fun z => z.2 (by have z1 := sgT; apply Classical.byContradiction; intro z2; exact z2 ((z1 q z2 qx).symm.trans q1))), stg_n (fun z => z.2 q1), stg_y ⟨q1, q2⟩]
  have bkwt : ∀ q, rg q = 6 → yre q = gwt q := fun q hq => by
    rw [hrg] at hq
    have q1 := stg_i (stg_o (stg_o (stg_o (stg_o hq (by decide)) (by decide)) (by decide)) (by decide)) (fun z => by have z1 := (stg_o (stg_o (stg_o (stg_o z (by decide)) (by decide)) (by decide)) (by decide)); by_cases e : q = x; (rw [if_pos e] at z1; exact absurd z1 (by decide)); (rw [if_neg e] at z1; exact absurd z1 (by decide)))
    exact (stay_tr sgto (stay_tr sgho (stay_tr sgnw (stay_tr sgkp (stay_tr syla (stay_tr syfa syre)))))) q q1.2 (fun e => xxwt (by rw [← e]; exact q1.1))
  have fwto : ∀ q, gwt q = eN → gto q ≠ eN → rg q = 7 := fun q q1 q2 => by
    have qx : q ≠ x := fun e => xxto (by rw [← e]; exact q1)
    rw [hrg, stg_n (fun z => z.2 (by have z1 := (stay_tr sgtp (stay_tr sgpa (stay_tr sgT sgwt))); apply Classical.byContradiction; intro z2; exact z2 ((z1 q z2 qx).symm.trans q1))), stg_n (fun z => z.2 (by have z1 := (stay_tr sgpa (stay_tr sgT sgwt)); apply Classical.byContradiction; intro z2; exact z2 ((z1 q z2 qx).symm.trans q1))), stg_n (fun z => z.2 (by have z1 := (stay_tr sgT sgwt); apply Classical.byContradiction; intro z2; exact z2 ((z1 q z2 qx).symm.trans q1))), stg_n (fun z => z.2 (by have z1 := sgwt; apply Classical.byContradiction; intro z2; exact z2 ((z1 q z2 qx).symm.trans q1))), stg_n (fun z => z.2 q1), stg_y ⟨q1, q2⟩]
  have bkto : ∀ q, rg q = 7 → yre q = gto q := fun q hq => by
    rw [hrg] at hq
    have q1 := stg_i (stg_o (stg_o (stg_o (stg_o (stg_o hq (by decide)) (by decide)) (by decide)) (by decide)) (by decide)) (fun z => by have z1 := (stg_o (stg_o (stg_o z (by decide)) (by decide)) (by decide)); by_cases e : q = x; (rw [if_pos e] at z1; exact absurd z1 (by decide)); (rw [if_neg e] at z1; exact absurd z1 (by decide)))
    exact (stay_tr sgho (stay_tr sgnw (stay_tr sgkp (stay_tr syla (stay_tr syfa syre))))) q q1.2 (fun e => xxto (by rw [← e]; exact q1.1))
  have fwho : ∀ q, gto q = eN → gho q ≠ eN → rg q = 8 := fun q q1 q2 => by
    have qx : q ≠ x := fun e => xxho (by rw [← e]; exact q1)
    rw [hrg, stg_n (fun z => z.2 (by have z1 := (stay_tr sgtp (stay_tr sgpa (stay_tr sgT (stay_tr sgwt sgto)))); apply Classical.byContradiction; intro z2; exact z2 ((z1 q z2 qx).symm.trans q1))), stg_n (fun z => z.2 (by have z1 := (stay_tr sgpa (stay_tr sgT (stay_tr sgwt sgto))); apply Classical.byContradiction; intro z2; exact z2 ((z1 q z2 qx).symm.trans q1))), stg_n (fun z => z.2 (by have z1 := (stay_tr sgT (stay_tr sgwt sgto)); apply Classical.byContradiction; intro z2; exact z2 ((z1 q z2 qx).symm.trans q1))), stg_n (fun z => z.2 (by have z1 := (stay_tr sgwt sgto); apply Classical.byContradiction; intro z2; exact z2 ((z1 q z2 qx).symm.trans q1))), stg_n (fun z => z.2 (by have z1 := sgto; apply Classical.byContradiction; intro z2; exact z2 ((z1 q z2 qx).symm.trans q1))), stg_n (fun z => z.2 q1), stg_y ⟨q1, q2⟩]
  have bkho : ∀ q, rg q = 8 → yre q = gho q := fun q hq => by
    rw [hrg] at hq
    have q1 := stg_i (stg_o (stg_o (stg_o (stg_o (stg_o (stg_o hq (by decide)) (by decide)) (by decide)) (by decide)) (by decide)) (by decide)) (fun z => by have z1 := (stg_o (stg_o z (by decide)) (by decide)); by_cases e : q = x; (rw [if_pos e] at z1; exact absurd z1 (by decide)); (rw [if_neg e] at z1; exact absurd z1 (by decide)))
    exact (stay_tr sgnw (stay_tr sgkp (stay_tr syla (stay_tr syfa syre)))) q q1.2 (fun e => xxho (by rw [← e]; exact q1.1))
  have fwnw : ∀ q, gho q = eN → gnw q ≠ eN → rg q = 9 := fun q q1 q2 => by
    have qx : q ≠ x := fun e => xxnw (by rw [← e]; exact q1)
    rw [hrg, stg_n (fun z => z.2 (by have z1 := (stay_tr sgtp (stay_tr sgpa (stay_tr sgT (stay_tr sgwt (stay_tr sgto sgho))))); apply Classical.byContradiction; intro z2; exact z2 ((z1 q z2 qx).symm.trans q1))), stg_n (fun z => z.2 (by have z1 := (stay_tr sgpa (stay_tr sgT (stay_tr sgwt (stay_tr sgto sgho)))); apply Classical.byContradiction; intro z2; exact z2 ((z1 q z2 qx).symm.trans q1))), stg_n (fun z => z.2 (by have z1 := (stay_tr sgT (stay_tr sgwt (stay_tr sgto sgho))); apply Classical.byContradiction; intro z2; exact z2 ((z1 q z2 qx).symm.trans q1))), stg_n (fun z => z.2 (by have z1 := (stay_tr sgwt (stay_tr sgto sgho)); apply Classical.byContradiction; intro z2; exact z2 ((z1 q z2 qx).symm.trans q1))), stg_n (fun z => z.2 (by have z1 := (stay_tr sgto sgho); apply Classical.byContradiction; intro z2; exact z2 ((z1 q z2 qx).symm.trans q1))), stg_n (fun z => z.2 (by have z1 := sgho; apply Classical.byContradiction; intro z2; exact z2 ((z1 q z2 qx).symm.trans q1))), stg_n (fun z => z.2 q1), stg_y ⟨q1, q2⟩]
  have bknw : ∀ q, rg q = 9 → yre q = gnw q := fun q hq => by
    rw [hrg] at hq
    have q1 := stg_i (stg_o (stg_o (stg_o (stg_o (stg_o (stg_o (stg_o hq (by decide)) (by decide)) (by decide)) (by decide)) (by decide)) (by decide)) (by decide)) (fun z => by have z1 := (stg_o z (by decide)); by_cases e : q = x; (rw [if_pos e] at z1; exact absurd z1 (by decide)); (rw [if_neg e] at z1; exact absurd z1 (by decide)))
    exact (stay_tr sgkp (stay_tr syla (stay_tr syfa syre))) q q1.2 (fun e => xxnw (by rw [← e]; exact q1.1))
  have fwkp : ∀ q, gnw q = eN → gkp q ≠ eN → rg q = 10 := fun q q1 q2 => by
    have qx : q ≠ x := fun e => xxkp (by rw [← e]; exact q1)
    rw [hrg, stg_n (fun z => z.2 (by have z1 := (stay_tr sgtp (stay_tr sgpa (stay_tr sgT (stay_tr sgwt (stay_tr sgto (stay_tr sgho sgnw)))))); apply Classical.byContradiction; intro z2; exact z2 ((z1 q z2 qx).symm.trans q1))), stg_n (fun z => z.2 (by have z1 := (stay_tr sgpa (stay_tr sgT (stay_tr sgwt (stay_tr sgto (stay_tr sgho sgnw))))); apply Classical.byContradiction; intro z2; exact z2 ((z1 q z2 qx).symm.trans q1))), stg_n (fun z => z.2 (by have z1 := (stay_tr sgT (stay_tr sgwt (stay_tr sgto (stay_tr sgho sgnw)))); apply Classical.byContradiction; intro z2; exact z2 ((z1 q z2 qx).symm.trans q1))), stg_n (fun z => z.2 (by have z1 := (stay_tr sgwt (stay_tr sgto (stay_tr sgho sgnw))); apply Classical.byContradiction; intro z2; exact z2 ((z1 q z2 qx).symm.trans q1))), stg_n (fun z => z.2 (by have z1 := (stay_tr sgto (stay_tr sgho sgnw)); apply Classical.byContradiction; intro z2; exact z2 ((z1 q z2 qx).symm.trans q1))), stg_n (fun z => z.2 (by have z1 := (stay_tr sgho sgnw); apply Classical.byContradiction; intro z2; exact z2 ((z1 q z2 qx).symm.trans q1))), stg_n (fun z => z.2 (by have z1 := sgnw; apply Classical.byContradiction; intro z2; exact z2 ((z1 q z2 qx).symm.trans q1))), stg_n (fun z => z.2 q1), stg_y ⟨q1, q2⟩]
  have bkkp : ∀ q, rg q = 10 → yre q = gkp q := fun q hq => by
    rw [hrg] at hq
    have q1 := stg_i (stg_o (stg_o (stg_o (stg_o (stg_o (stg_o (stg_o (stg_o hq (by decide)) (by decide)) (by decide)) (by decide)) (by decide)) (by decide)) (by decide)) (by decide)) (fun z => by have z1 := z; by_cases e : q = x; (rw [if_pos e] at z1; exact absurd z1 (by decide)); (rw [if_neg e] at z1; exact absurd z1 (by decide)))
    exact (stay_tr syla (stay_tr syfa syre)) q q1.2 (fun e => xxkp (by rw [← e]; exact q1.1))
  refine j_vret hG hZ dX11_init_118 (by decide) (by decide) ⟨rfl, sE, rg, ⟨lg, tp, pa, T, wt, to, ho, nw, kp, fun _ _ => 0, 0, fun _ => ([], 0), fun _ => 0, fun _ _ => 0, ⟨hyre, rx, ?_⟩, fun i hi => rfl, fun s hs => absurd hs (Nat.not_lt_zero s), rfl⟩, ?_, ?_⟩
  · exact ⟨CLog_kept (Blg rg (by rw [rx]; decide) fwlg) bklg, CTape_kept (Btp rg (by rw [rx]; decide) fwtp) bktp, CPar_kept (Bpa rg (by rw [rx]; decide) fwpa) bkpa, CTab_kept (BT rg (by rw [rx]; decide) fwT) bkT, CChg_kept (Bwt rg (by rw [rx]; decide) fwwt) bkwt, CChg_kept (Bto rg (by rw [rx]; decide) fwto) bkto, CHos_kept (Bho rg (by rw [rx]; decide) fwho) bkho, CPrg_kept (Bnw rg (by rw [rx]; decide) fwnw) bknw, CPrg_kept (Bkp rg (by rw [rx]; decide) fwkp) bkkp⟩
  · rw [hrg]
    exact (stg_any (fun q z => Or.inr ⟨z.1, by have z1 := (stay_tr sgtp (stay_tr sgpa (stay_tr sgT (stay_tr sgwt (stay_tr sgto (stay_tr sgho (stay_tr sgnw (stay_tr sgkp (stay_tr syla (stay_tr syfa syre)))))))))) q z.2 (fun e => xxlg (by rw [← e]; exact z.1)); rw [z1]; exact z.2⟩) (stg_any (fun q z => Or.inr ⟨stay_new sglg hglg (oB_ne (by decide)) z.1, by have z1 := (stay_tr sgpa (stay_tr sgT (stay_tr sgwt (stay_tr sgto (stay_tr sgho (stay_tr sgnw (stay_tr sgkp (stay_tr syla (stay_tr syfa syre))))))))) q z.2 (fun e => xxtp (by rw [← e]; exact z.1)); rw [z1]; exact z.2⟩) (stg_any (fun q z => Or.inr ⟨stay_new (stay_tr sglg sgtp) hgtp (oB_ne (by decide)) z.1, by have z1 := (stay_tr sgT (stay_tr sgwt (stay_tr sgto (stay_tr sgho (stay_tr sgnw (stay_tr sgkp (stay_tr syla (stay_tr syfa syre)))))))) q z.2 (fun e => xxpa (by rw [← e]; exact z.1)); rw [z1]; exact z.2⟩) (stg_any (fun q z => Or.inr ⟨stay_new (stay_tr sglg (stay_tr sgtp sgpa)) hgpa (oB_ne (by decide)) z.1, by have z1 := (stay_tr sgwt (stay_tr sgto (stay_tr sgho (stay_tr sgnw (stay_tr sgkp (stay_tr syla (stay_tr syfa syre))))))) q z.2 (fun e => xxT (by rw [← e]; exact z.1)); rw [z1]; exact z.2⟩) (stg_any (fun q z => Or.inr ⟨stay_new (stay_tr sglg (stay_tr sgtp (stay_tr sgpa sgT))) hgT (oB_ne (by decide)) z.1, by have z1 := (stay_tr sgto (stay_tr sgho (stay_tr sgnw (stay_tr sgkp (stay_tr syla (stay_tr syfa syre)))))) q z.2 (fun e => xxwt (by rw [← e]; exact z.1)); rw [z1]; exact z.2⟩) (stg_any (fun q z => Or.inr ⟨stay_new (stay_tr sglg (stay_tr sgtp (stay_tr sgpa (stay_tr sgT sgwt)))) hgwt (oB_ne (by decide)) z.1, by have z1 := (stay_tr sgho (stay_tr sgnw (stay_tr sgkp (stay_tr syla (stay_tr syfa syre))))) q z.2 (fun e => xxto (by rw [← e]; exact z.1)); rw [z1]; exact z.2⟩) (stg_any (fun q z => Or.inr ⟨stay_new (stay_tr sglg (stay_tr sgtp (stay_tr sgpa (stay_tr sgT (stay_tr sgwt sgto))))) hgto (oB_ne (by decide)) z.1, by have z1 := (stay_tr sgnw (stay_tr sgkp (stay_tr syla (stay_tr syfa syre)))) q z.2 (fun e => xxho (by rw [← e]; exact z.1)); rw [z1]; exact z.2⟩) (stg_any (fun q z => Or.inr ⟨stay_new (stay_tr sglg (stay_tr sgtp (stay_tr sgpa (stay_tr sgT (stay_tr sgwt (stay_tr sgto sgho)))))) hgho (oB_ne (by decide)) z.1, by have z1 := (stay_tr sgkp (stay_tr syla (stay_tr syfa syre))) q z.2 (fun e => xxnw (by rw [← e]; exact z.1)); rw [z1]; exact z.2⟩) (stg_any (fun q z => Or.inr ⟨stay_new (stay_tr sglg (stay_tr sgtp (stay_tr sgpa (stay_tr sgT (stay_tr sgwt (stay_tr sgto (stay_tr sgho sgnw))))))) hgnw (oB_ne (by decide)) z.1, by have z1 := (stay_tr syla (stay_tr syfa syre)) q z.2 (fun e => xxkp (by rw [← e]; exact z.1)); rw [z1]; exact z.2⟩) (fun q hq => by by_cases e : q = x; exact Or.inl e; exact absurd (if_neg e) hq))))))))))
  · rw [hrg]; exact (stg_le (by decide) (stg_le (by decide) (stg_le (by decide) (stg_le (by decide) (stg_le (by decide) (stg_le (by decide) (stg_le (by decide) (stg_le (by decide) (stg_le (by decide) (fun q => by by_cases e : q = x; (rw [if_pos e]; decide); (rw [if_neg e]; decide)))))))))))
