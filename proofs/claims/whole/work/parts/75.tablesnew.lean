theorem stay_tr {f g h : Hp} {T : Nat} (a : stay f g T) (b : stay g h T) : stay f h T := fun q q1 q2 => by
  have e := a q q1 q2
  exact (b q (by rw [e]; exact q1) q2).trans e
theorem stay_put {f g : Hp} {T : Nat} (a : ∀ b, b ≠ T → g b = f b) : stay f g T := fun q _ q2 => a q q2
theorem stay_al {f g : Hp} {T q : Nat} (e : f q = eN) (a : ∀ b, b ≠ q → g b = f b) : stay f g T := fun b b1 _ => a b (fun h => b1 (by rw [h]; exact e))
theorem stay_al2 {f g : Hp} {T q c : Nat} (e : f q = eN) (e2 : f c = eN) (a : ∀ b, b ≠ q → b ≠ c → g b = f b) : stay f g T := fun b b1 _ => a b (fun h => b1 (by rw [h]; exact e)) (fun h => b1 (by rw [h]; exact e2))
theorem stay_rf {f : Hp} {T : Nat} : stay f f T := fun _ _ _ => rfl
theorem stay_at {f g : Hp} {T q : Nat} {x : va_E} (a : stay f g T) (h : f q = x) (hx : x ≠ eN) (hq : q ≠ T) : g q = x := (a q (by rw [h]; exact hx) hq).trans h
/-- a cell that was not there is not one that was -/
theorem new_ne {f : Hp} {p q : Nat} {x : va_E} (h : f p = x) (hx : x ≠ eN) (e : f q = eN) : p ≠ q := h_ne h e hx
theorem c_X9_init {l : Launch} {E : JE} {f : Hp} {T : Nat} (h : f T = oB 8 [.null, .null, .null, .null, .null, .null, .null, .null]) : KX9_init l E [.ref T] f (fun v f' => v = none ∧ stay f f' T ∧ (∀ rg : Nat → Nat, rg T = 5 → (∀ q, f q = eN → f' q ≠ eN → rg q = 5) → CTab E rg f' T (fun _ _ => 0) 0 (fun _ _ => 0) 0 (fun _ => ([], 0)) (fun _ => 0))) := by
  refine ct_ofI (own := RX9) (lv := [(0, .ref T)]) (by decide +kernel) rfl rfl (Nat.le_of_ble_eq_true rfl) rfl ?_
  intro G hG hZ hI
  refine j_aload_n hG dX9_init_0 rfl rfl ?_
  refine j_objInit hG vX9_3 dX9_init_1 (by decide) (by decide) ?_
  refine j_aload_n hG dX9_init_4 rfl rfl ?_
  refine j_bipush hG dX9_init_5 (by decide) ?_
  refine j_newQ4 (N := 12) hG nqX9_9 dX9_init_7 (by decide) (by decide) (by decide) (fun cu ncu ecu hcu frcu => ?_)
  refine j_kn (k := 1) (n := 12) rfl rfl ?_
  have hTcu := (frcu T (h_ne h ecu (oB_ne (by decide)))).trans h
  have sncu : stay f ncu T := stay_al ecu frcu
  refine j_putF hG hI pX9_11 dX9_init_10 hTcu rfl rfl (Nat.le_of_ble_eq_true rfl) (fun p1 hp1 frp1 => ?_)
  have hp1 : p1 T = oB 8 [.ref cu, .null, .null, .null, .null, .null, .null, .null] := hp1
  have sp1 : stay ncu p1 T := stay_put frp1
  refine j_aload_n hG dX9_init_13 rfl rfl ?_
  refine j_bipush hG dX9_init_14 (by decide) ?_
  refine j_newQ4 (N := 12) hG nqX9_9 dX9_init_16 (by decide) (by decide) (by decide) (fun ofr nofr eofr hofr frofr => ?_)
  refine j_kn (k := 2) (n := 24) rfl rfl ?_
  have hTofr := (frofr T (h_ne hp1 eofr (oB_ne (by decide)))).trans hp1
  have snofr : stay p1 nofr T := stay_al eofr frofr
  refine j_putF hG hI pX9_17 dX9_init_19 hTofr rfl rfl (Nat.le_of_ble_eq_true rfl) (fun p2 hp2 frp2 => ?_)
  have hp2 : p2 T = oB 8 [.ref cu, .ref ofr, .null, .null, .null, .null, .null, .null] := hp2
  have sp2 : stay nofr p2 T := stay_put frp2
  refine j_aload_n hG dX9_init_22 rfl rfl ?_
  refine j_bipush hG dX9_init_23 (by decide) ?_
  refine j_newQ4 (N := 12) hG nqX9_9 dX9_init_25 (by decide) (by decide) (by decide) (fun mk nmk emk hmk frmk => ?_)
  refine j_kn (k := 3) (n := 36) rfl rfl ?_
  have hTmk := (frmk T (h_ne hp2 emk (oB_ne (by decide)))).trans hp2
  have snmk : stay p2 nmk T := stay_al emk frmk
  refine j_putF hG hI pX9_20 dX9_init_28 hTmk rfl rfl (Nat.le_of_ble_eq_true rfl) (fun p3 hp3 frp3 => ?_)
  have hp3 : p3 T = oB 8 [.ref cu, .ref ofr, .ref mk, .null, .null, .null, .null, .null] := hp3
  have sp3 : stay nmk p3 T := stay_put frp3
  refine j_iconst hG dX9_init_31 ?_
  refine j_istore_n (lv' := [(0, .ref T), (1, .int (iZ 0))]) hG dX9_init_32 rfl (by decide) rfl ?_
  refine j_kn (k := 3 + 6 * 0) (n := 36 + 1209 * 0) rfl rfl ?_
  have sA0 : stay f p3 T := (stay_tr sncu (stay_tr sp1 (stay_tr snofr (stay_tr sp2 (stay_tr snmk sp3)))))
  have dcu : p3 cu = aQ (E.2.1 4) 12 (fun _ => none) := stay_at (stay_tr sp1 (stay_tr snofr (stay_tr sp2 (stay_tr snmk sp3)))) hcu aQ_ne (h_ne hcu hTcu (Ne.symm oa_Q))
  have dofr : p3 ofr = aQ (E.2.1 4) 12 (fun _ => none) := stay_at (stay_tr sp2 (stay_tr snmk sp3)) hofr aQ_ne (h_ne hofr hTofr (Ne.symm oa_Q))
  have dmk : p3 mk = aQ (E.2.1 4) 12 (fun _ => none) := stay_at sp3 hmk aQ_ne (h_ne hmk hTmk (Ne.symm oa_Q))
  have zcu : f cu = eN := ecu
  have zofr : f ofr = eN := stay_new (stay_tr sncu sp1) hp1 (oB_ne (by decide)) eofr
  have zmk : f mk = eN := stay_new (stay_tr (stay_tr sncu sp1) (stay_tr snofr sp2)) hp2 (oB_ne (by decide)) emk
  have n1 : cu ≠ ofr := new_ne (stay_at sp1 hcu aQ_ne (h_ne hcu hTcu (Ne.symm oa_Q))) aQ_ne eofr
  have n2 : cu ≠ mk := new_ne (stay_at (stay_tr sp1 (stay_tr snofr sp2)) hcu aQ_ne (h_ne hcu hTcu (Ne.symm oa_Q))) aQ_ne emk
  have n3 : ofr ≠ mk := new_ne (stay_at sp2 hofr aQ_ne (h_ne hofr hTofr (Ne.symm oa_Q))) aQ_ne emk
  refine l_X9_init hG (T := T) (cu := cu) (ofr := ofr) (mk := mk) (f0 := f) (fun fA g1 g2 g3 ra ca hw hg => ?_) 13 0 _ _ _ (fun _ => 0) (fun _ => 0) p3 ⟨hp3, dcu, dofr, dmk, ⟨fun i hi => absurd hi (by unfold inP; omega), fun i j hi => absurd hi (by unfold inP; omega), fun i j hi => absurd hi (by unfold inP; omega)⟩, sA0, ⟨zcu, zofr, zmk⟩, n1, n2, n3⟩ (fun i i1 i2 => by omega) (by omega) (by omega)
  obtain ⟨tT, tcu, tof, tmk, hR, sA, -, -⟩ := hw
  refine j_lv (lv' := [(0, .ref T)]) (by simp) ?_
  refine j_aload_n hG dX9_init_84 rfl rfl ?_
  refine j_bipush hG dX9_init_85 (by decide) ?_
  refine j_newZ (N := 12) hG wA_Z dX9_init_87 (by decide) (by decide) (by decide) (fun it nit eit hit frit => ?_)
  refine j_kn (k := 76) (n := 14556) rfl rfl ?_
  have hTit := (frit T (h_ne tT eit (oB_ne (by decide)))).trans tT
  have snit : stay fA nit T := stay_al eit frit
  refine j_putF hG hI pX9_24 dX9_init_89 hTit rfl rfl (Nat.le_of_ble_eq_true rfl) (fun p4 hp4 frp4 => ?_)
  have hp4 : p4 T = oB 8 [.ref cu, .ref ofr, .ref mk, .ref it, .null, .null, .null, .null] := hp4
  have sp4 : stay nit p4 T := stay_put frp4
  refine j_aload_n hG dX9_init_92 rfl rfl ?_
  refine j_row hG dX9_init_93 dX9_init_96 dX9_init_97 (by decide) (by decide) (Nat.le_of_ble_eq_true rfl) (fun no nc nno eno enc nnc hno hnc frno => ?_)
  refine j_kn (k := 78) (n := 14959) rfl rfl ?_
  have hTno := (frno T (h_ne hp4 eno (oB_ne (by decide))) (h_ne hp4 enc (oB_ne (by decide)))).trans hp4
  have snno : stay p4 nno T := stay_al2 eno enc frno
  refine j_putF hG hI pX9_28 dX9_init_100 hTno rfl rfl (Nat.le_of_ble_eq_true rfl) (fun p5 hp5 frp5 => ?_)
  have hp5 : p5 T = oB 8 [.ref cu, .ref ofr, .ref mk, .ref it, .ref no, .null, .null, .null] := hp5
  have sp5 : stay nno p5 T := stay_put frp5
  refine j_aload_n hG dX9_init_103 rfl rfl ?_
  refine j_sipush hG dX9_init_104 (by decide) ?_
  refine j_newJ (N := 400) hG wA_J dX9_init_107 (by decide) (by decide) (by decide) (fun sc nsc esc hsc frsc => ?_)
  refine j_kn (k := 79) (n := 15359) rfl rfl ?_
  have hTsc := (frsc T (h_ne hp5 esc (oB_ne (by decide)))).trans hp5
  have snsc : stay p5 nsc T := stay_al esc frsc
  refine j_putF hG hI pX9_32 dX9_init_109 hTsc rfl rfl (Nat.le_of_ble_eq_true rfl) (fun p6 hp6 frp6 => ?_)
  have hp6 : p6 T = oB 8 [.ref cu, .ref ofr, .ref mk, .ref it, .ref no, .ref sc, .null, .null] := hp6
  have sp6 : stay nsc p6 T := stay_put frp6
  refine j_aload_n hG dX9_init_112 rfl rfl ?_
  refine j_new hG nX9_36 dX9_init_113 (by decide) (by decide) (fun pl opl epl hpl frpl => ?_)
  refine j_kn (k := 80) (n := 15361) rfl rfl ?_
  have hTopl := (frpl T (h_ne hp6 epl (oB_ne (by decide)))).trans hp6
  have sopl : stay p6 opl T := stay_al epl frpl
  refine j_dup hG dX9_init_116 rfl ?_
  refine j_callIA (rest := [.ref pl, .ref T]) hG vX9_38 dX9_init_117 (c_X5_init hpl) rfl rfl (by decide) (by decide) (Nat.le_of_ble_eq_true rfl) (Nat.le_of_ble_eq_true rfl) (Nat.le_of_ble_eq_true rfl) ?_
  rintro _ ipl ⟨rfl, mpl, gpl, apl, jpl, bpl, zpl, upl, wpl⟩
  refine j_kn (k := 93) (n := 15445) rfl rfl ?_
  refine j_st (st' := [.ref pl, .ref T]) rfl ?_
  have nTpl : T ≠ pl := h_ne hTopl hpl (oo_n (by decide))
  have hTipl := (wpl T (by rw [hTopl]; exact oB_ne (by decide)) nTpl).trans hTopl
  have sipl : stay p6 ipl T := fun q q1 q2 => (wpl q (by rw [sopl q q1 q2]; exact q1) (fun e => q1 (by rw [e]; exact epl))).trans (sopl q q1 q2)
  refine j_put hG pX9_39 dX9_init_120 hTipl rfl rfl (Nat.le_of_ble_eq_true rfl) (fun p7 hp7 frp7 => ?_)
  have hp7 : p7 T = oB 8 [.ref cu, .ref ofr, .ref mk, .ref it, .ref no, .ref sc, .ref pl, .null] := hp7
  have sp7 : stay ipl p7 T := stay_put frp7
  refine j_aload_n hG dX9_init_123 rfl rfl ?_
  refine j_new hG nX9_36 dX9_init_124 (by decide) (by decide) (fun dr odr edr hdr frdr => ?_)
  refine j_kn (k := 94) (n := 15447) rfl rfl ?_
  have hTodr := (frdr T (h_ne hp7 edr (oB_ne (by decide)))).trans hp7
  have sodr : stay p7 odr T := stay_al edr frdr
  refine j_dup hG dX9_init_127 rfl ?_
  refine j_callIA (rest := [.ref dr, .ref T]) hG vX9_38 dX9_init_128 (c_X5_init hdr) rfl rfl (by decide) (by decide) (Nat.le_of_ble_eq_true rfl) (Nat.le_of_ble_eq_true rfl) (Nat.le_of_ble_eq_true rfl) ?_
  rintro _ idr ⟨rfl, mdr, gdr, adr, jdr, bdr, zdr, udr, wdr⟩
  refine j_kn (k := 107) (n := 15531) rfl rfl ?_
  refine j_st (st' := [.ref dr, .ref T]) rfl ?_
  have nTdr : T ≠ dr := h_ne hTodr hdr (oo_n (by decide))
  have hTidr := (wdr T (by rw [hTodr]; exact oB_ne (by decide)) nTdr).trans hTodr
  have sidr : stay p7 idr T := fun q q1 q2 => (wdr q (by rw [sodr q q1 q2]; exact q1) (fun e => q1 (by rw [e]; exact edr))).trans (sodr q q1 q2)
  refine j_put hG pX9_43 dX9_init_131 hTidr rfl rfl (Nat.le_of_ble_eq_true rfl) (fun p8 hp8 frp8 => ?_)
  have hp8 : p8 T = oB 8 [.ref cu, .ref ofr, .ref mk, .ref it, .ref no, .ref sc, .ref pl, .ref dr] := hp8
  have sp8 : stay idr p8 T := stay_put frp8
  have sE : stay f p8 T := stay_tr sA (stay_tr snit (stay_tr sp4 (stay_tr snno (stay_tr sp5 (stay_tr snsc (stay_tr sp6 (stay_tr sipl (stay_tr sp7 (stay_tr sidr sp8)))))))))
  have xcu := stay_at (stay_tr snit (stay_tr sp4 (stay_tr snno (stay_tr sp5 (stay_tr snsc (stay_tr sp6 (stay_tr sipl (stay_tr sp7 (stay_tr sidr sp8))))))))) tcu aQ_ne (h_ne tcu tT (Ne.symm oa_Q))
  have xofr := stay_at (stay_tr snit (stay_tr sp4 (stay_tr snno (stay_tr sp5 (stay_tr snsc (stay_tr sp6 (stay_tr sipl (stay_tr sp7 (stay_tr sidr sp8))))))))) tof aQ_ne (h_ne tof tT (Ne.symm oa_Q))
  have xmk := stay_at (stay_tr snit (stay_tr sp4 (stay_tr snno (stay_tr sp5 (stay_tr snsc (stay_tr sp6 (stay_tr sipl (stay_tr sp7 (stay_tr sidr sp8))))))))) tmk aQ_ne (h_ne tmk tT (Ne.symm oa_Q))
  have xit := stay_at (stay_tr sp4 (stay_tr snno (stay_tr sp5 (stay_tr snsc (stay_tr sp6 (stay_tr sipl (stay_tr sp7 (stay_tr sidr sp8)))))))) hit aI_ne (h_ne hit hTit (Ne.symm oa_I))
  have xno := stay_at (stay_tr sp5 (stay_tr snsc (stay_tr sp6 (stay_tr sipl (stay_tr sp7 (stay_tr sidr sp8)))))) hno (oB_ne (by decide)) (h_ne hno hTno (oo_n (by decide)))
  have xnc := stay_at (stay_tr sp5 (stay_tr snsc (stay_tr sp6 (stay_tr sipl (stay_tr sp7 (stay_tr sidr sp8)))))) hnc aJ_ne (h_ne hnc hTno (Ne.symm oa_J))
  have xsc := stay_at (stay_tr sp6 (stay_tr sipl (stay_tr sp7 (stay_tr sidr sp8)))) hsc aJ_ne (h_ne hsc hTsc (Ne.symm oa_J))
  have xpl := stay_at (stay_tr sp7 (stay_tr sidr sp8)) jpl (oB_ne (by decide)) (Ne.symm nTpl)
  have xmpl := stay_at (stay_tr sp7 (stay_tr sidr sp8)) bpl aQ_ne (h_ne bpl hTipl (Ne.symm oa_Q))
  have xapl : ∀ i, 0 ≤ i → i < 12 → p8 (apl i) = oB 3 [.int (iZ (0)), .int (iZ (0)), .int (iZ (0)), .int (iZ (0)), .int (iZ (0)), .int (iZ (0))] := fun i i1 i2 => stay_at (stay_tr sp7 (stay_tr sidr sp8)) (upl.1 i i1 (by omega)).2.1 (oB_ne (by decide)) (h_ne (upl.1 i i1 (by omega)).2.1 hTipl (oo_n (by decide)))
  have xdr := stay_at sp8 jdr (oB_ne (by decide)) (Ne.symm nTdr)
  have xmdr := stay_at sp8 bdr aQ_ne (h_ne bdr hTidr (Ne.symm oa_Q))
  have xadr : ∀ i, 0 ≤ i → i < 12 → p8 (adr i) = oB 3 [.int (iZ (0)), .int (iZ (0)), .int (iZ (0)), .int (iZ (0)), .int (iZ (0)), .int (iZ (0))] := fun i i1 i2 => stay_at sp8 (udr.1 i i1 (by omega)).2.1 (oB_ne (by decide)) (h_ne (udr.1 i i1 (by omega)).2.1 hTidr (oo_n (by decide)))
  have xR : RP E f p8 (inP 12) ra ca := RP_kept hR (fun q hq => (stay_tr snit (stay_tr sp4 (stay_tr snno (stay_tr sp5 (stay_tr snsc (stay_tr sp6 (stay_tr sipl (stay_tr sp7 (stay_tr sidr sp8))))))))) q (by rcases hq with ⟨fs, hq⟩ | ⟨N, g, hq⟩; (rw [hq]; exact oB_ne (by decide)); (rw [hq]; exact aJ_ne)) (by rcases hq with ⟨fs, hq⟩ | ⟨N, g, hq⟩; exact h_ne hq tT (oo_n (by decide)); exact h_ne hq tT (Ne.symm oa_J)))
  have yit : f it = eN := stay_new sA tT (oB_ne (by decide)) eit
  have yno : f no = eN := stay_new (stay_tr (stay_tr sA snit) sp4) hp4 (oB_ne (by decide)) eno
  have ync : f nc = eN := stay_new (stay_tr (stay_tr sA snit) sp4) hp4 (oB_ne (by decide)) enc
  have ysc : f sc = eN := stay_new (stay_tr (stay_tr (stay_tr (stay_tr sA snit) sp4) snno) sp5) hp5 (oB_ne (by decide)) esc
  have ypl : f pl = eN := stay_new (stay_tr (stay_tr (stay_tr (stay_tr (stay_tr (stay_tr sA snit) sp4) snno) sp5) snsc) sp6) hp6 (oB_ne (by decide)) epl
  have ydr : f dr = eN := stay_new (stay_tr (stay_tr (stay_tr (stay_tr (stay_tr (stay_tr (stay_tr (stay_tr sA snit) sp4) snno) sp5) snsc) sp6) sipl) sp7) hp7 (oB_ne (by decide)) edr
  have vpl : ∀ q, opl q = eN → p6 q = eN := fun q q1 => by
    apply Classical.byContradiction
    intro c
    by_cases e : q = T
    · rw [e, hTopl] at q1; exact absurd q1 (oB_ne (by decide))
    · exact c ((sopl q c e).symm.trans q1)
  have ympl : f mpl = eN := stay_new (stay_tr (stay_tr (stay_tr (stay_tr (stay_tr (stay_tr sA snit) sp4) snno) sp5) snsc) sp6) hp6 (oB_ne (by decide)) (vpl _ zpl)
  have yapl : ∀ i, 0 ≤ i → i < 12 → f (apl i) = eN := fun i i1 i2 => stay_new (stay_tr (stay_tr (stay_tr (stay_tr (stay_tr (stay_tr sA snit) sp4) snno) sp5) snsc) sp6) hp6 (oB_ne (by decide)) (vpl _ (upl.1 i i1 (by omega)).2.2)
  have vdr : ∀ q, odr q = eN → p7 q = eN := fun q q1 => by
    apply Classical.byContradiction
    intro c
    by_cases e : q = T
    · rw [e, hTodr] at q1; exact absurd q1 (oB_ne (by decide))
    · exact c ((sodr q c e).symm.trans q1)
  have ymdr : f mdr = eN := stay_new (stay_tr (stay_tr (stay_tr (stay_tr (stay_tr (stay_tr (stay_tr (stay_tr sA snit) sp4) snno) sp5) snsc) sp6) sipl) sp7) hp7 (oB_ne (by decide)) (vdr _ zdr)
  have yadr : ∀ i, 0 ≤ i → i < 12 → f (adr i) = eN := fun i i1 i2 => stay_new (stay_tr (stay_tr (stay_tr (stay_tr (stay_tr (stay_tr (stay_tr (stay_tr sA snit) sp4) snno) sp5) snsc) sp6) sipl) sp7) hp7 (oB_ne (by decide)) (vdr _ (udr.1 i i1 (by omega)).2.2)
  have qpd : pl ≠ dr := new_ne (stay_at (show stay ipl p7 T from sp7) jpl (oB_ne (by decide)) (Ne.symm nTpl)) (oB_ne (by decide)) edr
  have rcup : mpl ≠ cu := Ne.symm (new_ne (stay_at (stay_tr snit (stay_tr sp4 (stay_tr snno (stay_tr sp5 (stay_tr snsc sp6))))) tcu aQ_ne (h_ne tcu tT (Ne.symm oa_Q))) aQ_ne (vpl _ zpl))
  have rcud : mdr ≠ cu := Ne.symm (new_ne (stay_at (stay_tr snit (stay_tr sp4 (stay_tr snno (stay_tr sp5 (stay_tr snsc (stay_tr sp6 (stay_tr sipl sp7))))))) tcu aQ_ne (h_ne tcu tT (Ne.symm oa_Q))) aQ_ne (vdr _ zdr))
  have rofrp : mpl ≠ ofr := Ne.symm (new_ne (stay_at (stay_tr snit (stay_tr sp4 (stay_tr snno (stay_tr sp5 (stay_tr snsc sp6))))) tof aQ_ne (h_ne tof tT (Ne.symm oa_Q))) aQ_ne (vpl _ zpl))
  have rofrd : mdr ≠ ofr := Ne.symm (new_ne (stay_at (stay_tr snit (stay_tr sp4 (stay_tr snno (stay_tr sp5 (stay_tr snsc (stay_tr sp6 (stay_tr sipl sp7))))))) tof aQ_ne (h_ne tof tT (Ne.symm oa_Q))) aQ_ne (vdr _ zdr))
  have rmd : ∀ i j, 0 ≤ i → i < 12 → 0 ≤ j → j < 12 → apl i ≠ adr j := fun i j i1 i2 j1 j2 => new_ne (stay_at sp7 (upl.1 i i1 (by omega)).2.1 (oB_ne (by decide)) (h_ne (upl.1 i i1 (by omega)).2.1 hTipl (oo_n (by decide)))) (oB_ne (by decide)) (vdr _ (udr.1 j j1 (by omega)).2.2)
  have xR2 : RP E f p8 (fun i => inP 12 i ∨ i = 36) (fup ra 36 no) (fup ca 36 nc) := by
    have rn : ∀ i, inP 12 i → ra i ≠ no ∧ ca i ≠ nc := fun i hi => ⟨new_ne (stay_at (stay_tr snit sp4) (hR.1 i hi).1.1 (oB_ne (by decide)) (h_ne (hR.1 i hi).1.1 tT (oo_n (by decide)))) (oB_ne (by decide)) eno, new_ne (stay_at (stay_tr snit sp4) (hR.1 i hi).1.2 aJ_ne (h_ne (hR.1 i hi).1.2 tT (Ne.symm oa_J))) aJ_ne enc⟩
    have ne : ∀ i, inP 12 i → i ≠ 36 := fun i hi e => by rw [e] at hi; unfold inP at hi; omega
    refine ⟨fun i hi => ?_, fun i j hi hj e => ?_, fun i j hi hj e => ?_⟩
    · rcases hi with hi | hi
      · rw [fup_n _ _ (ne i hi), fup_n _ _ (ne i hi)]; exact xR.1 i hi
      · rw [hi, fup_s, fup_s]; exact ⟨⟨xno, xnc⟩, yno, ync⟩
    · rcases hi with hi | hi
      · rcases hj with hj | hj
        · rw [fup_n _ _ (ne i hi), fup_n _ _ (ne j hj)] at e; exact xR.2.1 i j hi hj e
        · rw [hj, fup_s, fup_n _ _ (ne i hi)] at e; exact absurd e (rn i hi).1
      · rcases hj with hj | hj
        · rw [hi, fup_s, fup_n _ _ (ne j hj)] at e; exact absurd e.symm (rn j hj).1
        · rw [hi, hj]
    · rcases hi with hi | hi
      · rcases hj with hj | hj
        · rw [fup_n _ _ (ne i hi), fup_n _ _ (ne j hj)] at e; exact xR.2.2 i j hi hj e
        · rw [hj, fup_s, fup_n _ _ (ne i hi)] at e; exact absurd e (rn i hi).2
      · rcases hj with hj | hj
        · rw [hi, fup_s, fup_n _ _ (ne j hj)] at e; exact absurd e.symm (rn j hj).2
        · rw [hi, hj]
  have all36 : ∀ i, 0 ≤ i → i < 37 → (inP 12 i ∨ i = 36) := fun i i1 i2 => by unfold inP; omega
  have csc : ∀ i, 0 ≤ i → i < 37 → fup ca 36 nc i ≠ sc := fun i i1 i2 => by
    by_cases e : i = 36
    · rw [e, fup_s]; exact new_ne (stay_at sp5 hnc aJ_ne (h_ne hnc hTno (Ne.symm oa_J))) aJ_ne esc
    · have hi : inP 12 i := by unfold inP; omega
      rw [fup_n _ _ e]; exact new_ne (stay_at (stay_tr snit (stay_tr sp4 (stay_tr snno sp5))) (hR.1 i hi).1.2 aJ_ne (h_ne (hR.1 i hi).1.2 tT (Ne.symm oa_J))) aJ_ne esc
  have ca37 : ∀ i, 0 ≤ i → i < 37 → fup (fup ca 36 nc) 37 sc i = fup ca 36 nc i := fun i i1 i2 => fup_n _ _ (by omega)
  have gk : gOk (fun _ => 0) := fun _ => ⟨Int.le_refl 0, show (0 : Int) < 1125899906842624 by decide⟩
  skip
  refine j_vret hG hZ dX9_init_134 (by decide) (by decide) ⟨rfl, sE, fun rg rT rn => ?_⟩
  have col : ∀ q, f q = eN → ∀ x, p8 q = x → x ≠ eN → rg q = 5 := fun q q1 x q2 q3 => rn q q1 (by rw [q2]; exact q3)
  refine ⟨cu, ofr, mk, it, pl, dr, mpl, mdr, fup ra 36 no, fup (fup ca 36 nc) 37 sc, apl, adr, g1, g2, g3, gpl, gdr, ?_, xpl, xdr, xmpl, xmdr, xcu, xofr, xmk, xit, xapl, xadr, ?_, ?_, ?_, ?_, fun i i1 i2 => (upl.1 i i1 (by omega)).1, fun i i1 i2 => (udr.1 i i1 (by omega)).1, fun i _ _ => Or.inl rfl, ?_, fun i j i1 i2 j1 j2 => upl.2 i j i1 (by omega) j1 (by omega), fun i j i1 i2 j1 j2 => udr.2 i j i1 (by omega) j1 (by omega), rmd, ⟨n1, Ne.symm n2, Ne.symm n3, qpd⟩, ⟨rcup, rofrp, rcud, rofrd⟩, ⟨rT, col _ zcu _ xcu aQ_ne, col _ zofr _ xofr aQ_ne, col _ zmk _ xmk aQ_ne, col _ yit _ xit aI_ne, col _ ypl _ xpl (oB_ne (by decide)), col _ ydr _ xdr (oB_ne (by decide)), col _ ympl _ xmpl aQ_ne, col _ ymdr _ xmdr aQ_ne⟩, fun i i1 i2 => ?_, fun i i1 i2 => ?_, fun i i1 i2 => ⟨col _ (yapl i i1 i2) _ (xapl i i1 i2) (oB_ne (by decide)), col _ (yadr i i1 i2) _ (xadr i i1 i2) (oB_ne (by decide))⟩⟩
  · have e1 : fup ra 36 no 36 = no := fup_s _ _ _
    have e2 : fup (fup ca 36 nc) 37 sc 37 = sc := fup_s _ _ _
    rw [e1, e2]; exact hp8
  · refine ⟨fun i i1 i2 => ?_, fun _ => 0, ?_, gk⟩
    · rw [ca37 i i1 i2]
      have x := (xR2.1 i (all36 i i1 i2)).1
      exact ⟨0, 0, fun _ => 0, x.1, x.2, gk, Or.inl rfl, by omega, seg_nil (by omega), rfl⟩
    · rw [fup_s]; exact xsc
  · exact fun i i1 i2 => by rw [fup_n _ _ (by omega)]; exact (hg i i1 i2).1
  · exact fun i i1 i2 => by rw [fup_n _ _ (by omega)]; exact (hg i i1 i2).2.1
  · exact fun i i1 i2 => by rw [fup_n _ _ (by omega)]; exact (hg i i1 i2).2.2
  · refine ⟨fun i j i1 i2 j1 j2 e => xR2.2.1 i j (all36 i i1 i2) (all36 j j1 j2) e, fun i j i1 i2 j1 j2 e => ?_⟩
    by_cases c1 : i = 37
    · by_cases c2 : j = 37
      · omega
      · rw [c1, fup_s, fup_n _ _ c2] at e; exact absurd e.symm (csc j j1 (by omega))
    · by_cases c2 : j = 37
      · rw [c2, fup_s, fup_n _ _ c1] at e; exact absurd e (csc i i1 (by omega))
      · rw [fup_n _ _ c1, fup_n _ _ c2] at e; exact xR2.2.2 i j (all36 i i1 (by omega)) (all36 j j1 (by omega)) e
  · have x := xR2.1 i (all36 i i1 i2)
    exact col _ x.2.1 _ x.1.1 (oB_ne (by decide))
  · by_cases c1 : i = 37
    · rw [c1, fup_s]; exact col _ ysc _ xsc aJ_ne
    · rw [fup_n _ _ c1]
      have x := xR2.1 i (all36 i i1 (by omega))
      exact col _ x.2.2 _ x.1.2 aJ_ne
