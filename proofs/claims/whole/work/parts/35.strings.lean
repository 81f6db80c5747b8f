theorem fsV : Cond.fieldLink RJ0 9 "java/lang/String" "value" "[B" ∈ gw_tbl := gm 1247 (by decide +kernel) (by decide +kernel)
theorem fsC : Cond.fieldLink RJ0 15 "java/lang/String" "coder" "B" ∈ gw_tbl := gm 1248 (by decide +kernel) (by decide +kernel)
theorem fsK : Cond.fieldLink RJ0 38 "java/lang/String" "COMPACT_STRINGS" "Z" ∈ gw_tbl := gm 462 (by decide +kernel) (by decide +kernel)
theorem fsF : Cond.fieldLink RJ0 1053 "jdk/internal/util/Preconditions" "SIOOBE_FORMATTER" "Ljava/util/function/BiFunction;" ∈ gw_tbl := gm 478 (by decide +kernel) (by decide +kernel)
def jVk (own : String) (idx : Nat) (y : MethodName) (cy : ByteArray) (maxL : Nat) (ret : Option FieldType) (na : Nat) : Prop := y.cls = "java/lang/String" ∧ (∀ w ∈ [Cond.methodLink own idx y, Cond.instanceMethod y, Cond.selects y.cls y y, Cond.initialized y.cls], w ∈ gw_tbl) ∧ Cond.code y cy maxL ret ∈ gw_tbl ∧ notMH y na
theorem vX10_44 : jVk RX10 44 yJ0_length_8abf5 cJ0_length_8abf5 1 (some .int) 0 := ⟨rfl, gms [454, 455, 456, 71] (by decide +kernel) (by decide +kernel), cdJ0_length_8abf5, by decide +kernel⟩
theorem vX10_49 : jVk RX10 49 yJ0_charAt_5068e cJ0_charAt_5068e 2 (some .char) 1 := ⟨rfl, gms [464, 465, 466, 71] (by decide +kernel) (by decide +kernel), cdJ0_charAt_5068e, by decide +kernel⟩
theorem vJ0_335 : jVk RJ0 335 yJ0_coder_7d493 cJ0_coder_7d493 1 (some .byte) 0 := ⟨rfl, gms [458, 459, 460, 71] (by decide +kernel) (by decide +kernel), cdJ0_coder_7d493, by decide +kernel⟩
theorem vJ0_492 : jVk RJ0 492 yJ0_isLatin1_aae02 cJ0_isLatin1_aae02 1 (some .boolean) 0 := ⟨rfl, gms [468, 469, 470, 71] (by decide +kernel) (by decide +kernel), cdJ0_isLatin1_aae02, by decide +kernel⟩
/-- char k of constant i -/
def chr (i : Nat) (k : Int) : Int := ((bytJS.getD i []).getD k.toNat 0).toInt
def sln (i : Nat) : Int := (lenJS.getD i 0 : Nat)
theorem sln_all : ∀ i, i < 16 → lenJS.getD i 0 < 7 ∧ (bytJS.getD i []).length = lenJS.getD i 0 ∧ ∀ k, k < 7 → 0 ≤ ((bytJS.getD i []).getD k 0).toInt ∧ ((bytJS.getD i []).getD k 0).toInt < 128 := by decide +kernel
theorem sln_rng {i : Nat} (h : i < 16) : 0 ≤ sln i ∧ sln i < 7 := by have := (sln_all i h).1; unfold sln; omega
theorem chr_rng {i : Nat} {k : Int} (h : i < 16) (hk : 0 ≤ k ∧ k < 7) : 0 ≤ chr i k ∧ chr i k < 128 := (sln_all i h).2.2 k.toNat (by omega)
section JK
variable {G : JG} {l : Launch} {E : JE} {cc : ByteArray} {own : String} {nL : Nat} {rm : Room} {k n : Nat} {f : Hp} {pc : Nat} {lv : List (Nat × Value)} {st : List Value}
theorem j_gsK (hG : jX G l E cc RJ0 nL rm) (hd : decode cc pc = .ok (.getstatic 38, 3)) (kk : J G k n f (pc + 3) lv (.int (iZ 1) :: st)) : J G k n f pc lv st := by
  obtain ⟨p, l', e, R, s, m, args, below, meth, c, E', A, Z⟩ := G
  obtain ⟨rfl, rfl, rfl, hx, hb, hml, hown, hlocks, hts, hK, hA, hNw, hRs, hSS⟩ := hG
  intro L H locs ls hdm hP hD hS hl
  exact va_gets hx hb hSS.2.1 hS hown (hts _ fsK) (fun _ h => h) hd (kk L H locs ls hdm hP hD hS hl)
theorem j_gsF (hG : jX G l E cc RJ0 nL rm) (hd : decode cc pc = .ok (.getstatic 1053, 3)) (kn : J G k n f (pc + 3) lv (.null :: st)) (kr : ∀ t : Nat, J G k n f (pc + 3) lv (.ref t :: st)) : J G k n f pc lv st := by
  obtain ⟨p, l', e, R, s, m, args, below, meth, c, E', A, Z⟩ := G
  obtain ⟨rfl, rfl, rfl, hx, hb, hml, hown, hlocks, hts, hK, hA, hNw, hRs, hSS⟩ := hG
  intro L H locs ls hdm hP hD hS hl
  rcases hSS.2.2 with q | ⟨t, q⟩
  · exact va_gets hx hb q hS hown (hts _ fsF) (fun _ h => h) hd (kn L H locs ls hdm hP hD hS hl)
  · exact va_gets hx hb q hS hown (hts _ fsF) (fun _ h => h) hd (kr t L H locs ls hdm hP hD hS hl)
theorem j_gfV (hG : jX G l E cc RJ0 nL rm) {i : Nat} (hi : i < 16) (hd : decode cc pc = .ok (.getfield 9, 3)) (kk : J G k n f (pc + 3) lv (.ref (E.2.2.2 i) :: st)) : J G k n f pc lv (.ref (E.2.2.1 i) :: st) := by
  obtain ⟨p, l', e, R, s, m, args, below, meth, c, E', A, Z⟩ := G
  obtain ⟨rfl, rfl, rfl, hx, hb, hml, hown, hlocks, hts, hK, hA, hNw, hRs, hSS⟩ := hG
  intro L H locs ls hdm hP hD hS hl
  exact vk_getf hx hb (hSS.1.1 i hi).2.2.1 hS hown (hts _ fsV) (fun _ h => h) hd (kk L H locs ls hdm hP hD hS hl)
theorem j_gfC (hG : jX G l E cc RJ0 nL rm) {i : Nat} (hi : i < 16) (hd : decode cc pc = .ok (.getfield 15, 3)) (kk : J G k n f (pc + 3) lv (.int (iZ 0) :: st)) : J G k n f pc lv (.ref (E.2.2.1 i) :: st) := by
  obtain ⟨p, l', e, R, s, m, args, below, meth, c, E', A, Z⟩ := G
  obtain ⟨rfl, rfl, rfl, hx, hb, hml, hown, hlocks, hts, hK, hA, hNw, hRs, hSS⟩ := hG
  intro L H locs ls hdm hP hD hS hl
  exact vk_getf hx hb (hSS.1.1 i hi).2.1 hS hown (hts _ fsC) (fun _ h => h) hd (kk L H locs ls hdm hP hD hS hl)
theorem j_tln (hG : jX G l E cc own nL rm) {i : Nat} (hi : i < 16) (hd : decode cc pc = .ok (.arraylength, 1)) (kk : J G k n f (pc + 1) lv (.int (iZ (sln i)) :: st)) : J G k n f pc lv (.ref (E.2.2.2 i) :: st) := by
  obtain ⟨p, l', e, R, s, m, args, below, meth, c, E', A, Z⟩ := G
  obtain ⟨rfl, rfl, rfl, hx, hb, hml, hown, hlocks, hts, hK, hA, hNw, hRs, hSS⟩ := hG
  intro L H locs ls hdm hP hD hS hl
  exact va_tlen hx hb (hSS.1.1 i hi).2.2.2 hS (iZ_nI _) hd (kk L H locs ls hdm hP hD hS hl)
theorem j_tba (hG : jX G l E cc own nL rm) {i : Nat} {q : Int} (hi : i < 16) (hd : decode cc pc = .ok (.baload, 1)) (hq : 0 ≤ q ∧ q < sln i) (kk : J G k n f (pc + 1) lv (.int (iZ (chr i q)) :: st)) : J G k n f pc lv (.int (iZ q) :: .ref (E.2.2.2 i) :: st) := by
  obtain ⟨p, l', e, R, s, m, args, below, meth, c, E', A, Z⟩ := G
  obtain ⟨rfl, rfl, rfl, hx, hb, hml, hown, hlocks, hts, hK, hA, hNw, hRs, hSS⟩ := hG
  intro L H locs ls hdm hP hD hS hl
  have h9 := sln_rng hi
  refine va_tb hx hb (hSS.1.1 i hi).2.2.2 hS (iZ_in hq (by unfold sln at h9; omega)) ?_ hd (kk L H locs ls hdm hP hD hS hl)
  rw [iZ_cl (by omega)]
  show Value.int _ = _
  congr 1
  exact iZ_of _
theorem j_callK (hG : jX G l E cc own nL rm) {idx maxL na : Nat} {y : MethodName} {cy : ByteArray} {ret : Option FieldType} {ry : Room} {As rest : List Value} {P : Option Value → Hp → Prop} {i : Nat} (hi : i < 16) (hV : jVk own idx y cy maxL ret na) (hd : decode cc pc = .ok (.invokevirtual idx, 3)) (hc : Ct l E y cy maxL ret ry (.ref (E.2.2.1 i) :: As) f P) (hst : st = As.reverse ++ .ref (E.2.2.1 i) :: rest) (hna : As.length = na) (hfr : ry.frames + 1 ≤ rm.frames) (hlo : 8 + (maxL + 11) + ry.locals ≤ rm.locals) (hrs : (rest.map fun v => v.category).sum ≤ 8) (h0 : ry.cells = 0) (h1 : ry.slots = 0) (hkc : k + ry.cells ≤ rm.cells) (hks : n + ry.slots ≤ rm.slots) (kk : ∀ (v : Option Value) (f' : Hp), P v f' → J G k n f' (pc + 3) lv (v.toList ++ rest)) : J G k n f pc lv st := by
  obtain ⟨p, l', e, R, s, m, args, below, meth, c, E', A, Z⟩ := G
  obtain ⟨rfl, rfl, rfl, hx, hb, hml, hown, hlocks, hts, hK, hA, hNw, hRs, hSS⟩ := hG
  intro L H locs ls hdm hP hD hS hl
  obtain ⟨g1, g3, g4, g5⟩ := hV
  have hr := va_runV (p := p) (e := e) (below := below) (meth := meth) (locs := locs) (cells := k) (slots := n) (rest := rest) (As := As) (b := E'.2.2.1 i) (g := F0 m pc ls st) ⟨hx, hb, hml, hown, hts⟩ (hc H.size) (cwV (C := y.cls) na hts (gw_app (fun _ h => h) g3 (gw_ws g4)) rfl rfl rfl ⟨rfl, g5⟩ ⟨hfr, hlo⟩) ⟨jPre_blind, by rw [g1]; exact vk_recv hSS.1 hi hS, fun U hU hW => ⟨rfl, jPre_at hdm hP hD hS hA hK hNw hRs hSS hU hW⟩⟩ rfl hna (by rw [← hml]; exact hl.1) hst (lv_room hrs) hd ⟨hkc, hks⟩
  rw [h0, h1] at hr
  exact callX hr hS (AF_in hdm hD hS hA) (fun v f' L1 H1 locs1 hp1 hd1 hP1 hD1 hS1 => kk v f' hp1 L1 H1 locs1 ls hd1 hP1 hD1 hS1 hl)
end JK
abbrev rmJ3_checkIndex_8e157 : Room := ⟨0, 0, 0, 0⟩
abbrev KJ3_checkIndex_8e157 (l : Launch) (E : JE) (av : List Value) (f : Hp) (P : Option Value → Hp → Prop) : Prop := Ct l E yJ3_checkIndex_8e157 cJ3_checkIndex_8e157 3 (some .int) rmJ3_checkIndex_8e157 av f P
abbrev rmJ0_checkIndex_df160 : Room := ⟨1, 0, 0, 22⟩
abbrev KJ0_checkIndex_df160 (l : Launch) (E : JE) (av : List Value) (f : Hp) (P : Option Value → Hp → Prop) : Prop := Ct l E yJ0_checkIndex_df160 cJ0_checkIndex_df160 2 none rmJ0_checkIndex_df160 av f P
abbrev rmJ1_charAt_3b067 : Room := ⟨2, 0, 0, 43⟩
abbrev KJ1_charAt_3b067 (l : Launch) (E : JE) (av : List Value) (f : Hp) (P : Option Value → Hp → Prop) : Prop := Ct l E yJ1_charAt_3b067 cJ1_charAt_3b067 2 (some .char) rmJ1_charAt_3b067 av f P
abbrev rmJ0_coder_7d493 : Room := ⟨0, 0, 0, 0⟩
abbrev KJ0_coder_7d493 (l : Launch) (E : JE) (av : List Value) (f : Hp) (P : Option Value → Hp → Prop) : Prop := Ct l E yJ0_coder_7d493 cJ0_coder_7d493 1 (some .byte) rmJ0_coder_7d493 av f P
abbrev rmJ0_isLatin1_aae02 : Room := ⟨0, 0, 0, 0⟩
abbrev KJ0_isLatin1_aae02 (l : Launch) (E : JE) (av : List Value) (f : Hp) (P : Option Value → Hp → Prop) : Prop := Ct l E yJ0_isLatin1_aae02 cJ0_isLatin1_aae02 1 (some .boolean) rmJ0_isLatin1_aae02 av f P
abbrev rmJ0_length_8abf5 : Room := ⟨1, 0, 0, 20⟩
abbrev KJ0_length_8abf5 (l : Launch) (E : JE) (av : List Value) (f : Hp) (P : Option Value → Hp → Prop) : Prop := Ct l E yJ0_length_8abf5 cJ0_length_8abf5 1 (some .int) rmJ0_length_8abf5 av f P
abbrev rmJ0_charAt_5068e : Room := ⟨3, 0, 0, 64⟩
abbrev KJ0_charAt_5068e (l : Launch) (E : JE) (av : List Value) (f : Hp) (P : Option Value → Hp → Prop) : Prop := Ct l E yJ0_charAt_5068e cJ0_charAt_5068e 2 (some .char) rmJ0_charAt_5068e av f P
abbrev rmJ7_fill_53178 : Room := ⟨0, 0, 0, 0⟩
abbrev KJ7_fill_53178 (l : Launch) (E : JE) (av : List Value) (f : Hp) (P : Option Value → Hp → Prop) : Prop := Ct l E yJ7_fill_53178 cJ7_fill_53178 4 none rmJ7_fill_53178 av f P
theorem c_J3_check_n {l : Launch} {E : JE} {f : Hp} {a b : Int} (ha : 0 ≤ a ∧ a < b) (hb : b < 100) : KJ3_checkIndex_8e157 l E [.int (iZ a), .int (iZ b), .null] f (fun v f' => v = some (.int (iZ a)) ∧ f = f') := by
  refine ct_of (own := RJ3) (lv := [(0, .int (iZ a)), (1, .int (iZ b)), (2, .null)]) (by decide +kernel) rfl (Nat.le_of_ble_eq_true rfl) rfl ?_
  intro G hG hZ
  refine j_iload_n hG dJ3_checkIndex_8e157_0 rfl rfl ?_
  refine j_if_lt (tgt := 9) hG dJ3_checkIndex_8e157_1 (by decide) (by omega) (fun c => ?_) (fun c => ?_)
  · exfalso; omega
  refine j_iload_n hG dJ3_checkIndex_8e157_4 rfl rfl ?_
  refine j_iload_n hG dJ3_checkIndex_8e157_5 rfl rfl ?_
  refine j_icmp_lt (tgt := 16) hG dJ3_checkIndex_8e157_6 (by decide) (by omega) (by omega) (fun c => ?_) (fun c => ?_)
  · refine j_iload_n hG dJ3_checkIndex_8e157_16 rfl rfl ?_
    exact j_iret hG hZ dJ3_checkIndex_8e157_17 (Nat.zero_le _) (Nat.zero_le _) ⟨rfl, rfl⟩
  · exfalso; omega
theorem c_J3_check_r {l : Launch} {E : JE} {f : Hp} {a b : Int} {t : Nat} (ha : 0 ≤ a ∧ a < b) (hb : b < 100) : KJ3_checkIndex_8e157 l E [.int (iZ a), .int (iZ b), .ref t] f (fun v f' => v = some (.int (iZ a)) ∧ f = f') := by
  refine ct_of (own := RJ3) (lv := [(0, .int (iZ a)), (1, .int (iZ b)), (2, .ref t)]) (by decide +kernel) rfl (Nat.le_of_ble_eq_true rfl) rfl ?_
  intro G hG hZ
  refine j_iload_n hG dJ3_checkIndex_8e157_0 rfl rfl ?_
  refine j_if_lt (tgt := 9) hG dJ3_checkIndex_8e157_1 (by decide) (by omega) (fun c => ?_) (fun c => ?_)
  · exfalso; omega
  refine j_iload_n hG dJ3_checkIndex_8e157_4 rfl rfl ?_
  refine j_iload_n hG dJ3_checkIndex_8e157_5 rfl rfl ?_
  refine j_icmp_lt (tgt := 16) hG dJ3_checkIndex_8e157_6 (by decide) (by omega) (by omega) (fun c => ?_) (fun c => ?_)
  · refine j_iload_n hG dJ3_checkIndex_8e157_16 rfl rfl ?_
    exact j_iret hG hZ dJ3_checkIndex_8e157_17 (Nat.zero_le _) (Nat.zero_le _) ⟨rfl, rfl⟩
  · exfalso; omega
theorem c_J0_check {l : Launch} {E : JE} {f : Hp} {a b : Int} (ha : 0 ≤ a ∧ a < b) (hb : b < 100) : KJ0_checkIndex_df160 l E [.int (iZ a), .int (iZ b)] f (fun v f' => v = none ∧ f = f') := by
  refine ct_of (own := RJ0) (lv := [(0, .int (iZ a)), (1, .int (iZ b))]) (by decide +kernel) rfl (Nat.le_of_ble_eq_true rfl) rfl ?_
  intro G hG hZ
  refine j_iload_n hG dJ0_checkIndex_df160_0 rfl rfl ?_
  refine j_iload_n hG dJ0_checkIndex_df160_1 rfl rfl ?_
  refine j_gsF hG dJ0_checkIndex_df160_2 ?_ (fun t => ?_)
  · refine j_callS (rest := []) hG vJ0_1059 dJ0_checkIndex_df160_5 (c_J3_check_n ha hb) rfl rfl (by decide) (by decide) (Nat.le_of_ble_eq_true rfl) rfl rfl (Nat.zero_le _) (Nat.zero_le _) ?_
    rintro _ _ ⟨rfl, rfl⟩
    refine j_st (st' := [.int (iZ a)]) rfl ?_
    refine j_pop hG dJ0_checkIndex_df160_8 rfl ?_
    exact j_vret hG hZ dJ0_checkIndex_df160_9 (Nat.zero_le _) (Nat.zero_le _) ⟨rfl, rfl⟩
  · refine j_callS (rest := []) hG vJ0_1059 dJ0_checkIndex_df160_5 (c_J3_check_r ha hb) rfl rfl (by decide) (by decide) (Nat.le_of_ble_eq_true rfl) rfl rfl (Nat.zero_le _) (Nat.zero_le _) ?_
    rintro _ _ ⟨rfl, rfl⟩
    refine j_st (st' := [.int (iZ a)]) rfl ?_
    refine j_pop hG dJ0_checkIndex_df160_8 rfl ?_
    exact j_vret hG hZ dJ0_checkIndex_df160_9 (Nat.zero_le _) (Nat.zero_le _) ⟨rfl, rfl⟩
theorem c_J1_charAt {l : Launch} {E : JE} {f : Hp} {i : Nat} {q : Int} (hi : i < 16) (hq : 0 ≤ q ∧ q < sln i) : KJ1_charAt_3b067 l E [.ref (E.2.2.2 i), .int (iZ q)] f (fun v f' => v = some (.int (iZ (chr i q))) ∧ f = f') := by
  have h9 := sln_rng hi
  have h8 := chr_rng hi (k := q) (by omega)
  refine ct_of (own := RJ1) (lv := [(0, .ref (E.2.2.2 i)), (1, .int (iZ q))]) (by decide +kernel) rfl (Nat.le_of_ble_eq_true rfl) rfl ?_
  intro G hG hZ
  refine j_iload_n hG dJ1_charAt_3b067_0 rfl rfl ?_
  refine j_aload_n hG dJ1_charAt_3b067_1 rfl rfl ?_
  refine j_tln hG hi dJ1_charAt_3b067_2 ?_
  refine j_callS (rest := []) hG vJ1_9 dJ1_charAt_3b067_3 (c_J0_check hq (by omega)) rfl rfl (by decide) (by decide) (Nat.le_of_ble_eq_true rfl) rfl rfl (Nat.zero_le _) (Nat.zero_le _) ?_
  rintro _ _ ⟨rfl, rfl⟩
  refine j_st (st' := []) rfl ?_
  refine j_aload_n hG dJ1_charAt_3b067_6 rfl rfl ?_
  refine j_iload_n hG dJ1_charAt_3b067_7 rfl rfl ?_
  refine j_tba hG hi dJ1_charAt_3b067_8 hq ?_
  refine j_sipush hG dJ1_charAt_3b067_9 (by decide) ?_
  refine j_iand hG dJ1_charAt_3b067_12 ?_
  refine j_eqi (show iZ (chr i q) &&& iZ 255 = iZ (chr i q) from ((iZ_mask (p := 255) 8 (by decide) (by decide) (by omega)).trans (congrArg iZ (by omega)))) ?_
  refine j_i2c (y := iZ (chr i q)) hG dJ1_charAt_3b067_13 (i2c_b (by omega)) ?_
  exact j_zret hG hZ dJ1_charAt_3b067_14 (Nat.zero_le _) (Nat.zero_le _) (nar_cr (by omega)) ⟨rfl, rfl⟩
theorem c_J0_coder {l : Launch} {E : JE} {f : Hp} {i : Nat} (hi : i < 16) : KJ0_coder_7d493 l E [.ref (E.2.2.1 i)] f (fun v f' => v = some (.int (iZ 0)) ∧ f = f') := by
  refine ct_of (own := RJ0) (lv := [(0, .ref (E.2.2.1 i))]) (by decide +kernel) rfl (Nat.le_of_ble_eq_true rfl) rfl ?_
  intro G hG hZ
  refine j_gsK hG dJ0_coder_7d493_0 ?_
  refine j_if_eq (tgt := 13) hG dJ0_coder_7d493_3 (by decide) (by omega) (fun c => ?_) (fun c => ?_)
  · exfalso; omega
  refine j_aload_n hG dJ0_coder_7d493_6 rfl rfl ?_
  refine j_gfC hG hi dJ0_coder_7d493_7 ?_
  refine j_goto (tgt := 14) hG dJ0_coder_7d493_10 (by decide) ?_
  exact j_zret hG hZ dJ0_coder_7d493_14 (Nat.zero_le _) (Nat.zero_le _) (by decide) ⟨rfl, rfl⟩
theorem c_J0_isLatin1 {l : Launch} {E : JE} {f : Hp} {i : Nat} (hi : i < 16) : KJ0_isLatin1_aae02 l E [.ref (E.2.2.1 i)] f (fun v f' => v = some (.int (iZ 1)) ∧ f = f') := by
  refine ct_of (own := RJ0) (lv := [(0, .ref (E.2.2.1 i))]) (by decide +kernel) rfl (Nat.le_of_ble_eq_true rfl) rfl ?_
  intro G hG hZ
  refine j_gsK hG dJ0_isLatin1_aae02_0 ?_
  refine j_if_eq (tgt := 17) hG dJ0_isLatin1_aae02_3 (by decide) (by omega) (fun c => ?_) (fun c => ?_)
  · exfalso; omega
  refine j_aload_n hG dJ0_isLatin1_aae02_6 rfl rfl ?_
  refine j_gfC hG hi dJ0_isLatin1_aae02_7 ?_
  refine j_if_ne (tgt := 17) hG dJ0_isLatin1_aae02_10 (by decide) (by omega) (fun c => ?_) (fun c => ?_)
  · exfalso; omega
  refine j_iconst hG dJ0_isLatin1_aae02_13 ?_
  refine j_goto (tgt := 18) hG dJ0_isLatin1_aae02_14 (by decide) ?_
  exact j_zret hG hZ dJ0_isLatin1_aae02_18 (Nat.zero_le _) (Nat.zero_le _) (by decide) ⟨rfl, rfl⟩
theorem c_J0_length {l : Launch} {E : JE} {f : Hp} {i : Nat} (hi : i < 16) : KJ0_length_8abf5 l E [.ref (E.2.2.1 i)] f (fun v f' => v = some (.int (iZ (sln i))) ∧ f = f') := by
  refine ct_of (own := RJ0) (lv := [(0, .ref (E.2.2.1 i))]) (by decide +kernel) rfl (Nat.le_of_ble_eq_true rfl) rfl ?_
  intro G hG hZ
  refine j_aload_n hG dJ0_length_8abf5_0 rfl rfl ?_
  refine j_gfV hG hi dJ0_length_8abf5_1 ?_
  refine j_tln hG hi dJ0_length_8abf5_4 ?_
  refine j_aload_n hG dJ0_length_8abf5_5 rfl rfl ?_
  refine j_callK (rest := [.int (iZ (sln i))]) hG hi vJ0_335 dJ0_length_8abf5_6 (c_J0_coder hi) rfl rfl (by decide) (by decide) (Nat.le_of_ble_eq_true rfl) rfl rfl (Nat.zero_le _) (Nat.zero_le _) ?_
  rintro _ _ ⟨rfl, rfl⟩
  refine j_st (st' := [.int (iZ 0), .int (iZ (sln i))]) rfl ?_
  refine j_ishr hG dJ0_length_8abf5_9 ?_
  refine j_eqi (show iZ (sln i) >>> (iZ 0 &&& 31) = iZ (sln i) from sb_shr0 _) ?_
  exact j_iret hG hZ dJ0_length_8abf5_10 (Nat.zero_le _) (Nat.zero_le _) ⟨rfl, rfl⟩
theorem c_J0_charAt {l : Launch} {E : JE} {f : Hp} {i : Nat} {q : Int} (hi : i < 16) (hq : 0 ≤ q ∧ q < sln i) : KJ0_charAt_5068e l E [.ref (E.2.2.1 i), .int (iZ q)] f (fun v f' => v = some (.int (iZ (chr i q))) ∧ f = f') := by
  have h9 := sln_rng hi
  have h8 := chr_rng hi (k := q) (by omega)
  refine ct_of (own := RJ0) (lv := [(0, .ref (E.2.2.1 i)), (1, .int (iZ q))]) (by decide +kernel) rfl (Nat.le_of_ble_eq_true rfl) rfl ?_
  intro G hG hZ
  refine j_aload_n hG dJ0_charAt_5068e_0 rfl rfl ?_
  refine j_callK (rest := []) hG hi vJ0_492 dJ0_charAt_5068e_1 (c_J0_isLatin1 hi) rfl rfl (by decide) (by decide) (Nat.le_of_ble_eq_true rfl) rfl rfl (Nat.zero_le _) (Nat.zero_le _) ?_
  rintro _ _ ⟨rfl, rfl⟩
  refine j_st (st' := [.int (iZ 1)]) rfl ?_
  refine j_if_eq (tgt := 16) hG dJ0_charAt_5068e_4 (by decide) (by omega) (fun c => ?_) (fun c => ?_)
  · exfalso; omega
  refine j_aload_n hG dJ0_charAt_5068e_7 rfl rfl ?_
  refine j_gfV hG hi dJ0_charAt_5068e_8 ?_
  refine j_iload_n hG dJ0_charAt_5068e_11 rfl rfl ?_
  refine j_callS (rest := []) hG vJ0_495 dJ0_charAt_5068e_12 (c_J1_charAt hi hq) rfl rfl (by decide) (by decide) (Nat.le_of_ble_eq_true rfl) rfl rfl (Nat.zero_le _) (Nat.zero_le _) ?_
  rintro _ _ ⟨rfl, rfl⟩
  refine j_st (st' := [.int (iZ (chr i q))]) rfl ?_
  exact j_zret hG hZ dJ0_charAt_5068e_15 (Nat.zero_le _) (Nat.zero_le _) (nar_cr (by omega)) ⟨rfl, rfl⟩
/-- the TOKEN at s is the word i -/
def wrd (g : Int → Int) (len s : Int) (i : Nat) : Prop := tE g len s - s = sln i ∧ ∀ k, 0 ≤ k → k < sln i → g (s + k) = chr i k
theorem l_X10_isTokenS {G : JG} {l : Launch} {E : JE} {P : Option Value → Hp → Prop} (hG : jX G l E cX10_isToken_ RX10 3 rmX10_isToken_) (hZ : jZ G (some .boolean) P) {tp by0 : Nat} {len st : Int} {g : Int → Int} {f0 : Hp} {i0 : Nat} (hi0 : i0 < 16) (hl : 0 ≤ len ∧ len ≤ 300) (hg : bOk g) (hs : 0 ≤ st ∧ st ≤ len) (hw : tE g len st - st = sln i0) (hP : ∀ (z : Int) (f : Hp), f = f0 → ((z = 1 ∧ wrd g len st i0) ∨ (z = 0 ∧ ¬ wrd g len st i0)) → P (some (.int (iZ z))) f) :
    ∀ (d : Nat) (j : Int) (f : Hp), (h : f tp = oB 9 [.ref by0, .int (iZ (len)), .int (iZ (st)), .int (iZ (tE g len st))]) → (hb : f by0 = aI (E.2.1 3) 300 (g)) → (hj : 0 ≤ j ∧ j ≤ sln i0) → (he : ∀ k, 0 ≤ k → k < j → g (st + k) = chr i0 k) → (hf : f = f0) → ((sln i0 - j).toNat) < d → J G 0 0 f 20 [(0, .ref tp), (1, .ref (E.2.2.1 i0)), (2, .int (iZ (j)))] [] := by
  intro d
  induction d with
  | zero => intro j f h hb hj he hf hd9; exfalso; omega
  | succ d ih =>
    intro j f h hb hj he hf hd9
    refine j_iload_n hG dX10_isToken__20 rfl rfl ?_
    refine j_aload_n hG dX10_isToken__21 rfl rfl ?_
    refine j_callK (rest := [.int (iZ (j))]) hG hi0 vX10_44 dX10_isToken__22 (c_J0_length hi0) rfl rfl (by decide) (by decide) (Nat.le_of_ble_eq_true rfl) rfl rfl (Nat.zero_le _) (Nat.zero_le _) ?_
    rintro _ _ ⟨rfl, rfl⟩
    refine j_st (st' := [.int (iZ (sln i0)), .int (iZ (j))]) rfl ?_
    have s9 := sln_rng hi0
    have q0 := tE_rng (g := g) hs
    refine j_icmp_ge (tgt := 55) hG dX10_isToken__25 (by decide) (by omega) (by omega) (fun c1 => ?_) (fun c1 => ?_)
    · -- taken at 25
      refine j_iconst hG dX10_isToken__55 ?_
      have e9 : j = sln i0 := by omega
      subst e9
      exact j_zret hG hZ dX10_isToken__56 (Nat.zero_le _) (Nat.zero_le _) (nar_zr (by omega)) (hP 1 f hf (Or.inl ⟨rfl, hw, he⟩))
    · -- on at 25
      refine j_aload_n hG dX10_isToken__28 rfl rfl ?_
      refine j_get hG fX10_9 dX10_isToken__29 h rfl ?_
      refine j_aload_n hG dX10_isToken__32 rfl rfl ?_
      refine j_get hG fX10_34 dX10_isToken__33 h rfl ?_
      refine j_iload_n hG dX10_isToken__36 rfl rfl ?_
      refine j_iadd hG dX10_isToken__37 ?_
      refine j_cald hG dX10_isToken__38 hb (by omega) (by decide) ?_
      refine j_aload_n hG dX10_isToken__39 rfl rfl ?_
      refine j_iload_n hG dX10_isToken__40 rfl rfl ?_
      refine j_callK (rest := [.int (iZ (g (st + j)))]) hG hi0 vX10_49 dX10_isToken__41 (c_J0_charAt (q := j) hi0 (by omega)) rfl rfl (by decide) (by decide) (Nat.le_of_ble_eq_true rfl) rfl rfl (Nat.zero_le _) (Nat.zero_le _) ?_
      rintro _ _ ⟨rfl, rfl⟩
      refine j_st (st' := [.int (iZ (chr i0 j)), .int (iZ (g (st + j)))]) rfl ?_
      have hg9 := hg (st + j)
      have c9 := chr_rng hi0 (k := j) (by omega)
      refine j_icmp_eq (tgt := 49) hG dX10_isToken__44 (by decide) (by omega) (by omega) (fun c2 => ?_) (fun c2 => ?_)
      · -- taken at 44
        refine j_iinc (a := j) (lv' := [(0, .ref tp), (1, .ref (E.2.2.1 i0)), (2, .int (iZ (j + 1)))]) hG dX10_isToken__49 rfl (by decide) rfl ?_
        refine j_goto (tgt := 20) hG dX10_isToken__52 (by decide) ?_
        exact ih (j + 1) f h hb (by omega) (fun k k1 k2 => by by_cases e : k = j; (subst e; omega); exact he k k1 (by omega)) hf (by omega)
      · -- on at 44
        refine j_iconst hG dX10_isToken__47 ?_
        exact j_zret hG hZ dX10_isToken__48 (Nat.zero_le _) (Nat.zero_le _) (nar_zr (by omega)) (hP 0 f hf (Or.inr ⟨rfl, fun q => absurd (q.2 j (by omega) (by omega)) (by omega)⟩))
theorem c_X10_isToken_ {l : Launch} {E : JE} {f : Hp} {tp by0 : Nat} {len st : Int} {g : Int → Int} {i0 : Nat} (h : f tp = oB 9 [.ref by0, .int (iZ (len)), .int (iZ (st)), .int (iZ (tE g len st))]) (hb : f by0 = aI (E.2.1 3) 300 (g)) (hi0 : i0 < 16) (hl : 0 ≤ len ∧ len ≤ 300) (hg : bOk g) (hs : 0 ≤ st ∧ st ≤ len) : KX10_isToken_ l E [.ref tp, .ref (E.2.2.1 i0)] f (fun v f' => (∃ z : Int, v = some (.int (iZ z)) ∧ ((z = 1 ∧ wrd g len st i0) ∨ (z = 0 ∧ ¬ wrd g len st i0))) ∧ f = f') := by
  refine ct_of (own := RX10) (lv := [(0, .ref tp), (1, .ref (E.2.2.1 i0))]) (by decide +kernel) rfl (Nat.le_of_ble_eq_true rfl) rfl ?_
  intro G hG hZ
  refine j_aload_n hG dX10_isToken__0 rfl rfl ?_
  refine j_get hG fX10_28 dX10_isToken__1 h rfl ?_
  refine j_aload_n hG dX10_isToken__4 rfl rfl ?_
  refine j_get hG fX10_34 dX10_isToken__5 h rfl ?_
  refine j_isub hG dX10_isToken__8 ?_
  refine j_aload_n hG dX10_isToken__9 rfl rfl ?_
  refine j_callK (rest := [.int (iZ ((tE g len st) - st))]) hG hi0 vX10_44 dX10_isToken__10 (c_J0_length hi0) rfl rfl (by decide) (by decide) (Nat.le_of_ble_eq_true rfl) rfl rfl (Nat.zero_le _) (Nat.zero_le _) ?_
  rintro _ _ ⟨rfl, rfl⟩
  refine j_st (st' := [.int (iZ (sln i0)), .int (iZ ((tE g len st) - st))]) rfl ?_
  have s9 := sln_rng hi0
  have q0 := tE_rng (g := g) hs
  refine j_icmp_eq (tgt := 18) hG dX10_isToken__13 (by decide) (by omega) (by omega) (fun c1 => ?_) (fun c1 => ?_)
  · -- taken at 13
    refine j_iconst hG dX10_isToken__18 ?_
    refine j_istore_n (lv' := [(0, .ref tp), (1, .ref (E.2.2.1 i0)), (2, .int (iZ (0)))]) hG dX10_isToken__19 rfl (by decide) rfl ?_
    exact l_X10_isTokenS (f0 := f) hG hZ hi0 hl hg hs (by omega) (fun z f' e a => ⟨⟨z, rfl, a⟩, e.symm⟩) ((sln i0 - 0).toNat + 1) 0 f h hb (by omega) (fun k k1 k2 => absurd k2 (by omega)) rfl (by omega)
  · -- on at 13
    refine j_iconst hG dX10_isToken__16 ?_
    exact j_zret hG hZ dX10_isToken__17 (Nat.zero_le _) (Nat.zero_le _) (nar_zr (by omega)) (⟨⟨0, rfl, Or.inr ⟨rfl, fun q => absurd q.1 (by omega)⟩⟩, rfl⟩)
theorem l_J7_fill {G : JG} {l : Launch} {E : JE} {P : Option Value → Hp → Prop} (hG : jX G l E cJ7_fill_53178 RJ7 4 rmJ7_fill_53178) (hZ : jZ G none P) {a : Nat} {x : Int} {f0 : Hp} (hP : ∀ (f' : Hp) (g' : Int → Int), f' a = aI (E.2.1 0) 26 g' → (∀ j, 0 ≤ j → j < 26 → g' j = x) → (∀ q, q ≠ a → f' q = f0 q) → P none f') :
    ∀ (d : Nat) (i : Int) (g : Int → Int) (f1 : Hp), (h : f1 a = aI (E.2.1 0) 26 (g)) → (hi : 0 ≤ i ∧ i ≤ 26) → (he : ∀ j, 0 ≤ j → j < i → g j = x) → (hfr : ∀ q, q ≠ a → f1 q = f0 q) → ((26 - i).toNat) < d → J G 0 0 f1 5 [(0, .ref a), (1, .int (iZ (x))), (2, .int (iZ (i))), (3, .int (iZ (26)))] [] := by
  intro d
  induction d with
  | zero => intro i g f1 h hi he hfr hd9; exfalso; omega
  | succ d ih =>
    intro i g f1 h hi he hfr hd9
    refine j_iload_n hG dJ7_fill_53178_5 rfl rfl ?_
    refine j_iload_n hG dJ7_fill_53178_6 rfl rfl ?_
    refine j_icmp_ge (tgt := 20) hG dJ7_fill_53178_7 (by decide) (by omega) (by omega) (fun c1 => ?_) (fun c1 => ?_)
    · -- taken at 7
      have e9 : i = 26 := by omega
      subst e9
      exact j_vret hG hZ dJ7_fill_53178_20 (Nat.zero_le _) (Nat.zero_le _) (hP f1 g h he hfr)
    · -- on at 7
      refine j_aload_n hG dJ7_fill_53178_10 rfl rfl ?_
      refine j_iload_n hG dJ7_fill_53178_11 rfl rfl ?_
      refine j_iload_n hG dJ7_fill_53178_12 rfl rfl ?_
      refine j_iast hG dJ7_fill_53178_13 h (by omega) (by decide) (fun f2 h3 fr4 => ?_)
      refine j_iinc (a := i) (lv' := [(0, .ref a), (1, .int (iZ (x))), (2, .int (iZ (i + 1))), (3, .int (iZ (26)))]) hG dJ7_fill_53178_14 rfl (by decide) rfl ?_
      refine j_goto (tgt := 5) hG dJ7_fill_53178_17 (by decide) ?_
      exact ih (i + 1) _ f2 h3 (by omega) (fun j j1 j2 => by by_cases e : j = i; (subst e; exact fup_s _ _ _); (rw [fup_n _ _ e]; exact he j j1 (by omega))) (fun q q1 => (fr4 q q1).trans (hfr q q1)) (by omega)
theorem c_J7_fill_53178 {l : Launch} {E : JE} {f : Hp} {a : Nat} {x : Int} {g : Int → Int} (h : f a = aI (E.2.1 0) 26 (g))  : KJ7_fill_53178 l E [.ref a, .int (iZ (x))] f (fun v f' => v = none ∧ ∃ g' : Int → Int, f' a = aI (E.2.1 0) 26 g' ∧ (∀ j, 0 ≤ j → j < 26 → g' j = x) ∧ ∀ q, q ≠ a → f' q = f q) := by
  refine ct_of (own := RJ7) (lv := [(0, .ref a), (1, .int (iZ (x)))]) (by decide +kernel) rfl (Nat.le_of_ble_eq_true rfl) rfl ?_
  intro G hG hZ
  refine j_iconst hG dJ7_fill_53178_0 ?_
  refine j_istore_n (lv' := [(0, .ref a), (1, .int (iZ (x))), (2, .int (iZ (0)))]) hG dJ7_fill_53178_1 rfl (by decide) rfl ?_
  refine j_aload_n hG dJ7_fill_53178_2 rfl rfl ?_
  refine j_alenI hG dJ7_fill_53178_3 h ?_
  refine j_istore_n (lv' := [(0, .ref a), (1, .int (iZ (x))), (2, .int (iZ (0))), (3, .int (iZ (26)))]) hG dJ7_fill_53178_4 rfl (by decide) rfl ?_
  exact l_J7_fill (f0 := f) hG hZ (fun f' g' a1 a2 a3 => ⟨rfl, g', a1, a2, a3⟩) 27 0 g f h (by omega) (fun j j1 j2 => absurd j2 (by omega)) (fun _ _ => rfl) (by omega)
