theorem c_X12_isSmall {l : Launch} {E : JE} {f : Hp}  {c : Int} (hc : 0 ≤ c ∧ c < 256) : KX12_isSmall l E [.int (iZ (c))] f (fun v f' => (∃ z : Int, v = some (.int (iZ z)) ∧ ((z = 1 ∧ 97 ≤ c ∧ c ≤ 122) ∨ (z = 0 ∧ ¬ (97 ≤ c ∧ c ≤ 122)))) ∧ f = f') := by
  refine ct_of (own := RX12) (lv := [(0, .int (iZ (c)))]) (by decide +kernel) rfl (Nat.le_of_ble_eq_true rfl) rfl ?_
  intro G9 hG hZ
  refine j_iload_n hG dX12_isSmall_0 rfl rfl ?_
  refine j_bipush hG dX12_isSmall_1 (by decide) ?_
  refine j_icmp_lt (tgt := 16) hG dX12_isSmall_3 (by decide) (by omega) (by omega) (fun c1_ => ?_) (fun c1_ => ?_)
  · -- taken at 3
    refine j_iconst hG dX12_isSmall_16 ?_
    exact j_zret hG hZ dX12_isSmall_17 (Nat.zero_le _) (Nat.zero_le _) (nar_zr (by omega)) (⟨⟨0, rfl, Or.inr ⟨rfl, by omega⟩⟩, rfl⟩)
  · -- on at 3
    refine j_iload_n hG dX12_isSmall_6 rfl rfl ?_
    refine j_bipush hG dX12_isSmall_7 (by decide) ?_
    refine j_icmp_gt (tgt := 16) hG dX12_isSmall_9 (by decide) (by omega) (by omega) (fun c2_ => ?_) (fun c2_ => ?_)
    · -- taken at 9
      refine j_iconst hG dX12_isSmall_16 ?_
      exact j_zret hG hZ dX12_isSmall_17 (Nat.zero_le _) (Nat.zero_le _) (nar_zr (by omega)) (⟨⟨0, rfl, Or.inr ⟨rfl, by omega⟩⟩, rfl⟩)
    · -- on at 9
      refine j_iconst hG dX12_isSmall_12 ?_
      refine j_goto (tgt := 17) hG dX12_isSmall_13 (by decide) ?_
      exact j_zret hG hZ dX12_isSmall_17 (Nat.zero_le _) (Nat.zero_le _) (nar_zr (by omega)) (⟨⟨1, rfl, Or.inl ⟨rfl, by omega⟩⟩, rfl⟩)
theorem c_X12_isDigit {l : Launch} {E : JE} {f : Hp}  {c : Int} (hc : 0 ≤ c ∧ c < 256) : KX12_isDigit l E [.int (iZ (c))] f (fun v f' => (∃ z : Int, v = some (.int (iZ z)) ∧ ((z = 1 ∧ 48 ≤ c ∧ c ≤ 57) ∨ (z = 0 ∧ ¬ (48 ≤ c ∧ c ≤ 57)))) ∧ f = f') := by
  refine ct_of (own := RX12) (lv := [(0, .int (iZ (c)))]) (by decide +kernel) rfl (Nat.le_of_ble_eq_true rfl) rfl ?_
  intro G9 hG hZ
  refine j_iload_n hG dX12_isDigit_0 rfl rfl ?_
  refine j_bipush hG dX12_isDigit_1 (by decide) ?_
  refine j_icmp_lt (tgt := 16) hG dX12_isDigit_3 (by decide) (by omega) (by omega) (fun c1_ => ?_) (fun c1_ => ?_)
  · -- taken at 3
    refine j_iconst hG dX12_isDigit_16 ?_
    exact j_zret hG hZ dX12_isDigit_17 (Nat.zero_le _) (Nat.zero_le _) (nar_zr (by omega)) (⟨⟨0, rfl, Or.inr ⟨rfl, by omega⟩⟩, rfl⟩)
  · -- on at 3
    refine j_iload_n hG dX12_isDigit_6 rfl rfl ?_
    refine j_bipush hG dX12_isDigit_7 (by decide) ?_
    refine j_icmp_gt (tgt := 16) hG dX12_isDigit_9 (by decide) (by omega) (by omega) (fun c2_ => ?_) (fun c2_ => ?_)
    · -- taken at 9
      refine j_iconst hG dX12_isDigit_16 ?_
      exact j_zret hG hZ dX12_isDigit_17 (Nat.zero_le _) (Nat.zero_le _) (nar_zr (by omega)) (⟨⟨0, rfl, Or.inr ⟨rfl, by omega⟩⟩, rfl⟩)
    · -- on at 9
      refine j_iconst hG dX12_isDigit_12 ?_
      refine j_goto (tgt := 17) hG dX12_isDigit_13 (by decide) ?_
      exact j_zret hG hZ dX12_isDigit_17 (Nat.zero_le _) (Nat.zero_le _) (nar_zr (by omega)) (⟨⟨1, rfl, Or.inl ⟨rfl, by omega⟩⟩, rfl⟩)
def othT (V V' : Nat → Int) : Prop := ∀ i, i ≠ 45 → i ≠ 46 → i ≠ 47 → i ≠ 48 → V' i = V i
theorem adv_ge {P : Int → Bool} {len p : Int} : p ≤ adv P len p := adv_rng.1
theorem MF_vid4 {E : JE} {rg : Nat → Nat} {f0 f : Hp} {m : Nat} {A : Nat → Nat} {V : Nat → Int} {G : Nat → Int → Int} {a b c d : Int} (h : MF E rg f0 f m A V G) (e1 : V 45 = a) (e2 : V 46 = b) (e3 : V 47 = c) (e4 : V 48 = d) : MF E rg f0 f m A (up (up (up (up V 45 a) 46 b) 47 c) 48 d) G := by
  rw [up_id e1, up_id e2, up_id e3, up_id e4]; exact h
theorem l_X12_next_w {G9 : JG} {l : Launch} {E : JE} {P : Option Value → Hp → Prop} (hG : jX G9 l E cX12_next RX12 1 rmX12_next) (hZ : jZ G9 none P) {rg : Nat → Nat} {f0 : Hp} {m : Nat} {A : Nat → Nat} {V : Nat → Int} {G : Nat → Int → Int} {g : Int → Int} {len : Int} {s : Int} (h44 : V 44 = len) (h43 : G 43 = g) (hl : 0 ≤ len ∧ len ≤ 300) (hg : bOk g) (hs : 0 ≤ s ∧ s < len) (hso : soF g len s = 1) (hE0 : adv (isL g) len s = tE g len s) (hP : ∀ (f' : Hp) (V' : Nat → Int), MF E rg f0 f' m A V' G → tok V' g len (s) → othT V V' → P none f') :
    ∀ (d : Nat) (k : Nat) (V1 : Nat → Int) (f1 : Hp), (hW0 : MF E rg f0 f1 m A V1 G) → (h45 : V1 45 = s) → (h46 : V1 46 = s + (k : Int)) → (h47 : V1 47 = 1) → (h48 : V1 48 = wW g s k) → (hv : othT V V1) → (hk : s + (k : Int) ≤ len) → (hE : adv (isL g) len (s + (k : Int)) = tE g len s) → ((len - (s + (k : Int))).toNat) < d → J G9 0 0 f1 157 [(0, .ref m)] [] := by
  intro d
  induction d with
  | zero => intro k V1 f1 hW0 h45 h46 h47 h48 hv hk hE hd9; exfalso; omega
  | succ d ih =>
    intro k V1 f1 hW0 h45 h46 h47 h48 hv hk hE hd9
    have hW := MF_vid4 hW0 h45 h46 h47 h48
    have k44 : V1 44 = len := (hv 44 (by decide) (by decide) (by decide) (by decide)).trans h44
    have bb := hg (s + (k : Int))
    have ge9 := adv_ge (P := isL g) (len := len) (p := s + (k : Int))
    have wr := wW_rng (s := s) hg k
    refine j_aload_n hG dX12_next_157 rfl rfl ?_
    refine j_get (v := .int (iZ (s + (k : Int)))) hG fX12_229 dX12_next_158 hW.1 rfl ?_
    refine j_aload_n hG dX12_next_161 rfl rfl ?_
    refine j_get (v := .int (iZ (V1 44))) hG fX12_223 dX12_next_162 hW.1 rfl ?_
    refine j_eq (show (V1 44 : Int) = (len : Int) from k44) ?_
    refine j_icmp_ge (tgt := 243) hG dX12_next_165 (by decide) (by omega) (by omega) (fun c1_ => ?_) (fun c1_ => ?_)
    · -- taken at 165
      refine j_aload_n hG dX12_next_243 rfl rfl ?_
      refine j_get (v := .int (iZ (1))) hG fX12_245 dX12_next_244 hW.1 rfl ?_
      refine j_iconst hG dX12_next_247 ?_
      refine j_icmp_ne (tgt := 335) hG dX12_next_248 (by decide) (by omega) (by omega) (fun c2_ => ?_) (fun c2_ => ?_)
      · -- taken at 248
        have e9 : tE g len s = s + (k : Int) := by rw [← hE]; exact adv_off (by first | exact Or.inl (by omega) | exact Or.inr (isL_f (by omega)))
        have e8 : (tE g len s - s).toNat = k := by omega
        exact j_vret hG hZ dX12_next_335 (Nat.zero_le _) (Nat.zero_le _) (hP f1 _ hW ⟨rfl, e9.symm, hso.symm, by show wW g s k = _; unfold woF; rw [if_neg (by omega), if_pos hso, e8]⟩ (fun i i1 i2 i3 i4 => by rw [up_n _ _ i4, up_n _ _ i3, up_n _ _ i2, up_n _ _ i1]; exact hv i i1 i2 i3 i4))
      · -- on at 248
        exfalso; omega
    · -- on at 165
      refine j_aload_n hG dX12_next_168 rfl rfl ?_
      refine j_get (v := .ref (A 43)) hG fX12_111 dX12_next_169 hW.1 rfl ?_
      refine j_aload_n hG dX12_next_172 rfl rfl ?_
      refine j_get (v := .int (iZ (s + (k : Int)))) hG fX12_229 dX12_next_173 hW.1 rfl ?_
      refine j_iald hG dX12_next_176 (MF_a43 hW) (by omega) (by decide) ?_
      refine j_eq (show ((G 43) (s + (k : Int)) : Int) = (g (s + (k : Int)) : Int) from (by rw [h43])) ?_
      refine j_callS (rest := []) hG vX12_239 dX12_next_177 (c_X12_isSmall (c := g (s + (k : Int))) bb) rfl rfl (by decide) (by decide) (Nat.le_of_ble_eq_true rfl) rfl rfl (Nat.zero_le _) (Nat.zero_le _) ?_
      rintro _ _ ⟨⟨z3_, rfl, hz4_⟩, rfl⟩
      refine j_st (st' := [.int (iZ (z3_))]) rfl ?_
      refine j_if_eq (tgt := 243) hG dX12_next_180 (by decide) (by omega) (fun c7_ => ?_) (fun c7_ => ?_)
      · -- taken at 180
        obtain ⟨-, e6_⟩ := hz4_.resolve_left (fun h => absurd h.1 (by omega))
        refine j_aload_n hG dX12_next_243 rfl rfl ?_
        refine j_get (v := .int (iZ (1))) hG fX12_245 dX12_next_244 hW.1 rfl ?_
        refine j_iconst hG dX12_next_247 ?_
        refine j_icmp_ne (tgt := 335) hG dX12_next_248 (by decide) (by omega) (by omega) (fun c8_ => ?_) (fun c8_ => ?_)
        · -- taken at 248
          have e9 : tE g len s = s + (k : Int) := by rw [← hE]; exact adv_off (by first | exact Or.inl (by omega) | exact Or.inr (isL_f (by omega)))
          have e8 : (tE g len s - s).toNat = k := by omega
          exact j_vret hG hZ dX12_next_335 (Nat.zero_le _) (Nat.zero_le _) (hP f1 _ hW ⟨rfl, e9.symm, hso.symm, by show wW g s k = _; unfold woF; rw [if_neg (by omega), if_pos hso, e8]⟩ (fun i i1 i2 i3 i4 => by rw [up_n _ _ i4, up_n _ _ i3, up_n _ _ i2, up_n _ _ i1]; exact hv i i1 i2 i3 i4))
        · -- on at 248
          exfalso; omega
      · -- on at 180
        obtain ⟨-, e5_⟩ := hz4_.resolve_right (fun h => absurd h.1 (by omega))
        refine j_aload_n hG dX12_next_183 rfl rfl ?_
        refine j_aload_n hG dX12_next_184 rfl rfl ?_
        refine j_get (v := .int (iZ (s + (k : Int)))) hG fX12_229 dX12_next_185 hW.1 rfl ?_
        refine j_aload_n hG dX12_next_188 rfl rfl ?_
        refine j_get (v := .int (iZ (s))) hG fX12_232 dX12_next_189 hW.1 rfl ?_
        refine j_isub hG dX12_next_192 ?_
        refine j_bipush hG dX12_next_193 (by decide) ?_
        refine j_icmp_ge (tgt := 224) hG dX12_next_195 (by decide) (by omega) (by omega) (fun c9_ => ?_) (fun c9_ => ?_)
        · -- taken at 195
          refine j_ldc2 (z := -1) hG dX12_next_224 kX12_218 (by decide) ?_
          refine j_put hG pX12_235 dX12_next_227 hW.1 rfl rfl (Nat.le_of_ble_eq_true rfl) (fun f10_ h11_ fr12_ => ?_)
          have hW13_ : MF E rg f0 f10_ m A (up (up (up (up (up V1 45 s) 46 (s + (k : Int))) 47 1) 48 (wW g s k)) 48 (-1)) G := MF_p48 hW h11_ fr12_
          rw [up_up] at hW13_
          refine j_aload_n hG dX12_next_230 rfl rfl ?_
          refine j_dup hG dX12_next_231 rfl ?_
          refine j_get (v := .int (iZ (s + (k : Int)))) hG fX12_229 dX12_next_232 hW13_.1 rfl ?_
          refine j_iconst hG dX12_next_235 ?_
          refine j_iadd hG dX12_next_236 ?_
          refine j_put hG pX12_229 dX12_next_237 hW13_.1 rfl rfl (Nat.le_of_ble_eq_true rfl) (fun f14_ h15_ fr16_ => ?_)
          have hW17_ : MF E rg f0 f14_ m A (up (up (up (up (up V1 45 s) 46 (s + (k : Int))) 47 1) 48 (-1)) 46 ((s + (k : Int)) + 1)) G := MF_p46 hW13_ h15_ fr16_
          refine j_goto (tgt := 149) hG dX12_next_240 (by decide) ?_
          refine j_aload_n hG dX12_next_149 rfl rfl ?_
          refine j_get (v := .int (iZ (1))) hG fX12_245 dX12_next_150 hW17_.1 rfl ?_
          refine j_iconst hG dX12_next_153 ?_
          refine j_icmp_ne (tgt := 243) hG dX12_next_154 (by decide) (by omega) (by omega) (fun c18_ => ?_) (fun c18_ => ?_)
          · -- taken at 154
            exfalso; omega
          · -- on at 154
            refine ih (k + 1) _ f14_ hW17_ rfl (by show s + (k : Int) + 1 = _; omega) rfl (by show -1 = wW g s (k + 1); rw [wW]; first | rw [if_pos (by omega)] | rw [if_neg (by omega)]) (fun i i1 i2 i3 i4 => by rw [up_n _ _ i2, up_n _ _ i4, up_n _ _ i3, up_n _ _ i2, up_n _ _ i1]; exact hv i i1 i2 i3 i4) (by omega) ?_ (by omega)
            rw [show s + ((k + 1 : Nat) : Int) = s + (k : Int) + 1 by omega, ← adv_on (by omega) (isL_iff.mpr (by omega))]
            exact hE
        · -- on at 195
          refine j_aload_n hG dX12_next_198 rfl rfl ?_
          refine j_get (v := .long (lZ (wW g s k))) hG fX12_235 dX12_next_199 hW.1 rfl ?_
          refine j_ldc2 (z := 32) hG dX12_next_202 kX12_248 (by decide) ?_
          refine j_lmul hG dX12_next_205 ?_
          refine j_aload_n hG dX12_next_206 rfl rfl ?_
          refine j_get (v := .ref (A 43)) hG fX12_111 dX12_next_207 hW.1 rfl ?_
          refine j_aload_n hG dX12_next_210 rfl rfl ?_
          refine j_get (v := .int (iZ (s + (k : Int)))) hG fX12_229 dX12_next_211 hW.1 rfl ?_
          refine j_iald hG dX12_next_214 (MF_a43 hW) (by omega) (by decide) ?_
          refine j_eq (show ((G 43) (s + (k : Int)) : Int) = (g (s + (k : Int)) : Int) from (by rw [h43])) ?_
          refine j_i2l hG dX12_next_215 (by omega) ?_
          refine j_ladd hG dX12_next_216 ?_
          refine j_ldc2 (z := 96) hG dX12_next_217 kX12_250 (by decide) ?_
          refine j_lsub hG dX12_next_220 ?_
          refine j_goto (tgt := 227) hG dX12_next_221 (by decide) ?_
          refine j_put hG pX12_235 dX12_next_227 hW.1 rfl rfl (Nat.le_of_ble_eq_true rfl) (fun f19_ h20_ fr21_ => ?_)
          have hW22_ : MF E rg f0 f19_ m A (up (up (up (up (up V1 45 s) 46 (s + (k : Int))) 47 1) 48 (wW g s k)) 48 ((((wW g s k) * 32) + (g (s + (k : Int)))) - 96)) G := MF_p48 hW h20_ fr21_
          rw [up_up] at hW22_
          refine j_aload_n hG dX12_next_230 rfl rfl ?_
          refine j_dup hG dX12_next_231 rfl ?_
          refine j_get (v := .int (iZ (s + (k : Int)))) hG fX12_229 dX12_next_232 hW22_.1 rfl ?_
          refine j_iconst hG dX12_next_235 ?_
          refine j_iadd hG dX12_next_236 ?_
          refine j_put hG pX12_229 dX12_next_237 hW22_.1 rfl rfl (Nat.le_of_ble_eq_true rfl) (fun f23_ h24_ fr25_ => ?_)
          have hW26_ : MF E rg f0 f23_ m A (up (up (up (up (up V1 45 s) 46 (s + (k : Int))) 47 1) 48 ((((wW g s k) * 32) + (g (s + (k : Int)))) - 96)) 46 ((s + (k : Int)) + 1)) G := MF_p46 hW22_ h24_ fr25_
          refine j_goto (tgt := 149) hG dX12_next_240 (by decide) ?_
          refine j_aload_n hG dX12_next_149 rfl rfl ?_
          refine j_get (v := .int (iZ (1))) hG fX12_245 dX12_next_150 hW26_.1 rfl ?_
          refine j_iconst hG dX12_next_153 ?_
          refine j_icmp_ne (tgt := 243) hG dX12_next_154 (by decide) (by omega) (by omega) (fun c27_ => ?_) (fun c27_ => ?_)
          · -- taken at 154
            exfalso; omega
          · -- on at 154
            refine ih (k + 1) _ f23_ hW26_ rfl (by show s + (k : Int) + 1 = _; omega) rfl (by show (((wW g s k) * 32) + (g (s + (k : Int)))) - 96 = wW g s (k + 1); rw [wW]; first | rw [if_pos (by omega)] | rw [if_neg (by omega)]) (fun i i1 i2 i3 i4 => by rw [up_n _ _ i2, up_n _ _ i4, up_n _ _ i3, up_n _ _ i2, up_n _ _ i1]; exact hv i i1 i2 i3 i4) (by omega) ?_ (by omega)
            rw [show s + ((k + 1 : Nat) : Int) = s + (k : Int) + 1 by omega, ← adv_on (by omega) (isL_iff.mpr (by omega))]
            exact hE
theorem l_X12_next_d {G9 : JG} {l : Launch} {E : JE} {P : Option Value → Hp → Prop} (hG : jX G9 l E cX12_next RX12 1 rmX12_next) (hZ : jZ G9 none P) {rg : Nat → Nat} {f0 : Hp} {m : Nat} {A : Nat → Nat} {V : Nat → Int} {G : Nat → Int → Int} {g : Int → Int} {len : Int} {s : Int} (h44 : V 44 = len) (h43 : G 43 = g) (hl : 0 ≤ len ∧ len ≤ 300) (hg : bOk g) (hs : 0 ≤ s ∧ s < len) (hso : soF g len s = 2) (hE0 : adv (isD g) len s = tE g len s) (hP : ∀ (f' : Hp) (V' : Nat → Int), MF E rg f0 f' m A V' G → tok V' g len (s) → othT V V' → P none f') :
    ∀ (d : Nat) (k : Nat) (V1 : Nat → Int) (f1 : Hp), (hW0 : MF E rg f0 f1 m A V1 G) → (h45 : V1 45 = s) → (h46 : V1 46 = s + (k : Int)) → (h47 : V1 47 = 2) → (h48 : V1 48 = dW g s k) → (hv : othT V V1) → (hk : s + (k : Int) ≤ len) → (hE : adv (isD g) len (s + (k : Int)) = tE g len s) → ((len - (s + (k : Int))).toNat) < d → J G9 0 0 f1 251 [(0, .ref m)] [] := by
  intro d
  induction d with
  | zero => intro k V1 f1 hW0 h45 h46 h47 h48 hv hk hE hd9; exfalso; omega
  | succ d ih =>
    intro k V1 f1 hW0 h45 h46 h47 h48 hv hk hE hd9
    have hW := MF_vid4 hW0 h45 h46 h47 h48
    have k44 : V1 44 = len := (hv 44 (by decide) (by decide) (by decide) (by decide)).trans h44
    have bb := hg (s + (k : Int))
    have ge9 := adv_ge (P := isD g) (len := len) (p := s + (k : Int))
    have wr := dW_rng (g := g) (s := s) k (fun j hj => isD_iff.mp (adv_all (P := isD g) (len := len) (p := s) (by omega) (by rw [hE0]; omega)))
    refine j_aload_n hG dX12_next_251 rfl rfl ?_
    refine j_get (v := .int (iZ (s + (k : Int)))) hG fX12_229 dX12_next_252 hW.1 rfl ?_
    refine j_aload_n hG dX12_next_255 rfl rfl ?_
    refine j_get (v := .int (iZ (V1 44))) hG fX12_223 dX12_next_256 hW.1 rfl ?_
    refine j_eq (show (V1 44 : Int) = (len : Int) from k44) ?_
    refine j_icmp_ge (tgt := 335) hG dX12_next_259 (by decide) (by omega) (by omega) (fun c1_ => ?_) (fun c1_ => ?_)
    · -- taken at 259
      have e9 : tE g len s = s + (k : Int) := by rw [← hE]; exact adv_off (by first | exact Or.inl (by omega) | exact Or.inr (isD_f (by omega)))
      have e8 : (tE g len s - s).toNat = k := by omega
      exact j_vret hG hZ dX12_next_335 (Nat.zero_le _) (Nat.zero_le _) (hP f1 _ hW ⟨rfl, e9.symm, hso.symm, by show dW g s k = _; unfold woF; rw [if_neg (by omega), if_neg (by omega), if_pos hso, e8]⟩ (fun i i1 i2 i3 i4 => by rw [up_n _ _ i4, up_n _ _ i3, up_n _ _ i2, up_n _ _ i1]; exact hv i i1 i2 i3 i4))
    · -- on at 259
      refine j_aload_n hG dX12_next_262 rfl rfl ?_
      refine j_get (v := .ref (A 43)) hG fX12_111 dX12_next_263 hW.1 rfl ?_
      refine j_aload_n hG dX12_next_266 rfl rfl ?_
      refine j_get (v := .int (iZ (s + (k : Int)))) hG fX12_229 dX12_next_267 hW.1 rfl ?_
      refine j_iald hG dX12_next_270 (MF_a43 hW) (by omega) (by decide) ?_
      refine j_eq (show ((G 43) (s + (k : Int)) : Int) = (g (s + (k : Int)) : Int) from (by rw [h43])) ?_
      refine j_callS (rest := []) hG vX12_242 dX12_next_271 (c_X12_isDigit (c := g (s + (k : Int))) bb) rfl rfl (by decide) (by decide) (Nat.le_of_ble_eq_true rfl) rfl rfl (Nat.zero_le _) (Nat.zero_le _) ?_
      rintro _ _ ⟨⟨z2_, rfl, hz3_⟩, rfl⟩
      refine j_st (st' := [.int (iZ (z2_))]) rfl ?_
      refine j_if_eq (tgt := 335) hG dX12_next_274 (by decide) (by omega) (fun c6_ => ?_) (fun c6_ => ?_)
      · -- taken at 274
        obtain ⟨-, e5_⟩ := hz3_.resolve_left (fun h => absurd h.1 (by omega))
        have e9 : tE g len s = s + (k : Int) := by rw [← hE]; exact adv_off (by first | exact Or.inl (by omega) | exact Or.inr (isD_f (by omega)))
        have e8 : (tE g len s - s).toNat = k := by omega
        exact j_vret hG hZ dX12_next_335 (Nat.zero_le _) (Nat.zero_le _) (hP f1 _ hW ⟨rfl, e9.symm, hso.symm, by show dW g s k = _; unfold woF; rw [if_neg (by omega), if_neg (by omega), if_pos hso, e8]⟩ (fun i i1 i2 i3 i4 => by rw [up_n _ _ i4, up_n _ _ i3, up_n _ _ i2, up_n _ _ i1]; exact hv i i1 i2 i3 i4))
      · -- on at 274
        obtain ⟨-, e4_⟩ := hz3_.resolve_right (fun h => absurd h.1 (by omega))
        refine j_aload_n hG dX12_next_277 rfl rfl ?_
        refine j_aload_n hG dX12_next_278 rfl rfl ?_
        refine j_get (v := .long (lZ (dW g s k))) hG fX12_235 dX12_next_279 hW.1 rfl ?_
        refine j_ldc2 (z := 1000) hG dX12_next_282 kX12_136 (by decide) ?_
        refine j_lcmp hG dX12_next_285 (by omega) (by omega) ?_
        refine j_if_le (tgt := 296) hG dX12_next_286 (by decide) (by have h9 := cI_rng (dW g s k) 1000; omega) (fun c7_ => ?_) (fun c7_ => ?_)
        · -- taken at 286
          have c7_ := cI_le.mp c7_
          refine j_aload_n hG dX12_next_296 rfl rfl ?_
          refine j_get (v := .long (lZ (dW g s k))) hG fX12_235 dX12_next_297 hW.1 rfl ?_
          refine j_ldc2 (z := 10) hG dX12_next_300 kX12_252 (by decide) ?_
          refine j_lmul hG dX12_next_303 ?_
          refine j_aload_n hG dX12_next_304 rfl rfl ?_
          refine j_get (v := .ref (A 43)) hG fX12_111 dX12_next_305 hW.1 rfl ?_
          refine j_aload_n hG dX12_next_308 rfl rfl ?_
          refine j_get (v := .int (iZ (s + (k : Int)))) hG fX12_229 dX12_next_309 hW.1 rfl ?_
          refine j_iald hG dX12_next_312 (MF_a43 hW) (by omega) (by decide) ?_
          refine j_eq (show ((G 43) (s + (k : Int)) : Int) = (g (s + (k : Int)) : Int) from (by rw [h43])) ?_
          refine j_i2l hG dX12_next_313 (by omega) ?_
          refine j_ladd hG dX12_next_314 ?_
          refine j_ldc2 (z := 48) hG dX12_next_315 kX12_254 (by decide) ?_
          refine j_lsub hG dX12_next_318 ?_
          refine j_put hG pX12_235 dX12_next_319 hW.1 rfl rfl (Nat.le_of_ble_eq_true rfl) (fun f8_ h9_ fr10_ => ?_)
          have hW11_ : MF E rg f0 f8_ m A (up (up (up (up (up V1 45 s) 46 (s + (k : Int))) 47 2) 48 (dW g s k)) 48 ((((dW g s k) * 10) + (g (s + (k : Int)))) - 48)) G := MF_p48 hW h9_ fr10_
          rw [up_up] at hW11_
          refine j_aload_n hG dX12_next_322 rfl rfl ?_
          refine j_dup hG dX12_next_323 rfl ?_
          refine j_get (v := .int (iZ (s + (k : Int)))) hG fX12_229 dX12_next_324 hW11_.1 rfl ?_
          refine j_iconst hG dX12_next_327 ?_
          refine j_iadd hG dX12_next_328 ?_
          refine j_put hG pX12_229 dX12_next_329 hW11_.1 rfl rfl (Nat.le_of_ble_eq_true rfl) (fun f12_ h13_ fr14_ => ?_)
          have hW15_ : MF E rg f0 f12_ m A (up (up (up (up (up V1 45 s) 46 (s + (k : Int))) 47 2) 48 ((((dW g s k) * 10) + (g (s + (k : Int)))) - 48)) 46 ((s + (k : Int)) + 1)) G := MF_p46 hW11_ h13_ fr14_
          refine j_goto (tgt := 243) hG dX12_next_332 (by decide) ?_
          refine j_aload_n hG dX12_next_243 rfl rfl ?_
          refine j_get (v := .int (iZ (2))) hG fX12_245 dX12_next_244 hW15_.1 rfl ?_
          refine j_iconst hG dX12_next_247 ?_
          refine j_icmp_ne (tgt := 335) hG dX12_next_248 (by decide) (by omega) (by omega) (fun c16_ => ?_) (fun c16_ => ?_)
          · -- taken at 248
            exfalso; omega
          · -- on at 248
            refine ih (k + 1) _ f12_ hW15_ rfl (by show s + (k : Int) + 1 = _; omega) rfl (by show (((dW g s k) * 10) + (g (s + (k : Int)))) - 48 = dW g s (k + 1); rw [dW]; first | rw [if_pos (by omega)] | rw [if_neg (by omega)]) (fun i i1 i2 i3 i4 => by rw [up_n _ _ i2, up_n _ _ i4, up_n _ _ i3, up_n _ _ i2, up_n _ _ i1]; exact hv i i1 i2 i3 i4) (by omega) ?_ (by omega)
            rw [show s + ((k + 1 : Nat) : Int) = s + (k : Int) + 1 by omega, ← adv_on (by omega) (isD_iff.mpr (by omega))]
            exact hE
        · -- on at 286
          have c7_ := cgt c7_
          refine j_aload_n hG dX12_next_289 rfl rfl ?_
          refine j_get (v := .long (lZ (dW g s k))) hG fX12_235 dX12_next_290 hW.1 rfl ?_
          refine j_goto (tgt := 319) hG dX12_next_293 (by decide) ?_
          refine j_put hG pX12_235 dX12_next_319 hW.1 rfl rfl (Nat.le_of_ble_eq_true rfl) (fun f17_ h18_ fr19_ => ?_)
          have hW20_ : MF E rg f0 f17_ m A (up (up (up (up (up V1 45 s) 46 (s + (k : Int))) 47 2) 48 (dW g s k)) 48 (dW g s k)) G := MF_p48 hW h18_ fr19_
          rw [up_up] at hW20_
          refine j_aload_n hG dX12_next_322 rfl rfl ?_
          refine j_dup hG dX12_next_323 rfl ?_
          refine j_get (v := .int (iZ (s + (k : Int)))) hG fX12_229 dX12_next_324 hW20_.1 rfl ?_
          refine j_iconst hG dX12_next_327 ?_
          refine j_iadd hG dX12_next_328 ?_
          refine j_put hG pX12_229 dX12_next_329 hW20_.1 rfl rfl (Nat.le_of_ble_eq_true rfl) (fun f21_ h22_ fr23_ => ?_)
          have hW24_ : MF E rg f0 f21_ m A (up (up (up (up (up V1 45 s) 46 (s + (k : Int))) 47 2) 48 (dW g s k)) 46 ((s + (k : Int)) + 1)) G := MF_p46 hW20_ h22_ fr23_
          refine j_goto (tgt := 243) hG dX12_next_332 (by decide) ?_
          refine j_aload_n hG dX12_next_243 rfl rfl ?_
          refine j_get (v := .int (iZ (2))) hG fX12_245 dX12_next_244 hW24_.1 rfl ?_
          refine j_iconst hG dX12_next_247 ?_
          refine j_icmp_ne (tgt := 335) hG dX12_next_248 (by decide) (by omega) (by omega) (fun c25_ => ?_) (fun c25_ => ?_)
          · -- taken at 248
            exfalso; omega
          · -- on at 248
            refine ih (k + 1) _ f21_ hW24_ rfl (by show s + (k : Int) + 1 = _; omega) rfl (by show dW g s k = dW g s (k + 1); rw [dW]; first | rw [if_pos (by omega)] | rw [if_neg (by omega)]) (fun i i1 i2 i3 i4 => by rw [up_n _ _ i2, up_n _ _ i4, up_n _ _ i3, up_n _ _ i2, up_n _ _ i1]; exact hv i i1 i2 i3 i4) (by omega) ?_ (by omega)
            rw [show s + ((k + 1 : Nat) : Int) = s + (k : Int) + 1 by omega, ← adv_on (by omega) (isD_iff.mpr (by omega))]
            exact hE
theorem sg_X12_next {G9 : JG} {l : Launch} {E : JE} {P : Option Value → Hp → Prop} (hG : jX G9 l E cX12_next RX12 1 rmX12_next) (hZ : jZ G9 none P) {rg : Nat → Nat} {f0 : Hp} {m : Nat} {A : Nat → Nat} {V : Nat → Int} {G : Nat → Int → Int} {g : Int → Int} {len : Int} {s : Int} {f1 : Hp} {V1 : Nat → Int} (h44 : V 44 = len) (h43 : G 43 = g) (hl : 0 ≤ len ∧ len ≤ 300) (hg : bOk g) (hs : 0 ≤ s ∧ s ≤ len) (hW0 : MF E rg f0 f1 m A V1 G) (h45 : V1 45 = s) (hv : othT V V1) (hP : ∀ (f' : Hp) (V' : Nat → Int), MF E rg f0 f' m A V' G → tok V' g len (s) → othT V V' → P none f') : J G9 0 0 f1 46 [(0, .ref m)] [] := by
  have hW := MF_vid hW0 h45
  have k44 : V1 44 = len := (hv 44 (by decide) (by decide) (by decide) (by decide)).trans h44
  have bb := hg s
  refine j_aload_n hG dX12_next_46 rfl rfl ?_
  refine j_aload_n hG dX12_next_47 rfl rfl ?_
  refine j_get (v := .int (iZ (s))) hG fX12_232 dX12_next_48 hW.1 rfl ?_
  refine j_put hG pX12_229 dX12_next_51 hW.1 rfl rfl (Nat.le_of_ble_eq_true rfl) (fun f1_ h2_ fr3_ => ?_)
  have hW4_ : MF E rg f0 f1_ m A (up (up V1 45 s) 46 s) G := MF_p46 hW h2_ fr3_
  refine j_aload_n hG dX12_next_54 rfl rfl ?_
  refine j_lconst (y := 0) hG dX12_next_55 (by decide) ?_
  refine j_put hG pX12_235 dX12_next_56 hW4_.1 rfl rfl (Nat.le_of_ble_eq_true rfl) (fun f5_ h6_ fr7_ => ?_)
  have hW8_ : MF E rg f0 f5_ m A (up (up (up V1 45 s) 46 s) 48 0) G := MF_p48 hW4_ h6_ fr7_
  refine j_aload_n hG dX12_next_59 rfl rfl ?_
  refine j_aload_n hG dX12_next_60 rfl rfl ?_
  refine j_get (v := .int (iZ (s))) hG fX12_232 dX12_next_61 hW8_.1 rfl ?_
  refine j_aload_n hG dX12_next_64 rfl rfl ?_
  refine j_get (v := .int (iZ (V1 44))) hG fX12_223 dX12_next_65 hW8_.1 rfl ?_
  refine j_eq (show (V1 44 : Int) = (len : Int) from k44) ?_
  refine j_icmp_ne (tgt := 75) hG dX12_next_68 (by decide) (by omega) (by omega) (fun c9_ => ?_) (fun c9_ => ?_)
  · -- taken at 68
    refine j_aload_n hG dX12_next_75 rfl rfl ?_
    refine j_get (v := .ref (A 43)) hG fX12_111 dX12_next_76 hW8_.1 rfl ?_
    refine j_aload_n hG dX12_next_79 rfl rfl ?_
    refine j_get (v := .int (iZ (s))) hG fX12_232 dX12_next_80 hW8_.1 rfl ?_
    refine j_iald hG dX12_next_83 (MF_a43 hW8_) (by omega) (by decide) ?_
    refine j_eq (show ((G 43) s : Int) = (g s : Int) from (by rw [h43])) ?_
    refine j_callS (rest := [.ref m]) hG vX12_239 dX12_next_84 (c_X12_isSmall (c := g s) bb) rfl rfl (by decide) (by decide) (Nat.le_of_ble_eq_true rfl) rfl rfl (Nat.zero_le _) (Nat.zero_le _) ?_
    rintro _ _ ⟨⟨z10_, rfl, hz11_⟩, rfl⟩
    refine j_st (st' := [.int (iZ (z10_)), .ref m]) rfl ?_
    refine j_if_eq (tgt := 94) hG dX12_next_87 (by decide) (by omega) (fun c14_ => ?_) (fun c14_ => ?_)
    · -- taken at 87
      obtain ⟨-, e13_⟩ := hz11_.resolve_left (fun h => absurd h.1 (by omega))
      refine j_aload_n hG dX12_next_94 rfl rfl ?_
      refine j_get (v := .ref (A 43)) hG fX12_111 dX12_next_95 hW8_.1 rfl ?_
      refine j_aload_n hG dX12_next_98 rfl rfl ?_
      refine j_get (v := .int (iZ (s))) hG fX12_232 dX12_next_99 hW8_.1 rfl ?_
      refine j_iald hG dX12_next_102 (MF_a43 hW8_) (by omega) (by decide) ?_
      refine j_eq (show ((G 43) s : Int) = (g s : Int) from (by rw [h43])) ?_
      refine j_callS (rest := [.ref m]) hG vX12_242 dX12_next_103 (c_X12_isDigit (c := g s) bb) rfl rfl (by decide) (by decide) (Nat.le_of_ble_eq_true rfl) rfl rfl (Nat.zero_le _) (Nat.zero_le _) ?_
      rintro _ _ ⟨⟨z15_, rfl, hz16_⟩, rfl⟩
      refine j_st (st' := [.int (iZ (z15_)), .ref m]) rfl ?_
      refine j_if_eq (tgt := 113) hG dX12_next_106 (by decide) (by omega) (fun c19_ => ?_) (fun c19_ => ?_)
      · -- taken at 106
        obtain ⟨-, e18_⟩ := hz16_.resolve_left (fun h => absurd h.1 (by omega))
        refine j_iconst hG dX12_next_113 ?_
        refine j_put hG pX12_245 dX12_next_114 hW8_.1 rfl rfl (Nat.le_of_ble_eq_true rfl) (fun f20_ h21_ fr22_ => ?_)
        have hW23_ : MF E rg f0 f20_ m A (up (up (up (up V1 45 s) 46 s) 48 0) 47 3) G := MF_p47 hW8_ h21_ fr22_
        refine j_aload_n hG dX12_next_117 rfl rfl ?_
        refine j_get (v := .int (iZ (3))) hG fX12_245 dX12_next_118 hW23_.1 rfl ?_
        refine j_iconst hG dX12_next_121 ?_
        refine j_icmp_ne (tgt := 149) hG dX12_next_122 (by decide) (by omega) (by omega) (fun c24_ => ?_) (fun c24_ => ?_)
        · -- taken at 122
          exfalso; omega
        · -- on at 122
          refine j_aload_n hG dX12_next_125 rfl rfl ?_
          refine j_aload_n hG dX12_next_126 rfl rfl ?_
          refine j_get (v := .ref (A 43)) hG fX12_111 dX12_next_127 hW23_.1 rfl ?_
          refine j_aload_n hG dX12_next_130 rfl rfl ?_
          refine j_get (v := .int (iZ (s))) hG fX12_232 dX12_next_131 hW23_.1 rfl ?_
          refine j_iald hG dX12_next_134 (MF_a43 hW23_) (by omega) (by decide) ?_
          refine j_eq (show ((G 43) s : Int) = (g s : Int) from (by rw [h43])) ?_
          refine j_i2l hG dX12_next_135 (by omega) ?_
          refine j_put hG pX12_235 dX12_next_136 hW23_.1 rfl rfl (Nat.le_of_ble_eq_true rfl) (fun f25_ h26_ fr27_ => ?_)
          have hW28_ : MF E rg f0 f25_ m A (up (up (up (up (up V1 45 s) 46 s) 48 0) 47 3) 48 (g s)) G := MF_p48 hW23_ h26_ fr27_
          refine j_aload_n hG dX12_next_139 rfl rfl ?_
          refine j_dup hG dX12_next_140 rfl ?_
          refine j_get (v := .int (iZ (s))) hG fX12_229 dX12_next_141 hW28_.1 rfl ?_
          refine j_iconst hG dX12_next_144 ?_
          refine j_iadd hG dX12_next_145 ?_
          refine j_put hG pX12_229 dX12_next_146 hW28_.1 rfl rfl (Nat.le_of_ble_eq_true rfl) (fun f29_ h30_ fr31_ => ?_)
          have hW32_ : MF E rg f0 f29_ m A (up (up (up (up (up (up V1 45 s) 46 s) 48 0) 47 3) 48 (g s)) 46 (s + 1)) G := MF_p46 hW28_ h30_ fr31_
          refine j_aload_n hG dX12_next_149 rfl rfl ?_
          refine j_get (v := .int (iZ (3))) hG fX12_245 dX12_next_150 hW32_.1 rfl ?_
          refine j_iconst hG dX12_next_153 ?_
          refine j_icmp_ne (tgt := 243) hG dX12_next_154 (by decide) (by omega) (by omega) (fun c33_ => ?_) (fun c33_ => ?_)
          · -- taken at 154
            refine j_aload_n hG dX12_next_243 rfl rfl ?_
            refine j_get (v := .int (iZ (3))) hG fX12_245 dX12_next_244 hW32_.1 rfl ?_
            refine j_iconst hG dX12_next_247 ?_
            refine j_icmp_ne (tgt := 335) hG dX12_next_248 (by decide) (by omega) (by omega) (fun c34_ => ?_) (fun c34_ => ?_)
            · -- taken at 248
              have il := isL_f (show ¬ (97 ≤ g s ∧ g s ≤ 122) by omega)
              have id := isD_f (show ¬ (48 ≤ g s ∧ g s ≤ 57) by omega)
              have so9 := so_3 (g := g) (len := len) (s := s) (by omega) il id
              exact j_vret hG hZ dX12_next_335 (Nat.zero_le _) (Nat.zero_le _) (hP f29_ _ hW32_ ⟨rfl, by show s + 1 = _; rw [tE_3 (by omega) il id], so9.symm, by show g s = _; unfold woF; rw [if_pos so9]⟩ (fun i i1 i2 i3 i4 => by rw [up_n _ _ i2, up_n _ _ i4, up_n _ _ i3, up_n _ _ i4, up_n _ _ i2, up_n _ _ i1]; exact hv i i1 i2 i3 i4))
            · -- on at 248
              exfalso; omega
          · -- on at 154
            exfalso; omega
      · -- on at 106
        obtain ⟨-, e17_⟩ := hz16_.resolve_right (fun h => absurd h.1 (by omega))
        refine j_iconst hG dX12_next_109 ?_
        refine j_goto (tgt := 114) hG dX12_next_110 (by decide) ?_
        refine j_put hG pX12_245 dX12_next_114 hW8_.1 rfl rfl (Nat.le_of_ble_eq_true rfl) (fun f35_ h36_ fr37_ => ?_)
        have hW38_ : MF E rg f0 f35_ m A (up (up (up (up V1 45 s) 46 s) 48 0) 47 2) G := MF_p47 hW8_ h36_ fr37_
        refine j_aload_n hG dX12_next_117 rfl rfl ?_
        refine j_get (v := .int (iZ (2))) hG fX12_245 dX12_next_118 hW38_.1 rfl ?_
        refine j_iconst hG dX12_next_121 ?_
        refine j_icmp_ne (tgt := 149) hG dX12_next_122 (by decide) (by omega) (by omega) (fun c39_ => ?_) (fun c39_ => ?_)
        · -- taken at 122
          refine j_aload_n hG dX12_next_149 rfl rfl ?_
          refine j_get (v := .int (iZ (2))) hG fX12_245 dX12_next_150 hW38_.1 rfl ?_
          refine j_iconst hG dX12_next_153 ?_
          refine j_icmp_ne (tgt := 243) hG dX12_next_154 (by decide) (by omega) (by omega) (fun c40_ => ?_) (fun c40_ => ?_)
          · -- taken at 154
            refine j_aload_n hG dX12_next_243 rfl rfl ?_
            refine j_get (v := .int (iZ (2))) hG fX12_245 dX12_next_244 hW38_.1 rfl ?_
            refine j_iconst hG dX12_next_247 ?_
            refine j_icmp_ne (tgt := 335) hG dX12_next_248 (by decide) (by omega) (by omega) (fun c41_ => ?_) (fun c41_ => ?_)
            · -- taken at 248
              exfalso; omega
            · -- on at 248
              have il := isL_f (show ¬ (97 ≤ g s ∧ g s ≤ 122) by omega)
              have id := isD_iff.mpr (show 48 ≤ g s ∧ g s ≤ 57 by omega)
              have so9 := so_2 (g := g) (len := len) (s := s) (by omega) il id
              exact l_X12_next_d hG hZ h44 h43 hl hg (by omega) so9 (tE_2 (by omega) il id).symm hP ((len - s).toNat + 1) 0 _ f35_ hW38_ rfl (by show s = _; omega) rfl rfl (fun i i1 i2 i3 i4 => by rw [up_n _ _ i3, up_n _ _ i4, up_n _ _ i2, up_n _ _ i1]; exact hv i i1 i2 i3 i4) (by omega) (by rw [show s + ((0 : Nat) : Int) = s by omega]; exact (tE_2 (by omega) il id).symm) (by omega)
          · -- on at 154
            exfalso; omega
        · -- on at 122
          exfalso; omega
    · -- on at 87
      obtain ⟨-, e12_⟩ := hz11_.resolve_right (fun h => absurd h.1 (by omega))
      refine j_iconst hG dX12_next_90 ?_
      refine j_goto (tgt := 114) hG dX12_next_91 (by decide) ?_
      refine j_put hG pX12_245 dX12_next_114 hW8_.1 rfl rfl (Nat.le_of_ble_eq_true rfl) (fun f42_ h43_ fr44_ => ?_)
      have hW45_ : MF E rg f0 f42_ m A (up (up (up (up V1 45 s) 46 s) 48 0) 47 1) G := MF_p47 hW8_ h43_ fr44_
      refine j_aload_n hG dX12_next_117 rfl rfl ?_
      refine j_get (v := .int (iZ (1))) hG fX12_245 dX12_next_118 hW45_.1 rfl ?_
      refine j_iconst hG dX12_next_121 ?_
      refine j_icmp_ne (tgt := 149) hG dX12_next_122 (by decide) (by omega) (by omega) (fun c46_ => ?_) (fun c46_ => ?_)
      · -- taken at 122
        refine j_aload_n hG dX12_next_149 rfl rfl ?_
        refine j_get (v := .int (iZ (1))) hG fX12_245 dX12_next_150 hW45_.1 rfl ?_
        refine j_iconst hG dX12_next_153 ?_
        refine j_icmp_ne (tgt := 243) hG dX12_next_154 (by decide) (by omega) (by omega) (fun c47_ => ?_) (fun c47_ => ?_)
        · -- taken at 154
          exfalso; omega
        · -- on at 154
          have il := isL_iff.mpr (show 97 ≤ g s ∧ g s ≤ 122 by omega)
          have so9 := so_1 (g := g) (len := len) (s := s) (by omega) il
          exact l_X12_next_w hG hZ h44 h43 hl hg (by omega) so9 (tE_1 (by omega) il).symm hP ((len - s).toNat + 1) 0 _ f42_ hW45_ rfl (by show s = _; omega) rfl rfl (fun i i1 i2 i3 i4 => by rw [up_n _ _ i3, up_n _ _ i4, up_n _ _ i2, up_n _ _ i1]; exact hv i i1 i2 i3 i4) (by omega) (by rw [show s + ((0 : Nat) : Int) = s by omega]; exact (tE_1 (by omega) il).symm) (by omega)
      · -- on at 122
        exfalso; omega
  · -- on at 68
    refine j_iconst hG dX12_next_71 ?_
    refine j_goto (tgt := 114) hG dX12_next_72 (by decide) ?_
    refine j_put hG pX12_245 dX12_next_114 hW8_.1 rfl rfl (Nat.le_of_ble_eq_true rfl) (fun f48_ h49_ fr50_ => ?_)
    have hW51_ : MF E rg f0 f48_ m A (up (up (up (up V1 45 s) 46 s) 48 0) 47 0) G := MF_p47 hW8_ h49_ fr50_
    refine j_aload_n hG dX12_next_117 rfl rfl ?_
    refine j_get (v := .int (iZ (0))) hG fX12_245 dX12_next_118 hW51_.1 rfl ?_
    refine j_iconst hG dX12_next_121 ?_
    refine j_icmp_ne (tgt := 149) hG dX12_next_122 (by decide) (by omega) (by omega) (fun c52_ => ?_) (fun c52_ => ?_)
    · -- taken at 122
      refine j_aload_n hG dX12_next_149 rfl rfl ?_
      refine j_get (v := .int (iZ (0))) hG fX12_245 dX12_next_150 hW51_.1 rfl ?_
      refine j_iconst hG dX12_next_153 ?_
      refine j_icmp_ne (tgt := 243) hG dX12_next_154 (by decide) (by omega) (by omega) (fun c53_ => ?_) (fun c53_ => ?_)
      · -- taken at 154
        refine j_aload_n hG dX12_next_243 rfl rfl ?_
        refine j_get (v := .int (iZ (0))) hG fX12_245 dX12_next_244 hW51_.1 rfl ?_
        refine j_iconst hG dX12_next_247 ?_
        refine j_icmp_ne (tgt := 335) hG dX12_next_248 (by decide) (by omega) (by omega) (fun c54_ => ?_) (fun c54_ => ?_)
        · -- taken at 248
          have so9 := so_0 (g := g) (len := len) (s := s) (by omega)
          exact j_vret hG hZ dX12_next_335 (Nat.zero_le _) (Nat.zero_le _) (hP f48_ _ hW51_ ⟨rfl, (tE_0 (s := s) (by omega)).symm, so9.symm, by show (0 : Int) = _; unfold woF; rw [if_neg (by omega), if_neg (by omega), if_neg (by omega)]⟩ (fun i i1 i2 i3 i4 => by rw [up_n _ _ i3, up_n _ _ i4, up_n _ _ i2, up_n _ _ i1]; exact hv i i1 i2 i3 i4))
        · -- on at 248
          exfalso; omega
      · -- on at 154
        exfalso; omega
    · -- on at 122
      exfalso; omega
theorem l_X12_next {G9 : JG} {l : Launch} {E : JE} {P : Option Value → Hp → Prop} (hG : jX G9 l E cX12_next RX12 1 rmX12_next) (hZ : jZ G9 none P) {rg : Nat → Nat} {f0 : Hp} {m : Nat} {A : Nat → Nat} {V : Nat → Int} {G : Nat → Int → Int} {g : Int → Int} {len : Int} {p : Int} (h44 : V 44 = len) (h43 : G 43 = g) (hl : 0 ≤ len ∧ len ≤ 300) (hg : bOk g) (hP : ∀ (f' : Hp) (V' : Nat → Int), MF E rg f0 f' m A V' G → tok V' g len (tS g len p) → othT V V' → P none f') :
    ∀ (d : Nat) (q : Int) (V1 : Nat → Int) (f1 : Hp), (hW0 : MF E rg f0 f1 m A V1 G) → (h45 : V1 45 = q) → (hv : othT V V1) → (hq : 0 ≤ q ∧ q ≤ len) → (hE : tS g len q = tS g len p) → ((len - q).toNat) < d → J G9 0 0 f1 8 [(0, .ref m)] [] := by
  intro d
  induction d with
  | zero => intro q V1 f1 hW0 h45 hv hq hE hd9; exfalso; omega
  | succ d ih =>
    intro q V1 f1 hW0 h45 hv hq hE hd9
    have hW := MF_vid hW0 h45
    have k44 : V1 44 = len := (hv 44 (by decide) (by decide) (by decide) (by decide)).trans h44
    have bb := hg q
    refine j_aload_n hG dX12_next_8 rfl rfl ?_
    refine j_get (v := .int (iZ (q))) hG fX12_232 dX12_next_9 hW.1 rfl ?_
    refine j_aload_n hG dX12_next_12 rfl rfl ?_
    refine j_get (v := .int (iZ (V1 44))) hG fX12_223 dX12_next_13 hW.1 rfl ?_
    refine j_eq (show (V1 44 : Int) = (len : Int) from k44) ?_
    refine j_icmp_ge (tgt := 46) hG dX12_next_16 (by decide) (by omega) (by omega) (fun c1_ => ?_) (fun c1_ => ?_)
    · -- taken at 16
      have e9 : tS g len p = q := by rw [← hE]; unfold tS; exact adv_off (by first | exact Or.inl (by omega) | exact Or.inr (decide_eq_false (by omega)))
      exact sg_X12_next (s := q) hG hZ h44 h43 hl hg (by omega) hW rfl (fun i i1 i2 i3 i4 => by rw [up_n _ _ i1]; exact hv i i1 i2 i3 i4) (fun f' V' a1 a2 a3 => hP f' V' a1 (by rw [e9]; exact a2) a3)
    · -- on at 16
      refine j_aload_n hG dX12_next_19 rfl rfl ?_
      refine j_get (v := .ref (A 43)) hG fX12_111 dX12_next_20 hW.1 rfl ?_
      refine j_aload_n hG dX12_next_23 rfl rfl ?_
      refine j_get (v := .int (iZ (q))) hG fX12_232 dX12_next_24 hW.1 rfl ?_
      refine j_iald hG dX12_next_27 (MF_a43 hW) (by omega) (by decide) ?_
      refine j_eq (show ((G 43) q : Int) = (g q : Int) from (by rw [h43])) ?_
      refine j_bipush hG dX12_next_28 (by decide) ?_
      refine j_icmp_ne (tgt := 46) hG dX12_next_30 (by decide) (by omega) (by omega) (fun c2_ => ?_) (fun c2_ => ?_)
      · -- taken at 30
        have e9 : tS g len p = q := by rw [← hE]; unfold tS; exact adv_off (by first | exact Or.inl (by omega) | exact Or.inr (decide_eq_false (by omega)))
        exact sg_X12_next (s := q) hG hZ h44 h43 hl hg (by omega) hW rfl (fun i i1 i2 i3 i4 => by rw [up_n _ _ i1]; exact hv i i1 i2 i3 i4) (fun f' V' a1 a2 a3 => hP f' V' a1 (by rw [e9]; exact a2) a3)
      · -- on at 30
        refine j_aload_n hG dX12_next_33 rfl rfl ?_
        refine j_dup hG dX12_next_34 rfl ?_
        refine j_get (v := .int (iZ (q))) hG fX12_232 dX12_next_35 hW.1 rfl ?_
        refine j_iconst hG dX12_next_38 ?_
        refine j_iadd hG dX12_next_39 ?_
        refine j_put hG pX12_232 dX12_next_40 hW.1 rfl rfl (Nat.le_of_ble_eq_true rfl) (fun f3_ h4_ fr5_ => ?_)
        have hW6_ : MF E rg f0 f3_ m A (up (up V1 45 q) 45 (q + 1)) G := MF_p45 hW h4_ fr5_
        rw [up_up] at hW6_
        refine j_goto (tgt := 8) hG dX12_next_43 (by decide) ?_
        refine ih (q + 1) _ f3_ hW6_ rfl (fun i i1 i2 i3 i4 => by rw [up_n _ _ i1]; exact hv i i1 i2 i3 i4) (by omega) ?_ (by omega)
        rw [← hE]
        unfold tS
        rw [← adv_on (by omega) (decide_eq_true (by omega))]
theorem c_X12_next {l : Launch} {E : JE} {f : Hp} {rg : Nat → Nat} {f0 : Hp} {m : Nat} {A : Nat → Nat} {V : Nat → Int} {G : Nat → Int → Int} {g : Int → Int} {len p : Int} (hW : MF E rg f0 f m A V G) (h44 : V 44 = len) (h43 : G 43 = g) (hl : 0 ≤ len ∧ len ≤ 300) (hg : bOk g) (h46 : V 46 = p) (hp : 0 ≤ p ∧ p ≤ len) : KX12_next l E [.ref m] f (fun v f' => v = none ∧ ∃ V' : Nat → Int, MF E rg f0 f' m A V' G ∧ tok V' g len (tS g len p) ∧ othT V V') := by
  refine ct_of (own := RX12) (lv := [(0, .ref m)]) (by decide +kernel) rfl (Nat.le_of_ble_eq_true rfl) rfl ?_
  intro G9 hG hZ
  refine j_aload_n hG dX12_next_0 rfl rfl ?_
  refine j_aload_n hG dX12_next_1 rfl rfl ?_
  refine j_get (v := .int (iZ (V 46))) hG fX12_229 dX12_next_2 hW.1 rfl ?_
  refine j_eq (show (V 46 : Int) = (p : Int) from h46) ?_
  refine j_put hG pX12_232 dX12_next_5 hW.1 rfl rfl (Nat.le_of_ble_eq_true rfl) (fun f1_ h2_ fr3_ => ?_)
  have hW4_ : MF E rg f0 f1_ m A (up V 45 p) G := MF_p45 hW h2_ fr3_
  exact l_X12_next hG hZ h44 h43 hl hg (fun f' V' a1 a2 a3 => ⟨rfl, V', a1, a2, a3⟩) ((len - p).toNat + 1) p _ f1_ hW4_ rfl (fun i i1 i2 i3 i4 => up_n _ _ i1) hp rfl (by omega)
