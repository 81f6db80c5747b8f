/-! ===== the law ===== -/
/-- the script: a cell that is outside the map -/
def jB (G : JG) (b L : Nat) (xs : Nat → Int32) : Prop := match G with
  | (_, _, _, _, s, _, _, _, _, _, _, A, _) => va_X b L xs s s.heap ∧ b < s.heap.size ∧ ¬ A b
def sc (xs : Nat → Int32) (i : Int) : Int := (xs i.toNat).toInt
theorem sc_rng (xs : Nat → Int32) (i : Int) : -2147483648 ≤ sc xs i ∧ sc xs i < 2147483648 := iZ_rng _
section JL
variable {G : JG} {l : Launch} {E : JE} {cc : ByteArray} {own : String} {nL : Nat} {rm : Room} {k n : Nat} {f : Hp} {pc : Nat} {lv : List (Nat × Value)} {st : List Value}
theorem j_sld (hG : jX G l E cc own nL rm) {b L : Nat} {xs : Nat → Int32} (hB : jB G b L xs) {i : Int} (hd : decode cc pc = .ok (.iaload, 1)) (hi : 0 ≤ i ∧ i < (L : Int)) (hL : L < 2147483648) (kk : J G k n f (pc + 1) lv (.int (iZ (sc xs i)) :: st)) : J G k n f pc lv (.int (iZ i) :: .ref b :: st) := by
  obtain ⟨p, l', e, R, s, m, args, below, meth, c, E', A, Z⟩ := G
  obtain ⟨rfl, rfl, rfl, hx, hb, hml, hown, hlocks, hts, hK, hA, hN, hR, hSS⟩ := hG
  obtain ⟨b1, b2, b3⟩ := hB
  intro L' H locs ls hdm hP hD hS hl
  refine va_sld hx hb b1 b2 b3 hS (iZ_in hi hL) hd ?_
  rw [iZ_cl (by omega), show xs i.toNat = iZ (sc xs i) from iZ_of _]
  exact kk L' H locs ls hdm hP hD hS hl
theorem j_slen (hG : jX G l E cc own nL rm) {b L : Nat} {xs : Nat → Int32} (hB : jB G b L xs) (hd : decode cc pc = .ok (.arraylength, 1)) (kk : J G k n f (pc + 1) lv (.int (iZ (L : Int)) :: st)) : J G k n f pc lv (.ref b :: st) := by
  obtain ⟨p, l', e, R, s, m, args, below, meth, c, E', A, Z⟩ := G
  obtain ⟨rfl, rfl, rfl, hx, hb, hml, hown, hlocks, hts, hK, hA, hN, hR, hSS⟩ := hG
  obtain ⟨b1, b2, b3⟩ := hB
  intro L' H locs ls hdm hP hD hS hl
  refine va_slen hx hb b1 b2 b3 hS hd ?_
  rw [show Int32.ofNat L = iZ (L : Int) from iZ_nI L]
  exact kk L' H locs ls hdm hP hD hS hl
theorem j_icmp_same (hG : jX G l E cc own nL rm) {x : Int32} {off : Int} {tgt : Nat} (hd : decode cc pc = .ok (.if_icmp .eq off, 3)) (ht : (pc : Int) + off = (tgt : Int)) (kt : J G k n f tgt lv st) : J G k n f pc lv (.int x :: .int x :: st) := by
  obtain ⟨p, l', e, R, s, m, args, below, meth, c, E', A, Z⟩ := G
  obtain ⟨rfl, rfl, rfl, hx, hb, hml, hown, hlocks, hts, hK, hA, hN, hR, hSS⟩ := hG
  intro L H locs ls hdm hP hD hS hl
  refine lv_icmp_eq hx hb hd ht (fun h => ?_) (fun h => ?_)
  · exact kt L H locs ls hdm hP hD hS hl
  · exact absurd rfl h
end JL
theorem MR_hd {E : JE} {rg : Nat → Nat} {f0 f : Hp} {m : Nat} {S : ST} (h : MR E rg f0 f m S) : ∃ fs, f m = oB 11 fs := by
  obtain ⟨A, V, G, h1, h2⟩ := h
  exact ⟨_, h1.1⟩
theorem law_0 {G : JG} {l : Launch} {E : JE} {rg : Nat → Nat} {f : Hp} {b L x m : Nat} {xs : Nat → Int32} {i : Int} {S : ST} (hG : jX G l E code RL 4 room_1) (hB : jB G b L xs) (hi : 0 ≤ i ∧ i + 6 ≤ (L : Int)) (hL : L ≤ 3072) (hC : CR E rg f x S) (hM : MR E rg f f m S) (hS : SOk S) (hk : ∀ (f' : Hp) (S' : ST), CR E rg f' x S' → MR E rg f' f' m S' → SOk S' → J G 159 86310 f' 583 [(0, .ref b), (1, .ref x), (2, .ref m), (3, .int (iZ i))] []) : J G 159 86310 f 116 [(0, .ref b), (1, .ref x), (2, .ref m), (3, .int (iZ i))] [] := by
  obtain ⟨ls, lr, ln, M, sz, la, rd, mr, W, O, g, len, th, fa, re⟩ := S
  obtain ⟨fx, hx⟩ := CR_hd hC
  refine j_aload_n hG dL_law_116 rfl rfl ?_
  refine j_aload_n hG dL_law_117 rfl rfl ?_
  refine j_iload_n hG dL_law_118 rfl rfl ?_
  refine j_iconst hG dL_law_119 ?_
  refine j_iadd hG dL_law_120 ?_
  refine j_sld hG hB dL_law_121 (by omega) (by omega) ?_
  refine j_aload_n hG dL_law_122 rfl rfl ?_
  refine j_iload_n hG dL_law_123 rfl rfl ?_
  refine j_iconst hG dL_law_124 ?_
  refine j_iadd hG dL_law_125 ?_
  refine j_sld hG hB dL_law_126 (by omega) (by omega) ?_
  refine j_aload_n hG dL_law_127 rfl rfl ?_
  refine j_iload_n hG dL_law_128 rfl rfl ?_
  refine j_iconst hG dL_law_129 ?_
  refine j_iadd hG dL_law_130 ?_
  refine j_sld hG hB dL_law_131 (by omega) (by omega) ?_
  refine j_aload_n hG dL_law_132 rfl rfl ?_
  refine j_iload_n hG dL_law_133 rfl rfl ?_
  refine j_iconst hG dL_law_134 ?_
  refine j_iadd hG dL_law_135 ?_
  refine j_sld hG hB dL_law_136 (by omega) (by omega) ?_
  refine j_callV (rest := []) hG vL_13 dL_law_137 (c_X11_tell hC hS (sc_rng _ _) (sc_rng _ _) (sc_rng _ _) (sc_rng _ _)) hx rfl rfl (Nat.le_of_ble_eq_true rfl) (Nat.le_of_ble_eq_true rfl) (Nat.le_of_ble_eq_true rfl) rfl rfl (Nat.le_of_ble_eq_true rfl) (Nat.le_of_ble_eq_true rfl) ?_
  rintro _ f1 ⟨rfl, hC1, hF1⟩
  have hM1 := MR_base hM hF1
  obtain ⟨fm, hm⟩ := MR_hd hM1
  refine j_st (st' := [_]) rfl ?_
  refine j_aload_n hG dL_law_140 rfl rfl ?_
  refine j_aload_n hG dL_law_141 rfl rfl ?_
  refine j_iload_n hG dL_law_142 rfl rfl ?_
  refine j_iconst hG dL_law_143 ?_
  refine j_iadd hG dL_law_144 ?_
  refine j_sld hG hB dL_law_145 (by omega) (by omega) ?_
  refine j_aload_n hG dL_law_146 rfl rfl ?_
  refine j_iload_n hG dL_law_147 rfl rfl ?_
  refine j_iconst hG dL_law_148 ?_
  refine j_iadd hG dL_law_149 ?_
  refine j_sld hG hB dL_law_150 (by omega) (by omega) ?_
  refine j_aload_n hG dL_law_151 rfl rfl ?_
  refine j_iload_n hG dL_law_152 rfl rfl ?_
  refine j_iconst hG dL_law_153 ?_
  refine j_iadd hG dL_law_154 ?_
  refine j_sld hG hB dL_law_155 (by omega) (by omega) ?_
  refine j_aload_n hG dL_law_156 rfl rfl ?_
  refine j_iload_n hG dL_law_157 rfl rfl ?_
  refine j_iconst hG dL_law_158 ?_
  refine j_iadd hG dL_law_159 ?_
  refine j_sld hG hB dL_law_160 (by omega) (by omega) ?_
  refine j_callV (rest := [_]) hG vL_17 dL_law_161 (c_X12_tell hM1 hS (sc_rng _ _) (sc_rng _ _) (sc_rng _ _) (sc_rng _ _)) hm rfl rfl (Nat.le_of_ble_eq_true rfl) (Nat.le_of_ble_eq_true rfl) (Nat.le_of_ble_eq_true rfl) rfl rfl (Nat.le_of_ble_eq_true rfl) (Nat.le_of_ble_eq_true rfl) ?_
  rintro _ f2 ⟨rfl, hM2⟩
  refine j_st (st' := [_, _]) rfl ?_
  refine j_icmp_same (tgt := 583) hG dL_law_164 rfl ?_
  exact hk f2 _ (CR_le hC1 (MR_low hM2)) (MR_base hM2 (fun _ _ => rfl)) (ok_tellF hS)
theorem law_1 {G : JG} {l : Launch} {E : JE} {rg : Nat → Nat} {f : Hp} {b L x m : Nat} {xs : Nat → Int32} {i : Int} {S : ST} (hG : jX G l E code RL 4 room_1) (hB : jB G b L xs) (hi : 0 ≤ i ∧ i + 6 ≤ (L : Int)) (hL : L ≤ 3072) (hC : CR E rg f x S) (hM : MR E rg f f m S) (hS : SOk S) (hk : ∀ (f' : Hp) (S' : ST), CR E rg f' x S' → MR E rg f' f' m S' → SOk S' → J G 159 86310 f' 583 [(0, .ref b), (1, .ref x), (2, .ref m), (3, .int (iZ i))] []) : J G 159 86310 f 169 [(0, .ref b), (1, .ref x), (2, .ref m), (3, .int (iZ i))] [] := by
  obtain ⟨ls, lr, ln, M, sz, la, rd, mr, W, O, g, len, th, fa, re⟩ := S
  obtain ⟨fx, hx⟩ := CR_hd hC
  refine j_aload_n hG dL_law_169 rfl rfl ?_
  refine j_aload_n hG dL_law_170 rfl rfl ?_
  refine j_iload_n hG dL_law_171 rfl rfl ?_
  refine j_iconst hG dL_law_172 ?_
  refine j_iadd hG dL_law_173 ?_
  refine j_sld hG hB dL_law_174 (by omega) (by omega) ?_
  refine j_aload_n hG dL_law_175 rfl rfl ?_
  refine j_iload_n hG dL_law_176 rfl rfl ?_
  refine j_iconst hG dL_law_177 ?_
  refine j_iadd hG dL_law_178 ?_
  refine j_sld hG hB dL_law_179 (by omega) (by omega) ?_
  refine j_aload_n hG dL_law_180 rfl rfl ?_
  refine j_iload_n hG dL_law_181 rfl rfl ?_
  refine j_iconst hG dL_law_182 ?_
  refine j_iadd hG dL_law_183 ?_
  refine j_sld hG hB dL_law_184 (by omega) (by omega) ?_
  refine j_aload_n hG dL_law_185 rfl rfl ?_
  refine j_iload_n hG dL_law_186 rfl rfl ?_
  refine j_iconst hG dL_law_187 ?_
  refine j_iadd hG dL_law_188 ?_
  refine j_sld hG hB dL_law_189 (by omega) (by omega) ?_
  refine j_aload_n hG dL_law_190 rfl rfl ?_
  refine j_iload_n hG dL_law_191 rfl rfl ?_
  refine j_iconst hG dL_law_192 ?_
  refine j_iadd hG dL_law_193 ?_
  refine j_sld hG hB dL_law_194 (by omega) (by omega) ?_
  refine j_callV (rest := []) hG vL_18 dL_law_195 (c_X11_feed hC hS (sc_rng _ _) (sc_rng _ _) (sc_rng _ _) (sc_rng _ _) (sc_rng _ _)) hx rfl rfl (Nat.le_of_ble_eq_true rfl) (Nat.le_of_ble_eq_true rfl) (Nat.le_of_ble_eq_true rfl) rfl rfl (Nat.le_of_ble_eq_true rfl) (Nat.le_of_ble_eq_true rfl) ?_
  rintro _ f1 ⟨rfl, hC1, hF1⟩
  have hM1 := MR_base hM hF1
  obtain ⟨fm, hm⟩ := MR_hd hM1
  refine j_st (st' := [_]) rfl ?_
  refine j_aload_n hG dL_law_198 rfl rfl ?_
  refine j_aload_n hG dL_law_199 rfl rfl ?_
  refine j_iload_n hG dL_law_200 rfl rfl ?_
  refine j_iconst hG dL_law_201 ?_
  refine j_iadd hG dL_law_202 ?_
  refine j_sld hG hB dL_law_203 (by omega) (by omega) ?_
  refine j_aload_n hG dL_law_204 rfl rfl ?_
  refine j_iload_n hG dL_law_205 rfl rfl ?_
  refine j_iconst hG dL_law_206 ?_
  refine j_iadd hG dL_law_207 ?_
  refine j_sld hG hB dL_law_208 (by omega) (by omega) ?_
  refine j_aload_n hG dL_law_209 rfl rfl ?_
  refine j_iload_n hG dL_law_210 rfl rfl ?_
  refine j_iconst hG dL_law_211 ?_
  refine j_iadd hG dL_law_212 ?_
  refine j_sld hG hB dL_law_213 (by omega) (by omega) ?_
  refine j_aload_n hG dL_law_214 rfl rfl ?_
  refine j_iload_n hG dL_law_215 rfl rfl ?_
  refine j_iconst hG dL_law_216 ?_
  refine j_iadd hG dL_law_217 ?_
  refine j_sld hG hB dL_law_218 (by omega) (by omega) ?_
  refine j_aload_n hG dL_law_219 rfl rfl ?_
  refine j_iload_n hG dL_law_220 rfl rfl ?_
  refine j_iconst hG dL_law_221 ?_
  refine j_iadd hG dL_law_222 ?_
  refine j_sld hG hB dL_law_223 (by omega) (by omega) ?_
  refine j_callV (rest := [_]) hG vL_22 dL_law_224 (c_X12_feed hM1 hS (sc_rng _ _) (sc_rng _ _) (sc_rng _ _) (sc_rng _ _) (sc_rng _ _)) hm rfl rfl (Nat.le_of_ble_eq_true rfl) (Nat.le_of_ble_eq_true rfl) (Nat.le_of_ble_eq_true rfl) rfl rfl (Nat.le_of_ble_eq_true rfl) (Nat.le_of_ble_eq_true rfl) ?_
  rintro _ f2 ⟨rfl, hM2⟩
  refine j_st (st' := [_, _]) rfl ?_
  refine j_icmp_same (tgt := 583) hG dL_law_227 rfl ?_
  exact hk f2 _ (CR_le hC1 (MR_low hM2)) (MR_base hM2 (fun _ _ => rfl)) (ok_feedF hS)
theorem law_2 {G : JG} {l : Launch} {E : JE} {rg : Nat → Nat} {f : Hp} {b L x m : Nat} {xs : Nat → Int32} {i : Int} {S : ST} (hG : jX G l E code RL 4 room_1) (hB : jB G b L xs) (hi : 0 ≤ i ∧ i + 6 ≤ (L : Int)) (hL : L ≤ 3072) (hC : CR E rg f x S) (hM : MR E rg f f m S) (hS : SOk S) (hk : ∀ (f' : Hp) (S' : ST), CR E rg f' x S' → MR E rg f' f' m S' → SOk S' → J G 159 86310 f' 583 [(0, .ref b), (1, .ref x), (2, .ref m), (3, .int (iZ i))] []) : J G 159 86310 f 232 [(0, .ref b), (1, .ref x), (2, .ref m), (3, .int (iZ i))] [] := by
  obtain ⟨ls, lr, ln, M, sz, la, rd, mr, W, O, g, len, th, fa, re⟩ := S
  obtain ⟨fx, hx⟩ := CR_hd hC
  refine j_aload_n hG dL_law_232 rfl rfl ?_
  refine j_aload_n hG dL_law_233 rfl rfl ?_
  refine j_iload_n hG dL_law_234 rfl rfl ?_
  refine j_iconst hG dL_law_235 ?_
  refine j_iadd hG dL_law_236 ?_
  refine j_sld hG hB dL_law_237 (by omega) (by omega) ?_
  refine j_callV (rest := []) hG vL_23 dL_law_238 (c_X11_end hC hS (sc_rng _ _)) hx rfl rfl (Nat.le_of_ble_eq_true rfl) (Nat.le_of_ble_eq_true rfl) (Nat.le_of_ble_eq_true rfl) rfl rfl (Nat.le_of_ble_eq_true rfl) (Nat.le_of_ble_eq_true rfl) ?_
  rintro _ f1 ⟨rfl, hC1, hF1⟩
  have hM1 := MR_base hM hF1
  obtain ⟨fm, hm⟩ := MR_hd hM1
  refine j_st (st' := [_]) rfl ?_
  refine j_aload_n hG dL_law_241 rfl rfl ?_
  refine j_aload_n hG dL_law_242 rfl rfl ?_
  refine j_iload_n hG dL_law_243 rfl rfl ?_
  refine j_iconst hG dL_law_244 ?_
  refine j_iadd hG dL_law_245 ?_
  refine j_sld hG hB dL_law_246 (by omega) (by omega) ?_
  refine j_callV (rest := [_]) hG vL_27 dL_law_247 (c_X12_end hM1 hS (sc_rng _ _)) hm rfl rfl (Nat.le_of_ble_eq_true rfl) (Nat.le_of_ble_eq_true rfl) (Nat.le_of_ble_eq_true rfl) rfl rfl (Nat.le_of_ble_eq_true rfl) (Nat.le_of_ble_eq_true rfl) ?_
  rintro _ f2 ⟨rfl, hM2⟩
  refine j_st (st' := [_, _]) rfl ?_
  refine j_icmp_same (tgt := 583) hG dL_law_250 rfl ?_
  exact hk f2 _ (CR_le hC1 (MR_low hM2)) (MR_base hM2 (fun _ _ => rfl)) (ok_endF hS)
theorem law_3 {G : JG} {l : Launch} {E : JE} {rg : Nat → Nat} {f : Hp} {b L x m : Nat} {xs : Nat → Int32} {i : Int} {S : ST} (hG : jX G l E code RL 4 room_1) (hB : jB G b L xs) (hi : 0 ≤ i ∧ i + 6 ≤ (L : Int)) (hL : L ≤ 3072) (hC : CR E rg f x S) (hM : MR E rg f f m S) (hS : SOk S) (hk : ∀ (f' : Hp) (S' : ST), CR E rg f' x S' → MR E rg f' f' m S' → SOk S' → J G 159 86310 f' 583 [(0, .ref b), (1, .ref x), (2, .ref m), (3, .int (iZ i))] []) : J G 159 86310 f 255 [(0, .ref b), (1, .ref x), (2, .ref m), (3, .int (iZ i))] [] := by
  obtain ⟨ls, lr, ln, M, sz, la, rd, mr, W, O, g, len, th, fa, re⟩ := S
  obtain ⟨fx, hx⟩ := CR_hd hC
  refine j_aload_n hG dL_law_255 rfl rfl ?_
  refine j_callV (rest := []) hG vL_28 dL_law_256 (c_X11_tables hC hS ) hx rfl rfl (Nat.le_of_ble_eq_true rfl) (Nat.le_of_ble_eq_true rfl) (Nat.le_of_ble_eq_true rfl) rfl rfl (Nat.le_of_ble_eq_true rfl) (Nat.le_of_ble_eq_true rfl) ?_
  rintro _ f1 ⟨rfl, hC1, hF1⟩
  have hM1 := MR_base hM hF1
  obtain ⟨fm, hm⟩ := MR_hd hM1
  refine j_st (st' := [_]) rfl ?_
  refine j_aload_n hG dL_law_259 rfl rfl ?_
  refine j_callV (rest := [_]) hG vL_32 dL_law_260 (c_X12_tables hM1 hS ) hm rfl rfl (Nat.le_of_ble_eq_true rfl) (Nat.le_of_ble_eq_true rfl) (Nat.le_of_ble_eq_true rfl) rfl rfl (Nat.le_of_ble_eq_true rfl) (Nat.le_of_ble_eq_true rfl) ?_
  rintro _ f2 ⟨rfl, hM2⟩
  refine j_st (st' := [_, _]) rfl ?_
  refine j_icmp_same (tgt := 583) hG dL_law_263 rfl ?_
  exact hk f2 _ (CR_le hC1 (MR_low hM2)) (MR_base hM2 (fun _ _ => rfl)) (ok_tablesF hS)
theorem law_4 {G : JG} {l : Launch} {E : JE} {rg : Nat → Nat} {f : Hp} {b L x m : Nat} {xs : Nat → Int32} {i : Int} {S : ST} (hG : jX G l E code RL 4 room_1) (hB : jB G b L xs) (hi : 0 ≤ i ∧ i + 6 ≤ (L : Int)) (hL : L ≤ 3072) (hC : CR E rg f x S) (hM : MR E rg f f m S) (hS : SOk S) (hk : ∀ (f' : Hp) (S' : ST), CR E rg f' x S' → MR E rg f' f' m S' → SOk S' → J G 159 86310 f' 583 [(0, .ref b), (1, .ref x), (2, .ref m), (3, .int (iZ i))] []) : J G 159 86310 f 268 [(0, .ref b), (1, .ref x), (2, .ref m), (3, .int (iZ i))] [] := by
  obtain ⟨ls, lr, ln, M, sz, la, rd, mr, W, O, g, len, th, fa, re⟩ := S
  obtain ⟨fx, hx⟩ := CR_hd hC
  refine j_aload_n hG dL_law_268 rfl rfl ?_
  refine j_callV (rest := []) hG vL_33 dL_law_269 (c_X11_fault hC hS ) hx rfl rfl (Nat.le_of_ble_eq_true rfl) (Nat.le_of_ble_eq_true rfl) (Nat.le_of_ble_eq_true rfl) rfl rfl (Nat.le_of_ble_eq_true rfl) (Nat.le_of_ble_eq_true rfl) ?_
  rintro _ f1 ⟨rfl, hC1, hF1⟩
  have hM1 := MR_base hM hF1
  obtain ⟨fm, hm⟩ := MR_hd hM1
  refine j_st (st' := [_]) rfl ?_
  refine j_aload_n hG dL_law_272 rfl rfl ?_
  refine j_callV (rest := [_]) hG vL_36 dL_law_273 (c_X12_fault hM1 hS ) hm rfl rfl (Nat.le_of_ble_eq_true rfl) (Nat.le_of_ble_eq_true rfl) (Nat.le_of_ble_eq_true rfl) rfl rfl (Nat.le_of_ble_eq_true rfl) (Nat.le_of_ble_eq_true rfl) ?_
  rintro _ f2 ⟨rfl, hM2⟩
  refine j_st (st' := [_, _]) rfl ?_
  refine j_icmp_same (tgt := 583) hG dL_law_276 rfl ?_
  exact hk f2 _ (CR_le hC1 (MR_low hM2)) (MR_base hM2 (fun _ _ => rfl)) (ok_faultF hS)
theorem law_5 {G : JG} {l : Launch} {E : JE} {rg : Nat → Nat} {f : Hp} {b L x m : Nat} {xs : Nat → Int32} {i : Int} {S : ST} (hG : jX G l E code RL 4 room_1) (hB : jB G b L xs) (hi : 0 ≤ i ∧ i + 6 ≤ (L : Int)) (hL : L ≤ 3072) (hC : CR E rg f x S) (hM : MR E rg f f m S) (hS : SOk S) (hk : ∀ (f' : Hp) (S' : ST), CR E rg f' x S' → MR E rg f' f' m S' → SOk S' → J G 159 86310 f' 583 [(0, .ref b), (1, .ref x), (2, .ref m), (3, .int (iZ i))] []) : J G 159 86310 f 281 [(0, .ref b), (1, .ref x), (2, .ref m), (3, .int (iZ i))] [] := by
  obtain ⟨ls, lr, ln, M, sz, la, rd, mr, W, O, g, len, th, fa, re⟩ := S
  obtain ⟨fx, hx⟩ := CR_hd hC
  refine j_aload_n hG dL_law_281 rfl rfl ?_
  refine j_aload_n hG dL_law_282 rfl rfl ?_
  refine j_iload_n hG dL_law_283 rfl rfl ?_
  refine j_iconst hG dL_law_284 ?_
  refine j_iadd hG dL_law_285 ?_
  refine j_sld hG hB dL_law_286 (by omega) (by omega) ?_
  refine j_callV (rest := []) hG vL_37 dL_law_287 (c_X11_late hC hS (sc_rng _ _)) hx rfl rfl (Nat.le_of_ble_eq_true rfl) (Nat.le_of_ble_eq_true rfl) (Nat.le_of_ble_eq_true rfl) rfl rfl (Nat.le_of_ble_eq_true rfl) (Nat.le_of_ble_eq_true rfl) ?_
  rintro _ f1 ⟨rfl, hC1, hF1⟩
  have hM1 := MR_base hM hF1
  obtain ⟨fm, hm⟩ := MR_hd hM1
  refine j_st (st' := [_]) rfl ?_
  refine j_aload_n hG dL_law_290 rfl rfl ?_
  refine j_aload_n hG dL_law_291 rfl rfl ?_
  refine j_iload_n hG dL_law_292 rfl rfl ?_
  refine j_iconst hG dL_law_293 ?_
  refine j_iadd hG dL_law_294 ?_
  refine j_sld hG hB dL_law_295 (by omega) (by omega) ?_
  refine j_callV (rest := [_]) hG vL_40 dL_law_296 (c_X12_late hM1 hS (sc_rng _ _)) hm rfl rfl (Nat.le_of_ble_eq_true rfl) (Nat.le_of_ble_eq_true rfl) (Nat.le_of_ble_eq_true rfl) rfl rfl (Nat.le_of_ble_eq_true rfl) (Nat.le_of_ble_eq_true rfl) ?_
  rintro _ f2 ⟨rfl, hM2⟩
  refine j_st (st' := [_, _]) rfl ?_
  refine j_icmp_same (tgt := 583) hG dL_law_299 rfl ?_
  exact hk f2 _ (CR_le hC1 (MR_low hM2)) (MR_base hM2 (fun _ _ => rfl)) (ok_lateF hS)
theorem law_6 {G : JG} {l : Launch} {E : JE} {rg : Nat → Nat} {f : Hp} {b L x m : Nat} {xs : Nat → Int32} {i : Int} {S : ST} (hG : jX G l E code RL 4 room_1) (hB : jB G b L xs) (hi : 0 ≤ i ∧ i + 6 ≤ (L : Int)) (hL : L ≤ 3072) (hC : CR E rg f x S) (hM : MR E rg f f m S) (hS : SOk S) (hk : ∀ (f' : Hp) (S' : ST), CR E rg f' x S' → MR E rg f' f' m S' → SOk S' → J G 159 86310 f' 583 [(0, .ref b), (1, .ref x), (2, .ref m), (3, .int (iZ i))] []) : J G 159 86310 f 304 [(0, .ref b), (1, .ref x), (2, .ref m), (3, .int (iZ i))] [] := by
  obtain ⟨ls, lr, ln, M, sz, la, rd, mr, W, O, g, len, th, fa, re⟩ := S
  obtain ⟨fx, hx⟩ := CR_hd hC
  refine j_aload_n hG dL_law_304 rfl rfl ?_
  refine j_aload_n hG dL_law_305 rfl rfl ?_
  refine j_iload_n hG dL_law_306 rfl rfl ?_
  refine j_iconst hG dL_law_307 ?_
  refine j_iadd hG dL_law_308 ?_
  refine j_sld hG hB dL_law_309 (by omega) (by omega) ?_
  refine j_callV (rest := []) hG vL_41 dL_law_310 (c_X11_read hC hS (sc_rng _ _)) hx rfl rfl (Nat.le_of_ble_eq_true rfl) (Nat.le_of_ble_eq_true rfl) (Nat.le_of_ble_eq_true rfl) rfl rfl (Nat.le_of_ble_eq_true rfl) (Nat.le_of_ble_eq_true rfl) ?_
  rintro _ f1 ⟨rfl, hC1, hF1⟩
  have hM1 := MR_base hM hF1
  obtain ⟨fm, hm⟩ := MR_hd hM1
  refine j_st (st' := [_]) rfl ?_
  refine j_aload_n hG dL_law_313 rfl rfl ?_
  refine j_aload_n hG dL_law_314 rfl rfl ?_
  refine j_iload_n hG dL_law_315 rfl rfl ?_
  refine j_iconst hG dL_law_316 ?_
  refine j_iadd hG dL_law_317 ?_
  refine j_sld hG hB dL_law_318 (by omega) (by omega) ?_
  refine j_callV (rest := [_]) hG vL_44 dL_law_319 (c_X12_read hM1 hS (sc_rng _ _)) hm rfl rfl (Nat.le_of_ble_eq_true rfl) (Nat.le_of_ble_eq_true rfl) (Nat.le_of_ble_eq_true rfl) rfl rfl (Nat.le_of_ble_eq_true rfl) (Nat.le_of_ble_eq_true rfl) ?_
  rintro _ f2 ⟨rfl, hM2⟩
  refine j_st (st' := [_, _]) rfl ?_
  refine j_icmp_same (tgt := 583) hG dL_law_322 rfl ?_
  exact hk f2 _ (CR_le hC1 (MR_low hM2)) (MR_base hM2 (fun _ _ => rfl)) (ok_readF hS)
theorem law_7 {G : JG} {l : Launch} {E : JE} {rg : Nat → Nat} {f : Hp} {b L x m : Nat} {xs : Nat → Int32} {i : Int} {S : ST} (hG : jX G l E code RL 4 room_1) (hB : jB G b L xs) (hi : 0 ≤ i ∧ i + 6 ≤ (L : Int)) (hL : L ≤ 3072) (hC : CR E rg f x S) (hM : MR E rg f f m S) (hS : SOk S) (hk : ∀ (f' : Hp) (S' : ST), CR E rg f' x S' → MR E rg f' f' m S' → SOk S' → J G 159 86310 f' 583 [(0, .ref b), (1, .ref x), (2, .ref m), (3, .int (iZ i))] []) : J G 159 86310 f 327 [(0, .ref b), (1, .ref x), (2, .ref m), (3, .int (iZ i))] [] := by
  obtain ⟨ls, lr, ln, M, sz, la, rd, mr, W, O, g, len, th, fa, re⟩ := S
  obtain ⟨fx, hx⟩ := CR_hd hC
  refine j_aload_n hG dL_law_327 rfl rfl ?_
  refine j_callV (rest := []) hG vL_45 dL_law_328 (c_X11_mark hC hS ) hx rfl rfl (Nat.le_of_ble_eq_true rfl) (Nat.le_of_ble_eq_true rfl) (Nat.le_of_ble_eq_true rfl) rfl rfl (Nat.le_of_ble_eq_true rfl) (Nat.le_of_ble_eq_true rfl) ?_
  rintro _ f1 ⟨rfl, hC1, hF1⟩
  have hM1 := MR_base hM hF1
  obtain ⟨fm, hm⟩ := MR_hd hM1
  refine j_st (st' := [_]) rfl ?_
  refine j_aload_n hG dL_law_331 rfl rfl ?_
  refine j_callV (rest := [_]) hG vL_48 dL_law_332 (c_X12_mark hM1 hS ) hm rfl rfl (Nat.le_of_ble_eq_true rfl) (Nat.le_of_ble_eq_true rfl) (Nat.le_of_ble_eq_true rfl) rfl rfl (Nat.le_of_ble_eq_true rfl) (Nat.le_of_ble_eq_true rfl) ?_
  rintro _ f2 ⟨rfl, hM2⟩
  refine j_st (st' := [_, _]) rfl ?_
  refine j_icmp_same (tgt := 583) hG dL_law_335 rfl ?_
  exact hk f2 _ (CR_le hC1 (MR_low hM2)) (MR_base hM2 (fun _ _ => rfl)) (ok_markF hS)
theorem law_8 {G : JG} {l : Launch} {E : JE} {rg : Nat → Nat} {f : Hp} {b L x m : Nat} {xs : Nat → Int32} {i : Int} {S : ST} (hG : jX G l E code RL 4 room_1) (hB : jB G b L xs) (hi : 0 ≤ i ∧ i + 6 ≤ (L : Int)) (hL : L ≤ 3072) (hC : CR E rg f x S) (hM : MR E rg f f m S) (hS : SOk S) (hk : ∀ (f' : Hp) (S' : ST), CR E rg f' x S' → MR E rg f' f' m S' → SOk S' → J G 159 86310 f' 583 [(0, .ref b), (1, .ref x), (2, .ref m), (3, .int (iZ i))] []) : J G 159 86310 f 340 [(0, .ref b), (1, .ref x), (2, .ref m), (3, .int (iZ i))] [] := by
  obtain ⟨ls, lr, ln, M, sz, la, rd, mr, W, O, g, len, th, fa, re⟩ := S
  obtain ⟨fx, hx⟩ := CR_hd hC
  refine j_aload_n hG dL_law_340 rfl rfl ?_
  refine j_callV (rest := []) hG vL_49 dL_law_341 (c_X11_fall hC hS ) hx rfl rfl (Nat.le_of_ble_eq_true rfl) (Nat.le_of_ble_eq_true rfl) (Nat.le_of_ble_eq_true rfl) rfl rfl (Nat.le_of_ble_eq_true rfl) (Nat.le_of_ble_eq_true rfl) ?_
  rintro _ f1 ⟨rfl, hC1, hF1⟩
  have hM1 := MR_base hM hF1
  obtain ⟨fm, hm⟩ := MR_hd hM1
  refine j_st (st' := [_]) rfl ?_
  refine j_aload_n hG dL_law_344 rfl rfl ?_
  refine j_callV (rest := [_]) hG vL_52 dL_law_345 (c_X12_fall hM1 hS ) hm rfl rfl (Nat.le_of_ble_eq_true rfl) (Nat.le_of_ble_eq_true rfl) (Nat.le_of_ble_eq_true rfl) rfl rfl (Nat.le_of_ble_eq_true rfl) (Nat.le_of_ble_eq_true rfl) ?_
  rintro _ f2 ⟨rfl, hM2⟩
  refine j_st (st' := [_, _]) rfl ?_
  refine j_icmp_same (tgt := 583) hG dL_law_348 rfl ?_
  exact hk f2 _ (CR_le hC1 (MR_low hM2)) (MR_base hM2 (fun _ _ => rfl)) (ok_fallF hS)
theorem law_9 {G : JG} {l : Launch} {E : JE} {rg : Nat → Nat} {f : Hp} {b L x m : Nat} {xs : Nat → Int32} {i : Int} {S : ST} (hG : jX G l E code RL 4 room_1) (hB : jB G b L xs) (hi : 0 ≤ i ∧ i + 6 ≤ (L : Int)) (hL : L ≤ 3072) (hC : CR E rg f x S) (hM : MR E rg f f m S) (hS : SOk S) (hk : ∀ (f' : Hp) (S' : ST), CR E rg f' x S' → MR E rg f' f' m S' → SOk S' → J G 159 86310 f' 583 [(0, .ref b), (1, .ref x), (2, .ref m), (3, .int (iZ i))] []) : J G 159 86310 f 353 [(0, .ref b), (1, .ref x), (2, .ref m), (3, .int (iZ i))] [] := by
  obtain ⟨ls, lr, ln, M, sz, la, rd, mr, W, O, g, len, th, fa, re⟩ := S
  obtain ⟨fx, hx⟩ := CR_hd hC
  refine j_aload_n hG dL_law_353 rfl rfl ?_
  refine j_aload_n hG dL_law_354 rfl rfl ?_
  refine j_iload_n hG dL_law_355 rfl rfl ?_
  refine j_iconst hG dL_law_356 ?_
  refine j_iadd hG dL_law_357 ?_
  refine j_sld hG hB dL_law_358 (by omega) (by omega) ?_
  refine j_callV (rest := []) hG vL_53 dL_law_359 (c_X11_rows hC hS (sc_rng _ _)) hx rfl rfl (Nat.le_of_ble_eq_true rfl) (Nat.le_of_ble_eq_true rfl) (Nat.le_of_ble_eq_true rfl) rfl rfl (Nat.le_of_ble_eq_true rfl) (Nat.le_of_ble_eq_true rfl) ?_
  rintro _ f1 ⟨rfl, hC1, hF1⟩
  have hM1 := MR_base hM hF1
  obtain ⟨fm, hm⟩ := MR_hd hM1
  refine j_st (st' := [_]) rfl ?_
  refine j_aload_n hG dL_law_362 rfl rfl ?_
  refine j_aload_n hG dL_law_363 rfl rfl ?_
  refine j_iload_n hG dL_law_364 rfl rfl ?_
  refine j_iconst hG dL_law_365 ?_
  refine j_iadd hG dL_law_366 ?_
  refine j_sld hG hB dL_law_367 (by omega) (by omega) ?_
  refine j_callV (rest := [_]) hG vL_56 dL_law_368 (c_X12_rows hM1 hS (sc_rng _ _)) hm rfl rfl (Nat.le_of_ble_eq_true rfl) (Nat.le_of_ble_eq_true rfl) (Nat.le_of_ble_eq_true rfl) rfl rfl (Nat.le_of_ble_eq_true rfl) (Nat.le_of_ble_eq_true rfl) ?_
  rintro _ f2 ⟨rfl, hM2⟩
  refine j_st (st' := [_, _]) rfl ?_
  refine j_icmp_same (tgt := 583) hG dL_law_371 rfl ?_
  exact hk f2 _ (CR_le hC1 (MR_low hM2)) (MR_base hM2 (fun _ _ => rfl)) (ok_rowsF hS)
theorem law_10 {G : JG} {l : Launch} {E : JE} {rg : Nat → Nat} {f : Hp} {b L x m : Nat} {xs : Nat → Int32} {i : Int} {S : ST} (hG : jX G l E code RL 4 room_1) (hB : jB G b L xs) (hi : 0 ≤ i ∧ i + 6 ≤ (L : Int)) (hL : L ≤ 3072) (hC : CR E rg f x S) (hM : MR E rg f f m S) (hS : SOk S) (hk : ∀ (f' : Hp) (S' : ST), CR E rg f' x S' → MR E rg f' f' m S' → SOk S' → J G 159 86310 f' 583 [(0, .ref b), (1, .ref x), (2, .ref m), (3, .int (iZ i))] []) : J G 159 86310 f 376 [(0, .ref b), (1, .ref x), (2, .ref m), (3, .int (iZ i))] [] := by
  obtain ⟨ls, lr, ln, M, sz, la, rd, mr, W, O, g, len, th, fa, re⟩ := S
  obtain ⟨fx, hx⟩ := CR_hd hC
  refine j_aload_n hG dL_law_376 rfl rfl ?_
  refine j_aload_n hG dL_law_377 rfl rfl ?_
  refine j_iload_n hG dL_law_378 rfl rfl ?_
  refine j_iconst hG dL_law_379 ?_
  refine j_iadd hG dL_law_380 ?_
  refine j_sld hG hB dL_law_381 (by omega) (by omega) ?_
  refine j_aload_n hG dL_law_382 rfl rfl ?_
  refine j_iload_n hG dL_law_383 rfl rfl ?_
  refine j_iconst hG dL_law_384 ?_
  refine j_iadd hG dL_law_385 ?_
  refine j_sld hG hB dL_law_386 (by omega) (by omega) ?_
  refine j_aload_n hG dL_law_387 rfl rfl ?_
  refine j_iload_n hG dL_law_388 rfl rfl ?_
  refine j_iconst hG dL_law_389 ?_
  refine j_iadd hG dL_law_390 ?_
  refine j_sld hG hB dL_law_391 (by omega) (by omega) ?_
  refine j_callV (rest := []) hG vL_57 dL_law_392 (c_X11_row hC hS (sc_rng _ _) (sc_rng _ _) (sc_rng _ _)) hx rfl rfl (Nat.le_of_ble_eq_true rfl) (Nat.le_of_ble_eq_true rfl) (Nat.le_of_ble_eq_true rfl) rfl rfl (Nat.le_of_ble_eq_true rfl) (Nat.le_of_ble_eq_true rfl) ?_
  rintro _ f1 ⟨rfl, hC1, hF1⟩
  have hM1 := MR_base hM hF1
  obtain ⟨fm, hm⟩ := MR_hd hM1
  refine j_st (st' := [_]) rfl ?_
  refine j_aload_n hG dL_law_395 rfl rfl ?_
  refine j_aload_n hG dL_law_396 rfl rfl ?_
  refine j_iload_n hG dL_law_397 rfl rfl ?_
  refine j_iconst hG dL_law_398 ?_
  refine j_iadd hG dL_law_399 ?_
  refine j_sld hG hB dL_law_400 (by omega) (by omega) ?_
  refine j_aload_n hG dL_law_401 rfl rfl ?_
  refine j_iload_n hG dL_law_402 rfl rfl ?_
  refine j_iconst hG dL_law_403 ?_
  refine j_iadd hG dL_law_404 ?_
  refine j_sld hG hB dL_law_405 (by omega) (by omega) ?_
  refine j_aload_n hG dL_law_406 rfl rfl ?_
  refine j_iload_n hG dL_law_407 rfl rfl ?_
  refine j_iconst hG dL_law_408 ?_
  refine j_iadd hG dL_law_409 ?_
  refine j_sld hG hB dL_law_410 (by omega) (by omega) ?_
  refine j_callV (rest := [_]) hG vL_61 dL_law_411 (c_X12_row hM1 hS (sc_rng _ _) (sc_rng _ _) (sc_rng _ _)) hm rfl rfl (Nat.le_of_ble_eq_true rfl) (Nat.le_of_ble_eq_true rfl) (Nat.le_of_ble_eq_true rfl) rfl rfl (Nat.le_of_ble_eq_true rfl) (Nat.le_of_ble_eq_true rfl) ?_
  rintro _ f2 ⟨rfl, hM2⟩
  refine j_st (st' := [_, _]) rfl ?_
  refine j_icmp_same (tgt := 583) hG dL_law_414 rfl ?_
  exact hk f2 _ (CR_le hC1 (MR_low hM2)) (MR_base hM2 (fun _ _ => rfl)) (ok_rowF hS)
theorem law_11 {G : JG} {l : Launch} {E : JE} {rg : Nat → Nat} {f : Hp} {b L x m : Nat} {xs : Nat → Int32} {i : Int} {S : ST} (hG : jX G l E code RL 4 room_1) (hB : jB G b L xs) (hi : 0 ≤ i ∧ i + 6 ≤ (L : Int)) (hL : L ≤ 3072) (hC : CR E rg f x S) (hM : MR E rg f f m S) (hS : SOk S) (hk : ∀ (f' : Hp) (S' : ST), CR E rg f' x S' → MR E rg f' f' m S' → SOk S' → J G 159 86310 f' 583 [(0, .ref b), (1, .ref x), (2, .ref m), (3, .int (iZ i))] []) : J G 159 86310 f 419 [(0, .ref b), (1, .ref x), (2, .ref m), (3, .int (iZ i))] [] := by
  obtain ⟨ls, lr, ln, M, sz, la, rd, mr, W, O, g, len, th, fa, re⟩ := S
  obtain ⟨fx, hx⟩ := CR_hd hC
  refine j_aload_n hG dL_law_419 rfl rfl ?_
  refine j_aload_n hG dL_law_420 rfl rfl ?_
  refine j_iload_n hG dL_law_421 rfl rfl ?_
  refine j_iconst hG dL_law_422 ?_
  refine j_iadd hG dL_law_423 ?_
  refine j_sld hG hB dL_law_424 (by omega) (by omega) ?_
  refine j_aload_n hG dL_law_425 rfl rfl ?_
  refine j_iload_n hG dL_law_426 rfl rfl ?_
  refine j_iconst hG dL_law_427 ?_
  refine j_iadd hG dL_law_428 ?_
  refine j_sld hG hB dL_law_429 (by omega) (by omega) ?_
  refine j_callV (rest := []) hG vL_62 dL_law_430 (c_X11_out hC hS (sc_rng _ _) (sc_rng _ _)) hx rfl rfl (Nat.le_of_ble_eq_true rfl) (Nat.le_of_ble_eq_true rfl) (Nat.le_of_ble_eq_true rfl) rfl rfl (Nat.le_of_ble_eq_true rfl) (Nat.le_of_ble_eq_true rfl) ?_
  rintro _ f1 ⟨rfl, hC1, hF1⟩
  have hM1 := MR_base hM hF1
  obtain ⟨fm, hm⟩ := MR_hd hM1
  refine j_st (st' := [_]) rfl ?_
  refine j_aload_n hG dL_law_433 rfl rfl ?_
  refine j_aload_n hG dL_law_434 rfl rfl ?_
  refine j_iload_n hG dL_law_435 rfl rfl ?_
  refine j_iconst hG dL_law_436 ?_
  refine j_iadd hG dL_law_437 ?_
  refine j_sld hG hB dL_law_438 (by omega) (by omega) ?_
  refine j_aload_n hG dL_law_439 rfl rfl ?_
  refine j_iload_n hG dL_law_440 rfl rfl ?_
  refine j_iconst hG dL_law_441 ?_
  refine j_iadd hG dL_law_442 ?_
  refine j_sld hG hB dL_law_443 (by omega) (by omega) ?_
  refine j_callV (rest := [_]) hG vL_66 dL_law_444 (c_X12_out hM1 hS (sc_rng _ _) (sc_rng _ _)) hm rfl rfl (Nat.le_of_ble_eq_true rfl) (Nat.le_of_ble_eq_true rfl) (Nat.le_of_ble_eq_true rfl) rfl rfl (Nat.le_of_ble_eq_true rfl) (Nat.le_of_ble_eq_true rfl) ?_
  rintro _ f2 ⟨rfl, hM2⟩
  refine j_st (st' := [_, _]) rfl ?_
  refine j_icmp_same (tgt := 583) hG dL_law_447 rfl ?_
  exact hk f2 _ (CR_le hC1 (MR_low hM2)) (MR_base hM2 (fun _ _ => rfl)) (ok_outF hS)
theorem law_12 {G : JG} {l : Launch} {E : JE} {rg : Nat → Nat} {f : Hp} {b L x m : Nat} {xs : Nat → Int32} {i : Int} {S : ST} (hG : jX G l E code RL 4 room_1) (hB : jB G b L xs) (hi : 0 ≤ i ∧ i + 6 ≤ (L : Int)) (hL : L ≤ 3072) (hC : CR E rg f x S) (hM : MR E rg f f m S) (hS : SOk S) (hk : ∀ (f' : Hp) (S' : ST), CR E rg f' x S' → MR E rg f' f' m S' → SOk S' → J G 159 86310 f' 583 [(0, .ref b), (1, .ref x), (2, .ref m), (3, .int (iZ i))] []) : J G 159 86310 f 452 [(0, .ref b), (1, .ref x), (2, .ref m), (3, .int (iZ i))] [] := by
  obtain ⟨ls, lr, ln, M, sz, la, rd, mr, W, O, g, len, th, fa, re⟩ := S
  obtain ⟨fx, hx⟩ := CR_hd hC
  refine j_aload_n hG dL_law_452 rfl rfl ?_
  refine j_aload_n hG dL_law_453 rfl rfl ?_
  refine j_iload_n hG dL_law_454 rfl rfl ?_
  refine j_iconst hG dL_law_455 ?_
  refine j_iadd hG dL_law_456 ?_
  refine j_sld hG hB dL_law_457 (by omega) (by omega) ?_
  refine j_aload_n hG dL_law_458 rfl rfl ?_
  refine j_iload_n hG dL_law_459 rfl rfl ?_
  refine j_iconst hG dL_law_460 ?_
  refine j_iadd hG dL_law_461 ?_
  refine j_sld hG hB dL_law_462 (by omega) (by omega) ?_
  refine j_if_eq (tgt := 470) hG dL_law_463 rfl (sc_rng _ _) (fun z463 => ?_) (fun z463 => ?_)
  · refine j_iconst hG dL_law_470 ?_
    refine j_callV (rest := []) hG vL_67 dL_law_471 (c_X11_host hC hS (sc_rng _ _) (by decide) (Or.inl rfl)) hx rfl rfl (Nat.le_of_ble_eq_true rfl) (Nat.le_of_ble_eq_true rfl) (Nat.le_of_ble_eq_true rfl) rfl rfl (Nat.le_of_ble_eq_true rfl) (Nat.le_of_ble_eq_true rfl) ?_
    rintro _ f1 ⟨rfl, hC1, hF1⟩
    have hM1 := MR_base hM hF1
    obtain ⟨fm, hm⟩ := MR_hd hM1
    refine j_st (st' := [_]) rfl ?_
    refine j_aload_n hG dL_law_474 rfl rfl ?_
    refine j_aload_n hG dL_law_475 rfl rfl ?_
    refine j_iload_n hG dL_law_476 rfl rfl ?_
    refine j_iconst hG dL_law_477 ?_
    refine j_iadd hG dL_law_478 ?_
    refine j_sld hG hB dL_law_479 (by omega) (by omega) ?_
    refine j_aload_n hG dL_law_480 rfl rfl ?_
    refine j_iload_n hG dL_law_481 rfl rfl ?_
    refine j_iconst hG dL_law_482 ?_
    refine j_iadd hG dL_law_483 ?_
    refine j_sld hG hB dL_law_484 (by omega) (by omega) ?_
    refine j_if_eq (tgt := 492) hG dL_law_485 rfl (sc_rng _ _) (fun z485 => ?_) (fun z485 => ?_)
    · refine j_iconst hG dL_law_492 ?_
      refine j_callV (rest := [_]) hG vL_71 dL_law_493 (c_X12_host hM1 hS (sc_rng _ _) (by decide) (Or.inl rfl)) hm rfl rfl (Nat.le_of_ble_eq_true rfl) (Nat.le_of_ble_eq_true rfl) (Nat.le_of_ble_eq_true rfl) rfl rfl (Nat.le_of_ble_eq_true rfl) (Nat.le_of_ble_eq_true rfl) ?_
      rintro _ f2 ⟨rfl, hM2⟩
      refine j_st (st' := [_, _]) rfl ?_
      refine j_icmp_same (tgt := 583) hG dL_law_496 rfl ?_
      exact hk f2 _ (CR_le hC1 (MR_low hM2)) (MR_base hM2 (fun _ _ => rfl)) (ok_hostF hS (Or.inl rfl))
    · exact absurd z463 z485
  · refine j_iconst hG dL_law_466 ?_
    refine j_goto (tgt := 471) hG dL_law_467 rfl ?_
    refine j_callV (rest := []) hG vL_67 dL_law_471 (c_X11_host hC hS (sc_rng _ _) (by decide) (Or.inr rfl)) hx rfl rfl (Nat.le_of_ble_eq_true rfl) (Nat.le_of_ble_eq_true rfl) (Nat.le_of_ble_eq_true rfl) rfl rfl (Nat.le_of_ble_eq_true rfl) (Nat.le_of_ble_eq_true rfl) ?_
    rintro _ f1 ⟨rfl, hC1, hF1⟩
    have hM1 := MR_base hM hF1
    obtain ⟨fm, hm⟩ := MR_hd hM1
    refine j_st (st' := [_]) rfl ?_
    refine j_aload_n hG dL_law_474 rfl rfl ?_
    refine j_aload_n hG dL_law_475 rfl rfl ?_
    refine j_iload_n hG dL_law_476 rfl rfl ?_
    refine j_iconst hG dL_law_477 ?_
    refine j_iadd hG dL_law_478 ?_
    refine j_sld hG hB dL_law_479 (by omega) (by omega) ?_
    refine j_aload_n hG dL_law_480 rfl rfl ?_
    refine j_iload_n hG dL_law_481 rfl rfl ?_
    refine j_iconst hG dL_law_482 ?_
    refine j_iadd hG dL_law_483 ?_
    refine j_sld hG hB dL_law_484 (by omega) (by omega) ?_
    refine j_if_eq (tgt := 492) hG dL_law_485 rfl (sc_rng _ _) (fun z485 => ?_) (fun z485 => ?_)
    · exact absurd z485 z463
    · refine j_iconst hG dL_law_488 ?_
      refine j_goto (tgt := 493) hG dL_law_489 rfl ?_
      refine j_callV (rest := [_]) hG vL_71 dL_law_493 (c_X12_host hM1 hS (sc_rng _ _) (by decide) (Or.inr rfl)) hm rfl rfl (Nat.le_of_ble_eq_true rfl) (Nat.le_of_ble_eq_true rfl) (Nat.le_of_ble_eq_true rfl) rfl rfl (Nat.le_of_ble_eq_true rfl) (Nat.le_of_ble_eq_true rfl) ?_
      rintro _ f2 ⟨rfl, hM2⟩
      refine j_st (st' := [_, _]) rfl ?_
      refine j_icmp_same (tgt := 583) hG dL_law_496 rfl ?_
      exact hk f2 _ (CR_le hC1 (MR_low hM2)) (MR_base hM2 (fun _ _ => rfl)) (ok_hostF hS (Or.inr rfl))
theorem law_13 {G : JG} {l : Launch} {E : JE} {rg : Nat → Nat} {f : Hp} {b L x m : Nat} {xs : Nat → Int32} {i : Int} {S : ST} (hG : jX G l E code RL 4 room_1) (hB : jB G b L xs) (hi : 0 ≤ i ∧ i + 6 ≤ (L : Int)) (hL : L ≤ 3072) (hC : CR E rg f x S) (hM : MR E rg f f m S) (hS : SOk S) (hk : ∀ (f' : Hp) (S' : ST), CR E rg f' x S' → MR E rg f' f' m S' → SOk S' → J G 159 86310 f' 583 [(0, .ref b), (1, .ref x), (2, .ref m), (3, .int (iZ i))] []) : J G 159 86310 f 501 [(0, .ref b), (1, .ref x), (2, .ref m), (3, .int (iZ i))] [] := by
  obtain ⟨ls, lr, ln, M, sz, la, rd, mr, W, O, g, len, th, fa, re⟩ := S
  obtain ⟨fx, hx⟩ := CR_hd hC
  refine j_aload_n hG dL_law_501 rfl rfl ?_
  refine j_aload_n hG dL_law_502 rfl rfl ?_
  refine j_iload_n hG dL_law_503 rfl rfl ?_
  refine j_iconst hG dL_law_504 ?_
  refine j_iadd hG dL_law_505 ?_
  refine j_sld hG hB dL_law_506 (by omega) (by omega) ?_
  refine j_callV (rest := []) hG vL_72 dL_law_507 (c_X11_owner hC hS (sc_rng _ _)) hx rfl rfl (Nat.le_of_ble_eq_true rfl) (Nat.le_of_ble_eq_true rfl) (Nat.le_of_ble_eq_true rfl) rfl rfl (Nat.le_of_ble_eq_true rfl) (Nat.le_of_ble_eq_true rfl) ?_
  rintro _ f1 ⟨rfl, hC1, hF1⟩
  have hM1 := MR_base hM hF1
  obtain ⟨fm, hm⟩ := MR_hd hM1
  refine j_st (st' := [_]) rfl ?_
  refine j_aload_n hG dL_law_510 rfl rfl ?_
  refine j_aload_n hG dL_law_511 rfl rfl ?_
  refine j_iload_n hG dL_law_512 rfl rfl ?_
  refine j_iconst hG dL_law_513 ?_
  refine j_iadd hG dL_law_514 ?_
  refine j_sld hG hB dL_law_515 (by omega) (by omega) ?_
  refine j_callV (rest := [_]) hG vL_75 dL_law_516 (c_X12_owner hM1 hS (sc_rng _ _)) hm rfl rfl (Nat.le_of_ble_eq_true rfl) (Nat.le_of_ble_eq_true rfl) (Nat.le_of_ble_eq_true rfl) rfl rfl (Nat.le_of_ble_eq_true rfl) (Nat.le_of_ble_eq_true rfl) ?_
  rintro _ f2 ⟨rfl, hM2⟩
  refine j_st (st' := [_, _]) rfl ?_
  refine j_icmp_same (tgt := 583) hG dL_law_519 rfl ?_
  exact hk f2 _ (CR_le hC1 (MR_low hM2)) (MR_base hM2 (fun _ _ => rfl)) (ok_ownerF hS)
theorem law_14 {G : JG} {l : Launch} {E : JE} {rg : Nat → Nat} {f : Hp} {b L x m : Nat} {xs : Nat → Int32} {i : Int} {S : ST} (hG : jX G l E code RL 4 room_1) (hB : jB G b L xs) (hi : 0 ≤ i ∧ i + 6 ≤ (L : Int)) (hL : L ≤ 3072) (hC : CR E rg f x S) (hM : MR E rg f f m S) (hS : SOk S) (hk : ∀ (f' : Hp) (S' : ST), CR E rg f' x S' → MR E rg f' f' m S' → SOk S' → J G 159 86310 f' 583 [(0, .ref b), (1, .ref x), (2, .ref m), (3, .int (iZ i))] []) : J G 159 86310 f 524 [(0, .ref b), (1, .ref x), (2, .ref m), (3, .int (iZ i))] [] := by
  obtain ⟨ls, lr, ln, M, sz, la, rd, mr, W, O, g, len, th, fa, re⟩ := S
  obtain ⟨fx, hx⟩ := CR_hd hC
  refine j_aload_n hG dL_law_524 rfl rfl ?_
  refine j_aload_n hG dL_law_525 rfl rfl ?_
  refine j_iload_n hG dL_law_526 rfl rfl ?_
  refine j_iconst hG dL_law_527 ?_
  refine j_iadd hG dL_law_528 ?_
  refine j_sld hG hB dL_law_529 (by omega) (by omega) ?_
  refine j_callV (rest := []) hG vL_76 dL_law_530 (c_X11_owns hC hS (sc_rng _ _)) hx rfl rfl (Nat.le_of_ble_eq_true rfl) (Nat.le_of_ble_eq_true rfl) (Nat.le_of_ble_eq_true rfl) rfl rfl (Nat.le_of_ble_eq_true rfl) (Nat.le_of_ble_eq_true rfl) ?_
  rintro _ f1 ⟨rfl, hC1, hF1⟩
  have hM1 := MR_base hM hF1
  obtain ⟨fm, hm⟩ := MR_hd hM1
  refine j_st (st' := [_]) rfl ?_
  refine j_aload_n hG dL_law_533 rfl rfl ?_
  refine j_aload_n hG dL_law_534 rfl rfl ?_
  refine j_iload_n hG dL_law_535 rfl rfl ?_
  refine j_iconst hG dL_law_536 ?_
  refine j_iadd hG dL_law_537 ?_
  refine j_sld hG hB dL_law_538 (by omega) (by omega) ?_
  refine j_callV (rest := [_]) hG vL_79 dL_law_539 (c_X12_owns hM1 hS (sc_rng _ _)) hm rfl rfl (Nat.le_of_ble_eq_true rfl) (Nat.le_of_ble_eq_true rfl) (Nat.le_of_ble_eq_true rfl) rfl rfl (Nat.le_of_ble_eq_true rfl) (Nat.le_of_ble_eq_true rfl) ?_
  rintro _ f2 ⟨rfl, hM2⟩
  refine j_st (st' := [_, _]) rfl ?_
  refine j_icmp_same (tgt := 583) hG dL_law_542 rfl ?_
  exact hk f2 _ (CR_le hC1 (MR_low hM2)) (MR_base hM2 (fun _ _ => rfl)) (ok_ownsF hS)
theorem law_15 {G : JG} {l : Launch} {E : JE} {rg : Nat → Nat} {f : Hp} {b L x m : Nat} {xs : Nat → Int32} {i : Int} {S : ST} (hG : jX G l E code RL 4 room_1) (hB : jB G b L xs) (hi : 0 ≤ i ∧ i + 6 ≤ (L : Int)) (hL : L ≤ 3072) (hC : CR E rg f x S) (hM : MR E rg f f m S) (hS : SOk S) (hk : ∀ (f' : Hp) (S' : ST), CR E rg f' x S' → MR E rg f' f' m S' → SOk S' → J G 159 86310 f' 583 [(0, .ref b), (1, .ref x), (2, .ref m), (3, .int (iZ i))] []) : J G 159 86310 f 547 [(0, .ref b), (1, .ref x), (2, .ref m), (3, .int (iZ i))] [] := by
  obtain ⟨ls, lr, ln, M, sz, la, rd, mr, W, O, g, len, th, fa, re⟩ := S
  obtain ⟨fx, hx⟩ := CR_hd hC
  refine j_aload_n hG dL_law_547 rfl rfl ?_
  refine j_aload_n hG dL_law_548 rfl rfl ?_
  refine j_iload_n hG dL_law_549 rfl rfl ?_
  refine j_iconst hG dL_law_550 ?_
  refine j_iadd hG dL_law_551 ?_
  refine j_sld hG hB dL_law_552 (by omega) (by omega) ?_
  refine j_callV (rest := []) hG vL_80 dL_law_553 (c_X11_count hC hS (sc_rng _ _)) hx rfl rfl (Nat.le_of_ble_eq_true rfl) (Nat.le_of_ble_eq_true rfl) (Nat.le_of_ble_eq_true rfl) rfl rfl (Nat.le_of_ble_eq_true rfl) (Nat.le_of_ble_eq_true rfl) ?_
  rintro _ f1 ⟨rfl, hC1, hF1⟩
  have hM1 := MR_base hM hF1
  obtain ⟨fm, hm⟩ := MR_hd hM1
  refine j_st (st' := [_]) rfl ?_
  refine j_aload_n hG dL_law_556 rfl rfl ?_
  refine j_aload_n hG dL_law_557 rfl rfl ?_
  refine j_iload_n hG dL_law_558 rfl rfl ?_
  refine j_iconst hG dL_law_559 ?_
  refine j_iadd hG dL_law_560 ?_
  refine j_sld hG hB dL_law_561 (by omega) (by omega) ?_
  refine j_callV (rest := [_]) hG vL_83 dL_law_562 (c_X12_count hM1 hS (sc_rng _ _)) hm rfl rfl (Nat.le_of_ble_eq_true rfl) (Nat.le_of_ble_eq_true rfl) (Nat.le_of_ble_eq_true rfl) rfl rfl (Nat.le_of_ble_eq_true rfl) (Nat.le_of_ble_eq_true rfl) ?_
  rintro _ f2 ⟨rfl, hM2⟩
  refine j_st (st' := [_, _]) rfl ?_
  refine j_icmp_same (tgt := 583) hG dL_law_565 rfl ?_
  exact hk f2 _ (CR_le hC1 (MR_low hM2)) (MR_base hM2 (fun _ _ => rfl)) (ok_countF hS)
theorem law_16 {G : JG} {l : Launch} {E : JE} {rg : Nat → Nat} {f : Hp} {b L x m : Nat} {xs : Nat → Int32} {i : Int} {S : ST} (hG : jX G l E code RL 4 room_1) (hB : jB G b L xs) (hi : 0 ≤ i ∧ i + 6 ≤ (L : Int)) (hL : L ≤ 3072) (hC : CR E rg f x S) (hM : MR E rg f f m S) (hS : SOk S) (hk : ∀ (f' : Hp) (S' : ST), CR E rg f' x S' → MR E rg f' f' m S' → SOk S' → J G 159 86310 f' 583 [(0, .ref b), (1, .ref x), (2, .ref m), (3, .int (iZ i))] []) : J G 159 86310 f 570 [(0, .ref b), (1, .ref x), (2, .ref m), (3, .int (iZ i))] [] := by
  obtain ⟨ls, lr, ln, M, sz, la, rd, mr, W, O, g, len, th, fa, re⟩ := S
  obtain ⟨fx, hx⟩ := CR_hd hC
  refine j_aload_n hG dL_law_570 rfl rfl ?_
  refine j_callV (rest := []) hG vL_84 dL_law_571 (c_X11_status hC hS ) hx rfl rfl (Nat.le_of_ble_eq_true rfl) (Nat.le_of_ble_eq_true rfl) (Nat.le_of_ble_eq_true rfl) rfl rfl (Nat.le_of_ble_eq_true rfl) (Nat.le_of_ble_eq_true rfl) ?_
  rintro _ f1 ⟨rfl, hC1, hF1⟩
  have hM1 := MR_base hM hF1
  obtain ⟨fm, hm⟩ := MR_hd hM1
  refine j_st (st' := [_]) rfl ?_
  refine j_aload_n hG dL_law_574 rfl rfl ?_
  refine j_callV (rest := [_]) hG vL_87 dL_law_575 (c_X12_status hM1 hS ) hm rfl rfl (Nat.le_of_ble_eq_true rfl) (Nat.le_of_ble_eq_true rfl) (Nat.le_of_ble_eq_true rfl) rfl rfl (Nat.le_of_ble_eq_true rfl) (Nat.le_of_ble_eq_true rfl) ?_
  rintro _ f2 ⟨rfl, hM2⟩
  refine j_st (st' := [_, _]) rfl ?_
  refine j_icmp_same (tgt := 583) hG dL_law_578 rfl ?_
  exact hk f2 _ (CR_le hC1 (MR_low hM2)) (MR_base hM2 (fun _ _ => rfl)) (ok_statusF hS)
theorem law_loop {G : JG} {l : Launch} {E : JE} {rg : Nat → Nat} {b L x m : Nat} {xs : Nat → Int32} (hG : jX G l E code RL 4 room_1) (hB : jB G b L xs) (hL : L ≤ 3072) (hend : ∀ (f : Hp) (lv : List (Nat × Value)), J G 159 86310 f 590 lv [.int (iZ 1)]) : ∀ (r : Nat) (i : Int) (f : Hp) (S : ST), 0 ≤ i → i ≤ (L : Int) + 6 → (L : Int) < i + r → CR E rg f x S → MR E rg f f m S → SOk S → J G 159 86310 f 18 [(0, .ref b), (1, .ref x), (2, .ref m), (3, .int (iZ i))] [] := by
  intro r
  induction r using Nat.strongRecOn with
  | _ r ih =>
    intro i f S h0 h1 h2 hC hM hS
    refine j_iload_n hG dL_law_18 rfl rfl ?_
    refine j_aload_n hG dL_law_19 rfl rfl ?_
    refine j_slen hG hB dL_law_20 ?_
    refine j_bipush hG dL_law_21 (by decide) ?_
    refine j_isub hG dL_law_23 ?_
    refine j_icmp_gt (tgt := 589) hG dL_law_24 rfl (by omega) (by omega) (fun c => ?_) (fun c => ?_)
    · refine j_iconst hG dL_law_589 ?_
      exact hend f _
    · have hi : 0 ≤ i ∧ i + 6 ≤ (L : Int) := by omega
      have hk : ∀ (f' : Hp) (S' : ST), CR E rg f' x S' → MR E rg f' f' m S' → SOk S' → J G 159 86310 f' 583 [(0, .ref b), (1, .ref x), (2, .ref m), (3, .int (iZ i))] [] := fun f' S' c1 c2 c3 => by
        refine j_iinc hG dL_law_583 rfl (by decide) rfl ?_
        refine j_goto (tgt := 18) hG dL_law_586 rfl ?_
        exact ih (r - 6) (by omega) (i + 6) f' S' (by omega) (by omega) (by omega) c1 c2 c3
      refine j_aload_n hG dL_law_27 rfl rfl ?_
      refine j_iload_n hG dL_law_28 rfl rfl ?_
      refine j_sld hG hB dL_law_29 (by omega) (by omega) ?_
      refine j_bipush hG dL_law_30 (by decide) ?_
      refine j_iand hG dL_law_32 ?_
      refine j_eqi (mask31 _) ?_
      obtain ⟨w, hw⟩ : ∃ w, w = sc xs i % 32 := ⟨_, rfl⟩
      have hwr : 0 ≤ w ∧ w < 32 := by omega
      rw [← hw]
      by_cases e0 : w = 0
      · exact j_tswIn hG 0 dL_law_33 e0 (by decide) (by decide) rfl (tgt := 116) rfl (law_0 hG hB hi hL hC hM hS hk)
      by_cases e1 : w = 1
      · exact j_tswIn hG 1 dL_law_33 e1 (by decide) (by decide) rfl (tgt := 169) rfl (law_1 hG hB hi hL hC hM hS hk)
      by_cases e2 : w = 2
      · exact j_tswIn hG 2 dL_law_33 e2 (by decide) (by decide) rfl (tgt := 232) rfl (law_2 hG hB hi hL hC hM hS hk)
      by_cases e3 : w = 3
      · exact j_tswIn hG 3 dL_law_33 e3 (by decide) (by decide) rfl (tgt := 255) rfl (law_3 hG hB hi hL hC hM hS hk)
      by_cases e4 : w = 4
      · exact j_tswIn hG 4 dL_law_33 e4 (by decide) (by decide) rfl (tgt := 268) rfl (law_4 hG hB hi hL hC hM hS hk)
      by_cases e5 : w = 5
      · exact j_tswIn hG 5 dL_law_33 e5 (by decide) (by decide) rfl (tgt := 281) rfl (law_5 hG hB hi hL hC hM hS hk)
      by_cases e6 : w = 6
      · exact j_tswIn hG 6 dL_law_33 e6 (by decide) (by decide) rfl (tgt := 304) rfl (law_6 hG hB hi hL hC hM hS hk)
      by_cases e7 : w = 7
      · exact j_tswIn hG 7 dL_law_33 e7 (by decide) (by decide) rfl (tgt := 327) rfl (law_7 hG hB hi hL hC hM hS hk)
      by_cases e8 : w = 8
      · exact j_tswIn hG 8 dL_law_33 e8 (by decide) (by decide) rfl (tgt := 340) rfl (law_8 hG hB hi hL hC hM hS hk)
      by_cases e9 : w = 9
      · exact j_tswIn hG 9 dL_law_33 e9 (by decide) (by decide) rfl (tgt := 353) rfl (law_9 hG hB hi hL hC hM hS hk)
      by_cases e10 : w = 10
      · exact j_tswIn hG 10 dL_law_33 e10 (by decide) (by decide) rfl (tgt := 376) rfl (law_10 hG hB hi hL hC hM hS hk)
      by_cases e11 : w = 11
      · exact j_tswIn hG 11 dL_law_33 e11 (by decide) (by decide) rfl (tgt := 419) rfl (law_11 hG hB hi hL hC hM hS hk)
      by_cases e12 : w = 12
      · exact j_tswIn hG 12 dL_law_33 e12 (by decide) (by decide) rfl (tgt := 452) rfl (law_12 hG hB hi hL hC hM hS hk)
      by_cases e13 : w = 13
      · exact j_tswIn hG 13 dL_law_33 e13 (by decide) (by decide) rfl (tgt := 501) rfl (law_13 hG hB hi hL hC hM hS hk)
      by_cases e14 : w = 14
      · exact j_tswIn hG 14 dL_law_33 e14 (by decide) (by decide) rfl (tgt := 524) rfl (law_14 hG hB hi hL hC hM hS hk)
      by_cases e15 : w = 15
      · exact j_tswIn hG 15 dL_law_33 e15 (by decide) (by decide) rfl (tgt := 547) rfl (law_15 hG hB hi hL hC hM hS hk)
      by_cases e16 : w = 16
      · exact j_tswIn hG 16 dL_law_33 e16 (by decide) (by decide) rfl (tgt := 570) rfl (law_16 hG hB hi hL hC hM hS hk)
      exact j_tswOut hG dL_law_33 (by omega) (by omega) (tgt := 583) rfl (hk f S hC hM hS)
