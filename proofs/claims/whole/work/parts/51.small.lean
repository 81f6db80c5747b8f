/-! ===== the reference's state ===== -/
def rep (K U T : Int → Int) (b : Int) (L : List Int) : Prop := ∀ i : Nat, i < L.length → K (b + i) = rK (L.getD i 0) ∧ U (b + i) = rV (L.getD i 0) ∧ T (b + i) = rT (L.getD i 0)
def wrep (K U T S : Int → Int) (L : List Int) : Prop := ∀ i : Nat, i < L.length → K i = rK (L.getD i 0 / 2) ∧ U i = rV (L.getD i 0 / 2) ∧ T i = rT (L.getD i 0 / 2) ∧ S i = if L.getD i 0 % 2 = 1 then 1 else -1
def hB (th : Int → Int) : Int := th 0 + 2 * th 1 + 4 * th 2 + 8 * th 3 + 16 * th 4 + 32 * th 5 + 64 * th 6 + 128 * th 7
/-- MAKING t as the reference has it -/
def trel (M : Int → Int → Int) (k a b c r : Int → Int) (t : Int) : Prop := k t = M t 0 ∧ (M t 0 = 0 → a t = M t 5) ∧ (M t 0 ≠ 0 → a t = M t 1) ∧ (M t 0 = 11 ∨ M t 0 = 12 → b t = M t 2) ∧ (M t 0 ≠ 0 ∧ ¬ (M t 0 = 11 ∨ M t 0 = 12) → b t = M t 5) ∧ (M t 0 = 1 → c t = M t 3 ∧ r t = M t 4)
def MS (V : Nat → Int) (G : Nat → Int → Int) (S : ST) : Prop := match S with
  | (ls, lr, ln, M, sz, la, rd, mr, W, O, g, len, th, fa, re) => (V 2 = (ln : Int) ∧ ∀ j : Nat, j < ln → G 3 j = ls j ∧ G 4 j = rK (lr j) ∧ G 5 j = rV (lr j) ∧ G 6 j = rT (lr j)) ∧ (V 8 = la ∧ V 9 = (rd : Int) ∧ V 10 = (mr : Int)) ∧ (∀ j : Nat, j < rd → G 7 j = if lateB lr la j = true then 1 else 0) ∧ (V 11 = (sz : Int) ∧ ∀ t : Nat, t < sz → trel M (G 12) (G 13) (G 14) (G 15) (G 16) t) ∧ (∀ t : Nat, t < sz → G 17 t = ((tab M (srcN ls lr la rd) t).length : Int) ∧ rep (G 18) (G 19) (G 20) (400 * (t : Int)) (tab M (srcN ls lr la rd) t)) ∧ (V 26 = (W.length : Int) ∧ wrep (G 27) (G 28) (G 29) (G 30) W) ∧ (V 31 = (O.length : Int) ∧ wrep (G 32) (G 33) (G 34) (G 35) O) ∧ (V 44 = len ∧ G 43 = g) ∧ V 51 = hB th ∧ V 49 = fa ∧ V 1 = re
def MR (E : JE) (rg : Nat → Nat) (f0 f : Hp) (m : Nat) (S : ST) : Prop := ∃ (A : Nat → Nat) (V : Nat → Int) (G : Nat → Int → Int), MF E rg f0 f m A V G ∧ MS V G S
def sV (V : Nat → Int) (a2 a8 a9 a10 a11 a26 a31 a44 a51 a49 a1 : Int) : Nat → Int := (up (up (up (up (up (up (up (up (up (up (up V 2 a2) 8 a8) 9 a9) 10 a10) 11 a11) 26 a26) 31 a31) 44 a44) 51 a51) 49 a49) 1 a1)
theorem up_id {V : Nat → Int} {k : Nat} {x : Int} (h : V k = x) : up V k x = V := by
  funext i
  by_cases e : i = k
  · subst e; rw [up_s, h]
  · rw [up_n _ _ e]
theorem sV_in {E : JE} {rg : Nat → Nat} {f0 f : Hp} {m : Nat} {A : Nat → Nat} {V : Nat → Int} {G : Nat → Int → Int} {a2 a8 a9 a10 a11 a26 a31 a44 a51 a49 a1 : Int} (h : MF E rg f0 f m A V G) (e2 : V 2 = a2) (e8 : V 8 = a8) (e9 : V 9 = a9) (e10 : V 10 = a10) (e11 : V 11 = a11) (e26 : V 26 = a26) (e31 : V 31 = a31) (e44 : V 44 = a44) (e51 : V 51 = a51) (e49 : V 49 = a49) (e1 : V 1 = a1) : MF E rg f0 f m A (sV V a2 a8 a9 a10 a11 a26 a31 a44 a51 a49 a1) G := by
  unfold sV
  rw [up_id e2, up_id e8, up_id e9, up_id e10, up_id e11, up_id e26, up_id e31, up_id e44, up_id e51, up_id e49, up_id e1]
  exact h
theorem shs_u : ∀ n, n < 32 → ((nI n &&& 31).toBitVec.smod 32).toNat = n := by decide +kernel
theorem shrZ {z : Int} (hz : -2147483648 ≤ z ∧ z < 2147483648) {k : Nat} (hk : k < 32) : iZ z >>> (iZ (k : Int) &&& 31) = iZ (z / 2 ^ k) := by
  have e := pk_shr (iZ z) (iZ (k : Int) &&& 31) k (by rw [← iZ_nI]; exact shs_u k hk)
  rw [iZ_toInt hz, Int.shiftRight_eq_div_pow] at e
  have r := iZ_rng (iZ z >>> (iZ (k : Int) &&& 31))
  apply Int32.toInt_inj.1
  rw [e] at r
  rw [e]
  have e2 : ((2 ^ k : Nat) : Int) = (2 : Int) ^ k := by push_cast; rfl
  rw [e2] at r ⊢
  rw [iZ_toInt r]
theorem iZ_mod (y : Int) : iZ y = iZ (y % 4294967296) := by
  apply Int32.toInt_inj.1
  simp only [iZ, Int32.toInt_ofInt]
  exact (Int.emod_bmod y 4294967296).symm
theorem mask255 (y : Int) : iZ y &&& iZ 255 = iZ (y % 256) := by
  rw [iZ_mod y, iZ_mask 8 (by decide) (by decide) (by omega)]
  congr 1; omega
theorem mask31 (y : Int) : iZ y &&& iZ 31 = iZ (y % 32) := by
  rw [iZ_mod y, iZ_mask 5 (by decide) (by decide) (by omega)]
  congr 1; omega
theorem mask1 (y : Int) : iZ y &&& iZ 1 = iZ (y % 2) := by
  rw [iZ_mod y, iZ_mask 1 (by decide) (by decide) (by omega)]
  congr 1; omega
theorem c_X12_in {l : Launch} {E : JE} {f : Hp}  {a lo hi : Int} (ha : -9223372036854775808 ≤ a ∧ a < 9223372036854775808) (hlo : -9223372036854775808 ≤ lo ∧ lo < 9223372036854775808) (hhi : -9223372036854775808 ≤ hi ∧ hi < 9223372036854775808) : KX12_in l E [.long (lZ (a)), .long (lZ (lo)), .long (lZ (hi))] f (fun v f' => (∃ z : Int, v = some (.int (iZ z)) ∧ ((z = 1 ∧ lo ≤ a ∧ a ≤ hi) ∨ (z = 0 ∧ (a < lo ∨ hi < a)))) ∧ f = f') := by
  refine ct_of (own := RX12) (lv := [(0, .long (lZ (a))), (2, .long (lZ (lo))), (4, .long (lZ (hi)))]) (by decide +kernel) rfl (Nat.le_of_ble_eq_true rfl) rfl ?_
  intro G9 hG hZ
  refine j_lload_n hG dX12_in_0 rfl rfl ?_
  refine j_lload_n hG dX12_in_1 rfl rfl ?_
  refine j_lcmp hG dX12_in_2 (by omega) (by omega) ?_
  refine j_if_lt (tgt := 17) hG dX12_in_3 (by decide) (by have h9 := cI_rng a lo; omega) (fun c1 => ?_) (fun c1 => ?_)
  · -- taken at 3
    have c1 := cI_lt.mp c1
    refine j_iconst hG dX12_in_17 ?_
    exact j_zret hG hZ dX12_in_18 (Nat.zero_le _) (Nat.zero_le _) (nar_zr (by omega)) (⟨⟨0, rfl, Or.inr ⟨rfl, by omega⟩⟩, rfl⟩)
  · -- on at 3
    have c1 := cge c1
    refine j_lload_n hG dX12_in_6 rfl rfl ?_
    refine j_lload hG dX12_in_7 rfl ?_
    refine j_lcmp hG dX12_in_9 (by omega) (by omega) ?_
    refine j_if_gt (tgt := 17) hG dX12_in_10 (by decide) (by have h9 := cI_rng a hi; omega) (fun c2 => ?_) (fun c2 => ?_)
    · -- taken at 10
      have c2 := cgt c2
      refine j_iconst hG dX12_in_17 ?_
      exact j_zret hG hZ dX12_in_18 (Nat.zero_le _) (Nat.zero_le _) (nar_zr (by omega)) (⟨⟨0, rfl, Or.inr ⟨rfl, by omega⟩⟩, rfl⟩)
    · -- on at 10
      have c2 := cI_le.mp c2
      refine j_iconst hG dX12_in_13 ?_
      refine j_goto (tgt := 18) hG dX12_in_14 (by decide) ?_
      exact j_zret hG hZ dX12_in_18 (Nat.zero_le _) (Nat.zero_le _) (nar_zr (by omega)) (⟨⟨1, rfl, Or.inl ⟨rfl, by omega⟩⟩, rfl⟩)
theorem c_X12_toldN {l : Launch} {E : JE} {f : Hp} {rg : Nat → Nat} {f0 : Hp} {m : Nat} {A : Nat → Nat} {V : Nat → Int} {G : Nat → Int → Int} {z : Int} (hW : MF E rg f0 f m A V G) (hz : -2147483648 ≤ z ∧ z < 0) : KX12_told l E [.ref m, .int (iZ (z))] f (fun v f' => v = some (.int (iZ z)) ∧ MF E rg f0 f' m A (up V 1 z) G) := by
  refine ct_of (own := RX12) (lv := [(0, .ref m), (1, .int (iZ (z)))]) (by decide +kernel) rfl (Nat.le_of_ble_eq_true rfl) rfl ?_
  intro G9 hG hZ
  refine j_aload_n hG dX12_told_0 rfl rfl ?_
  refine j_iload_n hG dX12_told_1 rfl rfl ?_
  refine j_if_ge (tgt := 9) hG dX12_told_2 (by decide) (by omega) (fun c1 => ?_) (fun c1 => ?_)
  · -- taken at 2
    exfalso; omega
  · -- on at 2
    refine j_iload_n hG dX12_told_5 rfl rfl ?_
    refine j_goto (tgt := 10) hG dX12_told_6 (by decide) ?_
    refine j_put hG pX12_123 dX12_told_10 hW.1 rfl rfl (Nat.le_of_ble_eq_true rfl) (fun f2 h3 fr4 => ?_)
    have hW5 : MF E rg f0 f2 m A (up V 1 z) G := MF_p1 hW h3 fr4
    refine j_iload_n hG dX12_told_13 rfl rfl ?_
    exact j_iret hG hZ dX12_told_14 (Nat.zero_le _) (Nat.zero_le _) (⟨rfl, hW5⟩)
theorem c_X12_toldP {l : Launch} {E : JE} {f : Hp} {rg : Nat → Nat} {f0 : Hp} {m : Nat} {A : Nat → Nat} {V : Nat → Int} {G : Nat → Int → Int} {z : Int} (hW : MF E rg f0 f m A V G) (hz : 0 ≤ z ∧ z < 2147483648) : KX12_told l E [.ref m, .int (iZ (z))] f (fun v f' => v = some (.int (iZ z)) ∧ MF E rg f0 f' m A (up V 1 0) G) := by
  refine ct_of (own := RX12) (lv := [(0, .ref m), (1, .int (iZ (z)))]) (by decide +kernel) rfl (Nat.le_of_ble_eq_true rfl) rfl ?_
  intro G9 hG hZ
  refine j_aload_n hG dX12_told_0 rfl rfl ?_
  refine j_iload_n hG dX12_told_1 rfl rfl ?_
  refine j_if_ge (tgt := 9) hG dX12_told_2 (by decide) (by omega) (fun c1 => ?_) (fun c1 => ?_)
  · -- taken at 2
    refine j_iconst hG dX12_told_9 ?_
    refine j_put hG pX12_123 dX12_told_10 hW.1 rfl rfl (Nat.le_of_ble_eq_true rfl) (fun f2 h3 fr4 => ?_)
    have hW5 : MF E rg f0 f2 m A (up V 1 0) G := MF_p1 hW h3 fr4
    refine j_iload_n hG dX12_told_13 rfl rfl ?_
    exact j_iret hG hZ dX12_told_14 (Nat.zero_le _) (Nat.zero_le _) (⟨rfl, hW5⟩)
  · -- on at 2
    exfalso; omega
theorem nat_ne {i n : Nat} (h : i < n) : (i : Int) ≠ (n : Int) := by omega
theorem lgm {ls lr a b c d : Int → Int} {ln : Nat} {s k t u : Int} (h : ∀ j : Nat, j < ln → a j = ls j ∧ b j = rK (lr j) ∧ c j = rV (lr j) ∧ d j = rT (lr j)) (p : rOk (pk k t u) ∧ rK (pk k t u) = k ∧ rT (pk k t u) = t ∧ rV (pk k t u) = u) {j : Nat} (hj : j < ln + 1) : fup a (ln : Int) s j = fup ls (ln : Int) s j ∧ fup b (ln : Int) k j = rK (fup lr (ln : Int) (pk k t u) j) ∧ fup c (ln : Int) u j = rV (fup lr (ln : Int) (pk k t u) j) ∧ fup d (ln : Int) t j = rT (fup lr (ln : Int) (pk k t u) j) := by
  by_cases e : j = ln
  · subst e
    rw [fup_s, fup_s, fup_s, fup_s, fup_s, fup_s]
    exact ⟨rfl, p.2.1.symm, p.2.2.2.symm, p.2.2.1.symm⟩
  · have h1 : (j : Int) ≠ (ln : Int) := by omega
    rw [fup_n _ _ h1, fup_n _ _ h1, fup_n _ _ h1, fup_n _ _ h1, fup_n _ _ h1, fup_n _ _ h1]
    exact h j (by omega)
theorem c_X12_tell {l : Launch} {E : JE} {f : Hp} {rg : Nat → Nat} {f0 : Hp} {m : Nat} {ls : Int → Int} {lr : Int → Int} {ln : Nat} {M : Int → Int → Int} {sz : Nat} {la : Int} {rd : Nat} {mr : Nat} {W : List Int} {O : List Int} {g : Int → Int} {len : Int} {th : Int → Int} {fa : Int} {re : Int} {s : Int} {k : Int} {u : Int} {t : Int} (hM : MR E rg f0 f m (ls, lr, ln, M, sz, la, rd, mr, W, O, g, len, th, fa, re)) (hS : SOk (ls, lr, ln, M, sz, la, rd, mr, W, O, g, len, th, fa, re)) (hs_ : -2147483648 ≤ s ∧ s < 2147483648) (hk_ : -2147483648 ≤ k ∧ k < 2147483648) (hu_ : -2147483648 ≤ u ∧ u < 2147483648) (ht_ : -2147483648 ≤ t ∧ t < 2147483648)  : KX12_tell l E [.ref m, .int (iZ (s)), .int (iZ (k)), .int (iZ (u)), .int (iZ (t))] f (fun v f' => v = some (.int (iZ (tellF (ls, lr, ln, M, sz, la, rd, mr, W, O, g, len, th, fa, re) s k u t).1)) ∧ MR E rg f0 f' m (tellF (ls, lr, ln, M, sz, la, rd, mr, W, O, g, len, th, fa, re) s k u t).2) := by
  refine ct_of (own := RX12) (lv := [(0, .ref m), (1, .int (iZ (s))), (2, .int (iZ (k))), (3, .int (iZ (u))), (4, .int (iZ (t)))]) (by decide +kernel) rfl (Nat.le_of_ble_eq_true rfl) rfl ?_
  intro G9 hG hZ
  obtain ⟨A, V, G, hW, ⟨⟨m2, mlg⟩, ⟨m8, m9, m10⟩, mlt, ⟨m11, mtr⟩, mtb, ⟨m26, mw⟩, ⟨m31, mo⟩, ⟨m44, m43⟩, m51, m49, m1⟩⟩ := hM
  obtain ⟨⟨hln, hlg⟩, ⟨hsz, hMo⟩, hla, hrd, hok1, hok2, hWO, hbg, hle, hth, hh1⟩ := hS
  have hW := sV_in hW m2 m8 m9 m10 m11 m26 m31 m44 m51 m49 m1
  refine j_aload_n hG dX12_tell_0 rfl rfl ?_
  refine j_iconst hG dX12_tell_1 ?_
  refine j_put hG pX12_120 dX12_tell_2 hW.1 rfl rfl (Nat.le_of_ble_eq_true rfl) (fun f1 h2 fr3 => ?_)
  have hW4 : MF E rg f0 f1 m A (up (sV V (ln : Int) la (rd : Int) (mr : Int) (sz : Int) (W.length : Int) (O.length : Int) len (hB th) fa re) 0 0) G := MF_p0 hW h2 fr3
  refine j_iload_n hG dX12_tell_5 rfl rfl ?_
  refine j_i2l hG dX12_tell_6 (by omega) ?_
  refine j_lconst (y := 0) hG dX12_tell_7 (by decide) ?_
  refine j_ldc2 (z := 2) hG dX12_tell_8 kX12_126 (by decide) ?_
  refine j_callS (rest := []) hG vX12_128 dX12_tell_11 (c_X12_in (a := s) (lo := 0) (hi := 2) (by omega) (by omega) (by omega)) rfl rfl (by decide) (by decide) (Nat.le_of_ble_eq_true rfl) rfl rfl (Nat.zero_le _) (Nat.zero_le _) ?_
  rintro _ _ ⟨⟨z5, rfl, hz6⟩, rfl⟩
  refine j_st (st' := [.int (iZ (z5))]) rfl ?_
  refine j_if_eq (tgt := 56) hG dX12_tell_14 (by decide) (by omega) (fun c9 => ?_) (fun c9 => ?_)
  · -- taken at 14
    obtain ⟨-, e8⟩ := hz6.resolve_left (fun h => absurd h.1 (by omega))
    refine j_aload_n hG dX12_tell_56 rfl rfl ?_
    refine j_iconst hG dX12_tell_57 ?_
    refine j_callV (rest := []) hG vX12_140 dX12_tell_58 (c_X12_toldN (z := -1) hW4 (by omega)) hW4.1 rfl rfl (by decide) (by decide) (Nat.le_of_ble_eq_true rfl) rfl rfl (Nat.zero_le _) (Nat.zero_le _) ?_
    rintro _ f11 ⟨rfl, hW10⟩
    refine j_st (st' := [.int (iZ (-1))]) rfl ?_
    have eF : tellF (ls, lr, ln, M, sz, la, rd, mr, W, O, g, len, th, fa, re) s k u t = (-1, (ls, lr, ln, M, sz, la, rd, mr, W, O, g, len, th, fa, -1)) := by
      unfold tellF
      dsimp only
      rw [if_neg (by omega)]
    exact j_iret hG hZ dX12_tell_61 (Nat.zero_le _) (Nat.zero_le _) (⟨by rw [eF], by rw [eF]; exact ⟨A, up (up (sV V (ln : Int) la (rd : Int) (mr : Int) (sz : Int) (W.length : Int) (O.length : Int) len (hB th) fa re) 0 0) 1 (-1), G, hW10, ⟨⟨rfl, mlg⟩, ⟨rfl, rfl, rfl⟩, mlt, ⟨rfl, mtr⟩, mtb, ⟨rfl, mw⟩, ⟨rfl, mo⟩, ⟨rfl, m43⟩, rfl, rfl, rfl⟩⟩⟩)
  · -- on at 14
    obtain ⟨-, e7⟩ := hz6.resolve_right (fun h => absurd h.1 (by omega))
    refine j_iload_n hG dX12_tell_17 rfl rfl ?_
    refine j_i2l hG dX12_tell_18 (by omega) ?_
    refine j_lconst (y := 0) hG dX12_tell_19 (by decide) ?_
    refine j_ldc2 (z := 31) hG dX12_tell_20 kX12_132 (by decide) ?_
    refine j_callS (rest := []) hG vX12_128 dX12_tell_23 (c_X12_in (a := k) (lo := 0) (hi := 31) (by omega) (by omega) (by omega)) rfl rfl (by decide) (by decide) (Nat.le_of_ble_eq_true rfl) rfl rfl (Nat.zero_le _) (Nat.zero_le _) ?_
    rintro _ _ ⟨⟨z12, rfl, hz13⟩, rfl⟩
    refine j_st (st' := [.int (iZ (z12))]) rfl ?_
    refine j_if_eq (tgt := 56) hG dX12_tell_26 (by decide) (by omega) (fun c16 => ?_) (fun c16 => ?_)
    · -- taken at 26
      obtain ⟨-, e15⟩ := hz13.resolve_left (fun h => absurd h.1 (by omega))
      refine j_aload_n hG dX12_tell_56 rfl rfl ?_
      refine j_iconst hG dX12_tell_57 ?_
      refine j_callV (rest := []) hG vX12_140 dX12_tell_58 (c_X12_toldN (z := -1) hW4 (by omega)) hW4.1 rfl rfl (by decide) (by decide) (Nat.le_of_ble_eq_true rfl) rfl rfl (Nat.zero_le _) (Nat.zero_le _) ?_
      rintro _ f18 ⟨rfl, hW17⟩
      refine j_st (st' := [.int (iZ (-1))]) rfl ?_
      have eF : tellF (ls, lr, ln, M, sz, la, rd, mr, W, O, g, len, th, fa, re) s k u t = (-1, (ls, lr, ln, M, sz, la, rd, mr, W, O, g, len, th, fa, -1)) := by
        unfold tellF
        dsimp only
        rw [if_neg (by omega)]
      exact j_iret hG hZ dX12_tell_61 (Nat.zero_le _) (Nat.zero_le _) (⟨by rw [eF], by rw [eF]; exact ⟨A, up (up (sV V (ln : Int) la (rd : Int) (mr : Int) (sz : Int) (W.length : Int) (O.length : Int) len (hB th) fa re) 0 0) 1 (-1), G, hW17, ⟨⟨rfl, mlg⟩, ⟨rfl, rfl, rfl⟩, mlt, ⟨rfl, mtr⟩, mtb, ⟨rfl, mw⟩, ⟨rfl, mo⟩, ⟨rfl, m43⟩, rfl, rfl, rfl⟩⟩⟩)
    · -- on at 26
      obtain ⟨-, e14⟩ := hz13.resolve_right (fun h => absurd h.1 (by omega))
      refine j_iload_n hG dX12_tell_29 rfl rfl ?_
      refine j_i2l hG dX12_tell_30 (by omega) ?_
      refine j_ldc2 (z := -1000) hG dX12_tell_31 kX12_134 (by decide) ?_
      refine j_ldc2 (z := 1000) hG dX12_tell_34 kX12_136 (by decide) ?_
      refine j_callS (rest := []) hG vX12_128 dX12_tell_37 (c_X12_in (a := u) (lo := -1000) (hi := 1000) (by omega) (by omega) (by omega)) rfl rfl (by decide) (by decide) (Nat.le_of_ble_eq_true rfl) rfl rfl (Nat.zero_le _) (Nat.zero_le _) ?_
      rintro _ _ ⟨⟨z19, rfl, hz20⟩, rfl⟩
      refine j_st (st' := [.int (iZ (z19))]) rfl ?_
      refine j_if_eq (tgt := 56) hG dX12_tell_40 (by decide) (by omega) (fun c23 => ?_) (fun c23 => ?_)
      · -- taken at 40
        obtain ⟨-, e22⟩ := hz20.resolve_left (fun h => absurd h.1 (by omega))
        refine j_aload_n hG dX12_tell_56 rfl rfl ?_
        refine j_iconst hG dX12_tell_57 ?_
        refine j_callV (rest := []) hG vX12_140 dX12_tell_58 (c_X12_toldN (z := -1) hW4 (by omega)) hW4.1 rfl rfl (by decide) (by decide) (Nat.le_of_ble_eq_true rfl) rfl rfl (Nat.zero_le _) (Nat.zero_le _) ?_
        rintro _ f25 ⟨rfl, hW24⟩
        refine j_st (st' := [.int (iZ (-1))]) rfl ?_
        have eF : tellF (ls, lr, ln, M, sz, la, rd, mr, W, O, g, len, th, fa, re) s k u t = (-1, (ls, lr, ln, M, sz, la, rd, mr, W, O, g, len, th, fa, -1)) := by
          unfold tellF
          dsimp only
          rw [if_neg (by omega)]
        exact j_iret hG hZ dX12_tell_61 (Nat.zero_le _) (Nat.zero_le _) (⟨by rw [eF], by rw [eF]; exact ⟨A, up (up (sV V (ln : Int) la (rd : Int) (mr : Int) (sz : Int) (W.length : Int) (O.length : Int) len (hB th) fa re) 0 0) 1 (-1), G, hW24, ⟨⟨rfl, mlg⟩, ⟨rfl, rfl, rfl⟩, mlt, ⟨rfl, mtr⟩, mtb, ⟨rfl, mw⟩, ⟨rfl, mo⟩, ⟨rfl, m43⟩, rfl, rfl, rfl⟩⟩⟩)
      · -- on at 40
        obtain ⟨-, e21⟩ := hz20.resolve_right (fun h => absurd h.1 (by omega))
        refine j_iload hG dX12_tell_43 rfl ?_
        refine j_i2l hG dX12_tell_45 (by omega) ?_
        refine j_lconst (y := 0) hG dX12_tell_46 (by decide) ?_
        refine j_ldc2 (z := 10000) hG dX12_tell_47 kX12_138 (by decide) ?_
        refine j_callS (rest := []) hG vX12_128 dX12_tell_50 (c_X12_in (a := t) (lo := 0) (hi := 10000) (by omega) (by omega) (by omega)) rfl rfl (by decide) (by decide) (Nat.le_of_ble_eq_true rfl) rfl rfl (Nat.zero_le _) (Nat.zero_le _) ?_
        rintro _ _ ⟨⟨z26, rfl, hz27⟩, rfl⟩
        refine j_st (st' := [.int (iZ (z26))]) rfl ?_
        refine j_if_ne (tgt := 62) hG dX12_tell_53 (by decide) (by omega) (fun c30 => ?_) (fun c30 => ?_)
        · -- taken at 53
          obtain ⟨-, e28⟩ := hz27.resolve_right (fun h => absurd h.1 (by omega))
          refine j_aload_n hG dX12_tell_62 rfl rfl ?_
          refine j_get (v := .int (iZ ((ln : Int)))) hG fX12_144 dX12_tell_63 hW4.1 rfl ?_
          refine j_sipush hG dX12_tell_66 (by decide) ?_
          refine j_icmp_ne (tgt := 79) hG dX12_tell_69 (by decide) (by omega) (by omega) (fun c31 => ?_) (fun c31 => ?_)
          · -- taken at 69
            refine j_aload_n hG dX12_tell_79 rfl rfl ?_
            refine j_get (v := .ref (A 3)) hG fX12_7 dX12_tell_80 hW4.1 rfl ?_
            refine j_aload_n hG dX12_tell_83 rfl rfl ?_
            refine j_get (v := .int (iZ ((ln : Int)))) hG fX12_144 dX12_tell_84 hW4.1 rfl ?_
            refine j_iload_n hG dX12_tell_87 rfl rfl ?_
            refine j_iast hG dX12_tell_88 (MF_a3 hW4) (by omega) (by decide) (fun f32 h33 fr34 => ?_)
            have hW35 : MF E rg f0 f32 m A (up (sV V (ln : Int) la (rd : Int) (mr : Int) (sz : Int) (W.length : Int) (O.length : Int) len (hB th) fa re) 0 0) (up G 3 (fup (G 3) (ln : Int) s)) := MF_a hW4 3 rfl h33 fr34
            refine j_aload_n hG dX12_tell_89 rfl rfl ?_
            refine j_get (v := .ref (A 4)) hG fX12_13 dX12_tell_90 hW35.1 rfl ?_
            refine j_aload_n hG dX12_tell_93 rfl rfl ?_
            refine j_get (v := .int (iZ ((ln : Int)))) hG fX12_144 dX12_tell_94 hW35.1 rfl ?_
            refine j_iload_n hG dX12_tell_97 rfl rfl ?_
            refine j_iast hG dX12_tell_98 (MF_a4 hW35) (by omega) (by decide) (fun f36 h37 fr38 => ?_)
            have hW39 : MF E rg f0 f36 m A (up (sV V (ln : Int) la (rd : Int) (mr : Int) (sz : Int) (W.length : Int) (O.length : Int) len (hB th) fa re) 0 0) (up (up G 3 (fup (G 3) (ln : Int) s)) 4 (fup (G 4) (ln : Int) k)) := MF_a hW35 4 rfl h37 fr38
            refine j_aload_n hG dX12_tell_99 rfl rfl ?_
            refine j_get (v := .ref (A 5)) hG fX12_16 dX12_tell_100 hW39.1 rfl ?_
            refine j_aload_n hG dX12_tell_103 rfl rfl ?_
            refine j_get (v := .int (iZ ((ln : Int)))) hG fX12_144 dX12_tell_104 hW39.1 rfl ?_
            refine j_iload_n hG dX12_tell_107 rfl rfl ?_
            refine j_iast hG dX12_tell_108 (MF_a5 hW39) (by omega) (by decide) (fun f40 h41 fr42 => ?_)
            have hW43 : MF E rg f0 f40 m A (up (sV V (ln : Int) la (rd : Int) (mr : Int) (sz : Int) (W.length : Int) (O.length : Int) len (hB th) fa re) 0 0) (up (up (up G 3 (fup (G 3) (ln : Int) s)) 4 (fup (G 4) (ln : Int) k)) 5 (fup (G 5) (ln : Int) u)) := MF_a hW39 5 rfl h41 fr42
            refine j_aload_n hG dX12_tell_109 rfl rfl ?_
            refine j_get (v := .ref (A 6)) hG fX12_19 dX12_tell_110 hW43.1 rfl ?_
            refine j_aload_n hG dX12_tell_113 rfl rfl ?_
            refine j_get (v := .int (iZ ((ln : Int)))) hG fX12_144 dX12_tell_114 hW43.1 rfl ?_
            refine j_iload hG dX12_tell_117 rfl ?_
            refine j_iast hG dX12_tell_119 (MF_a6 hW43) (by omega) (by decide) (fun f44 h45 fr46 => ?_)
            have hW47 : MF E rg f0 f44 m A (up (sV V (ln : Int) la (rd : Int) (mr : Int) (sz : Int) (W.length : Int) (O.length : Int) len (hB th) fa re) 0 0) (up (up (up (up G 3 (fup (G 3) (ln : Int) s)) 4 (fup (G 4) (ln : Int) k)) 5 (fup (G 5) (ln : Int) u)) 6 (fup (G 6) (ln : Int) t)) := MF_a hW43 6 rfl h45 fr46
            refine j_aload_n hG dX12_tell_120 rfl rfl ?_
            refine j_dup hG dX12_tell_121 rfl ?_
            refine j_get (v := .int (iZ ((ln : Int)))) hG fX12_144 dX12_tell_122 hW47.1 rfl ?_
            refine j_iconst hG dX12_tell_125 ?_
            refine j_iadd hG dX12_tell_126 ?_
            refine j_put hG pX12_144 dX12_tell_127 hW47.1 rfl rfl (Nat.le_of_ble_eq_true rfl) (fun f48 h49 fr50 => ?_)
            have hW51 : MF E rg f0 f48 m A (up (up (sV V (ln : Int) la (rd : Int) (mr : Int) (sz : Int) (W.length : Int) (O.length : Int) len (hB th) fa re) 0 0) 2 ((ln : Int) + 1)) (up (up (up (up G 3 (fup (G 3) (ln : Int) s)) 4 (fup (G 4) (ln : Int) k)) 5 (fup (G 5) (ln : Int) u)) 6 (fup (G 6) (ln : Int) t)) := MF_p2 hW47 h49 fr50
            refine j_aload_n hG dX12_tell_130 rfl rfl ?_
            refine j_aload_n hG dX12_tell_131 rfl rfl ?_
            refine j_get (v := .int (iZ ((ln : Int) + 1))) hG fX12_144 dX12_tell_132 hW51.1 rfl ?_
            refine j_callV (rest := []) hG vX12_140 dX12_tell_135 (c_X12_toldP (z := (ln : Int) + 1) hW51 (by omega)) hW51.1 rfl rfl (by decide) (by decide) (Nat.le_of_ble_eq_true rfl) rfl rfl (Nat.zero_le _) (Nat.zero_le _) ?_
            rintro _ f53 ⟨rfl, hW52⟩
            refine j_st (st' := [.int (iZ ((ln : Int) + 1))]) rfl ?_
            have pk9 := pk_ok (k := k) (t := t) (v := u) (by omega) (by omega) (by omega)
            have t1 := log_tell (ls := ls) (lr := lr) (la := la) (s := s) (x := pk k t u) (n := rd) (ln := ln) hrd.2
            have hrd2 : ∀ j : Nat, j < rd → j < ln := fun j hj => Nat.lt_of_lt_of_le hj hrd.2
            have eF : tellF (ls, lr, ln, M, sz, la, rd, mr, W, O, g, len, th, fa, re) s k u t = ((ln : Int) + 1, (fup ls (ln : Int) s, fup lr (ln : Int) (pk k t u), ln + 1, M, sz, la, rd, mr, W, O, g, len, th, fa, 0)) := by
              unfold tellF
              dsimp only
              rw [if_pos (by omega), if_pos (by omega)]
            exact j_iret hG hZ dX12_tell_138 (Nat.zero_le _) (Nat.zero_le _) (⟨by rw [eF], by rw [eF]; exact ⟨A, up (up (up (sV V (ln : Int) la (rd : Int) (mr : Int) (sz : Int) (W.length : Int) (O.length : Int) len (hB th) fa re) 0 0) 2 ((ln : Int) + 1)) 1 0, up (up (up (up G 3 (fup (G 3) (ln : Int) s)) 4 (fup (G 4) (ln : Int) k)) 5 (fup (G 5) (ln : Int) u)) 6 (fup (G 6) (ln : Int) t), hW52, ⟨⟨(by show (ln : Int) + 1 = ((ln + 1 : Nat) : Int); exact (Int.natCast_succ ln).symm), (fun j hj => lgm mlg pk9 hj)⟩, ⟨rfl, rfl, rfl⟩, (fun j hj => by rw [lateB_congr (lr := fup lr (ln : Int) (pk k t u)) (lr' := lr) (fun i hi => fup_n _ _ (nat_ne (Nat.lt_of_lt_of_le hi (hrd2 j hj))))]; exact mlt j hj), ⟨rfl, mtr⟩, (by rw [t1.1]; exact mtb), ⟨rfl, mw⟩, ⟨rfl, mo⟩, ⟨rfl, m43⟩, rfl, rfl, rfl⟩⟩⟩)
          · -- on at 69
            refine j_aload_n hG dX12_tell_72 rfl rfl ?_
            refine j_bipush hG dX12_tell_73 (by decide) ?_
            refine j_callV (rest := []) hG vX12_140 dX12_tell_75 (c_X12_toldN (z := -5) hW4 (by omega)) hW4.1 rfl rfl (by decide) (by decide) (Nat.le_of_ble_eq_true rfl) rfl rfl (Nat.zero_le _) (Nat.zero_le _) ?_
            rintro _ f55 ⟨rfl, hW54⟩
            refine j_st (st' := [.int (iZ (-5))]) rfl ?_
            have eF : tellF (ls, lr, ln, M, sz, la, rd, mr, W, O, g, len, th, fa, re) s k u t = (-5, (ls, lr, ln, M, sz, la, rd, mr, W, O, g, len, th, fa, -5)) := by
              unfold tellF
              dsimp only
              rw [if_pos (by omega), if_neg (by omega)]
            exact j_iret hG hZ dX12_tell_78 (Nat.zero_le _) (Nat.zero_le _) (⟨by rw [eF], by rw [eF]; exact ⟨A, up (up (sV V (ln : Int) la (rd : Int) (mr : Int) (sz : Int) (W.length : Int) (O.length : Int) len (hB th) fa re) 0 0) 1 (-5), G, hW54, ⟨⟨rfl, mlg⟩, ⟨rfl, rfl, rfl⟩, mlt, ⟨rfl, mtr⟩, mtb, ⟨rfl, mw⟩, ⟨rfl, mo⟩, ⟨rfl, m43⟩, rfl, rfl, rfl⟩⟩⟩)
        · -- on at 53
          obtain ⟨-, e29⟩ := hz27.resolve_left (fun h => absurd h.1 (by omega))
          refine j_aload_n hG dX12_tell_56 rfl rfl ?_
          refine j_iconst hG dX12_tell_57 ?_
          refine j_callV (rest := []) hG vX12_140 dX12_tell_58 (c_X12_toldN (z := -1) hW4 (by omega)) hW4.1 rfl rfl (by decide) (by decide) (Nat.le_of_ble_eq_true rfl) rfl rfl (Nat.zero_le _) (Nat.zero_le _) ?_
          rintro _ f57 ⟨rfl, hW56⟩
          refine j_st (st' := [.int (iZ (-1))]) rfl ?_
          have eF : tellF (ls, lr, ln, M, sz, la, rd, mr, W, O, g, len, th, fa, re) s k u t = (-1, (ls, lr, ln, M, sz, la, rd, mr, W, O, g, len, th, fa, -1)) := by
            unfold tellF
            dsimp only
            rw [if_neg (by omega)]
          exact j_iret hG hZ dX12_tell_61 (Nat.zero_le _) (Nat.zero_le _) (⟨by rw [eF], by rw [eF]; exact ⟨A, up (up (sV V (ln : Int) la (rd : Int) (mr : Int) (sz : Int) (W.length : Int) (O.length : Int) len (hB th) fa re) 0 0) 1 (-1), G, hW56, ⟨⟨rfl, mlg⟩, ⟨rfl, rfl, rfl⟩, mlt, ⟨rfl, mtr⟩, mtb, ⟨rfl, mw⟩, ⟨rfl, mo⟩, ⟨rfl, m43⟩, rfl, rfl, rfl⟩⟩⟩)
theorem c_X12_four {l : Launch} {E : JE} {f : Hp} {rg : Nat → Nat} {f0 : Hp} {m : Nat} {A : Nat → Nat} {V : Nat → Int} {G : Nat → Int → Int} {u : Int} (hW : MF E rg f0 f m A V G) (hu : -2147483648 ≤ u ∧ u < 2147483648) (hl : 0 ≤ V 44 ∧ V 44 + 4 ≤ 300) : KX12_four l E [.ref m, .int (iZ (u))] f (fun v f' => v = none ∧ MF E rg f0 f' m A (up V 44 (V 44 + 4)) (up G 43 (put4 (G 43) (V 44) u))) := by
  refine ct_of (own := RX12) (lv := [(0, .ref m), (1, .int (iZ (u)))]) (by decide +kernel) rfl (Nat.le_of_ble_eq_true rfl) rfl ?_
  intro G9 hG hZ
  refine j_bipush hG dX12_four_0 (by decide) ?_
  refine j_istore_n (lv' := [(0, .ref m), (1, .int (iZ (u))), (2, .int (iZ (24)))]) hG dX12_four_2 rfl (by decide) rfl ?_
  refine j_iload_n hG dX12_four_3 rfl rfl ?_
  refine j_if_lt (tgt := 39) hG dX12_four_4 (by decide) (by omega) (fun c1 => ?_) (fun c1 => ?_)
  · -- taken at 4
    exfalso; omega
  · -- on at 4
    refine j_aload_n hG dX12_four_7 rfl rfl ?_
    refine j_get (v := .ref (A 43)) hG fX12_111 dX12_four_8 hW.1 rfl ?_
    refine j_aload_n hG dX12_four_11 rfl rfl ?_
    refine j_get (v := .int (iZ (V 44))) hG fX12_223 dX12_four_12 hW.1 rfl ?_
    refine j_iload_n hG dX12_four_15 rfl rfl ?_
    refine j_iload_n hG dX12_four_16 rfl rfl ?_
    refine j_ishr hG dX12_four_17 ?_
    refine j_eqi (show ((iZ (u)) >>> ((iZ (24)) &&& 31) : Int32) = iZ (u / 2 ^ 24) from shrZ hu (k := 24) (by decide)) ?_
    refine j_sipush hG dX12_four_18 (by decide) ?_
    refine j_iand hG dX12_four_21 ?_
    refine j_eqi (show ((iZ (u / 2 ^ 24)) &&& (iZ (255)) : Int32) = iZ (byt u 24) from mask255 _) ?_
    refine j_iast hG dX12_four_22 (MF_a43 hW) (by omega) (by decide) (fun f2 h3 fr4 => ?_)
    have hW5 : MF E rg f0 f2 m A V (up G 43 (fup (G 43) (V 44) (byt u 24))) := MF_a hW 43 rfl h3 fr4
    refine j_aload_n hG dX12_four_23 rfl rfl ?_
    refine j_dup hG dX12_four_24 rfl ?_
    refine j_get (v := .int (iZ (V 44))) hG fX12_223 dX12_four_25 hW5.1 rfl ?_
    refine j_iconst hG dX12_four_28 ?_
    refine j_iadd hG dX12_four_29 ?_
    refine j_put hG pX12_223 dX12_four_30 hW5.1 rfl rfl (Nat.le_of_ble_eq_true rfl) (fun f6 h7 fr8 => ?_)
    have hW9 : MF E rg f0 f6 m A (up V 44 ((V 44) + 1)) (up G 43 (fup (G 43) (V 44) (byt u 24))) := MF_p44 hW5 h7 fr8
    refine j_iinc (a := 24) (lv' := [(0, .ref m), (1, .int (iZ (u))), (2, .int (iZ (16)))]) hG dX12_four_33 rfl (by decide) rfl ?_
    refine j_goto (tgt := 3) hG dX12_four_36 (by decide) ?_
    refine j_iload_n hG dX12_four_3 rfl rfl ?_
    refine j_if_lt (tgt := 39) hG dX12_four_4 (by decide) (by omega) (fun c10 => ?_) (fun c10 => ?_)
    · -- taken at 4
      exfalso; omega
    · -- on at 4
      refine j_aload_n hG dX12_four_7 rfl rfl ?_
      refine j_get (v := .ref (A 43)) hG fX12_111 dX12_four_8 hW9.1 rfl ?_
      refine j_aload_n hG dX12_four_11 rfl rfl ?_
      refine j_get (v := .int (iZ ((V 44) + 1))) hG fX12_223 dX12_four_12 hW9.1 rfl ?_
      refine j_iload_n hG dX12_four_15 rfl rfl ?_
      refine j_iload_n hG dX12_four_16 rfl rfl ?_
      refine j_ishr hG dX12_four_17 ?_
      refine j_eqi (show ((iZ (u)) >>> ((iZ (16)) &&& 31) : Int32) = iZ (u / 2 ^ 16) from shrZ hu (k := 16) (by decide)) ?_
      refine j_sipush hG dX12_four_18 (by decide) ?_
      refine j_iand hG dX12_four_21 ?_
      refine j_eqi (show ((iZ (u / 2 ^ 16)) &&& (iZ (255)) : Int32) = iZ (byt u 16) from mask255 _) ?_
      refine j_iast hG dX12_four_22 (MF_a43 hW9) (by omega) (by decide) (fun f11 h12 fr13 => ?_)
      have hW14 : MF E rg f0 f11 m A (up V 44 ((V 44) + 1)) (up (up G 43 (fup (G 43) (V 44) (byt u 24))) 43 (fup (fup (G 43) (V 44) (byt u 24)) ((V 44) + 1) (byt u 16))) := MF_a hW9 43 rfl h12 fr13
      rw [up_up] at hW14
      refine j_aload_n hG dX12_four_23 rfl rfl ?_
      refine j_dup hG dX12_four_24 rfl ?_
      refine j_get (v := .int (iZ ((V 44) + 1))) hG fX12_223 dX12_four_25 hW14.1 rfl ?_
      refine j_iconst hG dX12_four_28 ?_
      refine j_iadd hG dX12_four_29 ?_
      refine j_put hG pX12_223 dX12_four_30 hW14.1 rfl rfl (Nat.le_of_ble_eq_true rfl) (fun f15 h16 fr17 => ?_)
      have hW18 : MF E rg f0 f15 m A (up (up V 44 ((V 44) + 1)) 44 (((V 44) + 1) + 1)) (up G 43 (fup (fup (G 43) (V 44) (byt u 24)) ((V 44) + 1) (byt u 16))) := MF_p44 hW14 h16 fr17
      rw [up_up] at hW18
      refine j_iinc (a := 16) (lv' := [(0, .ref m), (1, .int (iZ (u))), (2, .int (iZ (8)))]) hG dX12_four_33 rfl (by decide) rfl ?_
      refine j_goto (tgt := 3) hG dX12_four_36 (by decide) ?_
      refine j_iload_n hG dX12_four_3 rfl rfl ?_
      refine j_if_lt (tgt := 39) hG dX12_four_4 (by decide) (by omega) (fun c19 => ?_) (fun c19 => ?_)
      · -- taken at 4
        exfalso; omega
      · -- on at 4
        refine j_aload_n hG dX12_four_7 rfl rfl ?_
        refine j_get (v := .ref (A 43)) hG fX12_111 dX12_four_8 hW18.1 rfl ?_
        refine j_aload_n hG dX12_four_11 rfl rfl ?_
        refine j_get (v := .int (iZ (((V 44) + 1) + 1))) hG fX12_223 dX12_four_12 hW18.1 rfl ?_
        refine j_iload_n hG dX12_four_15 rfl rfl ?_
        refine j_iload_n hG dX12_four_16 rfl rfl ?_
        refine j_ishr hG dX12_four_17 ?_
        refine j_eqi (show ((iZ (u)) >>> ((iZ (8)) &&& 31) : Int32) = iZ (u / 2 ^ 8) from shrZ hu (k := 8) (by decide)) ?_
        refine j_sipush hG dX12_four_18 (by decide) ?_
        refine j_iand hG dX12_four_21 ?_
        refine j_eqi (show ((iZ (u / 2 ^ 8)) &&& (iZ (255)) : Int32) = iZ (byt u 8) from mask255 _) ?_
        refine j_iast hG dX12_four_22 (MF_a43 hW18) (by omega) (by decide) (fun f20 h21 fr22 => ?_)
        have hW23 : MF E rg f0 f20 m A (up V 44 (((V 44) + 1) + 1)) (up (up G 43 (fup (fup (G 43) (V 44) (byt u 24)) ((V 44) + 1) (byt u 16))) 43 (fup (fup (fup (G 43) (V 44) (byt u 24)) ((V 44) + 1) (byt u 16)) (((V 44) + 1) + 1) (byt u 8))) := MF_a hW18 43 rfl h21 fr22
        rw [up_up] at hW23
        refine j_aload_n hG dX12_four_23 rfl rfl ?_
        refine j_dup hG dX12_four_24 rfl ?_
        refine j_get (v := .int (iZ (((V 44) + 1) + 1))) hG fX12_223 dX12_four_25 hW23.1 rfl ?_
        refine j_iconst hG dX12_four_28 ?_
        refine j_iadd hG dX12_four_29 ?_
        refine j_put hG pX12_223 dX12_four_30 hW23.1 rfl rfl (Nat.le_of_ble_eq_true rfl) (fun f24 h25 fr26 => ?_)
        have hW27 : MF E rg f0 f24 m A (up (up V 44 (((V 44) + 1) + 1)) 44 ((((V 44) + 1) + 1) + 1)) (up G 43 (fup (fup (fup (G 43) (V 44) (byt u 24)) ((V 44) + 1) (byt u 16)) (((V 44) + 1) + 1) (byt u 8))) := MF_p44 hW23 h25 fr26
        rw [up_up] at hW27
        refine j_iinc (a := 8) (lv' := [(0, .ref m), (1, .int (iZ (u))), (2, .int (iZ (0)))]) hG dX12_four_33 rfl (by decide) rfl ?_
        refine j_goto (tgt := 3) hG dX12_four_36 (by decide) ?_
        refine j_iload_n hG dX12_four_3 rfl rfl ?_
        refine j_if_lt (tgt := 39) hG dX12_four_4 (by decide) (by omega) (fun c28 => ?_) (fun c28 => ?_)
        · -- taken at 4
          exfalso; omega
        · -- on at 4
          refine j_aload_n hG dX12_four_7 rfl rfl ?_
          refine j_get (v := .ref (A 43)) hG fX12_111 dX12_four_8 hW27.1 rfl ?_
          refine j_aload_n hG dX12_four_11 rfl rfl ?_
          refine j_get (v := .int (iZ ((((V 44) + 1) + 1) + 1))) hG fX12_223 dX12_four_12 hW27.1 rfl ?_
          refine j_iload_n hG dX12_four_15 rfl rfl ?_
          refine j_iload_n hG dX12_four_16 rfl rfl ?_
          refine j_ishr hG dX12_four_17 ?_
          refine j_eqi (show ((iZ (u)) >>> ((iZ (0)) &&& 31) : Int32) = iZ (u / 2 ^ 0) from shrZ hu (k := 0) (by decide)) ?_
          refine j_sipush hG dX12_four_18 (by decide) ?_
          refine j_iand hG dX12_four_21 ?_
          refine j_eqi (show ((iZ (u / 2 ^ 0)) &&& (iZ (255)) : Int32) = iZ (byt u 0) from mask255 _) ?_
          refine j_iast hG dX12_four_22 (MF_a43 hW27) (by omega) (by decide) (fun f29 h30 fr31 => ?_)
          have hW32 : MF E rg f0 f29 m A (up V 44 ((((V 44) + 1) + 1) + 1)) (up (up G 43 (fup (fup (fup (G 43) (V 44) (byt u 24)) ((V 44) + 1) (byt u 16)) (((V 44) + 1) + 1) (byt u 8))) 43 (fup (fup (fup (fup (G 43) (V 44) (byt u 24)) ((V 44) + 1) (byt u 16)) (((V 44) + 1) + 1) (byt u 8)) ((((V 44) + 1) + 1) + 1) (byt u 0))) := MF_a hW27 43 rfl h30 fr31
          rw [up_up] at hW32
          refine j_aload_n hG dX12_four_23 rfl rfl ?_
          refine j_dup hG dX12_four_24 rfl ?_
          refine j_get (v := .int (iZ ((((V 44) + 1) + 1) + 1))) hG fX12_223 dX12_four_25 hW32.1 rfl ?_
          refine j_iconst hG dX12_four_28 ?_
          refine j_iadd hG dX12_four_29 ?_
          refine j_put hG pX12_223 dX12_four_30 hW32.1 rfl rfl (Nat.le_of_ble_eq_true rfl) (fun f33 h34 fr35 => ?_)
          have hW36 : MF E rg f0 f33 m A (up (up V 44 ((((V 44) + 1) + 1) + 1)) 44 (((((V 44) + 1) + 1) + 1) + 1)) (up G 43 (fup (fup (fup (fup (G 43) (V 44) (byt u 24)) ((V 44) + 1) (byt u 16)) (((V 44) + 1) + 1) (byt u 8)) ((((V 44) + 1) + 1) + 1) (byt u 0))) := MF_p44 hW32 h34 fr35
          rw [up_up] at hW36
          refine j_iinc (a := 0) (lv' := [(0, .ref m), (1, .int (iZ (u))), (2, .int (iZ (-8)))]) hG dX12_four_33 rfl (by decide) rfl ?_
          refine j_goto (tgt := 3) hG dX12_four_36 (by decide) ?_
          refine j_iload_n hG dX12_four_3 rfl rfl ?_
          refine j_if_lt (tgt := 39) hG dX12_four_4 (by decide) (by omega) (fun c37 => ?_) (fun c37 => ?_)
          · -- taken at 4
            have h9 := hW36
            have e9 : V 44 + 1 + 1 + 1 + 1 = V 44 + 4 := by omega
            rw [e9] at h9
            exact j_vret hG hZ dX12_four_39 (Nat.zero_le _) (Nat.zero_le _) (⟨rfl, h9⟩)
          · -- on at 4
            exfalso; omega
theorem c_X12_feed {l : Launch} {E : JE} {f : Hp} {rg : Nat → Nat} {f0 : Hp} {m : Nat} {ls : Int → Int} {lr : Int → Int} {ln : Nat} {M : Int → Int → Int} {sz : Nat} {la : Int} {rd : Nat} {mr : Nat} {W : List Int} {O : List Int} {g : Int → Int} {len : Int} {th : Int → Int} {fa : Int} {re : Int} {a : Int} {b : Int} {c : Int} {d : Int} {e : Int} (hM : MR E rg f0 f m (ls, lr, ln, M, sz, la, rd, mr, W, O, g, len, th, fa, re)) (hS : SOk (ls, lr, ln, M, sz, la, rd, mr, W, O, g, len, th, fa, re)) (ha_ : -2147483648 ≤ a ∧ a < 2147483648) (hb_ : -2147483648 ≤ b ∧ b < 2147483648) (hc_ : -2147483648 ≤ c ∧ c < 2147483648) (hd_ : -2147483648 ≤ d ∧ d < 2147483648) (he_ : -2147483648 ≤ e ∧ e < 2147483648)  : KX12_feed l E [.ref m, .int (iZ (a)), .int (iZ (b)), .int (iZ (c)), .int (iZ (d)), .int (iZ (e))] f (fun v f' => v = some (.int (iZ (feedF (ls, lr, ln, M, sz, la, rd, mr, W, O, g, len, th, fa, re) a b c d e).1)) ∧ MR E rg f0 f' m (feedF (ls, lr, ln, M, sz, la, rd, mr, W, O, g, len, th, fa, re) a b c d e).2) := by
  refine ct_of (own := RX12) (lv := [(0, .ref m), (1, .int (iZ (a))), (2, .int (iZ (b))), (3, .int (iZ (c))), (4, .int (iZ (d))), (5, .int (iZ (e)))]) (by decide +kernel) rfl (Nat.le_of_ble_eq_true rfl) rfl ?_
  intro G9 hG hZ
  obtain ⟨A, V, G, hW, ⟨⟨m2, mlg⟩, ⟨m8, m9, m10⟩, mlt, ⟨m11, mtr⟩, mtb, ⟨m26, mw⟩, ⟨m31, mo⟩, ⟨m44, m43⟩, m51, m49, m1⟩⟩ := hM
  obtain ⟨⟨hln, hlg⟩, ⟨hsz, hMo⟩, hla, hrd, hok1, hok2, hWO, hbg, hle, hth, hh1⟩ := hS
  have hW := sV_in hW m2 m8 m9 m10 m11 m26 m31 m44 m51 m49 m1
  refine j_aload_n hG dX12_feed_0 rfl rfl ?_
  refine j_iconst hG dX12_feed_1 ?_
  refine j_put hG pX12_120 dX12_feed_2 hW.1 rfl rfl (Nat.le_of_ble_eq_true rfl) (fun f1 h2 fr3 => ?_)
  have hW4 : MF E rg f0 f1 m A (up (sV V (ln : Int) la (rd : Int) (mr : Int) (sz : Int) (W.length : Int) (O.length : Int) len (hB th) fa re) 0 0) G := MF_p0 hW h2 fr3
  refine j_aload_n hG dX12_feed_5 rfl rfl ?_
  refine j_get (v := .int (iZ (len))) hG fX12_223 dX12_feed_6 hW4.1 rfl ?_
  refine j_bipush hG dX12_feed_9 (by decide) ?_
  refine j_iadd hG dX12_feed_11 ?_
  refine j_sipush hG dX12_feed_12 (by decide) ?_
  refine j_icmp_le (tgt := 20) hG dX12_feed_15 (by decide) (by omega) (by omega) (fun c5 => ?_) (fun c5 => ?_)
  · -- taken at 15
    refine j_aload_n hG dX12_feed_20 rfl rfl ?_
    refine j_iload_n hG dX12_feed_21 rfl rfl ?_
    refine j_callV (rest := []) hG vX12_226 dX12_feed_22 (c_X12_four (u := a) hW4 (by omega) (show 0 ≤ len ∧ len + 4 ≤ 300 by omega)) hW4.1 rfl rfl (by decide) (by decide) (Nat.le_of_ble_eq_true rfl) rfl rfl (Nat.zero_le _) (Nat.zero_le _) ?_
    rintro _ f7 ⟨rfl, hW6⟩
    refine j_st (st' := []) rfl ?_
    have hW6 : MF E rg f0 f7 m A (up (up (sV V (ln : Int) la (rd : Int) (mr : Int) (sz : Int) (W.length : Int) (O.length : Int) len (hB th) fa re) 0 0) 44 (len + 4)) (up G 43 (put4 (G 43) len a)) := hW6
    refine j_aload_n hG dX12_feed_25 rfl rfl ?_
    refine j_iload_n hG dX12_feed_26 rfl rfl ?_
    refine j_callV (rest := []) hG vX12_226 dX12_feed_27 (c_X12_four (u := b) hW6 (by omega) (show 0 ≤ len + 4 ∧ len + 4 + 4 ≤ 300 by omega)) hW6.1 rfl rfl (by decide) (by decide) (Nat.le_of_ble_eq_true rfl) rfl rfl (Nat.zero_le _) (Nat.zero_le _) ?_
    rintro _ f9 ⟨rfl, hW8⟩
    refine j_st (st' := []) rfl ?_
    have hW8 : MF E rg f0 f9 m A (up (up (up (sV V (ln : Int) la (rd : Int) (mr : Int) (sz : Int) (W.length : Int) (O.length : Int) len (hB th) fa re) 0 0) 44 (len + 4)) 44 (len + 4 + 4)) (up (up G 43 (put4 (G 43) len a)) 43 (put4 (put4 (G 43) len a) (len + 4) b)) := hW8
    rw [up_up] at hW8
    rw [up_up] at hW8
    refine j_aload_n hG dX12_feed_30 rfl rfl ?_
    refine j_iload_n hG dX12_feed_31 rfl rfl ?_
    refine j_callV (rest := []) hG vX12_226 dX12_feed_32 (c_X12_four (u := c) hW8 (by omega) (show 0 ≤ len + 4 + 4 ∧ len + 4 + 4 + 4 ≤ 300 by omega)) hW8.1 rfl rfl (by decide) (by decide) (Nat.le_of_ble_eq_true rfl) rfl rfl (Nat.zero_le _) (Nat.zero_le _) ?_
    rintro _ f11 ⟨rfl, hW10⟩
    refine j_st (st' := []) rfl ?_
    have hW10 : MF E rg f0 f11 m A (up (up (up (sV V (ln : Int) la (rd : Int) (mr : Int) (sz : Int) (W.length : Int) (O.length : Int) len (hB th) fa re) 0 0) 44 (len + 4 + 4)) 44 (len + 4 + 4 + 4)) (up (up G 43 (put4 (put4 (G 43) len a) (len + 4) b)) 43 (put4 (put4 (put4 (G 43) len a) (len + 4) b) (len + 4 + 4) c)) := hW10
    rw [up_up] at hW10
    rw [up_up] at hW10
    refine j_aload_n hG dX12_feed_35 rfl rfl ?_
    refine j_iload hG dX12_feed_36 rfl ?_
    refine j_callV (rest := []) hG vX12_226 dX12_feed_38 (c_X12_four (u := d) hW10 (by omega) (show 0 ≤ len + 4 + 4 + 4 ∧ len + 4 + 4 + 4 + 4 ≤ 300 by omega)) hW10.1 rfl rfl (by decide) (by decide) (Nat.le_of_ble_eq_true rfl) rfl rfl (Nat.zero_le _) (Nat.zero_le _) ?_
    rintro _ f13 ⟨rfl, hW12⟩
    refine j_st (st' := []) rfl ?_
    have hW12 : MF E rg f0 f13 m A (up (up (up (sV V (ln : Int) la (rd : Int) (mr : Int) (sz : Int) (W.length : Int) (O.length : Int) len (hB th) fa re) 0 0) 44 (len + 4 + 4 + 4)) 44 (len + 4 + 4 + 4 + 4)) (up (up G 43 (put4 (put4 (put4 (G 43) len a) (len + 4) b) (len + 4 + 4) c)) 43 (put4 (put4 (put4 (put4 (G 43) len a) (len + 4) b) (len + 4 + 4) c) (len + 4 + 4 + 4) d)) := hW12
    rw [up_up] at hW12
    rw [up_up] at hW12
    refine j_aload_n hG dX12_feed_41 rfl rfl ?_
    refine j_iload hG dX12_feed_42 rfl ?_
    refine j_callV (rest := []) hG vX12_226 dX12_feed_44 (c_X12_four (u := e) hW12 (by omega) (show 0 ≤ len + 4 + 4 + 4 + 4 ∧ len + 4 + 4 + 4 + 4 + 4 ≤ 300 by omega)) hW12.1 rfl rfl (by decide) (by decide) (Nat.le_of_ble_eq_true rfl) rfl rfl (Nat.zero_le _) (Nat.zero_le _) ?_
    rintro _ f15 ⟨rfl, hW14⟩
    refine j_st (st' := []) rfl ?_
    have hW14 : MF E rg f0 f15 m A (up (up (up (sV V (ln : Int) la (rd : Int) (mr : Int) (sz : Int) (W.length : Int) (O.length : Int) len (hB th) fa re) 0 0) 44 (len + 4 + 4 + 4 + 4)) 44 (len + 4 + 4 + 4 + 4 + 4)) (up (up G 43 (put4 (put4 (put4 (put4 (G 43) len a) (len + 4) b) (len + 4 + 4) c) (len + 4 + 4 + 4) d)) 43 (put4 (put4 (put4 (put4 (put4 (G 43) len a) (len + 4) b) (len + 4 + 4) c) (len + 4 + 4 + 4) d) (len + 4 + 4 + 4 + 4) e)) := hW14
    rw [up_up] at hW14
    rw [up_up] at hW14
    refine j_aload_n hG dX12_feed_47 rfl rfl ?_
    refine j_get (v := .int (iZ (len + 4 + 4 + 4 + 4 + 4))) hG fX12_223 dX12_feed_48 hW14.1 rfl ?_
    have l9 : len + 4 + 4 + 4 + 4 + 4 = len + 20 := by omega
    have eF : feedF (ls, lr, ln, M, sz, la, rd, mr, W, O, g, len, th, fa, re) a b c d e = (len + 20, (ls, lr, ln, M, sz, la, rd, mr, W, O, put4 (put4 (put4 (put4 (put4 g len a) (len + 4) b) (len + 4 + 4) c) (len + 4 + 4 + 4) d) (len + 4 + 4 + 4 + 4) e, len + 20, th, fa, re)) := by
      unfold feedF
      dsimp only
      rw [if_pos (by omega)]
    exact j_iret hG hZ dX12_feed_51 (Nat.zero_le _) (Nat.zero_le _) (⟨by rw [eF, l9], by rw [eF]; exact ⟨A, up (up (sV V (ln : Int) la (rd : Int) (mr : Int) (sz : Int) (W.length : Int) (O.length : Int) len (hB th) fa re) 0 0) 44 (len + 4 + 4 + 4 + 4 + 4), up G 43 (put4 (put4 (put4 (put4 (put4 (G 43) len a) (len + 4) b) (len + 4 + 4) c) (len + 4 + 4 + 4) d) (len + 4 + 4 + 4 + 4) e), hW14, ⟨⟨rfl, mlg⟩, ⟨rfl, rfl, rfl⟩, mlt, ⟨rfl, mtr⟩, mtb, ⟨rfl, mw⟩, ⟨rfl, mo⟩, ⟨l9, (by rw [← m43]; rfl)⟩, rfl, rfl, rfl⟩⟩⟩)
  · -- on at 15
    refine j_iconst hG dX12_feed_18 ?_
    have eF : feedF (ls, lr, ln, M, sz, la, rd, mr, W, O, g, len, th, fa, re) a b c d e = (-1, (ls, lr, ln, M, sz, la, rd, mr, W, O, g, len, th, fa, re)) := by
      unfold feedF
      dsimp only
      rw [if_neg (by omega)]
    exact j_iret hG hZ dX12_feed_19 (Nat.zero_le _) (Nat.zero_le _) (⟨by rw [eF], by rw [eF]; exact ⟨A, up (sV V (ln : Int) la (rd : Int) (mr : Int) (sz : Int) (W.length : Int) (O.length : Int) len (hB th) fa re) 0 0, G, hW4, ⟨⟨rfl, mlg⟩, ⟨rfl, rfl, rfl⟩, mlt, ⟨rfl, mtr⟩, mtb, ⟨rfl, mw⟩, ⟨rfl, mo⟩, ⟨rfl, m43⟩, rfl, rfl, rfl⟩⟩⟩)
theorem c_X12_end {l : Launch} {E : JE} {f : Hp} {rg : Nat → Nat} {f0 : Hp} {m : Nat} {ls : Int → Int} {lr : Int → Int} {ln : Nat} {M : Int → Int → Int} {sz : Nat} {la : Int} {rd : Nat} {mr : Nat} {W : List Int} {O : List Int} {g : Int → Int} {len : Int} {th : Int → Int} {fa : Int} {re : Int} {n : Int} (hM : MR E rg f0 f m (ls, lr, ln, M, sz, la, rd, mr, W, O, g, len, th, fa, re)) (hS : SOk (ls, lr, ln, M, sz, la, rd, mr, W, O, g, len, th, fa, re)) (hn_ : -2147483648 ≤ n ∧ n < 2147483648)  : KX12_end l E [.ref m, .int (iZ (n))] f (fun v f' => v = some (.int (iZ (endF (ls, lr, ln, M, sz, la, rd, mr, W, O, g, len, th, fa, re) n).1)) ∧ MR E rg f0 f' m (endF (ls, lr, ln, M, sz, la, rd, mr, W, O, g, len, th, fa, re) n).2) := by
  refine ct_of (own := RX12) (lv := [(0, .ref m), (1, .int (iZ (n)))]) (by decide +kernel) rfl (Nat.le_of_ble_eq_true rfl) rfl ?_
  intro G9 hG hZ
  obtain ⟨A, V, G, hW, ⟨⟨m2, mlg⟩, ⟨m8, m9, m10⟩, mlt, ⟨m11, mtr⟩, mtb, ⟨m26, mw⟩, ⟨m31, mo⟩, ⟨m44, m43⟩, m51, m49, m1⟩⟩ := hM
  obtain ⟨⟨hln, hlg⟩, ⟨hsz, hMo⟩, hla, hrd, hok1, hok2, hWO, hbg, hle, hth, hh1⟩ := hS
  have hW := sV_in hW m2 m8 m9 m10 m11 m26 m31 m44 m51 m49 m1
  refine j_aload_n hG dX12_end_0 rfl rfl ?_
  refine j_iconst hG dX12_end_1 ?_
  refine j_put hG pX12_120 dX12_end_2 hW.1 rfl rfl (Nat.le_of_ble_eq_true rfl) (fun f1 h2 fr3 => ?_)
  have hW4 : MF E rg f0 f1 m A (up (sV V (ln : Int) la (rd : Int) (mr : Int) (sz : Int) (W.length : Int) (O.length : Int) len (hB th) fa re) 0 0) G := MF_p0 hW h2 fr3
  refine j_iload_n hG dX12_end_5 rfl rfl ?_
  refine j_if_lt (tgt := 17) hG dX12_end_6 (by decide) (by omega) (fun c5 => ?_) (fun c5 => ?_)
  · -- taken at 6
    refine j_iconst hG dX12_end_17 ?_
    have eF : endF (ls, lr, ln, M, sz, la, rd, mr, W, O, g, len, th, fa, re) n = (-1, (ls, lr, ln, M, sz, la, rd, mr, W, O, g, len, th, fa, re)) := by
      unfold endF
      dsimp only
      rw [if_neg (by omega)]
    exact j_iret hG hZ dX12_end_18 (Nat.zero_le _) (Nat.zero_le _) (⟨by rw [eF], by rw [eF]; exact ⟨A, up (sV V (ln : Int) la (rd : Int) (mr : Int) (sz : Int) (W.length : Int) (O.length : Int) len (hB th) fa re) 0 0, G, hW4, ⟨⟨rfl, mlg⟩, ⟨rfl, rfl, rfl⟩, mlt, ⟨rfl, mtr⟩, mtb, ⟨rfl, mw⟩, ⟨rfl, mo⟩, ⟨rfl, m43⟩, rfl, rfl, rfl⟩⟩⟩)
  · -- on at 6
    refine j_iload_n hG dX12_end_9 rfl rfl ?_
    refine j_aload_n hG dX12_end_10 rfl rfl ?_
    refine j_get (v := .int (iZ (len))) hG fX12_223 dX12_end_11 hW4.1 rfl ?_
    refine j_icmp_le (tgt := 19) hG dX12_end_14 (by decide) (by omega) (by omega) (fun c6 => ?_) (fun c6 => ?_)
    · -- taken at 14
      refine j_aload_n hG dX12_end_19 rfl rfl ?_
      refine j_iload_n hG dX12_end_20 rfl rfl ?_
      refine j_put hG pX12_223 dX12_end_21 hW4.1 rfl rfl (Nat.le_of_ble_eq_true rfl) (fun f7 h8 fr9 => ?_)
      have hW10 : MF E rg f0 f7 m A (up (up (sV V (ln : Int) la (rd : Int) (mr : Int) (sz : Int) (W.length : Int) (O.length : Int) len (hB th) fa re) 0 0) 44 n) G := MF_p44 hW4 h8 fr9
      refine j_iload_n hG dX12_end_24 rfl rfl ?_
      have eF : endF (ls, lr, ln, M, sz, la, rd, mr, W, O, g, len, th, fa, re) n = (n, (ls, lr, ln, M, sz, la, rd, mr, W, O, g, n, th, fa, re)) := by
        unfold endF
        dsimp only
        rw [if_pos (by omega)]
      exact j_iret hG hZ dX12_end_25 (Nat.zero_le _) (Nat.zero_le _) (⟨by rw [eF], by rw [eF]; exact ⟨A, up (up (sV V (ln : Int) la (rd : Int) (mr : Int) (sz : Int) (W.length : Int) (O.length : Int) len (hB th) fa re) 0 0) 44 n, G, hW10, ⟨⟨rfl, mlg⟩, ⟨rfl, rfl, rfl⟩, mlt, ⟨rfl, mtr⟩, mtb, ⟨rfl, mw⟩, ⟨rfl, mo⟩, ⟨rfl, m43⟩, rfl, rfl, rfl⟩⟩⟩)
    · -- on at 14
      refine j_iconst hG dX12_end_17 ?_
      have eF : endF (ls, lr, ln, M, sz, la, rd, mr, W, O, g, len, th, fa, re) n = (-1, (ls, lr, ln, M, sz, la, rd, mr, W, O, g, len, th, fa, re)) := by
        unfold endF
        dsimp only
        rw [if_neg (by omega)]
      exact j_iret hG hZ dX12_end_18 (Nat.zero_le _) (Nat.zero_le _) (⟨by rw [eF], by rw [eF]; exact ⟨A, up (sV V (ln : Int) la (rd : Int) (mr : Int) (sz : Int) (W.length : Int) (O.length : Int) len (hB th) fa re) 0 0, G, hW4, ⟨⟨rfl, mlg⟩, ⟨rfl, rfl, rfl⟩, mlt, ⟨rfl, mtr⟩, mtb, ⟨rfl, mw⟩, ⟨rfl, mo⟩, ⟨rfl, m43⟩, rfl, rfl, rfl⟩⟩⟩)
theorem c_X12_fault {l : Launch} {E : JE} {f : Hp} {rg : Nat → Nat} {f0 : Hp} {m : Nat} {ls : Int → Int} {lr : Int → Int} {ln : Nat} {M : Int → Int → Int} {sz : Nat} {la : Int} {rd : Nat} {mr : Nat} {W : List Int} {O : List Int} {g : Int → Int} {len : Int} {th : Int → Int} {fa : Int} {re : Int}  (hM : MR E rg f0 f m (ls, lr, ln, M, sz, la, rd, mr, W, O, g, len, th, fa, re)) (hS : SOk (ls, lr, ln, M, sz, la, rd, mr, W, O, g, len, th, fa, re))   : KX12_fault l E [.ref m] f (fun v f' => v = some (.int (iZ (faultF (ls, lr, ln, M, sz, la, rd, mr, W, O, g, len, th, fa, re)).1)) ∧ MR E rg f0 f' m (faultF (ls, lr, ln, M, sz, la, rd, mr, W, O, g, len, th, fa, re)).2) := by
  refine ct_of (own := RX12) (lv := [(0, .ref m)]) (by decide +kernel) rfl (Nat.le_of_ble_eq_true rfl) rfl ?_
  intro G9 hG hZ
  obtain ⟨A, V, G, hW, ⟨⟨m2, mlg⟩, ⟨m8, m9, m10⟩, mlt, ⟨m11, mtr⟩, mtb, ⟨m26, mw⟩, ⟨m31, mo⟩, ⟨m44, m43⟩, m51, m49, m1⟩⟩ := hM
  obtain ⟨⟨hln, hlg⟩, ⟨hsz, hMo⟩, hla, hrd, hok1, hok2, hWO, hbg, hle, hth, hh1⟩ := hS
  have hW := sV_in hW m2 m8 m9 m10 m11 m26 m31 m44 m51 m49 m1
  refine j_aload_n hG dX12_fault_0 rfl rfl ?_
  refine j_iconst hG dX12_fault_1 ?_
  refine j_put hG pX12_120 dX12_fault_2 hW.1 rfl rfl (Nat.le_of_ble_eq_true rfl) (fun f1 h2 fr3 => ?_)
  have hW4 : MF E rg f0 f1 m A (up (sV V (ln : Int) la (rd : Int) (mr : Int) (sz : Int) (W.length : Int) (O.length : Int) len (hB th) fa re) 0 0) G := MF_p0 hW h2 fr3
  refine j_aload_n hG dX12_fault_5 rfl rfl ?_
  refine j_get (v := .int (iZ (fa))) hG fX12_114 dX12_fault_6 hW4.1 rfl ?_
  exact j_iret hG hZ dX12_fault_9 (Nat.zero_le _) (Nat.zero_le _) (⟨rfl, ⟨A, up (sV V (ln : Int) la (rd : Int) (mr : Int) (sz : Int) (W.length : Int) (O.length : Int) len (hB th) fa re) 0 0, G, hW4, ⟨⟨rfl, mlg⟩, ⟨rfl, rfl, rfl⟩, mlt, ⟨rfl, mtr⟩, mtb, ⟨rfl, mw⟩, ⟨rfl, mo⟩, ⟨rfl, m43⟩, rfl, rfl, rfl⟩⟩⟩)
theorem c_X12_status {l : Launch} {E : JE} {f : Hp} {rg : Nat → Nat} {f0 : Hp} {m : Nat} {ls : Int → Int} {lr : Int → Int} {ln : Nat} {M : Int → Int → Int} {sz : Nat} {la : Int} {rd : Nat} {mr : Nat} {W : List Int} {O : List Int} {g : Int → Int} {len : Int} {th : Int → Int} {fa : Int} {re : Int}  (hM : MR E rg f0 f m (ls, lr, ln, M, sz, la, rd, mr, W, O, g, len, th, fa, re)) (hS : SOk (ls, lr, ln, M, sz, la, rd, mr, W, O, g, len, th, fa, re))   : KX12_status l E [.ref m] f (fun v f' => v = some (.int (iZ (statusF (ls, lr, ln, M, sz, la, rd, mr, W, O, g, len, th, fa, re)).1)) ∧ MR E rg f0 f' m (statusF (ls, lr, ln, M, sz, la, rd, mr, W, O, g, len, th, fa, re)).2) := by
  refine ct_of (own := RX12) (lv := [(0, .ref m)]) (by decide +kernel) rfl (Nat.le_of_ble_eq_true rfl) rfl ?_
  intro G9 hG hZ
  obtain ⟨A, V, G, hW, ⟨⟨m2, mlg⟩, ⟨m8, m9, m10⟩, mlt, ⟨m11, mtr⟩, mtb, ⟨m26, mw⟩, ⟨m31, mo⟩, ⟨m44, m43⟩, m51, m49, m1⟩⟩ := hM
  obtain ⟨⟨hln, hlg⟩, ⟨hsz, hMo⟩, hla, hrd, hok1, hok2, hWO, hbg, hle, hth, hh1⟩ := hS
  have hW := sV_in hW m2 m8 m9 m10 m11 m26 m31 m44 m51 m49 m1
  refine j_aload_n hG dX12_status_0 rfl rfl ?_
  refine j_iconst hG dX12_status_1 ?_
  refine j_put hG pX12_120 dX12_status_2 hW.1 rfl rfl (Nat.le_of_ble_eq_true rfl) (fun f1 h2 fr3 => ?_)
  have hW4 : MF E rg f0 f1 m A (up (sV V (ln : Int) la (rd : Int) (mr : Int) (sz : Int) (W.length : Int) (O.length : Int) len (hB th) fa re) 0 0) G := MF_p0 hW h2 fr3
  refine j_aload_n hG dX12_status_5 rfl rfl ?_
  refine j_get (v := .int (iZ (re))) hG fX12_123 dX12_status_6 hW4.1 rfl ?_
  exact j_iret hG hZ dX12_status_9 (Nat.zero_le _) (Nat.zero_le _) (⟨rfl, ⟨A, up (sV V (ln : Int) la (rd : Int) (mr : Int) (sz : Int) (W.length : Int) (O.length : Int) len (hB th) fa re) 0 0, G, hW4, ⟨⟨rfl, mlg⟩, ⟨rfl, rfl, rfl⟩, mlt, ⟨rfl, mtr⟩, mtb, ⟨rfl, mw⟩, ⟨rfl, mo⟩, ⟨rfl, m43⟩, rfl, rfl, rfl⟩⟩⟩)
theorem c_X12_isTable {l : Launch} {E : JE} {f : Hp} {rg : Nat → Nat} {f0 : Hp} {m : Nat} {A : Nat → Nat} {V : Nat → Int} {G : Nat → Int → Int} {i n : Int} (hW : MF E rg f0 f m A V G) (hn : V 11 = n) (hi : -2147483648 ≤ i ∧ i < 2147483648) (hs : 0 ≤ n ∧ n ≤ 12) : KX12_isTable l E [.ref m, .int (iZ (i))] f (fun v f' => (∃ z : Int, v = some (.int (iZ z)) ∧ ((z = 1 ∧ 0 ≤ i ∧ i < n) ∨ (z = 0 ∧ (i < 0 ∨ n ≤ i)))) ∧ f = f') := by
  refine ct_of (own := RX12) (lv := [(0, .ref m), (1, .int (iZ (i)))]) (by decide +kernel) rfl (Nat.le_of_ble_eq_true rfl) rfl ?_
  intro G9 hG hZ
  refine j_iload_n hG dX12_isTable_0 rfl rfl ?_
  refine j_i2l hG dX12_isTable_1 (by omega) ?_
  refine j_lconst (y := 0) hG dX12_isTable_2 (by decide) ?_
  refine j_aload_n hG dX12_isTable_3 rfl rfl ?_
  refine j_get (v := .int (iZ (V 11))) hG fX12_173 dX12_isTable_4 hW.1 rfl ?_
  refine j_i2l hG dX12_isTable_7 (by omega) ?_
  refine j_lconst (y := 1) hG dX12_isTable_8 (by decide) ?_
  refine j_lsub hG dX12_isTable_9 ?_
  refine j_callS (rest := []) hG vX12_128 dX12_isTable_10 (c_X12_in (a := i) (lo := 0) (hi := (V 11) - 1) (by omega) (by omega) (by omega)) rfl rfl (by decide) (by decide) (Nat.le_of_ble_eq_true rfl) rfl rfl (Nat.zero_le _) (Nat.zero_le _) ?_
  rintro _ _ ⟨⟨z1, rfl, hz2⟩, rfl⟩
  refine j_st (st' := [.int (iZ (z1))]) rfl ?_
  exact j_zret hG hZ dX12_isTable_13 (Nat.zero_le _) (Nat.zero_le _) (nar_zr (by rcases hz2 with q | q; exact Or.inr q.1; exact Or.inl q.1)) (⟨⟨z1, rfl, by rcases hz2 with q | q; exact Or.inl ⟨q.1, by omega⟩; exact Or.inr ⟨q.1, by omega⟩⟩, rfl⟩)
theorem c_X12_rows {l : Launch} {E : JE} {f : Hp} {rg : Nat → Nat} {f0 : Hp} {m : Nat} {ls : Int → Int} {lr : Int → Int} {ln : Nat} {M : Int → Int → Int} {sz : Nat} {la : Int} {rd : Nat} {mr : Nat} {W : List Int} {O : List Int} {g : Int → Int} {len : Int} {th : Int → Int} {fa : Int} {re : Int} {t : Int} (hM : MR E rg f0 f m (ls, lr, ln, M, sz, la, rd, mr, W, O, g, len, th, fa, re)) (hS : SOk (ls, lr, ln, M, sz, la, rd, mr, W, O, g, len, th, fa, re)) (ht_ : -2147483648 ≤ t ∧ t < 2147483648)  : KX12_rows l E [.ref m, .int (iZ (t))] f (fun v f' => v = some (.int (iZ (rowsF (ls, lr, ln, M, sz, la, rd, mr, W, O, g, len, th, fa, re) t).1)) ∧ MR E rg f0 f' m (rowsF (ls, lr, ln, M, sz, la, rd, mr, W, O, g, len, th, fa, re) t).2) := by
  refine ct_of (own := RX12) (lv := [(0, .ref m), (1, .int (iZ (t)))]) (by decide +kernel) rfl (Nat.le_of_ble_eq_true rfl) rfl ?_
  intro G9 hG hZ
  obtain ⟨A, V, G, hW, ⟨⟨m2, mlg⟩, ⟨m8, m9, m10⟩, mlt, ⟨m11, mtr⟩, mtb, ⟨m26, mw⟩, ⟨m31, mo⟩, ⟨m44, m43⟩, m51, m49, m1⟩⟩ := hM
  obtain ⟨⟨hln, hlg⟩, ⟨hsz, hMo⟩, hla, hrd, hok1, hok2, hWO, hbg, hle, hth, hh1⟩ := hS
  have hW := sV_in hW m2 m8 m9 m10 m11 m26 m31 m44 m51 m49 m1
  refine j_aload_n hG dX12_rows_0 rfl rfl ?_
  refine j_iconst hG dX12_rows_1 ?_
  refine j_put hG pX12_120 dX12_rows_2 hW.1 rfl rfl (Nat.le_of_ble_eq_true rfl) (fun f1 h2 fr3 => ?_)
  have hW4 : MF E rg f0 f1 m A (up (sV V (ln : Int) la (rd : Int) (mr : Int) (sz : Int) (W.length : Int) (O.length : Int) len (hB th) fa re) 0 0) G := MF_p0 hW h2 fr3
  refine j_aload_n hG dX12_rows_5 rfl rfl ?_
  refine j_iload_n hG dX12_rows_6 rfl rfl ?_
  refine j_callV (rest := []) hG vX12_296 dX12_rows_7 (c_X12_isTable (i := t) (n := (sz : Int)) hW4 rfl (by omega) (by omega)) hW4.1 rfl rfl (by decide) (by decide) (Nat.le_of_ble_eq_true rfl) rfl rfl (Nat.zero_le _) (Nat.zero_le _) ?_
  rintro _ _ ⟨⟨z5, rfl, hz6⟩, rfl⟩
  refine j_st (st' := [.int (iZ (z5))]) rfl ?_
  refine j_if_eq (tgt := 22) hG dX12_rows_10 (by decide) (by omega) (fun c9 => ?_) (fun c9 => ?_)
  · -- taken at 10
    obtain ⟨-, e8⟩ := hz6.resolve_left (fun h => absurd h.1 (by omega))
    refine j_iconst hG dX12_rows_22 ?_
    have eF : rowsF (ls, lr, ln, M, sz, la, rd, mr, W, O, g, len, th, fa, re) t = (-1, (ls, lr, ln, M, sz, la, rd, mr, W, O, g, len, th, fa, re)) := by
      unfold rowsF
      dsimp only
      rw [if_neg (by omega)]
    exact j_iret hG hZ dX12_rows_23 (Nat.zero_le _) (Nat.zero_le _) (⟨by rw [eF], by rw [eF]; exact ⟨A, up (sV V (ln : Int) la (rd : Int) (mr : Int) (sz : Int) (W.length : Int) (O.length : Int) len (hB th) fa re) 0 0, G, hW4, ⟨⟨rfl, mlg⟩, ⟨rfl, rfl, rfl⟩, mlt, ⟨rfl, mtr⟩, mtb, ⟨rfl, mw⟩, ⟨rfl, mo⟩, ⟨rfl, m43⟩, rfl, rfl, rfl⟩⟩⟩)
  · -- on at 10
    obtain ⟨-, e7⟩ := hz6.resolve_right (fun h => absurd h.1 (by omega))
    have t8 : ((t.toNat : Nat) : Int) = t := by omega
    have t9 : G 17 t = ((tab M (srcN ls lr la rd) t.toNat).length : Int) := by have z := (mtb t.toNat (by omega)).1; rw [t8] at z; exact z
    refine j_aload_n hG dX12_rows_13 rfl rfl ?_
    refine j_get (v := .ref (A 17)) hG fX12_45 dX12_rows_14 hW4.1 rfl ?_
    refine j_iload_n hG dX12_rows_17 rfl rfl ?_
    refine j_iald hG dX12_rows_18 (MF_a17 hW4) (by omega) (by decide) ?_
    refine j_goto (tgt := 23) hG dX12_rows_19 (by decide) ?_
    have eF : rowsF (ls, lr, ln, M, sz, la, rd, mr, W, O, g, len, th, fa, re) t = (((tab M (srcN ls lr la rd) t.toNat).length : Int), (ls, lr, ln, M, sz, la, rd, mr, W, O, g, len, th, fa, re)) := by
      unfold rowsF
      dsimp only
      rw [if_pos (by omega)]
    exact j_iret hG hZ dX12_rows_23 (Nat.zero_le _) (Nat.zero_le _) (⟨by rw [eF, t9], by rw [eF]; exact ⟨A, up (sV V (ln : Int) la (rd : Int) (mr : Int) (sz : Int) (W.length : Int) (O.length : Int) len (hB th) fa re) 0 0, G, hW4, ⟨⟨rfl, mlg⟩, ⟨rfl, rfl, rfl⟩, mlt, ⟨rfl, mtr⟩, mtb, ⟨rfl, mw⟩, ⟨rfl, mo⟩, ⟨rfl, m43⟩, rfl, rfl, rfl⟩⟩⟩)
theorem c_X12_row {l : Launch} {E : JE} {f : Hp} {rg : Nat → Nat} {f0 : Hp} {m : Nat} {ls : Int → Int} {lr : Int → Int} {ln : Nat} {M : Int → Int → Int} {sz : Nat} {la : Int} {rd : Nat} {mr : Nat} {W : List Int} {O : List Int} {g : Int → Int} {len : Int} {th : Int → Int} {fa : Int} {re : Int} {t : Int} {i : Int} {u : Int} (hM : MR E rg f0 f m (ls, lr, ln, M, sz, la, rd, mr, W, O, g, len, th, fa, re)) (hS : SOk (ls, lr, ln, M, sz, la, rd, mr, W, O, g, len, th, fa, re)) (ht_ : -2147483648 ≤ t ∧ t < 2147483648) (hi_ : -2147483648 ≤ i ∧ i < 2147483648) (hu_ : -2147483648 ≤ u ∧ u < 2147483648)  : KX12_row l E [.ref m, .int (iZ (t)), .int (iZ (i)), .int (iZ (u))] f (fun v f' => v = some (.int (iZ (rowF (ls, lr, ln, M, sz, la, rd, mr, W, O, g, len, th, fa, re) t i u).1)) ∧ MR E rg f0 f' m (rowF (ls, lr, ln, M, sz, la, rd, mr, W, O, g, len, th, fa, re) t i u).2) := by
  refine ct_of (own := RX12) (lv := [(0, .ref m), (1, .int (iZ (t))), (2, .int (iZ (i))), (3, .int (iZ (u)))]) (by decide +kernel) rfl (Nat.le_of_ble_eq_true rfl) rfl ?_
  intro G9 hG hZ
  obtain ⟨A, V, G, hW, ⟨⟨m2, mlg⟩, ⟨m8, m9, m10⟩, mlt, ⟨m11, mtr⟩, mtb, ⟨m26, mw⟩, ⟨m31, mo⟩, ⟨m44, m43⟩, m51, m49, m1⟩⟩ := hM
  obtain ⟨⟨hln, hlg⟩, ⟨hsz, hMo⟩, hla, hrd, hok1, hok2, hWO, hbg, hle, hth, hh1⟩ := hS
  have hW := sV_in hW m2 m8 m9 m10 m11 m26 m31 m44 m51 m49 m1
  refine j_aload_n hG dX12_row_0 rfl rfl ?_
  refine j_iconst hG dX12_row_1 ?_
  refine j_put hG pX12_120 dX12_row_2 hW.1 rfl rfl (Nat.le_of_ble_eq_true rfl) (fun f1 h2 fr3 => ?_)
  have hW4 : MF E rg f0 f1 m A (up (sV V (ln : Int) la (rd : Int) (mr : Int) (sz : Int) (W.length : Int) (O.length : Int) len (hB th) fa re) 0 0) G := MF_p0 hW h2 fr3
  refine j_aload_n hG dX12_row_5 rfl rfl ?_
  refine j_iload_n hG dX12_row_6 rfl rfl ?_
  refine j_callV (rest := []) hG vX12_296 dX12_row_7 (c_X12_isTable (i := t) (n := (sz : Int)) hW4 rfl (by omega) (by omega)) hW4.1 rfl rfl (by decide) (by decide) (Nat.le_of_ble_eq_true rfl) rfl rfl (Nat.zero_le _) (Nat.zero_le _) ?_
  rintro _ _ ⟨⟨z5, rfl, hz6⟩, rfl⟩
  refine j_st (st' := [.int (iZ (z5))]) rfl ?_
  refine j_if_eq (tgt := 31) hG dX12_row_10 (by decide) (by omega) (fun c9 => ?_) (fun c9 => ?_)
  · -- taken at 10
    obtain ⟨-, e8⟩ := hz6.resolve_left (fun h => absurd h.1 (by omega))
    refine j_ldcw (z := -2000000000) hG dX12_row_31 kX12_299 (by decide) ?_
    have eF : rowF (ls, lr, ln, M, sz, la, rd, mr, W, O, g, len, th, fa, re) t i u = (-2000000000, (ls, lr, ln, M, sz, la, rd, mr, W, O, g, len, th, fa, re)) := by
      unfold rowF
      dsimp only
      rw [if_neg (by omega)]
    exact j_iret hG hZ dX12_row_34 (Nat.zero_le _) (Nat.zero_le _) (⟨by rw [eF], by rw [eF]; exact ⟨A, up (sV V (ln : Int) la (rd : Int) (mr : Int) (sz : Int) (W.length : Int) (O.length : Int) len (hB th) fa re) 0 0, G, hW4, ⟨⟨rfl, mlg⟩, ⟨rfl, rfl, rfl⟩, mlt, ⟨rfl, mtr⟩, mtb, ⟨rfl, mw⟩, ⟨rfl, mo⟩, ⟨rfl, m43⟩, rfl, rfl, rfl⟩⟩⟩)
  · -- on at 10
    obtain ⟨-, e7⟩ := hz6.resolve_right (fun h => absurd h.1 (by omega))
    have t8 : ((t.toNat : Nat) : Int) = t := by omega
    have t9 : G 17 t = ((tab M (srcN ls lr la rd) t.toNat).length : Int) := by have z := (mtb t.toNat (by omega)).1; rw [t8] at z; exact z
    have tL2 := (tab_l hMo (srcN_l (ls := ls) (la := la) rd (fun j hj => (hlg j (Nat.lt_of_lt_of_le hj hrd.2)).1)) hok1 t.toNat (by omega)).2
    refine j_iload_n hG dX12_row_13 rfl rfl ?_
    refine j_i2l hG dX12_row_14 (by omega) ?_
    refine j_lconst (y := 0) hG dX12_row_15 (by decide) ?_
    refine j_aload_n hG dX12_row_16 rfl rfl ?_
    refine j_get (v := .ref (A 17)) hG fX12_45 dX12_row_17 hW4.1 rfl ?_
    refine j_iload_n hG dX12_row_20 rfl rfl ?_
    refine j_iald hG dX12_row_21 (MF_a17 hW4) (by omega) (by decide) ?_
    refine j_i2l hG dX12_row_22 (by omega) ?_
    refine j_lconst (y := 1) hG dX12_row_23 (by decide) ?_
    refine j_lsub hG dX12_row_24 ?_
    refine j_callS (rest := []) hG vX12_128 dX12_row_25 (c_X12_in (a := i) (lo := 0) (hi := ((G 17) t) - 1) (by omega) (by omega) (by omega)) rfl rfl (by decide) (by decide) (Nat.le_of_ble_eq_true rfl) rfl rfl (Nat.zero_le _) (Nat.zero_le _) ?_
    rintro _ _ ⟨⟨z10, rfl, hz11⟩, rfl⟩
    refine j_st (st' := [.int (iZ (z10))]) rfl ?_
    refine j_if_ne (tgt := 35) hG dX12_row_28 (by decide) (by omega) (fun c14 => ?_) (fun c14 => ?_)
    · -- taken at 28
      obtain ⟨-, e12⟩ := hz11.resolve_right (fun h => absurd h.1 (by omega))
      refine j_sipush hG dX12_row_35 (by decide) ?_
      refine j_iload_n hG dX12_row_38 rfl rfl ?_
      refine j_imul hG dX12_row_39 ?_
      refine j_iload_n hG dX12_row_40 rfl rfl ?_
      refine j_iadd hG dX12_row_41 ?_
      refine j_istore (lv' := [(0, .ref m), (1, .int (iZ (t))), (2, .int (iZ (i))), (3, .int (iZ (u))), (4, .int (iZ ((400 * t) + i)))]) hG dX12_row_42 (by decide) rfl ?_
      refine j_iload_n hG dX12_row_44 rfl rfl ?_
      refine j_if_ne (tgt := 58) hG dX12_row_45 (by decide) (by omega) (fun c15 => ?_) (fun c15 => ?_)
      · -- taken at 45
        refine j_iload_n hG dX12_row_58 rfl rfl ?_
        refine j_iconst hG dX12_row_59 ?_
        refine j_icmp_ne (tgt := 73) hG dX12_row_60 (by decide) (by omega) (by omega) (fun c16 => ?_) (fun c16 => ?_)
        · -- taken at 60
          refine j_iload_n hG dX12_row_73 rfl rfl ?_
          refine j_iconst hG dX12_row_74 ?_
          refine j_icmp_ne (tgt := 88) hG dX12_row_75 (by decide) (by omega) (by omega) (fun c17 => ?_) (fun c17 => ?_)
          · -- taken at 75
            refine j_ldcw (z := -2000000000) hG dX12_row_88 kX12_299 (by decide) ?_
            have r9 := (mtb t.toNat (by omega)).2 i.toNat (by omega)
            rw [t8, show ((i.toNat : Nat) : Int) = i by omega] at r9
            have eF : rowF (ls, lr, ln, M, sz, la, rd, mr, W, O, g, len, th, fa, re) t i u = (rP ((tab M (srcN ls lr la rd) t.toNat).getD i.toNat 0) u, (ls, lr, ln, M, sz, la, rd, mr, W, O, g, len, th, fa, re)) := by
              unfold rowF
              dsimp only
              rw [if_pos (by omega)]
            exact j_iret hG hZ dX12_row_91 (Nat.zero_le _) (Nat.zero_le _) (⟨by rw [eF]; unfold rP; simp only [r9.1, r9.2.1, r9.2.2]; repeat (first | rw [if_pos (by omega)] | rw [if_neg (by omega)]), by rw [eF]; exact ⟨A, up (sV V (ln : Int) la (rd : Int) (mr : Int) (sz : Int) (W.length : Int) (O.length : Int) len (hB th) fa re) 0 0, G, hW4, ⟨⟨rfl, mlg⟩, ⟨rfl, rfl, rfl⟩, mlt, ⟨rfl, mtr⟩, mtb, ⟨rfl, mw⟩, ⟨rfl, mo⟩, ⟨rfl, m43⟩, rfl, rfl, rfl⟩⟩⟩)
          · -- on at 75
            refine j_aload_n hG dX12_row_78 rfl rfl ?_
            refine j_get (v := .ref (A 20)) hG fX12_54 dX12_row_79 hW4.1 rfl ?_
            refine j_iload hG dX12_row_82 rfl ?_
            refine j_iald hG dX12_row_84 (MF_a20 hW4) (by omega) (by decide) ?_
            refine j_goto (tgt := 91) hG dX12_row_85 (by decide) ?_
            have r9 := (mtb t.toNat (by omega)).2 i.toNat (by omega)
            rw [t8, show ((i.toNat : Nat) : Int) = i by omega] at r9
            have eF : rowF (ls, lr, ln, M, sz, la, rd, mr, W, O, g, len, th, fa, re) t i u = (rP ((tab M (srcN ls lr la rd) t.toNat).getD i.toNat 0) u, (ls, lr, ln, M, sz, la, rd, mr, W, O, g, len, th, fa, re)) := by
              unfold rowF
              dsimp only
              rw [if_pos (by omega)]
            exact j_iret hG hZ dX12_row_91 (Nat.zero_le _) (Nat.zero_le _) (⟨by rw [eF]; unfold rP; simp only [r9.1, r9.2.1, r9.2.2]; repeat (first | rw [if_pos (by omega)] | rw [if_neg (by omega)]), by rw [eF]; exact ⟨A, up (sV V (ln : Int) la (rd : Int) (mr : Int) (sz : Int) (W.length : Int) (O.length : Int) len (hB th) fa re) 0 0, G, hW4, ⟨⟨rfl, mlg⟩, ⟨rfl, rfl, rfl⟩, mlt, ⟨rfl, mtr⟩, mtb, ⟨rfl, mw⟩, ⟨rfl, mo⟩, ⟨rfl, m43⟩, rfl, rfl, rfl⟩⟩⟩)
        · -- on at 60
          refine j_aload_n hG dX12_row_63 rfl rfl ?_
          refine j_get (v := .ref (A 19)) hG fX12_51 dX12_row_64 hW4.1 rfl ?_
          refine j_iload hG dX12_row_67 rfl ?_
          refine j_iald hG dX12_row_69 (MF_a19 hW4) (by omega) (by decide) ?_
          refine j_goto (tgt := 91) hG dX12_row_70 (by decide) ?_
          have r9 := (mtb t.toNat (by omega)).2 i.toNat (by omega)
          rw [t8, show ((i.toNat : Nat) : Int) = i by omega] at r9
          have eF : rowF (ls, lr, ln, M, sz, la, rd, mr, W, O, g, len, th, fa, re) t i u = (rP ((tab M (srcN ls lr la rd) t.toNat).getD i.toNat 0) u, (ls, lr, ln, M, sz, la, rd, mr, W, O, g, len, th, fa, re)) := by
            unfold rowF
            dsimp only
            rw [if_pos (by omega)]
          exact j_iret hG hZ dX12_row_91 (Nat.zero_le _) (Nat.zero_le _) (⟨by rw [eF]; unfold rP; simp only [r9.1, r9.2.1, r9.2.2]; repeat (first | rw [if_pos (by omega)] | rw [if_neg (by omega)]), by rw [eF]; exact ⟨A, up (sV V (ln : Int) la (rd : Int) (mr : Int) (sz : Int) (W.length : Int) (O.length : Int) len (hB th) fa re) 0 0, G, hW4, ⟨⟨rfl, mlg⟩, ⟨rfl, rfl, rfl⟩, mlt, ⟨rfl, mtr⟩, mtb, ⟨rfl, mw⟩, ⟨rfl, mo⟩, ⟨rfl, m43⟩, rfl, rfl, rfl⟩⟩⟩)
      · -- on at 45
        refine j_aload_n hG dX12_row_48 rfl rfl ?_
        refine j_get (v := .ref (A 18)) hG fX12_48 dX12_row_49 hW4.1 rfl ?_
        refine j_iload hG dX12_row_52 rfl ?_
        refine j_iald hG dX12_row_54 (MF_a18 hW4) (by omega) (by decide) ?_
        refine j_goto (tgt := 91) hG dX12_row_55 (by decide) ?_
        have r9 := (mtb t.toNat (by omega)).2 i.toNat (by omega)
        rw [t8, show ((i.toNat : Nat) : Int) = i by omega] at r9
        have eF : rowF (ls, lr, ln, M, sz, la, rd, mr, W, O, g, len, th, fa, re) t i u = (rP ((tab M (srcN ls lr la rd) t.toNat).getD i.toNat 0) u, (ls, lr, ln, M, sz, la, rd, mr, W, O, g, len, th, fa, re)) := by
          unfold rowF
          dsimp only
          rw [if_pos (by omega)]
        exact j_iret hG hZ dX12_row_91 (Nat.zero_le _) (Nat.zero_le _) (⟨by rw [eF]; unfold rP; simp only [r9.1, r9.2.1, r9.2.2]; repeat (first | rw [if_pos (by omega)] | rw [if_neg (by omega)]), by rw [eF]; exact ⟨A, up (sV V (ln : Int) la (rd : Int) (mr : Int) (sz : Int) (W.length : Int) (O.length : Int) len (hB th) fa re) 0 0, G, hW4, ⟨⟨rfl, mlg⟩, ⟨rfl, rfl, rfl⟩, mlt, ⟨rfl, mtr⟩, mtb, ⟨rfl, mw⟩, ⟨rfl, mo⟩, ⟨rfl, m43⟩, rfl, rfl, rfl⟩⟩⟩)
    · -- on at 28
      obtain ⟨-, e13⟩ := hz11.resolve_left (fun h => absurd h.1 (by omega))
      refine j_ldcw (z := -2000000000) hG dX12_row_31 kX12_299 (by decide) ?_
      have eF : rowF (ls, lr, ln, M, sz, la, rd, mr, W, O, g, len, th, fa, re) t i u = (-2000000000, (ls, lr, ln, M, sz, la, rd, mr, W, O, g, len, th, fa, re)) := by
        unfold rowF
        dsimp only
        rw [if_neg (by omega)]
      exact j_iret hG hZ dX12_row_34 (Nat.zero_le _) (Nat.zero_le _) (⟨by rw [eF], by rw [eF]; exact ⟨A, up (sV V (ln : Int) la (rd : Int) (mr : Int) (sz : Int) (W.length : Int) (O.length : Int) len (hB th) fa re) 0 0, G, hW4, ⟨⟨rfl, mlg⟩, ⟨rfl, rfl, rfl⟩, mlt, ⟨rfl, mtr⟩, mtb, ⟨rfl, mw⟩, ⟨rfl, mo⟩, ⟨rfl, m43⟩, rfl, rfl, rfl⟩⟩⟩)
theorem c_X12_out {l : Launch} {E : JE} {f : Hp} {rg : Nat → Nat} {f0 : Hp} {m : Nat} {ls : Int → Int} {lr : Int → Int} {ln : Nat} {M : Int → Int → Int} {sz : Nat} {la : Int} {rd : Nat} {mr : Nat} {W : List Int} {O : List Int} {g : Int → Int} {len : Int} {th : Int → Int} {fa : Int} {re : Int} {i : Int} {u : Int} (hM : MR E rg f0 f m (ls, lr, ln, M, sz, la, rd, mr, W, O, g, len, th, fa, re)) (hS : SOk (ls, lr, ln, M, sz, la, rd, mr, W, O, g, len, th, fa, re)) (hi_ : -2147483648 ≤ i ∧ i < 2147483648) (hu_ : -2147483648 ≤ u ∧ u < 2147483648)  : KX12_out l E [.ref m, .int (iZ (i)), .int (iZ (u))] f (fun v f' => v = some (.int (iZ (outF (ls, lr, ln, M, sz, la, rd, mr, W, O, g, len, th, fa, re) i u).1)) ∧ MR E rg f0 f' m (outF (ls, lr, ln, M, sz, la, rd, mr, W, O, g, len, th, fa, re) i u).2) := by
  refine ct_of (own := RX12) (lv := [(0, .ref m), (1, .int (iZ (i))), (2, .int (iZ (u)))]) (by decide +kernel) rfl (Nat.le_of_ble_eq_true rfl) rfl ?_
  intro G9 hG hZ
  obtain ⟨A, V, G, hW, ⟨⟨m2, mlg⟩, ⟨m8, m9, m10⟩, mlt, ⟨m11, mtr⟩, mtb, ⟨m26, mw⟩, ⟨m31, mo⟩, ⟨m44, m43⟩, m51, m49, m1⟩⟩ := hM
  obtain ⟨⟨hln, hlg⟩, ⟨hsz, hMo⟩, hla, hrd, hok1, hok2, hWO, hbg, hle, hth, hh1⟩ := hS
  have hW := sV_in hW m2 m8 m9 m10 m11 m26 m31 m44 m51 m49 m1
  refine j_aload_n hG dX12_out_0 rfl rfl ?_
  refine j_iconst hG dX12_out_1 ?_
  refine j_put hG pX12_120 dX12_out_2 hW.1 rfl rfl (Nat.le_of_ble_eq_true rfl) (fun f1 h2 fr3 => ?_)
  have hW4 : MF E rg f0 f1 m A (up (sV V (ln : Int) la (rd : Int) (mr : Int) (sz : Int) (W.length : Int) (O.length : Int) len (hB th) fa re) 0 0) G := MF_p0 hW h2 fr3
  refine j_iload_n hG dX12_out_5 rfl rfl ?_
  refine j_iconst hG dX12_out_6 ?_
  refine j_icmp_ne (tgt := 25) hG dX12_out_7 (by decide) (by omega) (by omega) (fun c5 => ?_) (fun c5 => ?_)
  · -- taken at 7
    refine j_iload_n hG dX12_out_25 rfl rfl ?_
    refine j_i2l hG dX12_out_26 (by omega) ?_
    refine j_lconst (y := 0) hG dX12_out_27 (by decide) ?_
    refine j_aload_n hG dX12_out_28 rfl rfl ?_
    refine j_get (v := .int (iZ ((O.length : Int)))) hG fX12_212 dX12_out_29 hW4.1 rfl ?_
    refine j_i2l hG dX12_out_32 (by omega) ?_
    refine j_lconst (y := 1) hG dX12_out_33 (by decide) ?_
    refine j_lsub hG dX12_out_34 ?_
    refine j_callS (rest := []) hG vX12_128 dX12_out_35 (c_X12_in (a := i) (lo := 0) (hi := (O.length : Int) - 1) (by omega) (by omega) (by omega)) rfl rfl (by decide) (by decide) (Nat.le_of_ble_eq_true rfl) rfl rfl (Nat.zero_le _) (Nat.zero_le _) ?_
    rintro _ _ ⟨⟨z6, rfl, hz7⟩, rfl⟩
    refine j_st (st' := [.int (iZ (z6))]) rfl ?_
    refine j_if_ne (tgt := 45) hG dX12_out_38 (by decide) (by omega) (fun c10 => ?_) (fun c10 => ?_)
    · -- taken at 38
      obtain ⟨-, e8⟩ := hz7.resolve_right (fun h => absurd h.1 (by omega))
      refine j_iload_n hG dX12_out_45 rfl rfl ?_
      refine j_if_ne (tgt := 58) hG dX12_out_46 (by decide) (by omega) (fun c11 => ?_) (fun c11 => ?_)
      · -- taken at 46
        refine j_iload_n hG dX12_out_58 rfl rfl ?_
        refine j_iconst hG dX12_out_59 ?_
        refine j_icmp_ne (tgt := 72) hG dX12_out_60 (by decide) (by omega) (by omega) (fun c12 => ?_) (fun c12 => ?_)
        · -- taken at 60
          refine j_iload_n hG dX12_out_72 rfl rfl ?_
          refine j_iconst hG dX12_out_73 ?_
          refine j_icmp_ne (tgt := 86) hG dX12_out_74 (by decide) (by omega) (by omega) (fun c13 => ?_) (fun c13 => ?_)
          · -- taken at 74
            refine j_iload_n hG dX12_out_86 rfl rfl ?_
            refine j_iconst hG dX12_out_87 ?_
            refine j_icmp_ne (tgt := 100) hG dX12_out_88 (by decide) (by omega) (by omega) (fun c14 => ?_) (fun c14 => ?_)
            · -- taken at 88
              refine j_ldcw (z := -2000000000) hG dX12_out_100 kX12_299 (by decide) ?_
              have r9 := mo i.toNat (by omega)
              rw [show ((i.toNat : Nat) : Int) = i by omega] at r9
              have eF : outF (ls, lr, ln, M, sz, la, rd, mr, W, O, g, len, th, fa, re) i u = (cP (O.getD i.toNat 0) u, (ls, lr, ln, M, sz, la, rd, mr, W, O, g, len, th, fa, re)) := by
                unfold outF
                dsimp only
                rw [if_neg (by omega)]
                unfold chP
                rw [if_pos (by omega)]
              exact j_iret hG hZ dX12_out_103 (Nat.zero_le _) (Nat.zero_le _) (⟨by rw [eF]; unfold cP rP; simp only [r9.1, r9.2.1, r9.2.2.1, r9.2.2.2]; repeat (first | rw [if_pos (show u = _ by omega)] | rw [if_neg (show ¬ u = _ by omega)]), by rw [eF]; exact ⟨A, up (sV V (ln : Int) la (rd : Int) (mr : Int) (sz : Int) (W.length : Int) (O.length : Int) len (hB th) fa re) 0 0, G, hW4, ⟨⟨rfl, mlg⟩, ⟨rfl, rfl, rfl⟩, mlt, ⟨rfl, mtr⟩, mtb, ⟨rfl, mw⟩, ⟨rfl, mo⟩, ⟨rfl, m43⟩, rfl, rfl, rfl⟩⟩⟩)
            · -- on at 88
              refine j_aload_n hG dX12_out_91 rfl rfl ?_
              refine j_get (v := .ref (A 35)) hG fX12_90 dX12_out_92 hW4.1 rfl ?_
              refine j_iload_n hG dX12_out_95 rfl rfl ?_
              refine j_iald hG dX12_out_96 (MF_a35 hW4) (by omega) (by decide) ?_
              refine j_goto (tgt := 103) hG dX12_out_97 (by decide) ?_
              have r9 := mo i.toNat (by omega)
              rw [show ((i.toNat : Nat) : Int) = i by omega] at r9
              have eF : outF (ls, lr, ln, M, sz, la, rd, mr, W, O, g, len, th, fa, re) i u = (cP (O.getD i.toNat 0) u, (ls, lr, ln, M, sz, la, rd, mr, W, O, g, len, th, fa, re)) := by
                unfold outF
                dsimp only
                rw [if_neg (by omega)]
                unfold chP
                rw [if_pos (by omega)]
              exact j_iret hG hZ dX12_out_103 (Nat.zero_le _) (Nat.zero_le _) (⟨by rw [eF]; unfold cP rP; simp only [r9.1, r9.2.1, r9.2.2.1, r9.2.2.2]; repeat (first | rw [if_pos (show u = _ by omega)] | rw [if_neg (show ¬ u = _ by omega)]), by rw [eF]; exact ⟨A, up (sV V (ln : Int) la (rd : Int) (mr : Int) (sz : Int) (W.length : Int) (O.length : Int) len (hB th) fa re) 0 0, G, hW4, ⟨⟨rfl, mlg⟩, ⟨rfl, rfl, rfl⟩, mlt, ⟨rfl, mtr⟩, mtb, ⟨rfl, mw⟩, ⟨rfl, mo⟩, ⟨rfl, m43⟩, rfl, rfl, rfl⟩⟩⟩)
          · -- on at 74
            refine j_aload_n hG dX12_out_77 rfl rfl ?_
            refine j_get (v := .ref (A 34)) hG fX12_87 dX12_out_78 hW4.1 rfl ?_
            refine j_iload_n hG dX12_out_81 rfl rfl ?_
            refine j_iald hG dX12_out_82 (MF_a34 hW4) (by omega) (by decide) ?_
            refine j_goto (tgt := 103) hG dX12_out_83 (by decide) ?_
            have r9 := mo i.toNat (by omega)
            rw [show ((i.toNat : Nat) : Int) = i by omega] at r9
            have eF : outF (ls, lr, ln, M, sz, la, rd, mr, W, O, g, len, th, fa, re) i u = (cP (O.getD i.toNat 0) u, (ls, lr, ln, M, sz, la, rd, mr, W, O, g, len, th, fa, re)) := by
              unfold outF
              dsimp only
              rw [if_neg (by omega)]
              unfold chP
              rw [if_pos (by omega)]
            exact j_iret hG hZ dX12_out_103 (Nat.zero_le _) (Nat.zero_le _) (⟨by rw [eF]; unfold cP rP; simp only [r9.1, r9.2.1, r9.2.2.1, r9.2.2.2]; repeat (first | rw [if_pos (show u = _ by omega)] | rw [if_neg (show ¬ u = _ by omega)]), by rw [eF]; exact ⟨A, up (sV V (ln : Int) la (rd : Int) (mr : Int) (sz : Int) (W.length : Int) (O.length : Int) len (hB th) fa re) 0 0, G, hW4, ⟨⟨rfl, mlg⟩, ⟨rfl, rfl, rfl⟩, mlt, ⟨rfl, mtr⟩, mtb, ⟨rfl, mw⟩, ⟨rfl, mo⟩, ⟨rfl, m43⟩, rfl, rfl, rfl⟩⟩⟩)
        · -- on at 60
          refine j_aload_n hG dX12_out_63 rfl rfl ?_
          refine j_get (v := .ref (A 33)) hG fX12_84 dX12_out_64 hW4.1 rfl ?_
          refine j_iload_n hG dX12_out_67 rfl rfl ?_
          refine j_iald hG dX12_out_68 (MF_a33 hW4) (by omega) (by decide) ?_
          refine j_goto (tgt := 103) hG dX12_out_69 (by decide) ?_
          have r9 := mo i.toNat (by omega)
          rw [show ((i.toNat : Nat) : Int) = i by omega] at r9
          have eF : outF (ls, lr, ln, M, sz, la, rd, mr, W, O, g, len, th, fa, re) i u = (cP (O.getD i.toNat 0) u, (ls, lr, ln, M, sz, la, rd, mr, W, O, g, len, th, fa, re)) := by
            unfold outF
            dsimp only
            rw [if_neg (by omega)]
            unfold chP
            rw [if_pos (by omega)]
          exact j_iret hG hZ dX12_out_103 (Nat.zero_le _) (Nat.zero_le _) (⟨by rw [eF]; unfold cP rP; simp only [r9.1, r9.2.1, r9.2.2.1, r9.2.2.2]; repeat (first | rw [if_pos (show u = _ by omega)] | rw [if_neg (show ¬ u = _ by omega)]), by rw [eF]; exact ⟨A, up (sV V (ln : Int) la (rd : Int) (mr : Int) (sz : Int) (W.length : Int) (O.length : Int) len (hB th) fa re) 0 0, G, hW4, ⟨⟨rfl, mlg⟩, ⟨rfl, rfl, rfl⟩, mlt, ⟨rfl, mtr⟩, mtb, ⟨rfl, mw⟩, ⟨rfl, mo⟩, ⟨rfl, m43⟩, rfl, rfl, rfl⟩⟩⟩)
      · -- on at 46
        refine j_aload_n hG dX12_out_49 rfl rfl ?_
        refine j_get (v := .ref (A 32)) hG fX12_81 dX12_out_50 hW4.1 rfl ?_
        refine j_iload_n hG dX12_out_53 rfl rfl ?_
        refine j_iald hG dX12_out_54 (MF_a32 hW4) (by omega) (by decide) ?_
        refine j_goto (tgt := 103) hG dX12_out_55 (by decide) ?_
        have r9 := mo i.toNat (by omega)
        rw [show ((i.toNat : Nat) : Int) = i by omega] at r9
        have eF : outF (ls, lr, ln, M, sz, la, rd, mr, W, O, g, len, th, fa, re) i u = (cP (O.getD i.toNat 0) u, (ls, lr, ln, M, sz, la, rd, mr, W, O, g, len, th, fa, re)) := by
          unfold outF
          dsimp only
          rw [if_neg (by omega)]
          unfold chP
          rw [if_pos (by omega)]
        exact j_iret hG hZ dX12_out_103 (Nat.zero_le _) (Nat.zero_le _) (⟨by rw [eF]; unfold cP rP; simp only [r9.1, r9.2.1, r9.2.2.1, r9.2.2.2]; repeat (first | rw [if_pos (show u = _ by omega)] | rw [if_neg (show ¬ u = _ by omega)]), by rw [eF]; exact ⟨A, up (sV V (ln : Int) la (rd : Int) (mr : Int) (sz : Int) (W.length : Int) (O.length : Int) len (hB th) fa re) 0 0, G, hW4, ⟨⟨rfl, mlg⟩, ⟨rfl, rfl, rfl⟩, mlt, ⟨rfl, mtr⟩, mtb, ⟨rfl, mw⟩, ⟨rfl, mo⟩, ⟨rfl, m43⟩, rfl, rfl, rfl⟩⟩⟩)
    · -- on at 38
      obtain ⟨-, e9⟩ := hz7.resolve_left (fun h => absurd h.1 (by omega))
      refine j_ldcw (z := -2000000000) hG dX12_out_41 kX12_299 (by decide) ?_
      have eF : outF (ls, lr, ln, M, sz, la, rd, mr, W, O, g, len, th, fa, re) i u = (-2000000000, (ls, lr, ln, M, sz, la, rd, mr, W, O, g, len, th, fa, re)) := by
        unfold outF
        dsimp only
        rw [if_neg (by omega)]
        unfold chP
        rw [if_neg (by omega)]
      exact j_iret hG hZ dX12_out_44 (Nat.zero_le _) (Nat.zero_le _) (⟨by rw [eF], by rw [eF]; exact ⟨A, up (sV V (ln : Int) la (rd : Int) (mr : Int) (sz : Int) (W.length : Int) (O.length : Int) len (hB th) fa re) 0 0, G, hW4, ⟨⟨rfl, mlg⟩, ⟨rfl, rfl, rfl⟩, mlt, ⟨rfl, mtr⟩, mtb, ⟨rfl, mw⟩, ⟨rfl, mo⟩, ⟨rfl, m43⟩, rfl, rfl, rfl⟩⟩⟩)
  · -- on at 7
    refine j_iload_n hG dX12_out_10 rfl rfl ?_
    refine j_if_ne (tgt := 21) hG dX12_out_11 (by decide) (by omega) (fun c15 => ?_) (fun c15 => ?_)
    · -- taken at 11
      refine j_ldcw (z := -2000000000) hG dX12_out_21 kX12_299 (by decide) ?_
      have eF : outF (ls, lr, ln, M, sz, la, rd, mr, W, O, g, len, th, fa, re) i u = (-2000000000, (ls, lr, ln, M, sz, la, rd, mr, W, O, g, len, th, fa, re)) := by
        unfold outF
        dsimp only
        rw [if_neg (by omega)]
        unfold chP
        rw [if_neg (by omega)]
      exact j_iret hG hZ dX12_out_24 (Nat.zero_le _) (Nat.zero_le _) (⟨by rw [eF], by rw [eF]; exact ⟨A, up (sV V (ln : Int) la (rd : Int) (mr : Int) (sz : Int) (W.length : Int) (O.length : Int) len (hB th) fa re) 0 0, G, hW4, ⟨⟨rfl, mlg⟩, ⟨rfl, rfl, rfl⟩, mlt, ⟨rfl, mtr⟩, mtb, ⟨rfl, mw⟩, ⟨rfl, mo⟩, ⟨rfl, m43⟩, rfl, rfl, rfl⟩⟩⟩)
    · -- on at 11
      refine j_aload_n hG dX12_out_14 rfl rfl ?_
      refine j_get (v := .int (iZ ((O.length : Int)))) hG fX12_212 dX12_out_15 hW4.1 rfl ?_
      refine j_goto (tgt := 24) hG dX12_out_18 (by decide) ?_
      have eF : outF (ls, lr, ln, M, sz, la, rd, mr, W, O, g, len, th, fa, re) i u = ((O.length : Int), (ls, lr, ln, M, sz, la, rd, mr, W, O, g, len, th, fa, re)) := by
        unfold outF
        dsimp only
        rw [if_pos (by omega)]
      exact j_iret hG hZ dX12_out_24 (Nat.zero_le _) (Nat.zero_le _) (⟨by rw [eF], by rw [eF]; exact ⟨A, up (sV V (ln : Int) la (rd : Int) (mr : Int) (sz : Int) (W.length : Int) (O.length : Int) len (hB th) fa re) 0 0, G, hW4, ⟨⟨rfl, mlg⟩, ⟨rfl, rfl, rfl⟩, mlt, ⟨rfl, mtr⟩, mtb, ⟨rfl, mw⟩, ⟨rfl, mo⟩, ⟨rfl, m43⟩, rfl, rfl, rfl⟩⟩⟩)
