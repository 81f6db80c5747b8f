theorem nameT_lt {g tl : Int → Int} {len s : Int} {t : Nat} (h : ∀ j, 0 ≤ j → j < 26 → -1 ≤ tl j ∧ tl j < t) : -1 ≤ nameT g tl len s ∧ nameT g tl len s < t := by
  have := letr_rng (g := g) (len := len) (s := s)
  unfold nameT
  split
  · omega
  · exact h _ (by omega) (by omega)
theorem colF_rng {g : Int → Int} {len s : Int} : -1 ≤ colF g len s ∧ colF g len s ≤ 2 := by
  unfold colF; repeat' split
  all_goals omega
theorem relF_rng {g : Int → Int} {len s : Int} : -1 ≤ relF g len s ∧ relF g len s ≤ 62 := by
  unfold relF; repeat' split
  all_goals omega
theorem nmV_rng {g : Int → Int} {len s : Int} (h : 0 ≤ dgt g len (nmS g len s) ∧ dgt g len (nmS g len s) ≤ 1000) : -1000 ≤ nmV g len s ∧ nmV g len s ≤ 1000 := by
  unfold nmV; split <;> omega
theorem mk_ok {M : Int → Int → Int} {t : Nat} {k a b c r v : Int} (h : M t = mk6 k a b c r v) (h1 : (0 ≤ k ∧ k ≤ 12) ∧ (0 ≤ c ∧ c ≤ 2) ∧ (0 ≤ r ∧ r < 65536) ∧ (-1000 ≤ v ∧ v ≤ 1000) ∧ (k = 4 → 0 ≤ v) ∧ (k = 5 → 1 ≤ v)) (h2 : k = 0 → a = -1 ∧ b = -1 ∧ 0 ≤ v ∧ v ≤ 2) (h3 : k ≠ 0 → 0 ≤ a ∧ a < t) (h4 : k = 11 ∨ k = 12 → 0 ≤ b ∧ b < t) (h5 : ¬ (k = 11 ∨ k = 12) → b = -1) : mkOk M t := by
  have e0 : M t 0 = k := by rw [h]; rfl
  have e1 : M t 1 = a := by rw [h]; rfl
  have e2 : M t 2 = b := by rw [h]; rfl
  have e3 : M t 3 = c := by rw [h]; rfl
  have e4 : M t 4 = r := by rw [h]; rfl
  have e5 : M t 5 = v := by rw [h]; rfl
  unfold mkOk
  rw [e0, e1, e2, e3, e4, e5]
  exact ⟨h1, h2, h3, h4, h5⟩
theorem parts_ok {g tl : Int → Int} {len kd s p : Int} {F : Int → Int} {t : Nat} {M : Int → Int → Int} (h : parts g tl len kd s = (p, some F)) (hk : 0 ≤ kd ∧ kd ≤ 12) (htl : ∀ j, 0 ≤ j → j < 26 → -1 ≤ tl j ∧ tl j < t) (hM : M t = F) : mkOk M t := by
  unfold parts at h
  have n1 := nameT_lt (g := g) (len := len) (s := s) htl
  have n2 := nameT_lt (g := g) (len := len) (s := nx g len s) htl
  split at h
  · split at h
    · have e := Option.some.inj (congrArg Prod.snd h)
      exact mk_ok (hM.trans e.symm) (by omega) (by omega) (by omega) (by omega) (by omega)
    · exact absurd (congrArg Prod.snd h) (by simp)
  · split at h
    · exact absurd (congrArg Prod.snd h) (by simp)
    · split at h
      · have c1 := colF_rng (g := g) (len := len) (s := nx g len s)
        have c2 := relF_rng (g := g) (len := len) (s := nx g len (nx g len s))
        split at h
        · exact absurd (congrArg Prod.snd h) (by simp)
        · split at h
          · exact absurd (congrArg Prod.snd h) (by simp)
          · split at h
            · rename_i q
              have c3 := nmV_rng q
              have c4 : relF g len (nx g len (nx g len s)) ≠ -1 := by assumption
              have c5 : 0 ≤ relF g len (nx g len (nx g len s)) := by omega
              have e := Option.some.inj (congrArg Prod.snd h)
              exact mk_ok (hM.trans e.symm) (by omega) (by omega) (by omega) (by omega) (by omega)
            · exact absurd (congrArg Prod.snd h) (by simp)
      · split at h
        · split at h
          · rename_i q
            have c3 := nmV_rng q
            have e := Option.some.inj (congrArg Prod.snd h)
            exact mk_ok (hM.trans e.symm) (by omega) (by omega) (by omega) (by omega) (by omega)
          · exact absurd (congrArg Prod.snd h) (by simp)
        · split at h
          · split at h
            · have e := Option.some.inj (congrArg Prod.snd h)
              exact mk_ok (hM.trans e.symm) (by omega) (by omega) (by omega) (by omega) (by omega)
            · exact absurd (congrArg Prod.snd h) (by simp)
          · split at h
            · split at h
              · have e := Option.some.inj (congrArg Prod.snd h)
                exact mk_ok (hM.trans e.symm) (by omega) (by omega) (by omega) (by omega) (by omega)
              · exact absurd (congrArg Prod.snd h) (by simp)
            · split at h
              · split at h
                · exact absurd (congrArg Prod.snd h) (by simp)
                · have e := Option.some.inj (congrArg Prod.snd h)
                  exact mk_ok (hM.trans e.symm) (by omega) (by omega) (by omega) (by omega) (by omega)
              · have e := Option.some.inj (congrArg Prod.snd h)
                exact mk_ok (hM.trans e.symm) (by omega) (by omega) (by omega) (by omega) (by omega)
theorem prsL_ok {g : Int → Int} {len : Int} : ∀ (n t : Nat) (tl : Int → Int) (M : Int → Int → Int) (s : Int), (∀ j, 0 ≤ j → j < 26 → -1 ≤ tl j ∧ tl j < t) → (∀ i : Nat, i < t → mkOk M i) → (prsL g len n t tl M s).2.1 ≤ t + n ∧ ∀ i : Nat, i < (prsL g len n t tl M s).2.1 → mkOk (prsL g len n t tl M s).2.2 i
  | 0, t, tl, M, s, h1, h2 => ⟨Nat.le_refl _, h2⟩
  | n + 1, t, tl, M, s, h1, h2 => by
    have k9 := kdF_rng (g := g) (len := len) (s := nx g len (nx g len s))
    unfold prsL
    split
    · exact ⟨by simp only []; omega, h2⟩
    · split
      · exact ⟨by simp only []; omega, h2⟩
      · split
        · exact ⟨by simp only []; omega, h2⟩
        · rename_i k8
          split
          · exact ⟨by simp only []; omega, h2⟩
          · rename_i p F hp
            have h3 : ∀ i : Nat, i < t + 1 → mkOk (fup M (t : Int) F) i := fun i hi => by
              by_cases e : i = t
              · subst e; exact parts_ok hp (by omega) h1 (fup_s _ _ _)
              · exact mkOk_M (fup_n _ _ (by omega)) (h2 i (by omega))
            split
            · exact ⟨by simp only []; omega, h3⟩
            · split
              · exact ⟨by simp only []; omega, h3⟩
              · have := prsL_ok (g := g) (len := len) n (t + 1) (fup tl (letr g len s) (t : Int)) (fup M (t : Int) F) (nx g len p) (fun j j1 j2 => by
                  unfold fup; split
                  · omega
                  · have := h1 j j1 j2; omega) h3
                exact ⟨by omega, this.2⟩
theorem prsF_ok {g : Int → Int} {len : Int} : (prsF g len).2.1 ≤ 12 ∧ ∀ i : Nat, i < (prsF g len).2.1 → mkOk (prsF g len).2.2 i := by
  have := prsL_ok (g := g) (len := len) 12 0 (fun _ => -1) (fun _ _ => 0) (tS g len 0) (fun j _ _ => by omega) (fun i hi => absurd hi (Nat.not_lt_zero i))
  unfold prsF; exact ⟨by omega, this.2⟩
theorem ok_tablesF {ls : Int → Int} {lr : Int → Int} {ln : Nat} {M : Int → Int → Int} {sz : Nat} {la : Int} {rd : Nat} {mr : Nat} {W : List Int} {O : List Int} {g : Int → Int} {len : Int} {th : Int → Int} {fa : Int} {re : Int} (hS : SOk (ls, lr, ln, M, sz, la, rd, mr, W, O, g, len, th, fa, re)) : SOk (tablesF (ls, lr, ln, M, sz, la, rd, mr, W, O, g, len, th, fa, re)).2 := by
  have hS0 := hS
  obtain ⟨⟨hln, hlg⟩, ⟨hsz, hMo⟩, hla, hrd, hok1, hok2, hWO, hbg, hle, hth, hh1⟩ := hS
  unfold tablesF
  dsimp only
  split
  · exact ⟨⟨hln, hlg⟩, prsF_ok, hla, ⟨Nat.le_refl _, Nat.zero_le _⟩, okF_empty (fun _ => rfl) _, okF_empty (fun _ => rfl) _, ⟨Nat.zero_le _, Nat.zero_le _⟩, hbg, ⟨by omega, by omega⟩, hth, hh1⟩
  · exact ⟨⟨hln, hlg⟩, ⟨hsz, hMo⟩, hla, hrd, hok1, hok2, hWO, hbg, ⟨by omega, by omega⟩, hth, hh1⟩
