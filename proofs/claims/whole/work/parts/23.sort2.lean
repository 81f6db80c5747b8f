theorem perm_mid {g g' : Int → Int} {a b n : Int} (h0 : 0 ≤ a) (h1 : a ≤ b) (h2 : b ≤ n) (ho : ∀ j, j < a ∨ b ≤ j → g' j = g j) (hp : (seg g' a b).Perm (seg g a b)) : (seg g' 0 n).Perm (seg g 0 n) := by
  rw [seg_app a h0 (by omega), seg_app b h1 h2, seg_app (g := g) a h0 (by omega), seg_app (g := g) b h1 h2]
  rw [seg_congr (g := g') (h := g) (a := 0) (b := a) (fun j _ h => ho j (by omega)), seg_congr (g := g') (h := g) (a := b) (b := n) (fun j h _ => ho j (by omega))]
  exact List.Perm.append_left _ (List.Perm.append_right _ hp)
theorem srt_small {g : Int → Int} {a b : Int} (h : b ≤ a + 1) : srt (seg g a b) := by
  by_cases h1 : b ≤ a
  · rw [seg_nil h1]; exact List.Pairwise.nil
  · rw [show b = a + 1 by omega, seg_one]; exact List.pairwise_singleton _ _
theorem dv_lt {a b m : Int} (hm : 0 < m) (ha : m ∣ a) (hb : m ∣ b) (h : a < b) : a + m ≤ b := by
  have h1 : m ∣ b - a := Int.dvd_sub hb ha
  have h2 := Int.le_of_dvd (by omega) h1
  omega
theorem dv_2 {w a : Int} (h : 2 * w ∣ a) : w ∣ a := Int.dvd_trans ⟨2, by omega⟩ h
/-- runs of width m are in order -/
def runs (g : Int → Int) (m n : Int) : Prop := ∀ a, 0 ≤ a → m ∣ a → srt (seg g a (min (a + m) n))
theorem runs_step {g g' : Int → Int} {w n fr : Int} (hw : 0 < w) (h0 : 0 ≤ fr) (hd : 2 * w ∣ fr) (hn : fr + w < n)
    (hdone : ∀ a, 0 ≤ a → a < fr → 2 * w ∣ a → srt (seg g a (min (a + 2 * w) n))) (hrest : ∀ a, fr ≤ a → w ∣ a → srt (seg g a (min (a + w) n)))
    (ho : ∀ j, j < fr ∨ min (fr + 2 * w) n ≤ j → g' j = g j) (hm : seg g' fr (min (fr + 2 * w) n) = mrg (seg g fr (fr + w)) (seg g (fr + w) (min (fr + 2 * w) n))) :
    (∀ a, 0 ≤ a → a < fr + 2 * w → 2 * w ∣ a → srt (seg g' a (min (a + 2 * w) n))) ∧ (∀ a, fr + 2 * w ≤ a → w ∣ a → srt (seg g' a (min (a + w) n))) ∧ (seg g' 0 n).Perm (seg g 0 n) := by
  have s1 : srt (seg g fr (fr + w)) := by
    have := hrest fr (Int.le_refl _) (dv_2 hd)
    rw [show min (fr + w) n = fr + w by omega] at this
    exact this
  have s2 : srt (seg g (fr + w) (min (fr + 2 * w) n)) := by
    have := hrest (fr + w) (by omega) (Int.dvd_add (dv_2 hd) (Int.dvd_refl w))
    rw [show fr + w + w = fr + 2 * w by omega] at this
    exact this
  refine ⟨fun a h1 h2 h3 => ?_, fun a h1 h2 => ?_, ?_⟩
  · by_cases h4 : a < fr
    · have h5 := dv_lt (by omega) h3 hd h4
      rw [seg_congr (h := g) (fun j j1 j2 => ho j (by omega))]
      exact hdone a h1 h4 h3
    · have h5 : a = fr := by
        by_cases h6 : fr < a
        · have := dv_lt (by omega) hd h3 h6; omega
        · omega
      subst h5
      rw [hm]
      exact mrg_srt _ _ s1 s2
  · rw [seg_congr (h := g) (fun j j1 j2 => ho j (by omega))]
    exact hrest a (by omega) h2
  · refine perm_mid (a := fr) (b := min (fr + 2 * w) n) h0 (by omega) (by omega) ho ?_
    rw [hm]
    refine (mrg_perm _ _).trans ?_
    rw [← seg_app (fr + w) (by omega) (by omega)]
theorem runs_end {g : Int → Int} {w n fr : Int} (hw : 0 < w) (hn : n ≤ fr + w)
    (hdone : ∀ a, 0 ≤ a → a < fr → 2 * w ∣ a → srt (seg g a (min (a + 2 * w) n))) (hrest : ∀ a, fr ≤ a → w ∣ a → srt (seg g a (min (a + w) n))) : runs g (2 * w) n := by
  intro a h1 h2
  by_cases h3 : a < fr
  · exact hdone a h1 h3 h2
  · have := hrest a (by omega) (dv_2 h2)
    rw [show min (a + w) n = min (a + 2 * w) n by omega] at this
    exact this
theorem l_X8_sort_12 {G : JG} {l : Launch} {E : JE} {P : Option Value → Hp → Prop} (hG : jX G l E cX8_sort RX8 4 rmX8_sort) (hZ : jZ G none P) {r c s : Nat} {n b : Int} {g0 : Int → Int} {f0 : Hp} (hn : 0 ≤ n ∧ n ≤ 400) (hcs : c ≠ s) {w : Int} (hw : 0 < w) (hw2 : w ≤ 400) (kk : ∀ (fr : Int) (g' h' : Int → Int) (f' : Hp), f' r = oB 7 [.ref c, .int (iZ n), .int (iZ b)] → f' c = aJ (E.2.1 1) 400 g' → f' s = aJ (E.2.1 1) 400 h' → gOk g' → gOk h' → (seg g' 0 n).Perm (seg g0 0 n) → (∀ q, q ≠ c → q ≠ s → f' q = f0 q) → runs g' (2 * w) n → J G 0 0 f' 52 [(0, .ref r), (1, .ref s), (2, .int (iZ (w))), (3, .int (iZ (fr)))] []) :
    ∀ (d : Nat) (fr : Int) (g1 h1 : Int → Int) (f1 : Hp), (h : f1 r = oB 7 [.ref c, .int (iZ (n)), .int (iZ (b))]) → (hc : f1 c = aJ (E.2.1 1) 400 (g1)) → (hs : f1 s = aJ (E.2.1 1) 400 (h1)) → (hok : gOk g1) → (hoh : gOk h1) → (hpm : (seg g1 0 n).Perm (seg g0 0 n)) → (hfr : ∀ q, q ≠ c → q ≠ s → f1 q = f0 q) → (hfrb : fr ≤ 800) → (hfr0 : 0 ≤ fr ∧ 2 * w ∣ fr) → (hdone : ∀ a, 0 ≤ a → a < fr → 2 * w ∣ a → srt (seg g1 a (min (a + 2 * w) n))) → (hrest : ∀ a, fr ≤ a → w ∣ a → srt (seg g1 a (min (a + w) n))) → ((n - fr).toNat) < d → J G 0 0 f1 12 [(0, .ref r), (1, .ref s), (2, .int (iZ (w))), (3, .int (iZ (fr)))] [] := by
  intro d
  induction d with
  | zero => intro fr g1 h1 f1 h hc hs hok hoh hpm hfr hfrb hfr0 hdone hrest hd9; exfalso; omega
  | succ d ih =>
    intro fr g1 h1 f1 h hc hs hok hoh hpm hfr hfrb hfr0 hdone hrest hd9
    refine j_iload_n hG dX8_sort_12 rfl rfl ?_
    refine j_iload_n hG dX8_sort_13 rfl rfl ?_
    refine j_iadd hG dX8_sort_14 ?_
    refine j_aload_n hG dX8_sort_15 rfl rfl ?_
    refine j_get hG fX8_15 dX8_sort_16 h rfl ?_
    refine j_icmp_ge (tgt := 52) hG dX8_sort_19 (by decide) (by have := hfr0.1; omega) (by have := hfr0.1; omega) (fun c1 => ?_) (fun c1 => ?_)
    · -- taken at 19
      exact kk fr g1 h1 f1 h hc hs hok hoh hpm hfr (runs_end hw (by omega) hdone hrest)
    · -- on at 19
      refine j_aload_n hG dX8_sort_22 rfl rfl ?_
      refine j_iload_n hG dX8_sort_23 rfl rfl ?_
      refine j_iload_n hG dX8_sort_24 rfl rfl ?_
      refine j_iload_n hG dX8_sort_25 rfl rfl ?_
      refine j_iadd hG dX8_sort_26 ?_
      refine j_iload_n hG dX8_sort_27 rfl rfl ?_
      refine j_iconst hG dX8_sort_28 ?_
      refine j_iload_n hG dX8_sort_29 rfl rfl ?_
      refine j_imul hG dX8_sort_30 ?_
      refine j_iadd hG dX8_sort_31 ?_
      refine j_aload_n hG dX8_sort_32 rfl rfl ?_
      refine j_get hG fX8_15 dX8_sort_33 h rfl ?_
      refine j_min hG vX8_47 dX8_sort_36 (by have := hfr0.1; omega) (by have := hfr0.1; omega) (by decide) (by decide) (Nat.le_of_ble_eq_true rfl) (Nat.zero_le _) (Nat.zero_le _) ?_
      refine j_aload_n hG dX8_sort_39 rfl rfl ?_
      have m1 : srt (seg g1 fr (fr + w)) := by
        have := hrest fr (Int.le_refl _) (dv_2 hfr0.2)
        rw [show min (fr + w) n = fr + w by omega] at this
        exact this
      have m2 : srt (seg g1 (fr + w) (min (fr + 2 * w) n)) := by
        have := hrest (fr + w) (by omega) (Int.dvd_add (dv_2 hfr0.2) (Int.dvd_refl w))
        rw [show fr + w + w = fr + 2 * w by omega] at this
        exact this
      have z0 := hfr0.1
      refine j_callV (rest := []) hG vX8_53 dX8_sort_40 (c_X8_merge (fr := fr) (md := fr + w) (tt := min (fr + (2 * w)) n) h hc hs hcs hok hoh (by omega) m1 m2) h rfl rfl (by decide) (by decide) (Nat.le_of_ble_eq_true rfl) rfl rfl (Nat.zero_le _) (Nat.zero_le _) ?_
      rintro _ f11 ⟨rfl, g2, h3, a4, a5, a6, a7, a8, a9, fr10⟩
      refine j_st (st' := []) rfl ?_
      have h12 := (fr10 r (h_ne h hc oa_J) (h_ne h hs oa_J)).trans h
      refine j_iload_n hG dX8_sort_43 rfl rfl ?_
      refine j_iconst hG dX8_sort_44 ?_
      refine j_iload_n hG dX8_sort_45 rfl rfl ?_
      refine j_imul hG dX8_sort_46 ?_
      refine j_iadd hG dX8_sort_47 ?_
      refine j_istore_n (lv' := [(0, .ref r), (1, .ref s), (2, .int (iZ (w))), (3, .int (iZ (fr + (2 * w))))]) hG dX8_sort_48 rfl (by decide) rfl ?_
      refine j_goto (tgt := 12) hG dX8_sort_49 (by decide) ?_
      obtain ⟨b1, b2, b3⟩ := runs_step hw hfr0.1 hfr0.2 (by omega) hdone hrest a8 a9
      exact ih (fr + (2 * w)) g2 h3 f11 h12 a4 a5 a6 a7 (b3.trans hpm) (fun q q1 q2 => (fr10 q q1 q2).trans (hfr q q1 q2)) (by have := hfr0.1; omega) ⟨by omega, Int.dvd_add hfr0.2 (Int.dvd_refl _)⟩ b1 b2 (by omega)
theorem l_X8_sort_2 {G : JG} {l : Launch} {E : JE} {P : Option Value → Hp → Prop} (hG : jX G l E cX8_sort RX8 4 rmX8_sort) (hZ : jZ G none P) {r c s : Nat} {n b : Int} {g0 : Int → Int} {f0 : Hp} (hn : 0 ≤ n ∧ n ≤ 400) (hcs : c ≠ s) (hP : ∀ (g' h' : Int → Int) (f' : Hp), f' r = oB 7 [.ref c, .int (iZ n), .int (iZ b)] → f' c = aJ (E.2.1 1) 400 g' → f' s = aJ (E.2.1 1) 400 h' → gOk g' → gOk h' → (seg g' 0 n).Perm (seg g0 0 n) → (∀ q, q ≠ c → q ≠ s → f' q = f0 q) → srt (seg g' 0 n) → P none f') :
    ∀ (d : Nat) (w : Int) (g1 h1 : Int → Int) (f1 : Hp), (h : f1 r = oB 7 [.ref c, .int (iZ (n)), .int (iZ (b))]) → (hc : f1 c = aJ (E.2.1 1) 400 (g1)) → (hs : f1 s = aJ (E.2.1 1) 400 (h1)) → (hok : gOk g1) → (hoh : gOk h1) → (hpm : (seg g1 0 n).Perm (seg g0 0 n)) → (hfr : ∀ q, q ≠ c → q ≠ s → f1 q = f0 q) → (hw : 0 < w ∧ w ≤ 800) → (hrun : runs g1 w n) → ((n - w).toNat) < d → J G 0 0 f1 2 [(0, .ref r), (1, .ref s), (2, .int (iZ (w)))] [] := by
  intro d
  induction d with
  | zero => intro w g1 h1 f1 h hc hs hok hoh hpm hfr hw hrun hd9; exfalso; omega
  | succ d ih =>
    intro w g1 h1 f1 h hc hs hok hoh hpm hfr hw hrun hd9
    refine j_iload_n hG dX8_sort_2 rfl rfl ?_
    refine j_aload_n hG dX8_sort_3 rfl rfl ?_
    refine j_get hG fX8_15 dX8_sort_4 h rfl ?_
    refine j_icmp_ge (tgt := 59) hG dX8_sort_7 (by decide) (by omega) (by omega) (fun c1 => ?_) (fun c1 => ?_)
    · -- taken at 7
      have z9 := hrun 0 (Int.le_refl _) ⟨0, by omega⟩
      rw [show min (0 + w) n = n by omega] at z9
      exact j_vret hG hZ dX8_sort_59 (Nat.zero_le _) (Nat.zero_le _) (hP g1 h1 f1 h hc hs hok hoh hpm hfr z9)
    · -- on at 7
      refine j_iconst hG dX8_sort_10 ?_
      refine j_istore_n (lv' := [(0, .ref r), (1, .ref s), (2, .int (iZ (w))), (3, .int (iZ (0)))]) hG dX8_sort_11 rfl (by decide) rfl ?_
      refine l_X8_sort_12 (g0 := g0) (f0 := f0) hG hZ hn hcs (by omega) (by omega) ?_ ((n - 0).toNat + 1) 0 g1 h1 f1 h hc hs hok hoh hpm hfr (by omega) ⟨Int.le_refl _, ⟨0, by omega⟩⟩ (fun a h1 h2 => absurd h2 (by omega)) (fun a h1 h2 => hrun a h1 h2) (by omega)
      intro fr g' h' f' a1 a2 a3 a4 a5 a6 a7 a8
      refine j_iload_n hG dX8_sort_52 rfl rfl ?_
      refine j_iconst hG dX8_sort_53 ?_
      refine j_imul hG dX8_sort_54 ?_
      refine j_istore_n (lv' := [(0, .ref r), (1, .ref s), (2, .int (iZ (w * 2))), (3, .int (iZ (fr)))]) hG dX8_sort_55 rfl (by decide) rfl ?_
      refine j_goto (tgt := 2) hG dX8_sort_56 (by decide) ?_
      refine j_lv (lv' := [(0, .ref r), (1, .ref s), (2, .int (iZ (w * 2)))]) (by simp) ?_
      exact ih (w * 2) g' h' f' a1 a2 a3 a4 a5 a6 a7 (by omega) (by rw [Int.mul_comm]; exact a8) (by omega)
theorem c_X8_sort {l : Launch} {E : JE} {f : Hp} {r c s : Nat} {n b : Int} {g h0 : Int → Int} (h : f r = oB 7 [.ref c, .int (iZ (n)), .int (iZ (b))]) (hc : f c = aJ (E.2.1 1) 400 (g)) (hs : f s = aJ (E.2.1 1) 400 (h0)) (hn : 0 ≤ n ∧ n ≤ 400) (hcs : c ≠ s) (hok : gOk g) (hoh : gOk h0) : KX8_sort l E [.ref r, .ref s] f (fun v f' => v = none ∧ ∃ g' h' : Int → Int, f' c = aJ (E.2.1 1) 400 g' ∧ f' s = aJ (E.2.1 1) 400 h' ∧ gOk g' ∧ gOk h' ∧ (seg g' 0 n).Perm (seg g 0 n) ∧ srt (seg g' 0 n) ∧ ∀ q, q ≠ c → q ≠ s → f' q = f q) := by
  refine ct_of (own := RX8) (lv := [(0, .ref r), (1, .ref s)]) (by decide +kernel) rfl (Nat.le_of_ble_eq_true rfl) rfl ?_
  intro G hG hZ
  refine j_iconst hG dX8_sort_0 ?_
  refine j_istore_n (lv' := [(0, .ref r), (1, .ref s), (2, .int (iZ (1)))]) hG dX8_sort_1 rfl (by decide) rfl ?_
  exact l_X8_sort_2 (g0 := g) (f0 := f) hG hZ hn hcs (fun g' h' f' a1 a2 a3 a4 a5 a6 a7 a8 => ⟨rfl, g', h', a2, a3, a4, a5, a6, a8, a7⟩) ((n - 1).toNat + 1) 1 g h0 f h hc hs hok hoh (List.Perm.refl _) (fun _ _ _ => rfl) (by omega) (fun a h1 h2 => srt_small (by omega)) (by omega)
