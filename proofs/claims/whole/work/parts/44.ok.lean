theorem ok_tellF {ls : Int → Int} {lr : Int → Int} {ln : Nat} {M : Int → Int → Int} {sz : Nat} {la : Int} {rd : Nat} {mr : Nat} {W : List Int} {O : List Int} {g : Int → Int} {len : Int} {th : Int → Int} {fa : Int} {re : Int} {s k v t : Int} (hS : SOk (ls, lr, ln, M, sz, la, rd, mr, W, O, g, len, th, fa, re)) : SOk (tellF (ls, lr, ln, M, sz, la, rd, mr, W, O, g, len, th, fa, re) s k v t).2 := by
  have hS0 := hS
  obtain ⟨⟨hln, hlg⟩, ⟨hsz, hMo⟩, hla, hrd, hok1, hok2, hWO, hbg, hle, hth, hh1⟩ := hS
  unfold tellF
  dsimp only
  split
  · rename_i hc
    split
    · have a1 : rOk (pk k t v) ∧ rV (pk k t v) ≤ 1000000000 := by
        have pk9 := pk_ok (k := k) (t := t) (v := v) (by omega) (by omega) (by omega)
        exact ⟨pk9.1, by rw [pk9.2.2.2]; omega⟩
      have a2 : rd ≤ ln := by omega
      have a3 : mr ≤ ln := by omega
      have a4 : ln + 1 ≤ 150 := by omega
      have a5 : rd ≤ ln + 1 := by omega
      refine ⟨⟨a4, fun j hj => ?_⟩, ⟨hsz, hMo⟩, hla, ⟨hrd.1, a5⟩, by rw [(log_tell a2).1]; exact hok1, by rw [(log_tell a3).1]; exact hok2, hWO, hbg, hle, hth, hh1⟩
      by_cases e : j = ln
      · subst e; rw [fup_s, fup_s]; exact ⟨a1, hc.1⟩
      · rw [fup_n _ _ (by omega), fup_n _ _ (by omega)]; exact hlg j (by omega)
    · exact ⟨⟨hln, hlg⟩, ⟨hsz, hMo⟩, hla, hrd, hok1, hok2, hWO, hbg, hle, hth, hh1⟩
  · exact ⟨⟨hln, hlg⟩, ⟨hsz, hMo⟩, hla, hrd, hok1, hok2, hWO, hbg, hle, hth, hh1⟩
theorem ok_feedF {ls : Int → Int} {lr : Int → Int} {ln : Nat} {M : Int → Int → Int} {sz : Nat} {la : Int} {rd : Nat} {mr : Nat} {W : List Int} {O : List Int} {g : Int → Int} {len : Int} {th : Int → Int} {fa : Int} {re : Int} {a b c d e : Int} (hS : SOk (ls, lr, ln, M, sz, la, rd, mr, W, O, g, len, th, fa, re)) : SOk (feedF (ls, lr, ln, M, sz, la, rd, mr, W, O, g, len, th, fa, re) a b c d e).2 := by
  have hS0 := hS
  obtain ⟨⟨hln, hlg⟩, ⟨hsz, hMo⟩, hla, hrd, hok1, hok2, hWO, hbg, hle, hth, hh1⟩ := hS
  unfold feedF
  dsimp only
  split
  · exact ⟨⟨hln, hlg⟩, ⟨hsz, hMo⟩, hla, hrd, hok1, hok2, hWO, bOk_put4 (bOk_put4 (bOk_put4 (bOk_put4 (bOk_put4 hbg)))), ⟨by omega, by omega⟩, hth, hh1⟩
  · exact ⟨⟨hln, hlg⟩, ⟨hsz, hMo⟩, hla, hrd, hok1, hok2, hWO, hbg, hle, hth, hh1⟩
theorem ok_endF {ls : Int → Int} {lr : Int → Int} {ln : Nat} {M : Int → Int → Int} {sz : Nat} {la : Int} {rd : Nat} {mr : Nat} {W : List Int} {O : List Int} {g : Int → Int} {len : Int} {th : Int → Int} {fa : Int} {re : Int} {n : Int} (hS : SOk (ls, lr, ln, M, sz, la, rd, mr, W, O, g, len, th, fa, re)) : SOk (endF (ls, lr, ln, M, sz, la, rd, mr, W, O, g, len, th, fa, re) n).2 := by
  have hS0 := hS
  obtain ⟨⟨hln, hlg⟩, ⟨hsz, hMo⟩, hla, hrd, hok1, hok2, hWO, hbg, hle, hth, hh1⟩ := hS
  unfold endF
  dsimp only
  split
  · exact ⟨⟨hln, hlg⟩, ⟨hsz, hMo⟩, hla, hrd, hok1, hok2, hWO, hbg, ⟨by omega, by omega⟩, hth, hh1⟩
  · exact ⟨⟨hln, hlg⟩, ⟨hsz, hMo⟩, hla, hrd, hok1, hok2, hWO, hbg, hle, hth, hh1⟩
theorem ok_lateF {ls : Int → Int} {lr : Int → Int} {ln : Nat} {M : Int → Int → Int} {sz : Nat} {la : Int} {rd : Nat} {mr : Nat} {W : List Int} {O : List Int} {g : Int → Int} {len : Int} {th : Int → Int} {fa : Int} {re : Int} {n : Int} (hS : SOk (ls, lr, ln, M, sz, la, rd, mr, W, O, g, len, th, fa, re)) : SOk (lateF (ls, lr, ln, M, sz, la, rd, mr, W, O, g, len, th, fa, re) n).2 := by
  have hS0 := hS
  obtain ⟨⟨hln, hlg⟩, ⟨hsz, hMo⟩, hla, hrd, hok1, hok2, hWO, hbg, hle, hth, hh1⟩ := hS
  unfold lateF
  dsimp only
  split
  · exact ⟨⟨hln, hlg⟩, ⟨hsz, hMo⟩, by assumption, ⟨Nat.le_refl _, Nat.zero_le _⟩, okF_empty (fun _ => rfl) _, okF_empty (fun _ => rfl) _, ⟨Nat.zero_le _, Nat.zero_le _⟩, hbg, hle, hth, hh1⟩
  · exact ⟨⟨hln, hlg⟩, ⟨hsz, hMo⟩, hla, hrd, hok1, hok2, hWO, hbg, hle, hth, hh1⟩
theorem rdL_SOk {ls : Int → Int} {lr : Int → Int} {ln : Nat} {M : Int → Int → Int} {sz : Nat} {la : Int} {mr : Nat} {O : List Int} {g : Int → Int} {len : Int} {th : Int → Int} {fa : Int} {re : Int} {r9 : Int} : ∀ (n rd : Nat) (W : List Int) (d : Int), SOk (ls, lr, ln, M, sz, la, rd, mr, W, O, g, len, th, fa, re) → n ≤ ln - rd → SOk (ls, lr, ln, M, sz, la, (rdL ls lr M sz la n rd W d).1, mr, (rdL ls lr M sz la n rd W d).2.1, O, g, len, th, fa, r9)
  | 0, rd, W, d, hS, _ => by
    obtain ⟨⟨hln, hlg⟩, ⟨hsz, hMo⟩, hla, hrd, hok1, hok2, hWO, hbg, hle, hth, hh1⟩ := hS
    exact ⟨⟨hln, hlg⟩, ⟨hsz, hMo⟩, hla, hrd, hok1, hok2, hWO, hbg, hle, hth, hh1⟩
  | n + 1, rd, W, d, hS, hn => by
    by_cases c : rdOk ls lr M sz la rd W
    · rw [rdL_yes c]
      exact rdL_SOk n (rd + 1) _ (d + 1) (rd_SOk hS (by omega) c) (by omega)
    · rw [rdL_no c]
      obtain ⟨⟨hln, hlg⟩, ⟨hsz, hMo⟩, hla, hrd, hok1, hok2, hWO, hbg, hle, hth, hh1⟩ := hS
      exact ⟨⟨hln, hlg⟩, ⟨hsz, hMo⟩, hla, hrd, hok1, hok2, hWO, hbg, hle, hth, hh1⟩
theorem ok_readF {ls : Int → Int} {lr : Int → Int} {ln : Nat} {M : Int → Int → Int} {sz : Nat} {la : Int} {rd : Nat} {mr : Nat} {W : List Int} {O : List Int} {g : Int → Int} {len : Int} {th : Int → Int} {fa : Int} {re : Int} {n : Int} (hS : SOk (ls, lr, ln, M, sz, la, rd, mr, W, O, g, len, th, fa, re)) : SOk (readF (ls, lr, ln, M, sz, la, rd, mr, W, O, g, len, th, fa, re) n).2 := by
  have hS0 := hS
  obtain ⟨⟨hln, hlg⟩, ⟨hsz, hMo⟩, hla, hrd, hok1, hok2, hWO, hbg, hle, hth, hh1⟩ := hS
  unfold readF
  dsimp only
  split
  · split
    · exact ⟨⟨hln, hlg⟩, ⟨hsz, hMo⟩, hla, hrd, hok1, hok2, hWO, hbg, hle, hth, hh1⟩
    · exact rdL_SOk _ rd W 0 hS0 (by omega)
  · exact ⟨⟨hln, hlg⟩, ⟨hsz, hMo⟩, hla, hrd, hok1, hok2, hWO, hbg, hle, hth, hh1⟩
theorem ok_markF {ls : Int → Int} {lr : Int → Int} {ln : Nat} {M : Int → Int → Int} {sz : Nat} {la : Int} {rd : Nat} {mr : Nat} {W : List Int} {O : List Int} {g : Int → Int} {len : Int} {th : Int → Int} {fa : Int} {re : Int} (hS : SOk (ls, lr, ln, M, sz, la, rd, mr, W, O, g, len, th, fa, re)) : SOk (markF (ls, lr, ln, M, sz, la, rd, mr, W, O, g, len, th, fa, re)).2 := by
  have hS0 := hS
  obtain ⟨⟨hln, hlg⟩, ⟨hsz, hMo⟩, hla, hrd, hok1, hok2, hWO, hbg, hle, hth, hh1⟩ := hS
  unfold markF
  dsimp only
  split
  · exact ⟨⟨hln, hlg⟩, ⟨hsz, hMo⟩, hla, hrd, hok1, hok2, hWO, hbg, hle, hth, hh1⟩
  · split
    · exact ⟨⟨hln, hlg⟩, ⟨hsz, hMo⟩, hla, ⟨Nat.le_refl _, hrd.2⟩, hok1, hok1, ⟨Nat.zero_le _, by rw [List.length_append]; assumption⟩, hbg, hle, hth, hh1⟩
    · exact ⟨⟨hln, hlg⟩, ⟨hsz, hMo⟩, hla, hrd, hok1, hok2, hWO, hbg, hle, hth, hh1⟩
theorem ok_fallF {ls : Int → Int} {lr : Int → Int} {ln : Nat} {M : Int → Int → Int} {sz : Nat} {la : Int} {rd : Nat} {mr : Nat} {W : List Int} {O : List Int} {g : Int → Int} {len : Int} {th : Int → Int} {fa : Int} {re : Int} (hS : SOk (ls, lr, ln, M, sz, la, rd, mr, W, O, g, len, th, fa, re)) : SOk (fallF (ls, lr, ln, M, sz, la, rd, mr, W, O, g, len, th, fa, re)).2 := by
  have hS0 := hS
  obtain ⟨⟨hln, hlg⟩, ⟨hsz, hMo⟩, hla, hrd, hok1, hok2, hWO, hbg, hle, hth, hh1⟩ := hS
  unfold fallF
  dsimp only
  split
  · exact ⟨⟨hln, hlg⟩, ⟨hsz, hMo⟩, hla, hrd, hok1, hok2, hWO, hbg, hle, hth, hh1⟩
  · exact ⟨⟨hln, hlg⟩, ⟨hsz, hMo⟩, hla, ⟨Nat.le_refl _, by omega⟩, hok2, hok2, ⟨Nat.zero_le _, hWO.2⟩, hbg, hle, hth, hh1⟩
theorem ok_hostF {ls : Int → Int} {lr : Int → Int} {ln : Nat} {M : Int → Int → Int} {sz : Nat} {la : Int} {rd : Nat} {mr : Nat} {W : List Int} {O : List Int} {g : Int → Int} {len : Int} {th : Int → Int} {fa : Int} {re : Int} {h z : Int} (hS : SOk (ls, lr, ln, M, sz, la, rd, mr, W, O, g, len, th, fa, re)) (hz : z = 0 ∨ z = 1) : SOk (hostF (ls, lr, ln, M, sz, la, rd, mr, W, O, g, len, th, fa, re) h z).2 := by
  have hS0 := hS
  obtain ⟨⟨hln, hlg⟩, ⟨hsz, hMo⟩, hla, hrd, hok1, hok2, hWO, hbg, hle, hth, hh1⟩ := hS
  unfold hostF
  dsimp only
  split
  · rename_i c1
    split
    · exact ⟨⟨hln, hlg⟩, ⟨hsz, hMo⟩, hla, hrd, hok1, hok2, hWO, hbg, hle, hth, hh1⟩
    · rename_i c2
      split
      · exact ⟨⟨hln, hlg⟩, ⟨hsz, hMo⟩, hla, hrd, hok1, hok2, hWO, hbg, hle, hth, hh1⟩
      · rename_i c3
        have h9 := hN_fup (th := th) (h0 := h) (z := z) c1
        have h8 := hth h c1.1 c1.2
        have h7 := hN_rng hth
        refine ⟨⟨hln, hlg⟩, ⟨hsz, hMo⟩, hla, hrd, hok1, hok2, hWO, hbg, hle, fun j j1 j2 => ?_, ?_⟩
        · unfold fup; split
          · exact hz
          · exact hth j j1 j2
        · show 1 ≤ hN (fup th h z)
          rw [h9]
          have c4 : z ≠ 0 ∨ hN th ≠ 1 := by
            by_cases q : z = 0
            · exact Or.inr (fun q2 => c3 ⟨q, q2⟩)
            · exact Or.inl q
          omega
  · exact ⟨⟨hln, hlg⟩, ⟨hsz, hMo⟩, hla, hrd, hok1, hok2, hWO, hbg, hle, hth, hh1⟩
theorem ok_faultF {ls : Int → Int} {lr : Int → Int} {ln : Nat} {M : Int → Int → Int} {sz : Nat} {la : Int} {rd : Nat} {mr : Nat} {W : List Int} {O : List Int} {g : Int → Int} {len : Int} {th : Int → Int} {fa : Int} {re : Int} (hS : SOk (ls, lr, ln, M, sz, la, rd, mr, W, O, g, len, th, fa, re)) : SOk (faultF (ls, lr, ln, M, sz, la, rd, mr, W, O, g, len, th, fa, re)).2 := by
  have hS0 := hS
  obtain ⟨⟨hln, hlg⟩, ⟨hsz, hMo⟩, hla, hrd, hok1, hok2, hWO, hbg, hle, hth, hh1⟩ := hS
  unfold faultF
  exact ⟨⟨hln, hlg⟩, ⟨hsz, hMo⟩, hla, hrd, hok1, hok2, hWO, hbg, hle, hth, hh1⟩
theorem ok_ownerF {ls : Int → Int} {lr : Int → Int} {ln : Nat} {M : Int → Int → Int} {sz : Nat} {la : Int} {rd : Nat} {mr : Nat} {W : List Int} {O : List Int} {g : Int → Int} {len : Int} {th : Int → Int} {fa : Int} {re : Int} {k : Int} (hS : SOk (ls, lr, ln, M, sz, la, rd, mr, W, O, g, len, th, fa, re)) : SOk (ownerF (ls, lr, ln, M, sz, la, rd, mr, W, O, g, len, th, fa, re) k).2 := by
  have hS0 := hS
  obtain ⟨⟨hln, hlg⟩, ⟨hsz, hMo⟩, hla, hrd, hok1, hok2, hWO, hbg, hle, hth, hh1⟩ := hS
  unfold ownerF
  exact ⟨⟨hln, hlg⟩, ⟨hsz, hMo⟩, hla, hrd, hok1, hok2, hWO, hbg, hle, hth, hh1⟩
theorem ok_countF {ls : Int → Int} {lr : Int → Int} {ln : Nat} {M : Int → Int → Int} {sz : Nat} {la : Int} {rd : Nat} {mr : Nat} {W : List Int} {O : List Int} {g : Int → Int} {len : Int} {th : Int → Int} {fa : Int} {re : Int} {w : Int} (hS : SOk (ls, lr, ln, M, sz, la, rd, mr, W, O, g, len, th, fa, re)) : SOk (countF (ls, lr, ln, M, sz, la, rd, mr, W, O, g, len, th, fa, re) w).2 := by
  have hS0 := hS
  obtain ⟨⟨hln, hlg⟩, ⟨hsz, hMo⟩, hla, hrd, hok1, hok2, hWO, hbg, hle, hth, hh1⟩ := hS
  unfold countF
  exact ⟨⟨hln, hlg⟩, ⟨hsz, hMo⟩, hla, hrd, hok1, hok2, hWO, hbg, hle, hth, hh1⟩
theorem ok_statusF {ls : Int → Int} {lr : Int → Int} {ln : Nat} {M : Int → Int → Int} {sz : Nat} {la : Int} {rd : Nat} {mr : Nat} {W : List Int} {O : List Int} {g : Int → Int} {len : Int} {th : Int → Int} {fa : Int} {re : Int} (hS : SOk (ls, lr, ln, M, sz, la, rd, mr, W, O, g, len, th, fa, re)) : SOk (statusF (ls, lr, ln, M, sz, la, rd, mr, W, O, g, len, th, fa, re)).2 := by
  have hS0 := hS
  obtain ⟨⟨hln, hlg⟩, ⟨hsz, hMo⟩, hla, hrd, hok1, hok2, hWO, hbg, hle, hth, hh1⟩ := hS
  unfold statusF
  exact ⟨⟨hln, hlg⟩, ⟨hsz, hMo⟩, hla, hrd, hok1, hok2, hWO, hbg, hle, hth, hh1⟩
theorem ok_outF {ls : Int → Int} {lr : Int → Int} {ln : Nat} {M : Int → Int → Int} {sz : Nat} {la : Int} {rd : Nat} {mr : Nat} {W : List Int} {O : List Int} {g : Int → Int} {len : Int} {th : Int → Int} {fa : Int} {re : Int} {i w : Int} (hS : SOk (ls, lr, ln, M, sz, la, rd, mr, W, O, g, len, th, fa, re)) : SOk (outF (ls, lr, ln, M, sz, la, rd, mr, W, O, g, len, th, fa, re) i w).2 := by
  have hS0 := hS
  obtain ⟨⟨hln, hlg⟩, ⟨hsz, hMo⟩, hla, hrd, hok1, hok2, hWO, hbg, hle, hth, hh1⟩ := hS
  unfold outF
  dsimp only
  split <;> exact ⟨⟨hln, hlg⟩, ⟨hsz, hMo⟩, hla, hrd, hok1, hok2, hWO, hbg, hle, hth, hh1⟩
theorem ok_rowsF {ls : Int → Int} {lr : Int → Int} {ln : Nat} {M : Int → Int → Int} {sz : Nat} {la : Int} {rd : Nat} {mr : Nat} {W : List Int} {O : List Int} {g : Int → Int} {len : Int} {th : Int → Int} {fa : Int} {re : Int} {t : Int} (hS : SOk (ls, lr, ln, M, sz, la, rd, mr, W, O, g, len, th, fa, re)) : SOk (rowsF (ls, lr, ln, M, sz, la, rd, mr, W, O, g, len, th, fa, re) t).2 := by
  have hS0 := hS
  obtain ⟨⟨hln, hlg⟩, ⟨hsz, hMo⟩, hla, hrd, hok1, hok2, hWO, hbg, hle, hth, hh1⟩ := hS
  unfold rowsF
  dsimp only
  split <;> exact ⟨⟨hln, hlg⟩, ⟨hsz, hMo⟩, hla, hrd, hok1, hok2, hWO, hbg, hle, hth, hh1⟩
theorem ok_rowF {ls : Int → Int} {lr : Int → Int} {ln : Nat} {M : Int → Int → Int} {sz : Nat} {la : Int} {rd : Nat} {mr : Nat} {W : List Int} {O : List Int} {g : Int → Int} {len : Int} {th : Int → Int} {fa : Int} {re : Int} {t i w : Int} (hS : SOk (ls, lr, ln, M, sz, la, rd, mr, W, O, g, len, th, fa, re)) : SOk (rowF (ls, lr, ln, M, sz, la, rd, mr, W, O, g, len, th, fa, re) t i w).2 := by
  have hS0 := hS
  obtain ⟨⟨hln, hlg⟩, ⟨hsz, hMo⟩, hla, hrd, hok1, hok2, hWO, hbg, hle, hth, hh1⟩ := hS
  unfold rowF
  dsimp only
  split <;> exact ⟨⟨hln, hlg⟩, ⟨hsz, hMo⟩, hla, hrd, hok1, hok2, hWO, hbg, hle, hth, hh1⟩
theorem ok_ownsF {ls : Int → Int} {lr : Int → Int} {ln : Nat} {M : Int → Int → Int} {sz : Nat} {la : Int} {rd : Nat} {mr : Nat} {W : List Int} {O : List Int} {g : Int → Int} {len : Int} {th : Int → Int} {fa : Int} {re : Int} {h : Int} (hS : SOk (ls, lr, ln, M, sz, la, rd, mr, W, O, g, len, th, fa, re)) : SOk (ownsF (ls, lr, ln, M, sz, la, rd, mr, W, O, g, len, th, fa, re) h).2 := by
  have hS0 := hS
  obtain ⟨⟨hln, hlg⟩, ⟨hsz, hMo⟩, hla, hrd, hok1, hok2, hWO, hbg, hle, hth, hh1⟩ := hS
  unfold ownsF
  dsimp only
  split <;> exact ⟨⟨hln, hlg⟩, ⟨hsz, hMo⟩, hla, hrd, hok1, hok2, hWO, hbg, hle, hth, hh1⟩
