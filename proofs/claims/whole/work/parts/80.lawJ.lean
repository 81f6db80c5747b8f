theorem law_J {G : JG} {l : Launch} {E : JE} {f : Hp} {b L : Nat} {xs : Nat → Int32} (hG : jX G l E code RL 4 room_1) (hB : jB G b L xs) (hL : L ≤ 3072) (hend : ∀ (f : Hp) (lv : List (Nat × Value)), J G 159 86310 f 590 lv [.int (iZ 1)]) : J G 0 0 f 0 [(0, .ref b)] [] := by
  refine j_new hG nL_7 dL_law_0 (Nat.le_of_ble_eq_true rfl) (Nat.le_of_ble_eq_true rfl) (fun x f1 e1 h1 r1 => ?_)
  refine j_kn (k := 1) (n := 12) rfl rfl ?_
  refine j_dup hG dL_law_3 rfl ?_
  refine j_callIA (rest := [.ref x]) hG vL_9 dL_law_4 (c_X11_init h1) rfl rfl (Nat.le_of_ble_eq_true rfl) (Nat.le_of_ble_eq_true rfl) (Nat.le_of_ble_eq_true rfl) (Nat.le_of_ble_eq_true rfl) (Nat.le_of_ble_eq_true rfl) ?_
  rintro _ f2 ⟨rfl, s2, hC⟩
  refine j_kn (k := 125) (n := 24238) rfl rfl ?_
  refine j_st (st' := [.ref x]) rfl ?_
  refine j_astore_n (lv' := [(0, .ref b), (1, .ref x)]) hG dL_law_7 rfl (by decide) rfl ?_
  refine j_new hG nL_10 dL_law_8 (Nat.le_of_ble_eq_true rfl) (Nat.le_of_ble_eq_true rfl) (fun m f3 e3 h3 r3 => ?_)
  refine j_kn (k := 126) (n := 24290) rfl rfl ?_
  refine j_dup hG dL_law_11 rfl ?_
  refine j_callIA (rest := [.ref m]) hG vL_12 dL_law_12 (c_X12_init h3) rfl rfl (Nat.le_of_ble_eq_true rfl) (Nat.le_of_ble_eq_true rfl) (Nat.le_of_ble_eq_true rfl) (Nat.le_of_ble_eq_true rfl) (Nat.le_of_ble_eq_true rfl) ?_
  rintro _ f4 ⟨rfl, A, h4, w4⟩
  refine j_kn (k := 159) (n := 86310) rfl rfl ?_
  refine j_st (st' := [.ref m]) rfl ?_
  refine j_astore_n (lv' := [(0, .ref b), (1, .ref x), (2, .ref m)]) hG dL_law_15 rfl (by decide) rfl ?_
  refine j_iconst hG dL_law_16 ?_
  refine j_istore_n (lv' := [(0, .ref b), (1, .ref x), (2, .ref m), (3, .int (iZ 0))]) hG dL_law_17 rfl (by decide) rfl ?_
  obtain ⟨rg, c1, c2⟩ := start_ok hC e3 h3 r3 h4 w4
  exact law_loop hG hB hL hend (L + 1) 0 f4 S00 (by decide) (by omega) (by omega) c1 c2 SOk_0
