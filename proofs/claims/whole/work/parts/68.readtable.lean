theorem c_X12_readTable {l : Launch} {E : JE} {f : Hp} {rg : Nat → Nat} {f0 : Hp} {m : Nat} {A : Nat → Nat} {V : Nat → Int} {G : Nat → Int → Int} {g tl : Int → Int} {len : Int} {S : T3} {t : Nat} (hW : MF E rg f0 f m A V G) (h44 : V 44 = len) (h43 : G 43 = g) (hl : 0 ≤ len ∧ len ≤ 300) (hg : bOk g) (ht : tk V g len S) (h42 : G 42 = tl) (htr : ∀ j, 0 ≤ j → j < 26 → -1 ≤ tl j ∧ tl j < 12) (h36 : V 36 = (t : Int)) (ht12 : t ≤ 12) : KX12_readTable l E [.ref m] f (fun v f' => v = none ∧ ∃ (V' : Nat → Int) (G' : Nat → Int → Int) (kd : Int), kd = kdF g len (M2 g len (M1 g tl len t S)).1 ∧ MF E rg f0 f' m A V' G' ∧ tk V' g len (RK g tl len kd (M3 g len (M2 g len (M1 g tl len t S)))) ∧ (∀ i, i ≠ 36 → i ≠ 45 → i ≠ 46 → i ≠ 47 → i ≠ 48 → i ≠ 49 → i ≠ 50 → V' i = V i) ∧ (((RK g tl len kd (M3 g len (M2 g len (M1 g tl len t S)))).2.1 ≠ 0 ∧ V' 36 = (t : Int) ∧ G' = G) ∨ ((RK g tl len kd (M3 g len (M2 g len (M1 g tl len t S)))).2.1 = 0 ∧ V' 36 = (t : Int) + 1 ∧ ∃ a b c r : Int, G' = up (up (up (up (up (up G 37 (fup (G 37) (t : Int) kd)) 38 (fup (G 38) (t : Int) a)) 39 (fup (G 39) (t : Int) b)) 40 (fup (G 40) (t : Int) c)) 41 (fup (G 41) (t : Int) r)) 42 (fup tl (letr g len S.1) (t : Int)) ∧ (kd = 0 → a = woF g len (M3 g len (M2 g len (M1 g tl len t S))).1) ∧ (kd ≠ 0 → a = nameT g tl len (M3 g len (M2 g len (M1 g tl len t S))).1) ∧ (kd = 1 → c = colF g len (MN g tl len (M3 g len (M2 g len (M1 g tl len t S)))).1 ∧ r = woF g len (MC g len (MN g tl len (M3 g len (M2 g len (M1 g tl len t S))))).1 ∧ b = sgV g len (MQ9 g len (MC g len (MN g tl len (M3 g len (M2 g len (M1 g tl len t S))))))) ∧ (kd = 2 ∨ kd = 3 → b = sgV g len (MN g tl len (M3 g len (M2 g len (M1 g tl len t S))))) ∧ (kd = 4 ∨ kd = 5 → b = woF g len (MN g tl len (M3 g len (M2 g len (M1 g tl len t S)))).1) ∧ (kd = 11 ∨ kd = 12 → b = nameT g tl len (MN g tl len (M3 g len (M2 g len (M1 g tl len t S)))).1) ∧ (6 ≤ kd ∧ kd ≤ 10 → b = 0)))) := by
  refine ct_of (own := RX12) (lv := [(0, .ref m)]) (by decide +kernel) rfl (Nat.le_of_ble_eq_true rfl) rfl ?_
  intro G9 hG hZ
  have sr := ht.2.2.2.2
  have hj1_ : ∀ (L9 : Int) , L9 = letr g len S.1 → J G9 0 0 f 23 [(0, .ref m)] [.int (iZ (L9))] := by
    intro L9  hL9
    have lr9 := letr_rng (g := g) (len := len) (s := S.1)
    refine j_istore_n (lv' := [(0, .ref m), (1, .int (iZ (L9)))]) hG dX12_readTable_23 rfl (by decide) rfl ?_
    refine j_aload_n hG dX12_readTable_24 rfl rfl ?_
    have hj2_ : ∀ (z1 : Int) , z1 = (if letr g len S.1 ≠ -1 ∧ tl (letr g len S.1) = -1 ∧ t < 12 then 1 else 0) → J G9 0 0 f 54 [(0, .ref m), (1, .int (iZ (L9)))] [.int (iZ (z1)), .ref m] := by
      intro z1  hz1
      have z81 : z1 = 0 ∨ z1 = 1 := by rw [hz1]; split; exact Or.inr rfl; exact Or.inl rfl
      refine j_callV (rest := []) hG vX12_262 dX12_readTable_54 (c_X12_must (z := z1) (S := S) hW h44 h43 hl hg ht (by omega)) hW.1 rfl rfl (by decide) (by decide) (Nat.le_of_ble_eq_true rfl) rfl rfl (Nat.zero_le _) (Nat.zero_le _) ?_
      rintro _ f7_ ⟨rfl, V3_, hW4_, ht5_, ho6_⟩
      refine j_st (st' := []) rfl ?_
      have h448_ : V3_ 44 = len := (ho6_ 44 (by decide) (by decide) (by decide) (by decide) (by decide) (by decide)).trans h44
      have ht9_ : tk V3_ g len (M1 g tl len t S) := by have q := ht5_; rw [hz1] at q; exact q
      refine j_aload_n hG dX12_readTable_57 rfl rfl ?_
      refine j_aload_n hG dX12_readTable_58 rfl rfl ?_
      refine j_bipush hG dX12_readTable_59 (by decide) ?_
      refine j_callV (rest := [.ref m]) hG vX12_266 dX12_readTable_61 (c_X12_isSign (g := g) (len := len) (s := (M1 g tl len t S).1) (c := 61) hW4_ ht9_.1.2.2.1 ht9_.1.2.2.2 ht9_.2.2.2.2 hg (by omega)) hW4_.1 rfl rfl (by decide) (by decide) (Nat.le_of_ble_eq_true rfl) rfl rfl (Nat.zero_le _) (Nat.zero_le _) ?_
      rintro _ _ ⟨⟨z10_, rfl, hz11_⟩, rfl⟩
      refine j_st (st' := [.int (iZ (z10_)), .ref m]) rfl ?_
      have hz2 : z10_ = (if sgn g len (M1 g tl len t S).1 61 = true then 1 else 0) := by rcases hz11_ with q | q; (rw [q.1, if_pos q.2]); (rw [q.1, if_neg (by rw [q.2]; decide)])
      have z82 : z10_ = 0 ∨ z10_ = 1 := by rcases hz11_ with q | q; exact Or.inr q.1; exact Or.inl q.1
      refine j_callV (rest := []) hG vX12_262 dX12_readTable_64 (c_X12_must (z := z10_) (S := (M1 g tl len t S)) hW4_ h448_ h43 hl hg ht9_ (by omega)) hW4_.1 rfl rfl (by decide) (by decide) (Nat.le_of_ble_eq_true rfl) rfl rfl (Nat.zero_le _) (Nat.zero_le _) ?_
      rintro _ f18_ ⟨rfl, V14_, hW15_, ht16_, ho17_⟩
      refine j_st (st' := []) rfl ?_
      have ho19_ := othM_tr ho6_ ho17_
      have h4420_ : V14_ 44 = len := (ho17_ 44 (by decide) (by decide) (by decide) (by decide) (by decide) (by decide)).trans h448_
      have ht21_ : tk V14_ g len (M2 g len (M1 g tl len t S)) := by have q := ht16_; rw [hz2] at q; exact q
      refine j_aload_n hG dX12_readTable_67 rfl rfl ?_
      obtain ⟨kd, hkd⟩ : ∃ kd, kd = kdF g len (M2 g len (M1 g tl len t S)).1 := ⟨_, rfl⟩
      refine j_callV (rest := []) hG vX12_283 dX12_readTable_68 (c_X12_kindAt (g := g) (len := len) (S := (M2 g len (M1 g tl len t S))) hW15_ hg ht21_) hW15_.1 rfl rfl (by decide) (by decide) (Nat.le_of_ble_eq_true rfl) rfl rfl (Nat.zero_le _) (Nat.zero_le _) ?_
      rintro _ _ ⟨rfl, rfl⟩
      rw [← hkd]
      refine j_st (st' := [.int (iZ (kd))]) rfl ?_
      refine j_istore_n (lv' := [(0, .ref m), (1, .int (iZ (L9))), (2, .int (iZ (kd)))]) hG dX12_readTable_71 rfl (by decide) rfl ?_
      have kr9 : -1 ≤ kd ∧ kd ≤ 12 := by rw [hkd]; exact kdF_rng
      refine j_aload_n hG dX12_readTable_72 rfl rfl ?_
      have hj22_ : ∀ (z3 : Int) , z3 = (if kdF g len (M2 g len (M1 g tl len t S)).1 ≠ -1 then 1 else 0) → J G9 0 0 f18_ 83 [(0, .ref m), (1, .int (iZ (L9))), (2, .int (iZ (kd)))] [.int (iZ (z3)), .ref m] := by
        intro z3  hz3
        have z83 : z3 = 0 ∨ z3 = 1 := by rw [hz3]; split; exact Or.inr rfl; exact Or.inl rfl
        refine j_callV (rest := []) hG vX12_262 dX12_readTable_83 (c_X12_must (z := z3) (S := (M2 g len (M1 g tl len t S))) hW15_ h4420_ h43 hl hg ht21_ (by omega)) hW15_.1 rfl rfl (by decide) (by decide) (Nat.le_of_ble_eq_true rfl) rfl rfl (Nat.zero_le _) (Nat.zero_le _) ?_
        rintro _ f27_ ⟨rfl, V23_, hW24_, ht25_, ho26_⟩
        refine j_st (st' := []) rfl ?_
        have ho28_ := othM_tr ho19_ ho26_
        have h4429_ : V23_ 44 = len := (ho26_ 44 (by decide) (by decide) (by decide) (by decide) (by decide) (by decide)).trans h4420_
        have ht30_ : tk V23_ g len (M3 g len (M2 g len (M1 g tl len t S))) := by have q := ht25_; rw [hz3] at q; exact q
        refine j_iload_n hG dX12_readTable_86 rfl rfl ?_
        refine j_if_ne (tgt := 101) hG dX12_readTable_87 (by decide) (by omega) (fun c31_ => ?_) (fun c31_ => ?_)
        · -- taken at 87
          refine j_aload_n hG dX12_readTable_101 rfl rfl ?_
          refine j_callV (rest := []) hG vX12_287 dX12_readTable_102 (c_X12_name (g := g) (len := len) (S := (M3 g len (M2 g len (M1 g tl len t S)))) (tl := tl) hW24_ h4429_ h43 hl hg ht30_ h42 htr) hW24_.1 rfl rfl (by decide) (by decide) (Nat.le_of_ble_eq_true rfl) rfl rfl (Nat.zero_le _) (Nat.zero_le _) ?_
          rintro _ f36_ ⟨rfl, V32_, hW33_, ht34_, ho35_⟩
          refine j_st (st' := [.int (iZ (nameT g tl len (M3 g len (M2 g len (M1 g tl len t S))).1))]) rfl ?_
          have ho37_ := othM_tr ho28_ ho35_
          have h4438_ : V32_ 44 = len := (ho35_ 44 (by decide) (by decide) (by decide) (by decide) (by decide) (by decide)).trans h4429_
          have ht39_ : tk V32_ g len (MN g tl len (M3 g len (M2 g len (M1 g tl len t S)))) := ht34_
          refine j_istore_n (lv' := [(0, .ref m), (1, .int (iZ (L9))), (2, .int (iZ (kd))), (3, .int (iZ (nameT g tl len (M3 g len (M2 g len (M1 g tl len t S))).1)))]) hG dX12_readTable_105 rfl (by decide) rfl ?_
          refine j_iconst hG dX12_readTable_106 ?_
          refine j_istore (lv' := [(0, .ref m), (1, .int (iZ (L9))), (2, .int (iZ (kd))), (3, .int (iZ (nameT g tl len (M3 g len (M2 g len (M1 g tl len t S))).1))), (4, .int (iZ (0)))]) hG dX12_readTable_107 (by decide) rfl ?_
          refine j_iconst hG dX12_readTable_109 ?_
          refine j_istore (lv' := [(0, .ref m), (1, .int (iZ (L9))), (2, .int (iZ (kd))), (3, .int (iZ (nameT g tl len (M3 g len (M2 g len (M1 g tl len t S))).1))), (4, .int (iZ (0))), (5, .int (iZ (0)))]) hG dX12_readTable_110 (by decide) rfl ?_
          refine j_iconst hG dX12_readTable_112 ?_
          refine j_istore (lv' := [(0, .ref m), (1, .int (iZ (L9))), (2, .int (iZ (kd))), (3, .int (iZ (nameT g tl len (M3 g len (M2 g len (M1 g tl len t S))).1))), (4, .int (iZ (0))), (5, .int (iZ (0))), (6, .int (iZ (0)))]) hG dX12_readTable_113 (by decide) rfl ?_
          refine j_iload_n hG dX12_readTable_115 rfl rfl ?_
          refine j_iconst hG dX12_readTable_116 ?_
          refine j_icmp_ne (tgt := 249) hG dX12_readTable_117 (by decide) (by omega) (by omega) (fun c40_ => ?_) (fun c40_ => ?_)
          · -- taken at 117
            refine j_iload_n hG dX12_readTable_249 rfl rfl ?_
            refine j_iconst hG dX12_readTable_250 ?_
            refine j_icmp_eq (tgt := 259) hG dX12_readTable_251 (by decide) (by omega) (by omega) (fun c41_ => ?_) (fun c41_ => ?_)
            · -- taken at 251
              have hk9 : kd = 2 := by omega
              subst hk9
              refine j_aload_n hG dX12_readTable_259 rfl rfl ?_
              refine j_callV (rest := []) hG vX12_290 dX12_readTable_260 (c_X12_signed (g := g) (len := len) (S := (MN g tl len (M3 g len (M2 g len (M1 g tl len t S)))))  hW33_ h4438_ h43 hl hg ht39_ ) hW33_.1 rfl rfl (by decide) (by decide) (Nat.le_of_ble_eq_true rfl) rfl rfl (Nat.zero_le _) (Nat.zero_le _) ?_
              rintro _ f46_ ⟨rfl, V42_, hW43_, ht44_, ho45_⟩
              refine j_st (st' := [.int (iZ (sgV g len (MN g tl len (M3 g len (M2 g len (M1 g tl len t S))))))]) rfl ?_
              have ho47_ := othM_tr ho37_ ho45_
              have h4448_ : V42_ 44 = len := (ho45_ 44 (by decide) (by decide) (by decide) (by decide) (by decide) (by decide)).trans h4438_
              have ht49_ : tk V42_ g len (MD g len 0 1000 (sgS g len (MN g tl len (M3 g len (M2 g len (M1 g tl len t S)))))) := ht44_
              refine j_istore (lv' := [(0, .ref m), (1, .int (iZ (L9))), (2, .int (iZ (2))), (3, .int (iZ (nameT g tl len (M3 g len (M2 g len (M1 g tl len t S))).1))), (4, .int (iZ (sgV g len (MN g tl len (M3 g len (M2 g len (M1 g tl len t S))))))), (5, .int (iZ (0))), (6, .int (iZ (0)))]) hG dX12_readTable_263 (by decide) rfl ?_
              refine j_goto (tgt := 325) hG dX12_readTable_265 (by decide) ?_
              refine j_aload_n hG dX12_readTable_325 rfl rfl ?_
              have b9_ := ht49_.2.2.2.1
              refine j_get (v := .int (iZ (V42_ 50))) hG fX12_256 dX12_readTable_326 hW43_.1 rfl ?_
              refine j_eq (show (V42_ 50 : Int) = ((MD g len 0 1000 (sgS g len (MN g tl len (M3 g len (M2 g len (M1 g tl len t S)))))).2.1 : Int) from ht49_.2.1) ?_
              refine j_if_eq (tgt := 333) hG dX12_readTable_329 (by decide) (by omega) (fun c50_ => ?_) (fun c50_ => ?_)
              · -- taken at 329
                have eR : RK g tl len 2 (M3 g len (M2 g len (M1 g tl len t S))) = (MD g len 0 1000 (sgS g len (MN g tl len (M3 g len (M2 g len (M1 g tl len t S)))))) := by unfold RK; (repeat (first | rw [if_pos (by omega)] | rw [if_neg (by omega)]))
                have ok9 := rt_ok (g := g) (tl := tl) (len := len) (kd := 2) (t := t) (S := S) (by rw [eR]; omega)
                refine j_aload_n hG dX12_readTable_333 rfl rfl ?_
                refine j_get (v := .ref (A 37)) hG fX12_93 dX12_readTable_334 hW43_.1 rfl ?_
                refine j_aload_n hG dX12_readTable_337 rfl rfl ?_
                refine j_get (v := .int (iZ (V42_ 36))) hG fX12_280 dX12_readTable_338 hW43_.1 rfl ?_
                refine j_eq (show (V42_ 36 : Int) = ((t : Int) : Int) from ((ho47_ 36 (by decide) (by decide) (by decide) (by decide) (by decide) (by decide)).trans h36)) ?_
                refine j_iload_n hG dX12_readTable_341 rfl rfl ?_
                refine j_iast hG dX12_readTable_342 (MF_a37 hW43_) (by omega) (by decide) (fun f51_ h52_ fr53_ => ?_)
                have hW54_ : MF E rg f0 f51_ m A V42_ (up G 37 (fup (G 37) (t : Int) 2)) := MF_a hW43_ 37 rfl h52_ fr53_
                refine j_aload_n hG dX12_readTable_343 rfl rfl ?_
                refine j_get (v := .ref (A 38)) hG fX12_96 dX12_readTable_344 hW54_.1 rfl ?_
                refine j_aload_n hG dX12_readTable_347 rfl rfl ?_
                refine j_get (v := .int (iZ (V42_ 36))) hG fX12_280 dX12_readTable_348 hW54_.1 rfl ?_
                refine j_eq (show (V42_ 36 : Int) = ((t : Int) : Int) from ((ho47_ 36 (by decide) (by decide) (by decide) (by decide) (by decide) (by decide)).trans h36)) ?_
                refine j_iload_n hG dX12_readTable_351 rfl rfl ?_
                refine j_iast hG dX12_readTable_352 (MF_a38 hW54_) (by omega) (by decide) (fun f55_ h56_ fr57_ => ?_)
                have hW58_ : MF E rg f0 f55_ m A V42_ (up (up G 37 (fup (G 37) (t : Int) 2)) 38 (fup (G 38) (t : Int) (nameT g tl len (M3 g len (M2 g len (M1 g tl len t S))).1))) := MF_a hW54_ 38 rfl h56_ fr57_
                refine j_aload_n hG dX12_readTable_353 rfl rfl ?_
                refine j_get (v := .ref (A 39)) hG fX12_99 dX12_readTable_354 hW58_.1 rfl ?_
                refine j_aload_n hG dX12_readTable_357 rfl rfl ?_
                refine j_get (v := .int (iZ (V42_ 36))) hG fX12_280 dX12_readTable_358 hW58_.1 rfl ?_
                refine j_eq (show (V42_ 36 : Int) = ((t : Int) : Int) from ((ho47_ 36 (by decide) (by decide) (by decide) (by decide) (by decide) (by decide)).trans h36)) ?_
                refine j_iload hG dX12_readTable_361 rfl ?_
                refine j_iast hG dX12_readTable_363 (MF_a39 hW58_) (by omega) (by decide) (fun f59_ h60_ fr61_ => ?_)
                have hW62_ : MF E rg f0 f59_ m A V42_ (up (up (up G 37 (fup (G 37) (t : Int) 2)) 38 (fup (G 38) (t : Int) (nameT g tl len (M3 g len (M2 g len (M1 g tl len t S))).1))) 39 (fup (G 39) (t : Int) (sgV g len (MN g tl len (M3 g len (M2 g len (M1 g tl len t S))))))) := MF_a hW58_ 39 rfl h60_ fr61_
                refine j_aload_n hG dX12_readTable_364 rfl rfl ?_
                refine j_get (v := .ref (A 40)) hG fX12_102 dX12_readTable_365 hW62_.1 rfl ?_
                refine j_aload_n hG dX12_readTable_368 rfl rfl ?_
                refine j_get (v := .int (iZ (V42_ 36))) hG fX12_280 dX12_readTable_369 hW62_.1 rfl ?_
                refine j_eq (show (V42_ 36 : Int) = ((t : Int) : Int) from ((ho47_ 36 (by decide) (by decide) (by decide) (by decide) (by decide) (by decide)).trans h36)) ?_
                refine j_iload hG dX12_readTable_372 rfl ?_
                refine j_iast hG dX12_readTable_374 (MF_a40 hW62_) (by omega) (by decide) (fun f63_ h64_ fr65_ => ?_)
                have hW66_ : MF E rg f0 f63_ m A V42_ (up (up (up (up G 37 (fup (G 37) (t : Int) 2)) 38 (fup (G 38) (t : Int) (nameT g tl len (M3 g len (M2 g len (M1 g tl len t S))).1))) 39 (fup (G 39) (t : Int) (sgV g len (MN g tl len (M3 g len (M2 g len (M1 g tl len t S))))))) 40 (fup (G 40) (t : Int) 0)) := MF_a hW62_ 40 rfl h64_ fr65_
                refine j_aload_n hG dX12_readTable_375 rfl rfl ?_
                refine j_get (v := .ref (A 41)) hG fX12_105 dX12_readTable_376 hW66_.1 rfl ?_
                refine j_aload_n hG dX12_readTable_379 rfl rfl ?_
                refine j_get (v := .int (iZ (V42_ 36))) hG fX12_280 dX12_readTable_380 hW66_.1 rfl ?_
                refine j_eq (show (V42_ 36 : Int) = ((t : Int) : Int) from ((ho47_ 36 (by decide) (by decide) (by decide) (by decide) (by decide) (by decide)).trans h36)) ?_
                refine j_iload hG dX12_readTable_383 rfl ?_
                refine j_iast hG dX12_readTable_385 (MF_a41 hW66_) (by omega) (by decide) (fun f67_ h68_ fr69_ => ?_)
                have hW70_ : MF E rg f0 f67_ m A V42_ (up (up (up (up (up G 37 (fup (G 37) (t : Int) 2)) 38 (fup (G 38) (t : Int) (nameT g tl len (M3 g len (M2 g len (M1 g tl len t S))).1))) 39 (fup (G 39) (t : Int) (sgV g len (MN g tl len (M3 g len (M2 g len (M1 g tl len t S))))))) 40 (fup (G 40) (t : Int) 0)) 41 (fup (G 41) (t : Int) 0)) := MF_a hW66_ 41 rfl h68_ fr69_
                refine j_aload_n hG dX12_readTable_386 rfl rfl ?_
                refine j_get (v := .ref (A 42)) hG fX12_108 dX12_readTable_387 hW70_.1 rfl ?_
                refine j_iload_n hG dX12_readTable_390 rfl rfl ?_
                refine j_aload_n hG dX12_readTable_391 rfl rfl ?_
                refine j_get (v := .int (iZ (V42_ 36))) hG fX12_280 dX12_readTable_392 hW70_.1 rfl ?_
                refine j_eq (show (V42_ 36 : Int) = ((t : Int) : Int) from ((ho47_ 36 (by decide) (by decide) (by decide) (by decide) (by decide) (by decide)).trans h36)) ?_
                refine j_iast hG dX12_readTable_395 (MF_a42 hW70_) (by omega) (by decide) (fun f71_ h72_ fr73_ => ?_)
                have hW74_ : MF E rg f0 f71_ m A V42_ (up (up (up (up (up (up G 37 (fup (G 37) (t : Int) 2)) 38 (fup (G 38) (t : Int) (nameT g tl len (M3 g len (M2 g len (M1 g tl len t S))).1))) 39 (fup (G 39) (t : Int) (sgV g len (MN g tl len (M3 g len (M2 g len (M1 g tl len t S))))))) 40 (fup (G 40) (t : Int) 0)) 41 (fup (G 41) (t : Int) 0)) 42 (fup (G 42) L9 (t : Int))) := MF_a hW70_ 42 rfl h72_ fr73_
                refine j_aload_n hG dX12_readTable_396 rfl rfl ?_
                refine j_dup hG dX12_readTable_397 rfl ?_
                refine j_get (v := .int (iZ (V42_ 36))) hG fX12_280 dX12_readTable_398 hW74_.1 rfl ?_
                refine j_iconst hG dX12_readTable_401 ?_
                refine j_iadd hG dX12_readTable_402 ?_
                refine j_put hG pX12_280 dX12_readTable_403 hW74_.1 rfl rfl (Nat.le_of_ble_eq_true rfl) (fun f75_ h76_ fr77_ => ?_)
                have hW78_ : MF E rg f0 f75_ m A (up V42_ 36 ((V42_ 36) + 1)) (up (up (up (up (up (up G 37 (fup (G 37) (t : Int) 2)) 38 (fup (G 38) (t : Int) (nameT g tl len (M3 g len (M2 g len (M1 g tl len t S))).1))) 39 (fup (G 39) (t : Int) (sgV g len (MN g tl len (M3 g len (M2 g len (M1 g tl len t S))))))) 40 (fup (G 40) (t : Int) 0)) 41 (fup (G 41) (t : Int) 0)) 42 (fup (G 42) L9 (t : Int))) := MF_p36 hW74_ h76_ fr77_
                exact j_vret hG hZ dX12_readTable_406 (Nat.zero_le _) (Nat.zero_le _) (⟨rfl, _, _, 2, hkd, hW78_, by rw [eR]; exact ht49_, fun i i0 a b c d e f => by rw [up_n _ _ i0]; exact ho47_ i a b c d e f, Or.inr ⟨by rw [eR]; omega, by show V42_ 36 + 1 = _; rw [ho47_ 36 (by decide) (by decide) (by decide) (by decide) (by decide) (by decide), h36], (nameT g tl len (M3 g len (M2 g len (M1 g tl len t S))).1), (sgV g len (MN g tl len (M3 g len (M2 g len (M1 g tl len t S))))), 0, 0, by rw [h42, hL9], fun q => by omega, fun _ => rfl, fun q => by omega, fun _ => rfl, fun q => by omega, fun q => by omega, fun q => by omega⟩⟩)
              · -- on at 329
                have eR : RK g tl len 2 (M3 g len (M2 g len (M1 g tl len t S))) = (MD g len 0 1000 (sgS g len (MN g tl len (M3 g len (M2 g len (M1 g tl len t S)))))) := by unfold RK; (repeat (first | rw [if_pos (by omega)] | rw [if_neg (by omega)]))
                exact j_vret hG hZ dX12_readTable_332 (Nat.zero_le _) (Nat.zero_le _) (⟨rfl, V42_, G, 2, hkd, hW43_, by rw [eR]; exact ht49_, fun i i0 a b c d e f => ho47_ i a b c d e f, Or.inl ⟨by rw [eR]; omega, (ho47_ 36 (by decide) (by decide) (by decide) (by decide) (by decide) (by decide)).trans h36, rfl⟩⟩)
            · -- on at 251
              refine j_iload_n hG dX12_readTable_254 rfl rfl ?_
              refine j_iconst hG dX12_readTable_255 ?_
              refine j_icmp_ne (tgt := 268) hG dX12_readTable_256 (by decide) (by omega) (by omega) (fun c79_ => ?_) (fun c79_ => ?_)
              · -- taken at 256
                refine j_iload_n hG dX12_readTable_268 rfl rfl ?_
                refine j_iconst hG dX12_readTable_269 ?_
                refine j_icmp_eq (tgt := 278) hG dX12_readTable_270 (by decide) (by omega) (by omega) (fun c80_ => ?_) (fun c80_ => ?_)
                · -- taken at 270
                  have hk9 : kd = 4 := by omega
                  subst hk9
                  refine j_iload_n hG dX12_readTable_278 rfl rfl ?_
                  refine j_iconst hG dX12_readTable_279 ?_
                  refine j_icmp_ne (tgt := 294) hG dX12_readTable_280 (by decide) (by omega) (by omega) (fun c81_ => ?_) (fun c81_ => ?_)
                  · -- taken at 280
                    exfalso; omega
                  · -- on at 280
                    refine j_aload_n hG dX12_readTable_283 rfl rfl ?_
                    refine j_lconst (y := 0) hG dX12_readTable_284 (by decide) ?_
                    refine j_ldc2 (z := 31) hG dX12_readTable_285 kX12_132 (by decide) ?_
                    refine j_callV (rest := []) hG vX12_269 dX12_readTable_288 (c_X12_number (g := g) (len := len) (S := (MN g tl len (M3 g len (M2 g len (M1 g tl len t S))))) (lo := 0) (hi := 31) hW33_ h4438_ h43 hl hg ht39_ (by omega) (by omega)) hW33_.1 rfl rfl (by decide) (by decide) (Nat.le_of_ble_eq_true rfl) rfl rfl (Nat.zero_le _) (Nat.zero_le _) ?_
                    rintro _ f86_ ⟨rfl, V82_, hW83_, ht84_, ho85_⟩
                    refine j_st (st' := [.int (iZ (woF g len (MN g tl len (M3 g len (M2 g len (M1 g tl len t S)))).1))]) rfl ?_
                    have ho87_ := othM_tr ho37_ ho85_
                    have h4488_ : V82_ 44 = len := (ho85_ 44 (by decide) (by decide) (by decide) (by decide) (by decide) (by decide)).trans h4438_
                    have ht89_ : tk V82_ g len (MD g len 0 31 (MN g tl len (M3 g len (M2 g len (M1 g tl len t S))))) := ht84_
                    refine j_goto (tgt := 302) hG dX12_readTable_291 (by decide) ?_
                    refine j_istore (lv' := [(0, .ref m), (1, .int (iZ (L9))), (2, .int (iZ (4))), (3, .int (iZ (nameT g tl len (M3 g len (M2 g len (M1 g tl len t S))).1))), (4, .int (iZ (woF g len (MN g tl len (M3 g len (M2 g len (M1 g tl len t S)))).1))), (5, .int (iZ (0))), (6, .int (iZ (0)))]) hG dX12_readTable_302 (by decide) rfl ?_
                    refine j_goto (tgt := 325) hG dX12_readTable_304 (by decide) ?_
                    refine j_aload_n hG dX12_readTable_325 rfl rfl ?_
                    have b9_ := ht89_.2.2.2.1
                    refine j_get (v := .int (iZ (V82_ 50))) hG fX12_256 dX12_readTable_326 hW83_.1 rfl ?_
                    refine j_eq (show (V82_ 50 : Int) = ((MD g len 0 31 (MN g tl len (M3 g len (M2 g len (M1 g tl len t S))))).2.1 : Int) from ht89_.2.1) ?_
                    refine j_if_eq (tgt := 333) hG dX12_readTable_329 (by decide) (by omega) (fun c90_ => ?_) (fun c90_ => ?_)
                    · -- taken at 329
                      have eR : RK g tl len 4 (M3 g len (M2 g len (M1 g tl len t S))) = (MD g len 0 31 (MN g tl len (M3 g len (M2 g len (M1 g tl len t S))))) := by unfold RK; (repeat (first | rw [if_pos (by omega)] | rw [if_neg (by omega)]))
                      have ok9 := rt_ok (g := g) (tl := tl) (len := len) (kd := 4) (t := t) (S := S) (by rw [eR]; omega)
                      refine j_aload_n hG dX12_readTable_333 rfl rfl ?_
                      refine j_get (v := .ref (A 37)) hG fX12_93 dX12_readTable_334 hW83_.1 rfl ?_
                      refine j_aload_n hG dX12_readTable_337 rfl rfl ?_
                      refine j_get (v := .int (iZ (V82_ 36))) hG fX12_280 dX12_readTable_338 hW83_.1 rfl ?_
                      refine j_eq (show (V82_ 36 : Int) = ((t : Int) : Int) from ((ho87_ 36 (by decide) (by decide) (by decide) (by decide) (by decide) (by decide)).trans h36)) ?_
                      refine j_iload_n hG dX12_readTable_341 rfl rfl ?_
                      refine j_iast hG dX12_readTable_342 (MF_a37 hW83_) (by omega) (by decide) (fun f91_ h92_ fr93_ => ?_)
                      have hW94_ : MF E rg f0 f91_ m A V82_ (up G 37 (fup (G 37) (t : Int) 4)) := MF_a hW83_ 37 rfl h92_ fr93_
                      refine j_aload_n hG dX12_readTable_343 rfl rfl ?_
                      refine j_get (v := .ref (A 38)) hG fX12_96 dX12_readTable_344 hW94_.1 rfl ?_
                      refine j_aload_n hG dX12_readTable_347 rfl rfl ?_
                      refine j_get (v := .int (iZ (V82_ 36))) hG fX12_280 dX12_readTable_348 hW94_.1 rfl ?_
                      refine j_eq (show (V82_ 36 : Int) = ((t : Int) : Int) from ((ho87_ 36 (by decide) (by decide) (by decide) (by decide) (by decide) (by decide)).trans h36)) ?_
                      refine j_iload_n hG dX12_readTable_351 rfl rfl ?_
                      refine j_iast hG dX12_readTable_352 (MF_a38 hW94_) (by omega) (by decide) (fun f95_ h96_ fr97_ => ?_)
                      have hW98_ : MF E rg f0 f95_ m A V82_ (up (up G 37 (fup (G 37) (t : Int) 4)) 38 (fup (G 38) (t : Int) (nameT g tl len (M3 g len (M2 g len (M1 g tl len t S))).1))) := MF_a hW94_ 38 rfl h96_ fr97_
                      refine j_aload_n hG dX12_readTable_353 rfl rfl ?_
                      refine j_get (v := .ref (A 39)) hG fX12_99 dX12_readTable_354 hW98_.1 rfl ?_
                      refine j_aload_n hG dX12_readTable_357 rfl rfl ?_
                      refine j_get (v := .int (iZ (V82_ 36))) hG fX12_280 dX12_readTable_358 hW98_.1 rfl ?_
                      refine j_eq (show (V82_ 36 : Int) = ((t : Int) : Int) from ((ho87_ 36 (by decide) (by decide) (by decide) (by decide) (by decide) (by decide)).trans h36)) ?_
                      refine j_iload hG dX12_readTable_361 rfl ?_
                      refine j_iast hG dX12_readTable_363 (MF_a39 hW98_) (by omega) (by decide) (fun f99_ h100_ fr101_ => ?_)
                      have hW102_ : MF E rg f0 f99_ m A V82_ (up (up (up G 37 (fup (G 37) (t : Int) 4)) 38 (fup (G 38) (t : Int) (nameT g tl len (M3 g len (M2 g len (M1 g tl len t S))).1))) 39 (fup (G 39) (t : Int) (woF g len (MN g tl len (M3 g len (M2 g len (M1 g tl len t S)))).1))) := MF_a hW98_ 39 rfl h100_ fr101_
                      refine j_aload_n hG dX12_readTable_364 rfl rfl ?_
                      refine j_get (v := .ref (A 40)) hG fX12_102 dX12_readTable_365 hW102_.1 rfl ?_
                      refine j_aload_n hG dX12_readTable_368 rfl rfl ?_
                      refine j_get (v := .int (iZ (V82_ 36))) hG fX12_280 dX12_readTable_369 hW102_.1 rfl ?_
                      refine j_eq (show (V82_ 36 : Int) = ((t : Int) : Int) from ((ho87_ 36 (by decide) (by decide) (by decide) (by decide) (by decide) (by decide)).trans h36)) ?_
                      refine j_iload hG dX12_readTable_372 rfl ?_
                      refine j_iast hG dX12_readTable_374 (MF_a40 hW102_) (by omega) (by decide) (fun f103_ h104_ fr105_ => ?_)
                      have hW106_ : MF E rg f0 f103_ m A V82_ (up (up (up (up G 37 (fup (G 37) (t : Int) 4)) 38 (fup (G 38) (t : Int) (nameT g tl len (M3 g len (M2 g len (M1 g tl len t S))).1))) 39 (fup (G 39) (t : Int) (woF g len (MN g tl len (M3 g len (M2 g len (M1 g tl len t S)))).1))) 40 (fup (G 40) (t : Int) 0)) := MF_a hW102_ 40 rfl h104_ fr105_
                      refine j_aload_n hG dX12_readTable_375 rfl rfl ?_
                      refine j_get (v := .ref (A 41)) hG fX12_105 dX12_readTable_376 hW106_.1 rfl ?_
                      refine j_aload_n hG dX12_readTable_379 rfl rfl ?_
                      refine j_get (v := .int (iZ (V82_ 36))) hG fX12_280 dX12_readTable_380 hW106_.1 rfl ?_
                      refine j_eq (show (V82_ 36 : Int) = ((t : Int) : Int) from ((ho87_ 36 (by decide) (by decide) (by decide) (by decide) (by decide) (by decide)).trans h36)) ?_
                      refine j_iload hG dX12_readTable_383 rfl ?_
                      refine j_iast hG dX12_readTable_385 (MF_a41 hW106_) (by omega) (by decide) (fun f107_ h108_ fr109_ => ?_)
                      have hW110_ : MF E rg f0 f107_ m A V82_ (up (up (up (up (up G 37 (fup (G 37) (t : Int) 4)) 38 (fup (G 38) (t : Int) (nameT g tl len (M3 g len (M2 g len (M1 g tl len t S))).1))) 39 (fup (G 39) (t : Int) (woF g len (MN g tl len (M3 g len (M2 g len (M1 g tl len t S)))).1))) 40 (fup (G 40) (t : Int) 0)) 41 (fup (G 41) (t : Int) 0)) := MF_a hW106_ 41 rfl h108_ fr109_
                      refine j_aload_n hG dX12_readTable_386 rfl rfl ?_
                      refine j_get (v := .ref (A 42)) hG fX12_108 dX12_readTable_387 hW110_.1 rfl ?_
                      refine j_iload_n hG dX12_readTable_390 rfl rfl ?_
                      refine j_aload_n hG dX12_readTable_391 rfl rfl ?_
                      refine j_get (v := .int (iZ (V82_ 36))) hG fX12_280 dX12_readTable_392 hW110_.1 rfl ?_
                      refine j_eq (show (V82_ 36 : Int) = ((t : Int) : Int) from ((ho87_ 36 (by decide) (by decide) (by decide) (by decide) (by decide) (by decide)).trans h36)) ?_
                      refine j_iast hG dX12_readTable_395 (MF_a42 hW110_) (by omega) (by decide) (fun f111_ h112_ fr113_ => ?_)
                      have hW114_ : MF E rg f0 f111_ m A V82_ (up (up (up (up (up (up G 37 (fup (G 37) (t : Int) 4)) 38 (fup (G 38) (t : Int) (nameT g tl len (M3 g len (M2 g len (M1 g tl len t S))).1))) 39 (fup (G 39) (t : Int) (woF g len (MN g tl len (M3 g len (M2 g len (M1 g tl len t S)))).1))) 40 (fup (G 40) (t : Int) 0)) 41 (fup (G 41) (t : Int) 0)) 42 (fup (G 42) L9 (t : Int))) := MF_a hW110_ 42 rfl h112_ fr113_
                      refine j_aload_n hG dX12_readTable_396 rfl rfl ?_
                      refine j_dup hG dX12_readTable_397 rfl ?_
                      refine j_get (v := .int (iZ (V82_ 36))) hG fX12_280 dX12_readTable_398 hW114_.1 rfl ?_
                      refine j_iconst hG dX12_readTable_401 ?_
                      refine j_iadd hG dX12_readTable_402 ?_
                      refine j_put hG pX12_280 dX12_readTable_403 hW114_.1 rfl rfl (Nat.le_of_ble_eq_true rfl) (fun f115_ h116_ fr117_ => ?_)
                      have hW118_ : MF E rg f0 f115_ m A (up V82_ 36 ((V82_ 36) + 1)) (up (up (up (up (up (up G 37 (fup (G 37) (t : Int) 4)) 38 (fup (G 38) (t : Int) (nameT g tl len (M3 g len (M2 g len (M1 g tl len t S))).1))) 39 (fup (G 39) (t : Int) (woF g len (MN g tl len (M3 g len (M2 g len (M1 g tl len t S)))).1))) 40 (fup (G 40) (t : Int) 0)) 41 (fup (G 41) (t : Int) 0)) 42 (fup (G 42) L9 (t : Int))) := MF_p36 hW114_ h116_ fr117_
                      exact j_vret hG hZ dX12_readTable_406 (Nat.zero_le _) (Nat.zero_le _) (⟨rfl, _, _, 4, hkd, hW118_, by rw [eR]; exact ht89_, fun i i0 a b c d e f => by rw [up_n _ _ i0]; exact ho87_ i a b c d e f, Or.inr ⟨by rw [eR]; omega, by show V82_ 36 + 1 = _; rw [ho87_ 36 (by decide) (by decide) (by decide) (by decide) (by decide) (by decide), h36], (nameT g tl len (M3 g len (M2 g len (M1 g tl len t S))).1), (woF g len (MN g tl len (M3 g len (M2 g len (M1 g tl len t S)))).1), 0, 0, by rw [h42, hL9], fun q => by omega, fun _ => rfl, fun q => by omega, fun q => by omega, fun _ => rfl, fun q => by omega, fun q => by omega⟩⟩)
                    · -- on at 329
                      have eR : RK g tl len 4 (M3 g len (M2 g len (M1 g tl len t S))) = (MD g len 0 31 (MN g tl len (M3 g len (M2 g len (M1 g tl len t S))))) := by unfold RK; (repeat (first | rw [if_pos (by omega)] | rw [if_neg (by omega)]))
                      exact j_vret hG hZ dX12_readTable_332 (Nat.zero_le _) (Nat.zero_le _) (⟨rfl, V82_, G, 4, hkd, hW83_, by rw [eR]; exact ht89_, fun i i0 a b c d e f => ho87_ i a b c d e f, Or.inl ⟨by rw [eR]; omega, (ho87_ 36 (by decide) (by decide) (by decide) (by decide) (by decide) (by decide)).trans h36, rfl⟩⟩)
                · -- on at 270
                  refine j_iload_n hG dX12_readTable_273 rfl rfl ?_
                  refine j_iconst hG dX12_readTable_274 ?_
                  refine j_icmp_ne (tgt := 307) hG dX12_readTable_275 (by decide) (by omega) (by omega) (fun c119_ => ?_) (fun c119_ => ?_)
                  · -- taken at 275
                    refine j_iload_n hG dX12_readTable_307 rfl rfl ?_
                    refine j_bipush hG dX12_readTable_308 (by decide) ?_
                    refine j_icmp_eq (tgt := 319) hG dX12_readTable_310 (by decide) (by omega) (by omega) (fun c120_ => ?_) (fun c120_ => ?_)
                    · -- taken at 310
                      have hk9 : kd = 11 := by omega
                      subst hk9
                      refine j_aload_n hG dX12_readTable_319 rfl rfl ?_
                      refine j_callV (rest := []) hG vX12_287 dX12_readTable_320 (c_X12_name (g := g) (len := len) (S := (MN g tl len (M3 g len (M2 g len (M1 g tl len t S))))) (tl := tl) hW33_ h4438_ h43 hl hg ht39_ h42 htr) hW33_.1 rfl rfl (by decide) (by decide) (Nat.le_of_ble_eq_true rfl) rfl rfl (Nat.zero_le _) (Nat.zero_le _) ?_
                      rintro _ f125_ ⟨rfl, V121_, hW122_, ht123_, ho124_⟩
                      refine j_st (st' := [.int (iZ (nameT g tl len (MN g tl len (M3 g len (M2 g len (M1 g tl len t S)))).1))]) rfl ?_
                      have ho126_ := othM_tr ho37_ ho124_
                      have h44127_ : V121_ 44 = len := (ho124_ 44 (by decide) (by decide) (by decide) (by decide) (by decide) (by decide)).trans h4438_
                      have ht128_ : tk V121_ g len (MN g tl len (MN g tl len (M3 g len (M2 g len (M1 g tl len t S))))) := ht123_
                      refine j_istore (lv' := [(0, .ref m), (1, .int (iZ (L9))), (2, .int (iZ (11))), (3, .int (iZ (nameT g tl len (M3 g len (M2 g len (M1 g tl len t S))).1))), (4, .int (iZ (nameT g tl len (MN g tl len (M3 g len (M2 g len (M1 g tl len t S)))).1))), (5, .int (iZ (0))), (6, .int (iZ (0)))]) hG dX12_readTable_323 (by decide) rfl ?_
                      refine j_aload_n hG dX12_readTable_325 rfl rfl ?_
                      have b9_ := ht128_.2.2.2.1
                      refine j_get (v := .int (iZ (V121_ 50))) hG fX12_256 dX12_readTable_326 hW122_.1 rfl ?_
                      refine j_eq (show (V121_ 50 : Int) = ((MN g tl len (MN g tl len (M3 g len (M2 g len (M1 g tl len t S))))).2.1 : Int) from ht128_.2.1) ?_
                      refine j_if_eq (tgt := 333) hG dX12_readTable_329 (by decide) (by omega) (fun c129_ => ?_) (fun c129_ => ?_)
                      · -- taken at 329
                        have eR : RK g tl len 11 (M3 g len (M2 g len (M1 g tl len t S))) = (MN g tl len (MN g tl len (M3 g len (M2 g len (M1 g tl len t S))))) := by unfold RK; (repeat (first | rw [if_pos (by omega)] | rw [if_neg (by omega)]))
                        have ok9 := rt_ok (g := g) (tl := tl) (len := len) (kd := 11) (t := t) (S := S) (by rw [eR]; omega)
                        refine j_aload_n hG dX12_readTable_333 rfl rfl ?_
                        refine j_get (v := .ref (A 37)) hG fX12_93 dX12_readTable_334 hW122_.1 rfl ?_
                        refine j_aload_n hG dX12_readTable_337 rfl rfl ?_
                        refine j_get (v := .int (iZ (V121_ 36))) hG fX12_280 dX12_readTable_338 hW122_.1 rfl ?_
                        refine j_eq (show (V121_ 36 : Int) = ((t : Int) : Int) from ((ho126_ 36 (by decide) (by decide) (by decide) (by decide) (by decide) (by decide)).trans h36)) ?_
                        refine j_iload_n hG dX12_readTable_341 rfl rfl ?_
                        refine j_iast hG dX12_readTable_342 (MF_a37 hW122_) (by omega) (by decide) (fun f130_ h131_ fr132_ => ?_)
                        have hW133_ : MF E rg f0 f130_ m A V121_ (up G 37 (fup (G 37) (t : Int) 11)) := MF_a hW122_ 37 rfl h131_ fr132_
                        refine j_aload_n hG dX12_readTable_343 rfl rfl ?_
                        refine j_get (v := .ref (A 38)) hG fX12_96 dX12_readTable_344 hW133_.1 rfl ?_
                        refine j_aload_n hG dX12_readTable_347 rfl rfl ?_
                        refine j_get (v := .int (iZ (V121_ 36))) hG fX12_280 dX12_readTable_348 hW133_.1 rfl ?_
                        refine j_eq (show (V121_ 36 : Int) = ((t : Int) : Int) from ((ho126_ 36 (by decide) (by decide) (by decide) (by decide) (by decide) (by decide)).trans h36)) ?_
                        refine j_iload_n hG dX12_readTable_351 rfl rfl ?_
                        refine j_iast hG dX12_readTable_352 (MF_a38 hW133_) (by omega) (by decide) (fun f134_ h135_ fr136_ => ?_)
                        have hW137_ : MF E rg f0 f134_ m A V121_ (up (up G 37 (fup (G 37) (t : Int) 11)) 38 (fup (G 38) (t : Int) (nameT g tl len (M3 g len (M2 g len (M1 g tl len t S))).1))) := MF_a hW133_ 38 rfl h135_ fr136_
                        refine j_aload_n hG dX12_readTable_353 rfl rfl ?_
                        refine j_get (v := .ref (A 39)) hG fX12_99 dX12_readTable_354 hW137_.1 rfl ?_
                        refine j_aload_n hG dX12_readTable_357 rfl rfl ?_
                        refine j_get (v := .int (iZ (V121_ 36))) hG fX12_280 dX12_readTable_358 hW137_.1 rfl ?_
                        refine j_eq (show (V121_ 36 : Int) = ((t : Int) : Int) from ((ho126_ 36 (by decide) (by decide) (by decide) (by decide) (by decide) (by decide)).trans h36)) ?_
                        refine j_iload hG dX12_readTable_361 rfl ?_
                        refine j_iast hG dX12_readTable_363 (MF_a39 hW137_) (by omega) (by decide) (fun f138_ h139_ fr140_ => ?_)
                        have hW141_ : MF E rg f0 f138_ m A V121_ (up (up (up G 37 (fup (G 37) (t : Int) 11)) 38 (fup (G 38) (t : Int) (nameT g tl len (M3 g len (M2 g len (M1 g tl len t S))).1))) 39 (fup (G 39) (t : Int) (nameT g tl len (MN g tl len (M3 g len (M2 g len (M1 g tl len t S)))).1))) := MF_a hW137_ 39 rfl h139_ fr140_
                        refine j_aload_n hG dX12_readTable_364 rfl rfl ?_
                        refine j_get (v := .ref (A 40)) hG fX12_102 dX12_readTable_365 hW141_.1 rfl ?_
                        refine j_aload_n hG dX12_readTable_368 rfl rfl ?_
                        refine j_get (v := .int (iZ (V121_ 36))) hG fX12_280 dX12_readTable_369 hW141_.1 rfl ?_
                        refine j_eq (show (V121_ 36 : Int) = ((t : Int) : Int) from ((ho126_ 36 (by decide) (by decide) (by decide) (by decide) (by decide) (by decide)).trans h36)) ?_
                        refine j_iload hG dX12_readTable_372 rfl ?_
                        refine j_iast hG dX12_readTable_374 (MF_a40 hW141_) (by omega) (by decide) (fun f142_ h143_ fr144_ => ?_)
                        have hW145_ : MF E rg f0 f142_ m A V121_ (up (up (up (up G 37 (fup (G 37) (t : Int) 11)) 38 (fup (G 38) (t : Int) (nameT g tl len (M3 g len (M2 g len (M1 g tl len t S))).1))) 39 (fup (G 39) (t : Int) (nameT g tl len (MN g tl len (M3 g len (M2 g len (M1 g tl len t S)))).1))) 40 (fup (G 40) (t : Int) 0)) := MF_a hW141_ 40 rfl h143_ fr144_
                        refine j_aload_n hG dX12_readTable_375 rfl rfl ?_
                        refine j_get (v := .ref (A 41)) hG fX12_105 dX12_readTable_376 hW145_.1 rfl ?_
                        refine j_aload_n hG dX12_readTable_379 rfl rfl ?_
                        refine j_get (v := .int (iZ (V121_ 36))) hG fX12_280 dX12_readTable_380 hW145_.1 rfl ?_
                        refine j_eq (show (V121_ 36 : Int) = ((t : Int) : Int) from ((ho126_ 36 (by decide) (by decide) (by decide) (by decide) (by decide) (by decide)).trans h36)) ?_
                        refine j_iload hG dX12_readTable_383 rfl ?_
                        refine j_iast hG dX12_readTable_385 (MF_a41 hW145_) (by omega) (by decide) (fun f146_ h147_ fr148_ => ?_)
                        have hW149_ : MF E rg f0 f146_ m A V121_ (up (up (up (up (up G 37 (fup (G 37) (t : Int) 11)) 38 (fup (G 38) (t : Int) (nameT g tl len (M3 g len (M2 g len (M1 g tl len t S))).1))) 39 (fup (G 39) (t : Int) (nameT g tl len (MN g tl len (M3 g len (M2 g len (M1 g tl len t S)))).1))) 40 (fup (G 40) (t : Int) 0)) 41 (fup (G 41) (t : Int) 0)) := MF_a hW145_ 41 rfl h147_ fr148_
                        refine j_aload_n hG dX12_readTable_386 rfl rfl ?_
                        refine j_get (v := .ref (A 42)) hG fX12_108 dX12_readTable_387 hW149_.1 rfl ?_
                        refine j_iload_n hG dX12_readTable_390 rfl rfl ?_
                        refine j_aload_n hG dX12_readTable_391 rfl rfl ?_
                        refine j_get (v := .int (iZ (V121_ 36))) hG fX12_280 dX12_readTable_392 hW149_.1 rfl ?_
                        refine j_eq (show (V121_ 36 : Int) = ((t : Int) : Int) from ((ho126_ 36 (by decide) (by decide) (by decide) (by decide) (by decide) (by decide)).trans h36)) ?_
                        refine j_iast hG dX12_readTable_395 (MF_a42 hW149_) (by omega) (by decide) (fun f150_ h151_ fr152_ => ?_)
                        have hW153_ : MF E rg f0 f150_ m A V121_ (up (up (up (up (up (up G 37 (fup (G 37) (t : Int) 11)) 38 (fup (G 38) (t : Int) (nameT g tl len (M3 g len (M2 g len (M1 g tl len t S))).1))) 39 (fup (G 39) (t : Int) (nameT g tl len (MN g tl len (M3 g len (M2 g len (M1 g tl len t S)))).1))) 40 (fup (G 40) (t : Int) 0)) 41 (fup (G 41) (t : Int) 0)) 42 (fup (G 42) L9 (t : Int))) := MF_a hW149_ 42 rfl h151_ fr152_
                        refine j_aload_n hG dX12_readTable_396 rfl rfl ?_
                        refine j_dup hG dX12_readTable_397 rfl ?_
                        refine j_get (v := .int (iZ (V121_ 36))) hG fX12_280 dX12_readTable_398 hW153_.1 rfl ?_
                        refine j_iconst hG dX12_readTable_401 ?_
                        refine j_iadd hG dX12_readTable_402 ?_
                        refine j_put hG pX12_280 dX12_readTable_403 hW153_.1 rfl rfl (Nat.le_of_ble_eq_true rfl) (fun f154_ h155_ fr156_ => ?_)
                        have hW157_ : MF E rg f0 f154_ m A (up V121_ 36 ((V121_ 36) + 1)) (up (up (up (up (up (up G 37 (fup (G 37) (t : Int) 11)) 38 (fup (G 38) (t : Int) (nameT g tl len (M3 g len (M2 g len (M1 g tl len t S))).1))) 39 (fup (G 39) (t : Int) (nameT g tl len (MN g tl len (M3 g len (M2 g len (M1 g tl len t S)))).1))) 40 (fup (G 40) (t : Int) 0)) 41 (fup (G 41) (t : Int) 0)) 42 (fup (G 42) L9 (t : Int))) := MF_p36 hW153_ h155_ fr156_
                        exact j_vret hG hZ dX12_readTable_406 (Nat.zero_le _) (Nat.zero_le _) (⟨rfl, _, _, 11, hkd, hW157_, by rw [eR]; exact ht128_, fun i i0 a b c d e f => by rw [up_n _ _ i0]; exact ho126_ i a b c d e f, Or.inr ⟨by rw [eR]; omega, by show V121_ 36 + 1 = _; rw [ho126_ 36 (by decide) (by decide) (by decide) (by decide) (by decide) (by decide), h36], (nameT g tl len (M3 g len (M2 g len (M1 g tl len t S))).1), (nameT g tl len (MN g tl len (M3 g len (M2 g len (M1 g tl len t S)))).1), 0, 0, by rw [h42, hL9], fun q => by omega, fun _ => rfl, fun q => by omega, fun q => by omega, fun q => by omega, fun _ => rfl, fun q => by omega⟩⟩)
                      · -- on at 329
                        have eR : RK g tl len 11 (M3 g len (M2 g len (M1 g tl len t S))) = (MN g tl len (MN g tl len (M3 g len (M2 g len (M1 g tl len t S))))) := by unfold RK; (repeat (first | rw [if_pos (by omega)] | rw [if_neg (by omega)]))
                        exact j_vret hG hZ dX12_readTable_332 (Nat.zero_le _) (Nat.zero_le _) (⟨rfl, V121_, G, 11, hkd, hW122_, by rw [eR]; exact ht128_, fun i i0 a b c d e f => ho126_ i a b c d e f, Or.inl ⟨by rw [eR]; omega, (ho126_ 36 (by decide) (by decide) (by decide) (by decide) (by decide) (by decide)).trans h36, rfl⟩⟩)
                    · -- on at 310
                      refine j_iload_n hG dX12_readTable_313 rfl rfl ?_
                      refine j_bipush hG dX12_readTable_314 (by decide) ?_
                      refine j_icmp_ne (tgt := 325) hG dX12_readTable_316 (by decide) (by omega) (by omega) (fun c158_ => ?_) (fun c158_ => ?_)
                      · -- taken at 316
                        refine j_aload_n hG dX12_readTable_325 rfl rfl ?_
                        have b9_ := ht39_.2.2.2.1
                        refine j_get (v := .int (iZ (V32_ 50))) hG fX12_256 dX12_readTable_326 hW33_.1 rfl ?_
                        refine j_eq (show (V32_ 50 : Int) = ((MN g tl len (M3 g len (M2 g len (M1 g tl len t S)))).2.1 : Int) from ht39_.2.1) ?_
                        refine j_if_eq (tgt := 333) hG dX12_readTable_329 (by decide) (by omega) (fun c159_ => ?_) (fun c159_ => ?_)
                        · -- taken at 329
                          have eR : RK g tl len kd (M3 g len (M2 g len (M1 g tl len t S))) = (MN g tl len (M3 g len (M2 g len (M1 g tl len t S)))) := by unfold RK; (repeat (first | rw [if_pos (by omega)] | rw [if_neg (by omega)]))
                          have ok9 := rt_ok (g := g) (tl := tl) (len := len) (kd := kd) (t := t) (S := S) (by rw [eR]; omega)
                          refine j_aload_n hG dX12_readTable_333 rfl rfl ?_
                          refine j_get (v := .ref (A 37)) hG fX12_93 dX12_readTable_334 hW33_.1 rfl ?_
                          refine j_aload_n hG dX12_readTable_337 rfl rfl ?_
                          refine j_get (v := .int (iZ (V32_ 36))) hG fX12_280 dX12_readTable_338 hW33_.1 rfl ?_
                          refine j_eq (show (V32_ 36 : Int) = ((t : Int) : Int) from ((ho37_ 36 (by decide) (by decide) (by decide) (by decide) (by decide) (by decide)).trans h36)) ?_
                          refine j_iload_n hG dX12_readTable_341 rfl rfl ?_
                          refine j_iast hG dX12_readTable_342 (MF_a37 hW33_) (by omega) (by decide) (fun f160_ h161_ fr162_ => ?_)
                          have hW163_ : MF E rg f0 f160_ m A V32_ (up G 37 (fup (G 37) (t : Int) kd)) := MF_a hW33_ 37 rfl h161_ fr162_
                          refine j_aload_n hG dX12_readTable_343 rfl rfl ?_
                          refine j_get (v := .ref (A 38)) hG fX12_96 dX12_readTable_344 hW163_.1 rfl ?_
                          refine j_aload_n hG dX12_readTable_347 rfl rfl ?_
                          refine j_get (v := .int (iZ (V32_ 36))) hG fX12_280 dX12_readTable_348 hW163_.1 rfl ?_
                          refine j_eq (show (V32_ 36 : Int) = ((t : Int) : Int) from ((ho37_ 36 (by decide) (by decide) (by decide) (by decide) (by decide) (by decide)).trans h36)) ?_
                          refine j_iload_n hG dX12_readTable_351 rfl rfl ?_
                          refine j_iast hG dX12_readTable_352 (MF_a38 hW163_) (by omega) (by decide) (fun f164_ h165_ fr166_ => ?_)
                          have hW167_ : MF E rg f0 f164_ m A V32_ (up (up G 37 (fup (G 37) (t : Int) kd)) 38 (fup (G 38) (t : Int) (nameT g tl len (M3 g len (M2 g len (M1 g tl len t S))).1))) := MF_a hW163_ 38 rfl h165_ fr166_
                          refine j_aload_n hG dX12_readTable_353 rfl rfl ?_
                          refine j_get (v := .ref (A 39)) hG fX12_99 dX12_readTable_354 hW167_.1 rfl ?_
                          refine j_aload_n hG dX12_readTable_357 rfl rfl ?_
                          refine j_get (v := .int (iZ (V32_ 36))) hG fX12_280 dX12_readTable_358 hW167_.1 rfl ?_
                          refine j_eq (show (V32_ 36 : Int) = ((t : Int) : Int) from ((ho37_ 36 (by decide) (by decide) (by decide) (by decide) (by decide) (by decide)).trans h36)) ?_
                          refine j_iload hG dX12_readTable_361 rfl ?_
                          refine j_iast hG dX12_readTable_363 (MF_a39 hW167_) (by omega) (by decide) (fun f168_ h169_ fr170_ => ?_)
                          have hW171_ : MF E rg f0 f168_ m A V32_ (up (up (up G 37 (fup (G 37) (t : Int) kd)) 38 (fup (G 38) (t : Int) (nameT g tl len (M3 g len (M2 g len (M1 g tl len t S))).1))) 39 (fup (G 39) (t : Int) 0)) := MF_a hW167_ 39 rfl h169_ fr170_
                          refine j_aload_n hG dX12_readTable_364 rfl rfl ?_
                          refine j_get (v := .ref (A 40)) hG fX12_102 dX12_readTable_365 hW171_.1 rfl ?_
                          refine j_aload_n hG dX12_readTable_368 rfl rfl ?_
                          refine j_get (v := .int (iZ (V32_ 36))) hG fX12_280 dX12_readTable_369 hW171_.1 rfl ?_
                          refine j_eq (show (V32_ 36 : Int) = ((t : Int) : Int) from ((ho37_ 36 (by decide) (by decide) (by decide) (by decide) (by decide) (by decide)).trans h36)) ?_
                          refine j_iload hG dX12_readTable_372 rfl ?_
                          refine j_iast hG dX12_readTable_374 (MF_a40 hW171_) (by omega) (by decide) (fun f172_ h173_ fr174_ => ?_)
                          have hW175_ : MF E rg f0 f172_ m A V32_ (up (up (up (up G 37 (fup (G 37) (t : Int) kd)) 38 (fup (G 38) (t : Int) (nameT g tl len (M3 g len (M2 g len (M1 g tl len t S))).1))) 39 (fup (G 39) (t : Int) 0)) 40 (fup (G 40) (t : Int) 0)) := MF_a hW171_ 40 rfl h173_ fr174_
                          refine j_aload_n hG dX12_readTable_375 rfl rfl ?_
                          refine j_get (v := .ref (A 41)) hG fX12_105 dX12_readTable_376 hW175_.1 rfl ?_
                          refine j_aload_n hG dX12_readTable_379 rfl rfl ?_
                          refine j_get (v := .int (iZ (V32_ 36))) hG fX12_280 dX12_readTable_380 hW175_.1 rfl ?_
                          refine j_eq (show (V32_ 36 : Int) = ((t : Int) : Int) from ((ho37_ 36 (by decide) (by decide) (by decide) (by decide) (by decide) (by decide)).trans h36)) ?_
                          refine j_iload hG dX12_readTable_383 rfl ?_
                          refine j_iast hG dX12_readTable_385 (MF_a41 hW175_) (by omega) (by decide) (fun f176_ h177_ fr178_ => ?_)
                          have hW179_ : MF E rg f0 f176_ m A V32_ (up (up (up (up (up G 37 (fup (G 37) (t : Int) kd)) 38 (fup (G 38) (t : Int) (nameT g tl len (M3 g len (M2 g len (M1 g tl len t S))).1))) 39 (fup (G 39) (t : Int) 0)) 40 (fup (G 40) (t : Int) 0)) 41 (fup (G 41) (t : Int) 0)) := MF_a hW175_ 41 rfl h177_ fr178_
                          refine j_aload_n hG dX12_readTable_386 rfl rfl ?_
                          refine j_get (v := .ref (A 42)) hG fX12_108 dX12_readTable_387 hW179_.1 rfl ?_
                          refine j_iload_n hG dX12_readTable_390 rfl rfl ?_
                          refine j_aload_n hG dX12_readTable_391 rfl rfl ?_
                          refine j_get (v := .int (iZ (V32_ 36))) hG fX12_280 dX12_readTable_392 hW179_.1 rfl ?_
                          refine j_eq (show (V32_ 36 : Int) = ((t : Int) : Int) from ((ho37_ 36 (by decide) (by decide) (by decide) (by decide) (by decide) (by decide)).trans h36)) ?_
                          refine j_iast hG dX12_readTable_395 (MF_a42 hW179_) (by omega) (by decide) (fun f180_ h181_ fr182_ => ?_)
                          have hW183_ : MF E rg f0 f180_ m A V32_ (up (up (up (up (up (up G 37 (fup (G 37) (t : Int) kd)) 38 (fup (G 38) (t : Int) (nameT g tl len (M3 g len (M2 g len (M1 g tl len t S))).1))) 39 (fup (G 39) (t : Int) 0)) 40 (fup (G 40) (t : Int) 0)) 41 (fup (G 41) (t : Int) 0)) 42 (fup (G 42) L9 (t : Int))) := MF_a hW179_ 42 rfl h181_ fr182_
                          refine j_aload_n hG dX12_readTable_396 rfl rfl ?_
                          refine j_dup hG dX12_readTable_397 rfl ?_
                          refine j_get (v := .int (iZ (V32_ 36))) hG fX12_280 dX12_readTable_398 hW183_.1 rfl ?_
                          refine j_iconst hG dX12_readTable_401 ?_
                          refine j_iadd hG dX12_readTable_402 ?_
                          refine j_put hG pX12_280 dX12_readTable_403 hW183_.1 rfl rfl (Nat.le_of_ble_eq_true rfl) (fun f184_ h185_ fr186_ => ?_)
                          have hW187_ : MF E rg f0 f184_ m A (up V32_ 36 ((V32_ 36) + 1)) (up (up (up (up (up (up G 37 (fup (G 37) (t : Int) kd)) 38 (fup (G 38) (t : Int) (nameT g tl len (M3 g len (M2 g len (M1 g tl len t S))).1))) 39 (fup (G 39) (t : Int) 0)) 40 (fup (G 40) (t : Int) 0)) 41 (fup (G 41) (t : Int) 0)) 42 (fup (G 42) L9 (t : Int))) := MF_p36 hW183_ h185_ fr186_
                          exact j_vret hG hZ dX12_readTable_406 (Nat.zero_le _) (Nat.zero_le _) (⟨rfl, _, _, kd, hkd, hW187_, by rw [eR]; exact ht39_, fun i i0 a b c d e f => by rw [up_n _ _ i0]; exact ho37_ i a b c d e f, Or.inr ⟨by rw [eR]; omega, by show V32_ 36 + 1 = _; rw [ho37_ 36 (by decide) (by decide) (by decide) (by decide) (by decide) (by decide), h36], (nameT g tl len (M3 g len (M2 g len (M1 g tl len t S))).1), 0, 0, 0, by rw [h42, hL9], fun q => by omega, fun _ => rfl, fun q => by omega, fun q => by omega, fun q => by omega, fun q => by omega, fun _ => rfl⟩⟩)
                        · -- on at 329
                          have eR : RK g tl len kd (M3 g len (M2 g len (M1 g tl len t S))) = (MN g tl len (M3 g len (M2 g len (M1 g tl len t S)))) := by unfold RK; (repeat (first | rw [if_pos (by omega)] | rw [if_neg (by omega)]))
                          exact j_vret hG hZ dX12_readTable_332 (Nat.zero_le _) (Nat.zero_le _) (⟨rfl, V32_, G, kd, hkd, hW33_, by rw [eR]; exact ht39_, fun i i0 a b c d e f => ho37_ i a b c d e f, Or.inl ⟨by rw [eR]; omega, (ho37_ 36 (by decide) (by decide) (by decide) (by decide) (by decide) (by decide)).trans h36, rfl⟩⟩)
                      · -- on at 316
                        have hk9 : kd = 12 := by omega
                        subst hk9
                        refine j_aload_n hG dX12_readTable_319 rfl rfl ?_
                        refine j_callV (rest := []) hG vX12_287 dX12_readTable_320 (c_X12_name (g := g) (len := len) (S := (MN g tl len (M3 g len (M2 g len (M1 g tl len t S))))) (tl := tl) hW33_ h4438_ h43 hl hg ht39_ h42 htr) hW33_.1 rfl rfl (by decide) (by decide) (Nat.le_of_ble_eq_true rfl) rfl rfl (Nat.zero_le _) (Nat.zero_le _) ?_
                        rintro _ f192_ ⟨rfl, V188_, hW189_, ht190_, ho191_⟩
                        refine j_st (st' := [.int (iZ (nameT g tl len (MN g tl len (M3 g len (M2 g len (M1 g tl len t S)))).1))]) rfl ?_
                        have ho193_ := othM_tr ho37_ ho191_
                        have h44194_ : V188_ 44 = len := (ho191_ 44 (by decide) (by decide) (by decide) (by decide) (by decide) (by decide)).trans h4438_
                        have ht195_ : tk V188_ g len (MN g tl len (MN g tl len (M3 g len (M2 g len (M1 g tl len t S))))) := ht190_
                        refine j_istore (lv' := [(0, .ref m), (1, .int (iZ (L9))), (2, .int (iZ (12))), (3, .int (iZ (nameT g tl len (M3 g len (M2 g len (M1 g tl len t S))).1))), (4, .int (iZ (nameT g tl len (MN g tl len (M3 g len (M2 g len (M1 g tl len t S)))).1))), (5, .int (iZ (0))), (6, .int (iZ (0)))]) hG dX12_readTable_323 (by decide) rfl ?_
                        refine j_aload_n hG dX12_readTable_325 rfl rfl ?_
                        have b9_ := ht195_.2.2.2.1
                        refine j_get (v := .int (iZ (V188_ 50))) hG fX12_256 dX12_readTable_326 hW189_.1 rfl ?_
                        refine j_eq (show (V188_ 50 : Int) = ((MN g tl len (MN g tl len (M3 g len (M2 g len (M1 g tl len t S))))).2.1 : Int) from ht195_.2.1) ?_
                        refine j_if_eq (tgt := 333) hG dX12_readTable_329 (by decide) (by omega) (fun c196_ => ?_) (fun c196_ => ?_)
                        · -- taken at 329
                          have eR : RK g tl len 12 (M3 g len (M2 g len (M1 g tl len t S))) = (MN g tl len (MN g tl len (M3 g len (M2 g len (M1 g tl len t S))))) := by unfold RK; (repeat (first | rw [if_pos (by omega)] | rw [if_neg (by omega)]))
                          have ok9 := rt_ok (g := g) (tl := tl) (len := len) (kd := 12) (t := t) (S := S) (by rw [eR]; omega)
                          refine j_aload_n hG dX12_readTable_333 rfl rfl ?_
                          refine j_get (v := .ref (A 37)) hG fX12_93 dX12_readTable_334 hW189_.1 rfl ?_
                          refine j_aload_n hG dX12_readTable_337 rfl rfl ?_
                          refine j_get (v := .int (iZ (V188_ 36))) hG fX12_280 dX12_readTable_338 hW189_.1 rfl ?_
                          refine j_eq (show (V188_ 36 : Int) = ((t : Int) : Int) from ((ho193_ 36 (by decide) (by decide) (by decide) (by decide) (by decide) (by decide)).trans h36)) ?_
                          refine j_iload_n hG dX12_readTable_341 rfl rfl ?_
                          refine j_iast hG dX12_readTable_342 (MF_a37 hW189_) (by omega) (by decide) (fun f197_ h198_ fr199_ => ?_)
                          have hW200_ : MF E rg f0 f197_ m A V188_ (up G 37 (fup (G 37) (t : Int) 12)) := MF_a hW189_ 37 rfl h198_ fr199_
                          refine j_aload_n hG dX12_readTable_343 rfl rfl ?_
                          refine j_get (v := .ref (A 38)) hG fX12_96 dX12_readTable_344 hW200_.1 rfl ?_
                          refine j_aload_n hG dX12_readTable_347 rfl rfl ?_
                          refine j_get (v := .int (iZ (V188_ 36))) hG fX12_280 dX12_readTable_348 hW200_.1 rfl ?_
                          refine j_eq (show (V188_ 36 : Int) = ((t : Int) : Int) from ((ho193_ 36 (by decide) (by decide) (by decide) (by decide) (by decide) (by decide)).trans h36)) ?_
                          refine j_iload_n hG dX12_readTable_351 rfl rfl ?_
                          refine j_iast hG dX12_readTable_352 (MF_a38 hW200_) (by omega) (by decide) (fun f201_ h202_ fr203_ => ?_)
                          have hW204_ : MF E rg f0 f201_ m A V188_ (up (up G 37 (fup (G 37) (t : Int) 12)) 38 (fup (G 38) (t : Int) (nameT g tl len (M3 g len (M2 g len (M1 g tl len t S))).1))) := MF_a hW200_ 38 rfl h202_ fr203_
                          refine j_aload_n hG dX12_readTable_353 rfl rfl ?_
                          refine j_get (v := .ref (A 39)) hG fX12_99 dX12_readTable_354 hW204_.1 rfl ?_
                          refine j_aload_n hG dX12_readTable_357 rfl rfl ?_
                          refine j_get (v := .int (iZ (V188_ 36))) hG fX12_280 dX12_readTable_358 hW204_.1 rfl ?_
                          refine j_eq (show (V188_ 36 : Int) = ((t : Int) : Int) from ((ho193_ 36 (by decide) (by decide) (by decide) (by decide) (by decide) (by decide)).trans h36)) ?_
                          refine j_iload hG dX12_readTable_361 rfl ?_
                          refine j_iast hG dX12_readTable_363 (MF_a39 hW204_) (by omega) (by decide) (fun f205_ h206_ fr207_ => ?_)
                          have hW208_ : MF E rg f0 f205_ m A V188_ (up (up (up G 37 (fup (G 37) (t : Int) 12)) 38 (fup (G 38) (t : Int) (nameT g tl len (M3 g len (M2 g len (M1 g tl len t S))).1))) 39 (fup (G 39) (t : Int) (nameT g tl len (MN g tl len (M3 g len (M2 g len (M1 g tl len t S)))).1))) := MF_a hW204_ 39 rfl h206_ fr207_
                          refine j_aload_n hG dX12_readTable_364 rfl rfl ?_
                          refine j_get (v := .ref (A 40)) hG fX12_102 dX12_readTable_365 hW208_.1 rfl ?_
                          refine j_aload_n hG dX12_readTable_368 rfl rfl ?_
                          refine j_get (v := .int (iZ (V188_ 36))) hG fX12_280 dX12_readTable_369 hW208_.1 rfl ?_
                          refine j_eq (show (V188_ 36 : Int) = ((t : Int) : Int) from ((ho193_ 36 (by decide) (by decide) (by decide) (by decide) (by decide) (by decide)).trans h36)) ?_
                          refine j_iload hG dX12_readTable_372 rfl ?_
                          refine j_iast hG dX12_readTable_374 (MF_a40 hW208_) (by omega) (by decide) (fun f209_ h210_ fr211_ => ?_)
                          have hW212_ : MF E rg f0 f209_ m A V188_ (up (up (up (up G 37 (fup (G 37) (t : Int) 12)) 38 (fup (G 38) (t : Int) (nameT g tl len (M3 g len (M2 g len (M1 g tl len t S))).1))) 39 (fup (G 39) (t : Int) (nameT g tl len (MN g tl len (M3 g len (M2 g len (M1 g tl len t S)))).1))) 40 (fup (G 40) (t : Int) 0)) := MF_a hW208_ 40 rfl h210_ fr211_
                          refine j_aload_n hG dX12_readTable_375 rfl rfl ?_
                          refine j_get (v := .ref (A 41)) hG fX12_105 dX12_readTable_376 hW212_.1 rfl ?_
                          refine j_aload_n hG dX12_readTable_379 rfl rfl ?_
                          refine j_get (v := .int (iZ (V188_ 36))) hG fX12_280 dX12_readTable_380 hW212_.1 rfl ?_
                          refine j_eq (show (V188_ 36 : Int) = ((t : Int) : Int) from ((ho193_ 36 (by decide) (by decide) (by decide) (by decide) (by decide) (by decide)).trans h36)) ?_
                          refine j_iload hG dX12_readTable_383 rfl ?_
                          refine j_iast hG dX12_readTable_385 (MF_a41 hW212_) (by omega) (by decide) (fun f213_ h214_ fr215_ => ?_)
                          have hW216_ : MF E rg f0 f213_ m A V188_ (up (up (up (up (up G 37 (fup (G 37) (t : Int) 12)) 38 (fup (G 38) (t : Int) (nameT g tl len (M3 g len (M2 g len (M1 g tl len t S))).1))) 39 (fup (G 39) (t : Int) (nameT g tl len (MN g tl len (M3 g len (M2 g len (M1 g tl len t S)))).1))) 40 (fup (G 40) (t : Int) 0)) 41 (fup (G 41) (t : Int) 0)) := MF_a hW212_ 41 rfl h214_ fr215_
                          refine j_aload_n hG dX12_readTable_386 rfl rfl ?_
                          refine j_get (v := .ref (A 42)) hG fX12_108 dX12_readTable_387 hW216_.1 rfl ?_
                          refine j_iload_n hG dX12_readTable_390 rfl rfl ?_
                          refine j_aload_n hG dX12_readTable_391 rfl rfl ?_
                          refine j_get (v := .int (iZ (V188_ 36))) hG fX12_280 dX12_readTable_392 hW216_.1 rfl ?_
                          refine j_eq (show (V188_ 36 : Int) = ((t : Int) : Int) from ((ho193_ 36 (by decide) (by decide) (by decide) (by decide) (by decide) (by decide)).trans h36)) ?_
                          refine j_iast hG dX12_readTable_395 (MF_a42 hW216_) (by omega) (by decide) (fun f217_ h218_ fr219_ => ?_)
                          have hW220_ : MF E rg f0 f217_ m A V188_ (up (up (up (up (up (up G 37 (fup (G 37) (t : Int) 12)) 38 (fup (G 38) (t : Int) (nameT g tl len (M3 g len (M2 g len (M1 g tl len t S))).1))) 39 (fup (G 39) (t : Int) (nameT g tl len (MN g tl len (M3 g len (M2 g len (M1 g tl len t S)))).1))) 40 (fup (G 40) (t : Int) 0)) 41 (fup (G 41) (t : Int) 0)) 42 (fup (G 42) L9 (t : Int))) := MF_a hW216_ 42 rfl h218_ fr219_
                          refine j_aload_n hG dX12_readTable_396 rfl rfl ?_
                          refine j_dup hG dX12_readTable_397 rfl ?_
                          refine j_get (v := .int (iZ (V188_ 36))) hG fX12_280 dX12_readTable_398 hW220_.1 rfl ?_
                          refine j_iconst hG dX12_readTable_401 ?_
                          refine j_iadd hG dX12_readTable_402 ?_
                          refine j_put hG pX12_280 dX12_readTable_403 hW220_.1 rfl rfl (Nat.le_of_ble_eq_true rfl) (fun f221_ h222_ fr223_ => ?_)
                          have hW224_ : MF E rg f0 f221_ m A (up V188_ 36 ((V188_ 36) + 1)) (up (up (up (up (up (up G 37 (fup (G 37) (t : Int) 12)) 38 (fup (G 38) (t : Int) (nameT g tl len (M3 g len (M2 g len (M1 g tl len t S))).1))) 39 (fup (G 39) (t : Int) (nameT g tl len (MN g tl len (M3 g len (M2 g len (M1 g tl len t S)))).1))) 40 (fup (G 40) (t : Int) 0)) 41 (fup (G 41) (t : Int) 0)) 42 (fup (G 42) L9 (t : Int))) := MF_p36 hW220_ h222_ fr223_
                          exact j_vret hG hZ dX12_readTable_406 (Nat.zero_le _) (Nat.zero_le _) (⟨rfl, _, _, 12, hkd, hW224_, by rw [eR]; exact ht195_, fun i i0 a b c d e f => by rw [up_n _ _ i0]; exact ho193_ i a b c d e f, Or.inr ⟨by rw [eR]; omega, by show V188_ 36 + 1 = _; rw [ho193_ 36 (by decide) (by decide) (by decide) (by decide) (by decide) (by decide), h36], (nameT g tl len (M3 g len (M2 g len (M1 g tl len t S))).1), (nameT g tl len (MN g tl len (M3 g len (M2 g len (M1 g tl len t S)))).1), 0, 0, by rw [h42, hL9], fun q => by omega, fun _ => rfl, fun q => by omega, fun q => by omega, fun q => by omega, fun _ => rfl, fun q => by omega⟩⟩)
                        · -- on at 329
                          have eR : RK g tl len 12 (M3 g len (M2 g len (M1 g tl len t S))) = (MN g tl len (MN g tl len (M3 g len (M2 g len (M1 g tl len t S))))) := by unfold RK; (repeat (first | rw [if_pos (by omega)] | rw [if_neg (by omega)]))
                          exact j_vret hG hZ dX12_readTable_332 (Nat.zero_le _) (Nat.zero_le _) (⟨rfl, V188_, G, 12, hkd, hW189_, by rw [eR]; exact ht195_, fun i i0 a b c d e f => ho193_ i a b c d e f, Or.inl ⟨by rw [eR]; omega, (ho193_ 36 (by decide) (by decide) (by decide) (by decide) (by decide) (by decide)).trans h36, rfl⟩⟩)
                  · -- on at 275
                    have hk9 : kd = 5 := by omega
                    subst hk9
                    refine j_iload_n hG dX12_readTable_278 rfl rfl ?_
                    refine j_iconst hG dX12_readTable_279 ?_
                    refine j_icmp_ne (tgt := 294) hG dX12_readTable_280 (by decide) (by omega) (by omega) (fun c225_ => ?_) (fun c225_ => ?_)
                    · -- taken at 280
                      refine j_aload_n hG dX12_readTable_294 rfl rfl ?_
                      refine j_lconst (y := 1) hG dX12_readTable_295 (by decide) ?_
                      refine j_ldc2 (z := 1000) hG dX12_readTable_296 kX12_136 (by decide) ?_
                      refine j_callV (rest := []) hG vX12_269 dX12_readTable_299 (c_X12_number (g := g) (len := len) (S := (MN g tl len (M3 g len (M2 g len (M1 g tl len t S))))) (lo := 1) (hi := 1000) hW33_ h4438_ h43 hl hg ht39_ (by omega) (by omega)) hW33_.1 rfl rfl (by decide) (by decide) (Nat.le_of_ble_eq_true rfl) rfl rfl (Nat.zero_le _) (Nat.zero_le _) ?_
                      rintro _ f230_ ⟨rfl, V226_, hW227_, ht228_, ho229_⟩
                      refine j_st (st' := [.int (iZ (woF g len (MN g tl len (M3 g len (M2 g len (M1 g tl len t S)))).1))]) rfl ?_
                      have ho231_ := othM_tr ho37_ ho229_
                      have h44232_ : V226_ 44 = len := (ho229_ 44 (by decide) (by decide) (by decide) (by decide) (by decide) (by decide)).trans h4438_
                      have ht233_ : tk V226_ g len (MD g len 1 1000 (MN g tl len (M3 g len (M2 g len (M1 g tl len t S))))) := ht228_
                      refine j_istore (lv' := [(0, .ref m), (1, .int (iZ (L9))), (2, .int (iZ (5))), (3, .int (iZ (nameT g tl len (M3 g len (M2 g len (M1 g tl len t S))).1))), (4, .int (iZ (woF g len (MN g tl len (M3 g len (M2 g len (M1 g tl len t S)))).1))), (5, .int (iZ (0))), (6, .int (iZ (0)))]) hG dX12_readTable_302 (by decide) rfl ?_
                      refine j_goto (tgt := 325) hG dX12_readTable_304 (by decide) ?_
                      refine j_aload_n hG dX12_readTable_325 rfl rfl ?_
                      have b9_ := ht233_.2.2.2.1
                      refine j_get (v := .int (iZ (V226_ 50))) hG fX12_256 dX12_readTable_326 hW227_.1 rfl ?_
                      refine j_eq (show (V226_ 50 : Int) = ((MD g len 1 1000 (MN g tl len (M3 g len (M2 g len (M1 g tl len t S))))).2.1 : Int) from ht233_.2.1) ?_
                      refine j_if_eq (tgt := 333) hG dX12_readTable_329 (by decide) (by omega) (fun c234_ => ?_) (fun c234_ => ?_)
                      · -- taken at 329
                        have eR : RK g tl len 5 (M3 g len (M2 g len (M1 g tl len t S))) = (MD g len 1 1000 (MN g tl len (M3 g len (M2 g len (M1 g tl len t S))))) := by unfold RK; (repeat (first | rw [if_pos (by omega)] | rw [if_neg (by omega)]))
                        have ok9 := rt_ok (g := g) (tl := tl) (len := len) (kd := 5) (t := t) (S := S) (by rw [eR]; omega)
                        refine j_aload_n hG dX12_readTable_333 rfl rfl ?_
                        refine j_get (v := .ref (A 37)) hG fX12_93 dX12_readTable_334 hW227_.1 rfl ?_
                        refine j_aload_n hG dX12_readTable_337 rfl rfl ?_
                        refine j_get (v := .int (iZ (V226_ 36))) hG fX12_280 dX12_readTable_338 hW227_.1 rfl ?_
                        refine j_eq (show (V226_ 36 : Int) = ((t : Int) : Int) from ((ho231_ 36 (by decide) (by decide) (by decide) (by decide) (by decide) (by decide)).trans h36)) ?_
                        refine j_iload_n hG dX12_readTable_341 rfl rfl ?_
                        refine j_iast hG dX12_readTable_342 (MF_a37 hW227_) (by omega) (by decide) (fun f235_ h236_ fr237_ => ?_)
                        have hW238_ : MF E rg f0 f235_ m A V226_ (up G 37 (fup (G 37) (t : Int) 5)) := MF_a hW227_ 37 rfl h236_ fr237_
                        refine j_aload_n hG dX12_readTable_343 rfl rfl ?_
                        refine j_get (v := .ref (A 38)) hG fX12_96 dX12_readTable_344 hW238_.1 rfl ?_
                        refine j_aload_n hG dX12_readTable_347 rfl rfl ?_
                        refine j_get (v := .int (iZ (V226_ 36))) hG fX12_280 dX12_readTable_348 hW238_.1 rfl ?_
                        refine j_eq (show (V226_ 36 : Int) = ((t : Int) : Int) from ((ho231_ 36 (by decide) (by decide) (by decide) (by decide) (by decide) (by decide)).trans h36)) ?_
                        refine j_iload_n hG dX12_readTable_351 rfl rfl ?_
                        refine j_iast hG dX12_readTable_352 (MF_a38 hW238_) (by omega) (by decide) (fun f239_ h240_ fr241_ => ?_)
                        have hW242_ : MF E rg f0 f239_ m A V226_ (up (up G 37 (fup (G 37) (t : Int) 5)) 38 (fup (G 38) (t : Int) (nameT g tl len (M3 g len (M2 g len (M1 g tl len t S))).1))) := MF_a hW238_ 38 rfl h240_ fr241_
                        refine j_aload_n hG dX12_readTable_353 rfl rfl ?_
                        refine j_get (v := .ref (A 39)) hG fX12_99 dX12_readTable_354 hW242_.1 rfl ?_
                        refine j_aload_n hG dX12_readTable_357 rfl rfl ?_
                        refine j_get (v := .int (iZ (V226_ 36))) hG fX12_280 dX12_readTable_358 hW242_.1 rfl ?_
                        refine j_eq (show (V226_ 36 : Int) = ((t : Int) : Int) from ((ho231_ 36 (by decide) (by decide) (by decide) (by decide) (by decide) (by decide)).trans h36)) ?_
                        refine j_iload hG dX12_readTable_361 rfl ?_
                        refine j_iast hG dX12_readTable_363 (MF_a39 hW242_) (by omega) (by decide) (fun f243_ h244_ fr245_ => ?_)
                        have hW246_ : MF E rg f0 f243_ m A V226_ (up (up (up G 37 (fup (G 37) (t : Int) 5)) 38 (fup (G 38) (t : Int) (nameT g tl len (M3 g len (M2 g len (M1 g tl len t S))).1))) 39 (fup (G 39) (t : Int) (woF g len (MN g tl len (M3 g len (M2 g len (M1 g tl len t S)))).1))) := MF_a hW242_ 39 rfl h244_ fr245_
                        refine j_aload_n hG dX12_readTable_364 rfl rfl ?_
                        refine j_get (v := .ref (A 40)) hG fX12_102 dX12_readTable_365 hW246_.1 rfl ?_
                        refine j_aload_n hG dX12_readTable_368 rfl rfl ?_
                        refine j_get (v := .int (iZ (V226_ 36))) hG fX12_280 dX12_readTable_369 hW246_.1 rfl ?_
                        refine j_eq (show (V226_ 36 : Int) = ((t : Int) : Int) from ((ho231_ 36 (by decide) (by decide) (by decide) (by decide) (by decide) (by decide)).trans h36)) ?_
                        refine j_iload hG dX12_readTable_372 rfl ?_
                        refine j_iast hG dX12_readTable_374 (MF_a40 hW246_) (by omega) (by decide) (fun f247_ h248_ fr249_ => ?_)
                        have hW250_ : MF E rg f0 f247_ m A V226_ (up (up (up (up G 37 (fup (G 37) (t : Int) 5)) 38 (fup (G 38) (t : Int) (nameT g tl len (M3 g len (M2 g len (M1 g tl len t S))).1))) 39 (fup (G 39) (t : Int) (woF g len (MN g tl len (M3 g len (M2 g len (M1 g tl len t S)))).1))) 40 (fup (G 40) (t : Int) 0)) := MF_a hW246_ 40 rfl h248_ fr249_
                        refine j_aload_n hG dX12_readTable_375 rfl rfl ?_
                        refine j_get (v := .ref (A 41)) hG fX12_105 dX12_readTable_376 hW250_.1 rfl ?_
                        refine j_aload_n hG dX12_readTable_379 rfl rfl ?_
                        refine j_get (v := .int (iZ (V226_ 36))) hG fX12_280 dX12_readTable_380 hW250_.1 rfl ?_
                        refine j_eq (show (V226_ 36 : Int) = ((t : Int) : Int) from ((ho231_ 36 (by decide) (by decide) (by decide) (by decide) (by decide) (by decide)).trans h36)) ?_
                        refine j_iload hG dX12_readTable_383 rfl ?_
                        refine j_iast hG dX12_readTable_385 (MF_a41 hW250_) (by omega) (by decide) (fun f251_ h252_ fr253_ => ?_)
                        have hW254_ : MF E rg f0 f251_ m A V226_ (up (up (up (up (up G 37 (fup (G 37) (t : Int) 5)) 38 (fup (G 38) (t : Int) (nameT g tl len (M3 g len (M2 g len (M1 g tl len t S))).1))) 39 (fup (G 39) (t : Int) (woF g len (MN g tl len (M3 g len (M2 g len (M1 g tl len t S)))).1))) 40 (fup (G 40) (t : Int) 0)) 41 (fup (G 41) (t : Int) 0)) := MF_a hW250_ 41 rfl h252_ fr253_
                        refine j_aload_n hG dX12_readTable_386 rfl rfl ?_
                        refine j_get (v := .ref (A 42)) hG fX12_108 dX12_readTable_387 hW254_.1 rfl ?_
                        refine j_iload_n hG dX12_readTable_390 rfl rfl ?_
                        refine j_aload_n hG dX12_readTable_391 rfl rfl ?_
                        refine j_get (v := .int (iZ (V226_ 36))) hG fX12_280 dX12_readTable_392 hW254_.1 rfl ?_
                        refine j_eq (show (V226_ 36 : Int) = ((t : Int) : Int) from ((ho231_ 36 (by decide) (by decide) (by decide) (by decide) (by decide) (by decide)).trans h36)) ?_
                        refine j_iast hG dX12_readTable_395 (MF_a42 hW254_) (by omega) (by decide) (fun f255_ h256_ fr257_ => ?_)
                        have hW258_ : MF E rg f0 f255_ m A V226_ (up (up (up (up (up (up G 37 (fup (G 37) (t : Int) 5)) 38 (fup (G 38) (t : Int) (nameT g tl len (M3 g len (M2 g len (M1 g tl len t S))).1))) 39 (fup (G 39) (t : Int) (woF g len (MN g tl len (M3 g len (M2 g len (M1 g tl len t S)))).1))) 40 (fup (G 40) (t : Int) 0)) 41 (fup (G 41) (t : Int) 0)) 42 (fup (G 42) L9 (t : Int))) := MF_a hW254_ 42 rfl h256_ fr257_
                        refine j_aload_n hG dX12_readTable_396 rfl rfl ?_
                        refine j_dup hG dX12_readTable_397 rfl ?_
                        refine j_get (v := .int (iZ (V226_ 36))) hG fX12_280 dX12_readTable_398 hW258_.1 rfl ?_
                        refine j_iconst hG dX12_readTable_401 ?_
                        refine j_iadd hG dX12_readTable_402 ?_
                        refine j_put hG pX12_280 dX12_readTable_403 hW258_.1 rfl rfl (Nat.le_of_ble_eq_true rfl) (fun f259_ h260_ fr261_ => ?_)
                        have hW262_ : MF E rg f0 f259_ m A (up V226_ 36 ((V226_ 36) + 1)) (up (up (up (up (up (up G 37 (fup (G 37) (t : Int) 5)) 38 (fup (G 38) (t : Int) (nameT g tl len (M3 g len (M2 g len (M1 g tl len t S))).1))) 39 (fup (G 39) (t : Int) (woF g len (MN g tl len (M3 g len (M2 g len (M1 g tl len t S)))).1))) 40 (fup (G 40) (t : Int) 0)) 41 (fup (G 41) (t : Int) 0)) 42 (fup (G 42) L9 (t : Int))) := MF_p36 hW258_ h260_ fr261_
                        exact j_vret hG hZ dX12_readTable_406 (Nat.zero_le _) (Nat.zero_le _) (⟨rfl, _, _, 5, hkd, hW262_, by rw [eR]; exact ht233_, fun i i0 a b c d e f => by rw [up_n _ _ i0]; exact ho231_ i a b c d e f, Or.inr ⟨by rw [eR]; omega, by show V226_ 36 + 1 = _; rw [ho231_ 36 (by decide) (by decide) (by decide) (by decide) (by decide) (by decide), h36], (nameT g tl len (M3 g len (M2 g len (M1 g tl len t S))).1), (woF g len (MN g tl len (M3 g len (M2 g len (M1 g tl len t S)))).1), 0, 0, by rw [h42, hL9], fun q => by omega, fun _ => rfl, fun q => by omega, fun q => by omega, fun _ => rfl, fun q => by omega, fun q => by omega⟩⟩)
                      · -- on at 329
                        have eR : RK g tl len 5 (M3 g len (M2 g len (M1 g tl len t S))) = (MD g len 1 1000 (MN g tl len (M3 g len (M2 g len (M1 g tl len t S))))) := by unfold RK; (repeat (first | rw [if_pos (by omega)] | rw [if_neg (by omega)]))
                        exact j_vret hG hZ dX12_readTable_332 (Nat.zero_le _) (Nat.zero_le _) (⟨rfl, V226_, G, 5, hkd, hW227_, by rw [eR]; exact ht233_, fun i i0 a b c d e f => ho231_ i a b c d e f, Or.inl ⟨by rw [eR]; omega, (ho231_ 36 (by decide) (by decide) (by decide) (by decide) (by decide) (by decide)).trans h36, rfl⟩⟩)
                    · -- on at 280
                      exfalso; omega
              · -- on at 256
                have hk9 : kd = 3 := by omega
                subst hk9
                refine j_aload_n hG dX12_readTable_259 rfl rfl ?_
                refine j_callV (rest := []) hG vX12_290 dX12_readTable_260 (c_X12_signed (g := g) (len := len) (S := (MN g tl len (M3 g len (M2 g len (M1 g tl len t S)))))  hW33_ h4438_ h43 hl hg ht39_ ) hW33_.1 rfl rfl (by decide) (by decide) (Nat.le_of_ble_eq_true rfl) rfl rfl (Nat.zero_le _) (Nat.zero_le _) ?_
                rintro _ f267_ ⟨rfl, V263_, hW264_, ht265_, ho266_⟩
                refine j_st (st' := [.int (iZ (sgV g len (MN g tl len (M3 g len (M2 g len (M1 g tl len t S))))))]) rfl ?_
                have ho268_ := othM_tr ho37_ ho266_
                have h44269_ : V263_ 44 = len := (ho266_ 44 (by decide) (by decide) (by decide) (by decide) (by decide) (by decide)).trans h4438_
                have ht270_ : tk V263_ g len (MD g len 0 1000 (sgS g len (MN g tl len (M3 g len (M2 g len (M1 g tl len t S)))))) := ht265_
                refine j_istore (lv' := [(0, .ref m), (1, .int (iZ (L9))), (2, .int (iZ (3))), (3, .int (iZ (nameT g tl len (M3 g len (M2 g len (M1 g tl len t S))).1))), (4, .int (iZ (sgV g len (MN g tl len (M3 g len (M2 g len (M1 g tl len t S))))))), (5, .int (iZ (0))), (6, .int (iZ (0)))]) hG dX12_readTable_263 (by decide) rfl ?_
                refine j_goto (tgt := 325) hG dX12_readTable_265 (by decide) ?_
                refine j_aload_n hG dX12_readTable_325 rfl rfl ?_
                have b9_ := ht270_.2.2.2.1
                refine j_get (v := .int (iZ (V263_ 50))) hG fX12_256 dX12_readTable_326 hW264_.1 rfl ?_
                refine j_eq (show (V263_ 50 : Int) = ((MD g len 0 1000 (sgS g len (MN g tl len (M3 g len (M2 g len (M1 g tl len t S)))))).2.1 : Int) from ht270_.2.1) ?_
                refine j_if_eq (tgt := 333) hG dX12_readTable_329 (by decide) (by omega) (fun c271_ => ?_) (fun c271_ => ?_)
                · -- taken at 329
                  have eR : RK g tl len 3 (M3 g len (M2 g len (M1 g tl len t S))) = (MD g len 0 1000 (sgS g len (MN g tl len (M3 g len (M2 g len (M1 g tl len t S)))))) := by unfold RK; (repeat (first | rw [if_pos (by omega)] | rw [if_neg (by omega)]))
                  have ok9 := rt_ok (g := g) (tl := tl) (len := len) (kd := 3) (t := t) (S := S) (by rw [eR]; omega)
                  refine j_aload_n hG dX12_readTable_333 rfl rfl ?_
                  refine j_get (v := .ref (A 37)) hG fX12_93 dX12_readTable_334 hW264_.1 rfl ?_
                  refine j_aload_n hG dX12_readTable_337 rfl rfl ?_
                  refine j_get (v := .int (iZ (V263_ 36))) hG fX12_280 dX12_readTable_338 hW264_.1 rfl ?_
                  refine j_eq (show (V263_ 36 : Int) = ((t : Int) : Int) from ((ho268_ 36 (by decide) (by decide) (by decide) (by decide) (by decide) (by decide)).trans h36)) ?_
                  refine j_iload_n hG dX12_readTable_341 rfl rfl ?_
                  refine j_iast hG dX12_readTable_342 (MF_a37 hW264_) (by omega) (by decide) (fun f272_ h273_ fr274_ => ?_)
                  have hW275_ : MF E rg f0 f272_ m A V263_ (up G 37 (fup (G 37) (t : Int) 3)) := MF_a hW264_ 37 rfl h273_ fr274_
                  refine j_aload_n hG dX12_readTable_343 rfl rfl ?_
                  refine j_get (v := .ref (A 38)) hG fX12_96 dX12_readTable_344 hW275_.1 rfl ?_
                  refine j_aload_n hG dX12_readTable_347 rfl rfl ?_
                  refine j_get (v := .int (iZ (V263_ 36))) hG fX12_280 dX12_readTable_348 hW275_.1 rfl ?_
                  refine j_eq (show (V263_ 36 : Int) = ((t : Int) : Int) from ((ho268_ 36 (by decide) (by decide) (by decide) (by decide) (by decide) (by decide)).trans h36)) ?_
                  refine j_iload_n hG dX12_readTable_351 rfl rfl ?_
                  refine j_iast hG dX12_readTable_352 (MF_a38 hW275_) (by omega) (by decide) (fun f276_ h277_ fr278_ => ?_)
                  have hW279_ : MF E rg f0 f276_ m A V263_ (up (up G 37 (fup (G 37) (t : Int) 3)) 38 (fup (G 38) (t : Int) (nameT g tl len (M3 g len (M2 g len (M1 g tl len t S))).1))) := MF_a hW275_ 38 rfl h277_ fr278_
                  refine j_aload_n hG dX12_readTable_353 rfl rfl ?_
                  refine j_get (v := .ref (A 39)) hG fX12_99 dX12_readTable_354 hW279_.1 rfl ?_
                  refine j_aload_n hG dX12_readTable_357 rfl rfl ?_
                  refine j_get (v := .int (iZ (V263_ 36))) hG fX12_280 dX12_readTable_358 hW279_.1 rfl ?_
                  refine j_eq (show (V263_ 36 : Int) = ((t : Int) : Int) from ((ho268_ 36 (by decide) (by decide) (by decide) (by decide) (by decide) (by decide)).trans h36)) ?_
                  refine j_iload hG dX12_readTable_361 rfl ?_
                  refine j_iast hG dX12_readTable_363 (MF_a39 hW279_) (by omega) (by decide) (fun f280_ h281_ fr282_ => ?_)
                  have hW283_ : MF E rg f0 f280_ m A V263_ (up (up (up G 37 (fup (G 37) (t : Int) 3)) 38 (fup (G 38) (t : Int) (nameT g tl len (M3 g len (M2 g len (M1 g tl len t S))).1))) 39 (fup (G 39) (t : Int) (sgV g len (MN g tl len (M3 g len (M2 g len (M1 g tl len t S))))))) := MF_a hW279_ 39 rfl h281_ fr282_
                  refine j_aload_n hG dX12_readTable_364 rfl rfl ?_
                  refine j_get (v := .ref (A 40)) hG fX12_102 dX12_readTable_365 hW283_.1 rfl ?_
                  refine j_aload_n hG dX12_readTable_368 rfl rfl ?_
                  refine j_get (v := .int (iZ (V263_ 36))) hG fX12_280 dX12_readTable_369 hW283_.1 rfl ?_
                  refine j_eq (show (V263_ 36 : Int) = ((t : Int) : Int) from ((ho268_ 36 (by decide) (by decide) (by decide) (by decide) (by decide) (by decide)).trans h36)) ?_
                  refine j_iload hG dX12_readTable_372 rfl ?_
                  refine j_iast hG dX12_readTable_374 (MF_a40 hW283_) (by omega) (by decide) (fun f284_ h285_ fr286_ => ?_)
                  have hW287_ : MF E rg f0 f284_ m A V263_ (up (up (up (up G 37 (fup (G 37) (t : Int) 3)) 38 (fup (G 38) (t : Int) (nameT g tl len (M3 g len (M2 g len (M1 g tl len t S))).1))) 39 (fup (G 39) (t : Int) (sgV g len (MN g tl len (M3 g len (M2 g len (M1 g tl len t S))))))) 40 (fup (G 40) (t : Int) 0)) := MF_a hW283_ 40 rfl h285_ fr286_
                  refine j_aload_n hG dX12_readTable_375 rfl rfl ?_
                  refine j_get (v := .ref (A 41)) hG fX12_105 dX12_readTable_376 hW287_.1 rfl ?_
                  refine j_aload_n hG dX12_readTable_379 rfl rfl ?_
                  refine j_get (v := .int (iZ (V263_ 36))) hG fX12_280 dX12_readTable_380 hW287_.1 rfl ?_
                  refine j_eq (show (V263_ 36 : Int) = ((t : Int) : Int) from ((ho268_ 36 (by decide) (by decide) (by decide) (by decide) (by decide) (by decide)).trans h36)) ?_
                  refine j_iload hG dX12_readTable_383 rfl ?_
                  refine j_iast hG dX12_readTable_385 (MF_a41 hW287_) (by omega) (by decide) (fun f288_ h289_ fr290_ => ?_)
                  have hW291_ : MF E rg f0 f288_ m A V263_ (up (up (up (up (up G 37 (fup (G 37) (t : Int) 3)) 38 (fup (G 38) (t : Int) (nameT g tl len (M3 g len (M2 g len (M1 g tl len t S))).1))) 39 (fup (G 39) (t : Int) (sgV g len (MN g tl len (M3 g len (M2 g len (M1 g tl len t S))))))) 40 (fup (G 40) (t : Int) 0)) 41 (fup (G 41) (t : Int) 0)) := MF_a hW287_ 41 rfl h289_ fr290_
                  refine j_aload_n hG dX12_readTable_386 rfl rfl ?_
                  refine j_get (v := .ref (A 42)) hG fX12_108 dX12_readTable_387 hW291_.1 rfl ?_
                  refine j_iload_n hG dX12_readTable_390 rfl rfl ?_
                  refine j_aload_n hG dX12_readTable_391 rfl rfl ?_
                  refine j_get (v := .int (iZ (V263_ 36))) hG fX12_280 dX12_readTable_392 hW291_.1 rfl ?_
                  refine j_eq (show (V263_ 36 : Int) = ((t : Int) : Int) from ((ho268_ 36 (by decide) (by decide) (by decide) (by decide) (by decide) (by decide)).trans h36)) ?_
                  refine j_iast hG dX12_readTable_395 (MF_a42 hW291_) (by omega) (by decide) (fun f292_ h293_ fr294_ => ?_)
                  have hW295_ : MF E rg f0 f292_ m A V263_ (up (up (up (up (up (up G 37 (fup (G 37) (t : Int) 3)) 38 (fup (G 38) (t : Int) (nameT g tl len (M3 g len (M2 g len (M1 g tl len t S))).1))) 39 (fup (G 39) (t : Int) (sgV g len (MN g tl len (M3 g len (M2 g len (M1 g tl len t S))))))) 40 (fup (G 40) (t : Int) 0)) 41 (fup (G 41) (t : Int) 0)) 42 (fup (G 42) L9 (t : Int))) := MF_a hW291_ 42 rfl h293_ fr294_
                  refine j_aload_n hG dX12_readTable_396 rfl rfl ?_
                  refine j_dup hG dX12_readTable_397 rfl ?_
                  refine j_get (v := .int (iZ (V263_ 36))) hG fX12_280 dX12_readTable_398 hW295_.1 rfl ?_
                  refine j_iconst hG dX12_readTable_401 ?_
                  refine j_iadd hG dX12_readTable_402 ?_
                  refine j_put hG pX12_280 dX12_readTable_403 hW295_.1 rfl rfl (Nat.le_of_ble_eq_true rfl) (fun f296_ h297_ fr298_ => ?_)
                  have hW299_ : MF E rg f0 f296_ m A (up V263_ 36 ((V263_ 36) + 1)) (up (up (up (up (up (up G 37 (fup (G 37) (t : Int) 3)) 38 (fup (G 38) (t : Int) (nameT g tl len (M3 g len (M2 g len (M1 g tl len t S))).1))) 39 (fup (G 39) (t : Int) (sgV g len (MN g tl len (M3 g len (M2 g len (M1 g tl len t S))))))) 40 (fup (G 40) (t : Int) 0)) 41 (fup (G 41) (t : Int) 0)) 42 (fup (G 42) L9 (t : Int))) := MF_p36 hW295_ h297_ fr298_
                  exact j_vret hG hZ dX12_readTable_406 (Nat.zero_le _) (Nat.zero_le _) (⟨rfl, _, _, 3, hkd, hW299_, by rw [eR]; exact ht270_, fun i i0 a b c d e f => by rw [up_n _ _ i0]; exact ho268_ i a b c d e f, Or.inr ⟨by rw [eR]; omega, by show V263_ 36 + 1 = _; rw [ho268_ 36 (by decide) (by decide) (by decide) (by decide) (by decide) (by decide), h36], (nameT g tl len (M3 g len (M2 g len (M1 g tl len t S))).1), (sgV g len (MN g tl len (M3 g len (M2 g len (M1 g tl len t S))))), 0, 0, by rw [h42, hL9], fun q => by omega, fun _ => rfl, fun q => by omega, fun _ => rfl, fun q => by omega, fun q => by omega, fun q => by omega⟩⟩)
                · -- on at 329
                  have eR : RK g tl len 3 (M3 g len (M2 g len (M1 g tl len t S))) = (MD g len 0 1000 (sgS g len (MN g tl len (M3 g len (M2 g len (M1 g tl len t S)))))) := by unfold RK; (repeat (first | rw [if_pos (by omega)] | rw [if_neg (by omega)]))
                  exact j_vret hG hZ dX12_readTable_332 (Nat.zero_le _) (Nat.zero_le _) (⟨rfl, V263_, G, 3, hkd, hW264_, by rw [eR]; exact ht270_, fun i i0 a b c d e f => ho268_ i a b c d e f, Or.inl ⟨by rw [eR]; omega, (ho268_ 36 (by decide) (by decide) (by decide) (by decide) (by decide) (by decide)).trans h36, rfl⟩⟩)
          · -- on at 117
            have hk9 : kd = 1 := by omega
            subst hk9
            have hj300_ : ∀ (c9 : Int) , (c9 = 0 ∧ wrdB g len (MN g tl len (M3 g len (M2 g len (M1 g tl len t S)))).1 13 = true) ∨ (c9 = 1 ∧ wrdB g len (MN g tl len (M3 g len (M2 g len (M1 g tl len t S)))).1 13 = false ∧ wrdB g len (MN g tl len (M3 g len (M2 g len (M1 g tl len t S)))).1 14 = true) ∨ (c9 = 2 ∧ wrdB g len (MN g tl len (M3 g len (M2 g len (M1 g tl len t S)))).1 13 = false ∧ wrdB g len (MN g tl len (M3 g len (M2 g len (M1 g tl len t S)))).1 14 = false) → J G9 0 0 f36_ 163 [(0, .ref m), (1, .int (iZ (L9))), (2, .int (iZ (1))), (3, .int (iZ (nameT g tl len (M3 g len (M2 g len (M1 g tl len t S))).1))), (4, .int (iZ (0))), (5, .int (iZ (0))), (6, .int (iZ (0)))] [.int (iZ (c9))] := by
              intro c9  hc9
              have cr9 : 0 ≤ c9 ∧ c9 ≤ 2 := by rcases hc9 with q | q | q <;> (have := q.1; omega)
              refine j_istore (lv' := [(0, .ref m), (1, .int (iZ (L9))), (2, .int (iZ (1))), (3, .int (iZ (nameT g tl len (M3 g len (M2 g len (M1 g tl len t S))).1))), (4, .int (iZ (0))), (5, .int (iZ (c9))), (6, .int (iZ (0)))]) hG dX12_readTable_163 (by decide) rfl ?_
              refine j_aload_n hG dX12_readTable_165 rfl rfl ?_
              have hj301_ : ∀ (z5 : Int) , z5 = (if colF g len (MN g tl len (M3 g len (M2 g len (M1 g tl len t S)))).1 ≠ -1 then 1 else 0) ∧ (z5 = 1 → c9 = colF g len (MN g tl len (M3 g len (M2 g len (M1 g tl len t S)))).1) → J G9 0 0 f36_ 194 [(0, .ref m), (1, .int (iZ (L9))), (2, .int (iZ (1))), (3, .int (iZ (nameT g tl len (M3 g len (M2 g len (M1 g tl len t S))).1))), (4, .int (iZ (0))), (5, .int (iZ (c9))), (6, .int (iZ (0)))] [.int (iZ (z5)), .ref m] := by
                intro z5  hzz5
                obtain ⟨hz5, hcc⟩ := hzz5
                have z85 : z5 = 0 ∨ z5 = 1 := by rw [hz5]; split; exact Or.inr rfl; exact Or.inl rfl
                refine j_callV (rest := []) hG vX12_262 dX12_readTable_194 (c_X12_must (z := z5) (S := (MN g tl len (M3 g len (M2 g len (M1 g tl len t S))))) hW33_ h4438_ h43 hl hg ht39_ (by omega)) hW33_.1 rfl rfl (by decide) (by decide) (Nat.le_of_ble_eq_true rfl) rfl rfl (Nat.zero_le _) (Nat.zero_le _) ?_
                rintro _ f306_ ⟨rfl, V302_, hW303_, ht304_, ho305_⟩
                refine j_st (st' := []) rfl ?_
                have ho307_ := othM_tr ho37_ ho305_
                have h44308_ : V302_ 44 = len := (ho305_ 44 (by decide) (by decide) (by decide) (by decide) (by decide) (by decide)).trans h4438_
                have ht309_ : tk V302_ g len (MC g len (MN g tl len (M3 g len (M2 g len (M1 g tl len t S))))) := by have q := ht304_; rw [hz5] at q; exact q
                refine j_aload_n hG dX12_readTable_197 rfl rfl ?_
                refine j_get (v := .long (lZ (V302_ 48))) hG fX12_235 dX12_readTable_198 hW303_.1 rfl ?_
                refine j_eqL (show (V302_ 48 : Int) = (woF g len (MC g len (MN g tl len (M3 g len (M2 g len (M1 g tl len t S))))).1 : Int) from ht309_.1.2.2.2) ?_
                refine j_l2i hG dX12_readTable_201 ?_
                refine j_istore (lv' := [(0, .ref m), (1, .int (iZ (L9))), (2, .int (iZ (1))), (3, .int (iZ (nameT g tl len (M3 g len (M2 g len (M1 g tl len t S))).1))), (4, .int (iZ (0))), (5, .int (iZ (c9))), (6, .int (iZ (woF g len (MC g len (MN g tl len (M3 g len (M2 g len (M1 g tl len t S))))).1)))]) hG dX12_readTable_202 (by decide) rfl ?_
                refine j_aload_n hG dX12_readTable_204 rfl rfl ?_
                have hj310_ : ∀ (z6 : Int) , z6 = (if relF g len (MC g len (MN g tl len (M3 g len (M2 g len (M1 g tl len t S))))).1 ≠ -1 then 1 else 0) → J G9 0 0 f306_ 237 [(0, .ref m), (1, .int (iZ (L9))), (2, .int (iZ (1))), (3, .int (iZ (nameT g tl len (M3 g len (M2 g len (M1 g tl len t S))).1))), (4, .int (iZ (0))), (5, .int (iZ (c9))), (6, .int (iZ (woF g len (MC g len (MN g tl len (M3 g len (M2 g len (M1 g tl len t S))))).1)))] [.int (iZ (z6)), .ref m] := by
                  intro z6  hz6
                  have z86 : z6 = 0 ∨ z6 = 1 := by rw [hz6]; split; exact Or.inr rfl; exact Or.inl rfl
                  refine j_callV (rest := []) hG vX12_262 dX12_readTable_237 (c_X12_must (z := z6) (S := (MC g len (MN g tl len (M3 g len (M2 g len (M1 g tl len t S)))))) hW303_ h44308_ h43 hl hg ht309_ (by omega)) hW303_.1 rfl rfl (by decide) (by decide) (Nat.le_of_ble_eq_true rfl) rfl rfl (Nat.zero_le _) (Nat.zero_le _) ?_
                  rintro _ f315_ ⟨rfl, V311_, hW312_, ht313_, ho314_⟩
                  refine j_st (st' := []) rfl ?_
                  have ho316_ := othM_tr ho307_ ho314_
                  have h44317_ : V311_ 44 = len := (ho314_ 44 (by decide) (by decide) (by decide) (by decide) (by decide) (by decide)).trans h44308_
                  have ht318_ : tk V311_ g len (MQ9 g len (MC g len (MN g tl len (M3 g len (M2 g len (M1 g tl len t S)))))) := by have q := ht313_; rw [hz6] at q; exact q
                  refine j_aload_n hG dX12_readTable_240 rfl rfl ?_
                  refine j_callV (rest := []) hG vX12_290 dX12_readTable_241 (c_X12_signed (g := g) (len := len) (S := (MQ9 g len (MC g len (MN g tl len (M3 g len (M2 g len (M1 g tl len t S)))))))  hW312_ h44317_ h43 hl hg ht318_ ) hW312_.1 rfl rfl (by decide) (by decide) (Nat.le_of_ble_eq_true rfl) rfl rfl (Nat.zero_le _) (Nat.zero_le _) ?_
                  rintro _ f323_ ⟨rfl, V319_, hW320_, ht321_, ho322_⟩
                  refine j_st (st' := [.int (iZ (sgV g len (MQ9 g len (MC g len (MN g tl len (M3 g len (M2 g len (M1 g tl len t S))))))))]) rfl ?_
                  have ho324_ := othM_tr ho316_ ho322_
                  have h44325_ : V319_ 44 = len := (ho322_ 44 (by decide) (by decide) (by decide) (by decide) (by decide) (by decide)).trans h44317_
                  have ht326_ : tk V319_ g len (MD g len 0 1000 (sgS g len (MQ9 g len (MC g len (MN g tl len (M3 g len (M2 g len (M1 g tl len t S)))))))) := ht321_
                  refine j_istore (lv' := [(0, .ref m), (1, .int (iZ (L9))), (2, .int (iZ (1))), (3, .int (iZ (nameT g tl len (M3 g len (M2 g len (M1 g tl len t S))).1))), (4, .int (iZ (sgV g len (MQ9 g len (MC g len (MN g tl len (M3 g len (M2 g len (M1 g tl len t S))))))))), (5, .int (iZ (c9))), (6, .int (iZ (woF g len (MC g len (MN g tl len (M3 g len (M2 g len (M1 g tl len t S))))).1)))]) hG dX12_readTable_244 (by decide) rfl ?_
                  refine j_goto (tgt := 325) hG dX12_readTable_246 (by decide) ?_
                  refine j_aload_n hG dX12_readTable_325 rfl rfl ?_
                  have b9_ := ht326_.2.2.2.1
                  refine j_get (v := .int (iZ (V319_ 50))) hG fX12_256 dX12_readTable_326 hW320_.1 rfl ?_
                  refine j_eq (show (V319_ 50 : Int) = ((MD g len 0 1000 (sgS g len (MQ9 g len (MC g len (MN g tl len (M3 g len (M2 g len (M1 g tl len t S)))))))).2.1 : Int) from ht326_.2.1) ?_
                  refine j_if_eq (tgt := 333) hG dX12_readTable_329 (by decide) (by omega) (fun c327_ => ?_) (fun c327_ => ?_)
                  · -- taken at 329
                    have eR : RK g tl len 1 (M3 g len (M2 g len (M1 g tl len t S))) = (MD g len 0 1000 (sgS g len (MQ9 g len (MC g len (MN g tl len (M3 g len (M2 g len (M1 g tl len t S)))))))) := by unfold RK; (repeat (first | rw [if_pos (by omega)] | rw [if_neg (by omega)]))
                    have ok9 := rt_ok (g := g) (tl := tl) (len := len) (kd := 1) (t := t) (S := S) (by rw [eR]; omega)
                    have k9 := mF_ok (mF_ok (sg_ok (mF_ok (show (MD g len 0 1000 (sgS g len (MQ9 g len (MC g len (MN g tl len (M3 g len (M2 g len (M1 g tl len t S)))))))).2.1 = 0 by omega)).1)).1
                    have hc8 : c9 = colF g len (MN g tl len (M3 g len (M2 g len (M1 g tl len t S)))).1 := hcc (by have k8 := k9.2; rw [← hz5] at k8; omega)
                    refine j_aload_n hG dX12_readTable_333 rfl rfl ?_
                    refine j_get (v := .ref (A 37)) hG fX12_93 dX12_readTable_334 hW320_.1 rfl ?_
                    refine j_aload_n hG dX12_readTable_337 rfl rfl ?_
                    refine j_get (v := .int (iZ (V319_ 36))) hG fX12_280 dX12_readTable_338 hW320_.1 rfl ?_
                    refine j_eq (show (V319_ 36 : Int) = ((t : Int) : Int) from ((ho324_ 36 (by decide) (by decide) (by decide) (by decide) (by decide) (by decide)).trans h36)) ?_
                    refine j_iload_n hG dX12_readTable_341 rfl rfl ?_
                    refine j_iast hG dX12_readTable_342 (MF_a37 hW320_) (by omega) (by decide) (fun f328_ h329_ fr330_ => ?_)
                    have hW331_ : MF E rg f0 f328_ m A V319_ (up G 37 (fup (G 37) (t : Int) 1)) := MF_a hW320_ 37 rfl h329_ fr330_
                    refine j_aload_n hG dX12_readTable_343 rfl rfl ?_
                    refine j_get (v := .ref (A 38)) hG fX12_96 dX12_readTable_344 hW331_.1 rfl ?_
                    refine j_aload_n hG dX12_readTable_347 rfl rfl ?_
                    refine j_get (v := .int (iZ (V319_ 36))) hG fX12_280 dX12_readTable_348 hW331_.1 rfl ?_
                    refine j_eq (show (V319_ 36 : Int) = ((t : Int) : Int) from ((ho324_ 36 (by decide) (by decide) (by decide) (by decide) (by decide) (by decide)).trans h36)) ?_
                    refine j_iload_n hG dX12_readTable_351 rfl rfl ?_
                    refine j_iast hG dX12_readTable_352 (MF_a38 hW331_) (by omega) (by decide) (fun f332_ h333_ fr334_ => ?_)
                    have hW335_ : MF E rg f0 f332_ m A V319_ (up (up G 37 (fup (G 37) (t : Int) 1)) 38 (fup (G 38) (t : Int) (nameT g tl len (M3 g len (M2 g len (M1 g tl len t S))).1))) := MF_a hW331_ 38 rfl h333_ fr334_
                    refine j_aload_n hG dX12_readTable_353 rfl rfl ?_
                    refine j_get (v := .ref (A 39)) hG fX12_99 dX12_readTable_354 hW335_.1 rfl ?_
                    refine j_aload_n hG dX12_readTable_357 rfl rfl ?_
                    refine j_get (v := .int (iZ (V319_ 36))) hG fX12_280 dX12_readTable_358 hW335_.1 rfl ?_
                    refine j_eq (show (V319_ 36 : Int) = ((t : Int) : Int) from ((ho324_ 36 (by decide) (by decide) (by decide) (by decide) (by decide) (by decide)).trans h36)) ?_
                    refine j_iload hG dX12_readTable_361 rfl ?_
                    refine j_iast hG dX12_readTable_363 (MF_a39 hW335_) (by omega) (by decide) (fun f336_ h337_ fr338_ => ?_)
                    have hW339_ : MF E rg f0 f336_ m A V319_ (up (up (up G 37 (fup (G 37) (t : Int) 1)) 38 (fup (G 38) (t : Int) (nameT g tl len (M3 g len (M2 g len (M1 g tl len t S))).1))) 39 (fup (G 39) (t : Int) (sgV g len (MQ9 g len (MC g len (MN g tl len (M3 g len (M2 g len (M1 g tl len t S))))))))) := MF_a hW335_ 39 rfl h337_ fr338_
                    refine j_aload_n hG dX12_readTable_364 rfl rfl ?_
                    refine j_get (v := .ref (A 40)) hG fX12_102 dX12_readTable_365 hW339_.1 rfl ?_
                    refine j_aload_n hG dX12_readTable_368 rfl rfl ?_
                    refine j_get (v := .int (iZ (V319_ 36))) hG fX12_280 dX12_readTable_369 hW339_.1 rfl ?_
                    refine j_eq (show (V319_ 36 : Int) = ((t : Int) : Int) from ((ho324_ 36 (by decide) (by decide) (by decide) (by decide) (by decide) (by decide)).trans h36)) ?_
                    refine j_iload hG dX12_readTable_372 rfl ?_
                    refine j_iast hG dX12_readTable_374 (MF_a40 hW339_) (by omega) (by decide) (fun f340_ h341_ fr342_ => ?_)
                    have hW343_ : MF E rg f0 f340_ m A V319_ (up (up (up (up G 37 (fup (G 37) (t : Int) 1)) 38 (fup (G 38) (t : Int) (nameT g tl len (M3 g len (M2 g len (M1 g tl len t S))).1))) 39 (fup (G 39) (t : Int) (sgV g len (MQ9 g len (MC g len (MN g tl len (M3 g len (M2 g len (M1 g tl len t S))))))))) 40 (fup (G 40) (t : Int) c9)) := MF_a hW339_ 40 rfl h341_ fr342_
                    refine j_aload_n hG dX12_readTable_375 rfl rfl ?_
                    refine j_get (v := .ref (A 41)) hG fX12_105 dX12_readTable_376 hW343_.1 rfl ?_
                    refine j_aload_n hG dX12_readTable_379 rfl rfl ?_
                    refine j_get (v := .int (iZ (V319_ 36))) hG fX12_280 dX12_readTable_380 hW343_.1 rfl ?_
                    refine j_eq (show (V319_ 36 : Int) = ((t : Int) : Int) from ((ho324_ 36 (by decide) (by decide) (by decide) (by decide) (by decide) (by decide)).trans h36)) ?_
                    refine j_iload hG dX12_readTable_383 rfl ?_
                    refine j_iast hG dX12_readTable_385 (MF_a41 hW343_) (by omega) (by decide) (fun f344_ h345_ fr346_ => ?_)
                    have hW347_ : MF E rg f0 f344_ m A V319_ (up (up (up (up (up G 37 (fup (G 37) (t : Int) 1)) 38 (fup (G 38) (t : Int) (nameT g tl len (M3 g len (M2 g len (M1 g tl len t S))).1))) 39 (fup (G 39) (t : Int) (sgV g len (MQ9 g len (MC g len (MN g tl len (M3 g len (M2 g len (M1 g tl len t S))))))))) 40 (fup (G 40) (t : Int) c9)) 41 (fup (G 41) (t : Int) (woF g len (MC g len (MN g tl len (M3 g len (M2 g len (M1 g tl len t S))))).1))) := MF_a hW343_ 41 rfl h345_ fr346_
                    refine j_aload_n hG dX12_readTable_386 rfl rfl ?_
                    refine j_get (v := .ref (A 42)) hG fX12_108 dX12_readTable_387 hW347_.1 rfl ?_
                    refine j_iload_n hG dX12_readTable_390 rfl rfl ?_
                    refine j_aload_n hG dX12_readTable_391 rfl rfl ?_
                    refine j_get (v := .int (iZ (V319_ 36))) hG fX12_280 dX12_readTable_392 hW347_.1 rfl ?_
                    refine j_eq (show (V319_ 36 : Int) = ((t : Int) : Int) from ((ho324_ 36 (by decide) (by decide) (by decide) (by decide) (by decide) (by decide)).trans h36)) ?_
                    refine j_iast hG dX12_readTable_395 (MF_a42 hW347_) (by omega) (by decide) (fun f348_ h349_ fr350_ => ?_)
                    have hW351_ : MF E rg f0 f348_ m A V319_ (up (up (up (up (up (up G 37 (fup (G 37) (t : Int) 1)) 38 (fup (G 38) (t : Int) (nameT g tl len (M3 g len (M2 g len (M1 g tl len t S))).1))) 39 (fup (G 39) (t : Int) (sgV g len (MQ9 g len (MC g len (MN g tl len (M3 g len (M2 g len (M1 g tl len t S))))))))) 40 (fup (G 40) (t : Int) c9)) 41 (fup (G 41) (t : Int) (woF g len (MC g len (MN g tl len (M3 g len (M2 g len (M1 g tl len t S))))).1))) 42 (fup (G 42) L9 (t : Int))) := MF_a hW347_ 42 rfl h349_ fr350_
                    refine j_aload_n hG dX12_readTable_396 rfl rfl ?_
                    refine j_dup hG dX12_readTable_397 rfl ?_
                    refine j_get (v := .int (iZ (V319_ 36))) hG fX12_280 dX12_readTable_398 hW351_.1 rfl ?_
                    refine j_iconst hG dX12_readTable_401 ?_
                    refine j_iadd hG dX12_readTable_402 ?_
                    refine j_put hG pX12_280 dX12_readTable_403 hW351_.1 rfl rfl (Nat.le_of_ble_eq_true rfl) (fun f352_ h353_ fr354_ => ?_)
                    have hW355_ : MF E rg f0 f352_ m A (up V319_ 36 ((V319_ 36) + 1)) (up (up (up (up (up (up G 37 (fup (G 37) (t : Int) 1)) 38 (fup (G 38) (t : Int) (nameT g tl len (M3 g len (M2 g len (M1 g tl len t S))).1))) 39 (fup (G 39) (t : Int) (sgV g len (MQ9 g len (MC g len (MN g tl len (M3 g len (M2 g len (M1 g tl len t S))))))))) 40 (fup (G 40) (t : Int) c9)) 41 (fup (G 41) (t : Int) (woF g len (MC g len (MN g tl len (M3 g len (M2 g len (M1 g tl len t S))))).1))) 42 (fup (G 42) L9 (t : Int))) := MF_p36 hW351_ h353_ fr354_
                    exact j_vret hG hZ dX12_readTable_406 (Nat.zero_le _) (Nat.zero_le _) (⟨rfl, _, _, 1, hkd, hW355_, by rw [eR]; exact ht326_, fun i i0 a b c d e f => by rw [up_n _ _ i0]; exact ho324_ i a b c d e f, Or.inr ⟨by rw [eR]; omega, by show V319_ 36 + 1 = _; rw [ho324_ 36 (by decide) (by decide) (by decide) (by decide) (by decide) (by decide), h36], (nameT g tl len (M3 g len (M2 g len (M1 g tl len t S))).1), (sgV g len (MQ9 g len (MC g len (MN g tl len (M3 g len (M2 g len (M1 g tl len t S))))))), c9, (woF g len (MC g len (MN g tl len (M3 g len (M2 g len (M1 g tl len t S))))).1), by rw [h42, hL9], fun q => by omega, fun _ => rfl, fun _ => ⟨hc8, rfl, rfl⟩, fun q => by omega, fun q => by omega, fun q => by omega, fun q => by omega⟩⟩)
                  · -- on at 329
                    have eR : RK g tl len 1 (M3 g len (M2 g len (M1 g tl len t S))) = (MD g len 0 1000 (sgS g len (MQ9 g len (MC g len (MN g tl len (M3 g len (M2 g len (M1 g tl len t S)))))))) := by unfold RK; (repeat (first | rw [if_pos (by omega)] | rw [if_neg (by omega)]))
                    exact j_vret hG hZ dX12_readTable_332 (Nat.zero_le _) (Nat.zero_le _) (⟨rfl, V319_, G, 1, hkd, hW320_, by rw [eR]; exact ht326_, fun i i0 a b c d e f => ho324_ i a b c d e f, Or.inl ⟨by rw [eR]; omega, (ho324_ 36 (by decide) (by decide) (by decide) (by decide) (by decide) (by decide)).trans h36, rfl⟩⟩)
                refine j_aload_n hG dX12_readTable_205 rfl rfl ?_
                refine j_bipush hG dX12_readTable_206 (by decide) ?_
                refine j_callV (rest := [.ref m]) hG vX12_266 dX12_readTable_208 (c_X12_isSign (g := g) (len := len) (s := (MC g len (MN g tl len (M3 g len (M2 g len (M1 g tl len t S))))).1) (c := 60) hW303_ ht309_.1.2.2.1 ht309_.1.2.2.2 ht309_.2.2.2.2 hg (by omega)) hW303_.1 rfl rfl (by decide) (by decide) (Nat.le_of_ble_eq_true rfl) rfl rfl (Nat.zero_le _) (Nat.zero_le _) ?_
                rintro _ _ ⟨⟨z356_, rfl, hz357_⟩, rfl⟩
                refine j_st (st' := [.int (iZ (z356_)), .ref m]) rfl ?_
                refine j_if_ne (tgt := 232) hG dX12_readTable_211 (by decide) (by omega) (fun c360_ => ?_) (fun c360_ => ?_)
                · -- taken at 211
                  obtain ⟨-, e358_⟩ := hz357_.resolve_right (fun h => absurd h.1 (by omega))
                  refine j_iconst hG dX12_readTable_232 ?_
                  refine j_goto (tgt := 237) hG dX12_readTable_233 (by decide) ?_
                  exact hj310_ (1) (by have e : relF g len (MC g len (MN g tl len (M3 g len (M2 g len (M1 g tl len t S))))).1 ≠ -1 := (by unfold relF; rw [if_pos e358_]; decide); rw [if_pos e])
                · -- on at 211
                  obtain ⟨-, e359_⟩ := hz357_.resolve_left (fun h => absurd h.1 (by omega))
                  refine j_aload_n hG dX12_readTable_214 rfl rfl ?_
                  refine j_bipush hG dX12_readTable_215 (by decide) ?_
                  refine j_callV (rest := [.ref m]) hG vX12_266 dX12_readTable_217 (c_X12_isSign (g := g) (len := len) (s := (MC g len (MN g tl len (M3 g len (M2 g len (M1 g tl len t S))))).1) (c := 62) hW303_ ht309_.1.2.2.1 ht309_.1.2.2.2 ht309_.2.2.2.2 hg (by omega)) hW303_.1 rfl rfl (by decide) (by decide) (Nat.le_of_ble_eq_true rfl) rfl rfl (Nat.zero_le _) (Nat.zero_le _) ?_
                  rintro _ _ ⟨⟨z361_, rfl, hz362_⟩, rfl⟩
                  refine j_st (st' := [.int (iZ (z361_)), .ref m]) rfl ?_
                  refine j_if_ne (tgt := 232) hG dX12_readTable_220 (by decide) (by omega) (fun c365_ => ?_) (fun c365_ => ?_)
                  · -- taken at 220
                    obtain ⟨-, e363_⟩ := hz362_.resolve_right (fun h => absurd h.1 (by omega))
                    refine j_iconst hG dX12_readTable_232 ?_
                    refine j_goto (tgt := 237) hG dX12_readTable_233 (by decide) ?_
                    exact hj310_ (1) (by have e : relF g len (MC g len (MN g tl len (M3 g len (M2 g len (M1 g tl len t S))))).1 ≠ -1 := (by unfold relF; rw [if_neg (by rw [e359_]; decide), if_pos e363_]; decide); rw [if_pos e])
                  · -- on at 220
                    obtain ⟨-, e364_⟩ := hz362_.resolve_left (fun h => absurd h.1 (by omega))
                    refine j_aload_n hG dX12_readTable_223 rfl rfl ?_
                    refine j_bipush hG dX12_readTable_224 (by decide) ?_
                    refine j_callV (rest := [.ref m]) hG vX12_266 dX12_readTable_226 (c_X12_isSign (g := g) (len := len) (s := (MC g len (MN g tl len (M3 g len (M2 g len (M1 g tl len t S))))).1) (c := 61) hW303_ ht309_.1.2.2.1 ht309_.1.2.2.2 ht309_.2.2.2.2 hg (by omega)) hW303_.1 rfl rfl (by decide) (by decide) (Nat.le_of_ble_eq_true rfl) rfl rfl (Nat.zero_le _) (Nat.zero_le _) ?_
                    rintro _ _ ⟨⟨z366_, rfl, hz367_⟩, rfl⟩
                    refine j_st (st' := [.int (iZ (z366_)), .ref m]) rfl ?_
                    refine j_if_eq (tgt := 236) hG dX12_readTable_229 (by decide) (by omega) (fun c370_ => ?_) (fun c370_ => ?_)
                    · -- taken at 229
                      obtain ⟨-, e369_⟩ := hz367_.resolve_left (fun h => absurd h.1 (by omega))
                      refine j_iconst hG dX12_readTable_236 ?_
                      exact hj310_ (0) (by have e : relF g len (MC g len (MN g tl len (M3 g len (M2 g len (M1 g tl len t S))))).1 = -1 := (by unfold relF; rw [if_neg (by rw [e359_]; decide), if_neg (by rw [e364_]; decide), if_neg (by rw [e369_]; decide)]); rw [if_neg (fun q => q e)])
                    · -- on at 229
                      obtain ⟨-, e368_⟩ := hz367_.resolve_right (fun h => absurd h.1 (by omega))
                      refine j_iconst hG dX12_readTable_232 ?_
                      refine j_goto (tgt := 237) hG dX12_readTable_233 (by decide) ?_
                      exact hj310_ (1) (by have e : relF g len (MC g len (MN g tl len (M3 g len (M2 g len (M1 g tl len t S))))).1 ≠ -1 := (by unfold relF; rw [if_neg (by rw [e359_]; decide), if_neg (by rw [e364_]; decide), if_pos e368_]; decide); rw [if_pos e])
              refine j_iload hG dX12_readTable_166 rfl ?_
              refine j_iconst hG dX12_readTable_168 ?_
              refine j_icmp_lt (tgt := 189) hG dX12_readTable_169 (by decide) (by omega) (by omega) (fun c371_ => ?_) (fun c371_ => ?_)
              · -- taken at 169
                refine j_iconst hG dX12_readTable_189 ?_
                refine j_goto (tgt := 194) hG dX12_readTable_190 (by decide) ?_
                exact hj301_ (1) (by rcases hc9 with ⟨q1, q2⟩ | ⟨q1, q2, q3⟩ | ⟨q1, q2, q3⟩; (have e : colF g len (MN g tl len (M3 g len (M2 g len (M1 g tl len t S)))).1 = 0 := by unfold colF; rw [if_pos q2]); exact ⟨by rw [if_pos (by omega)], fun _ => by omega⟩; (have e : colF g len (MN g tl len (M3 g len (M2 g len (M1 g tl len t S)))).1 = 1 := by unfold colF; rw [if_neg (by rw [q2]; decide), if_pos q3]); exact ⟨by rw [if_pos (by omega)], fun _ => by omega⟩; omega)
              · -- on at 169
                refine j_aload_n hG dX12_readTable_172 rfl rfl ?_
                refine j_bipush hG dX12_readTable_173 (by decide) ?_
                refine j_bipush hG dX12_readTable_175 (by decide) ?_
                refine j_bipush hG dX12_readTable_177 (by decide) ?_
                refine j_bipush hG dX12_readTable_179 (by decide) ?_
                refine j_iconst hG dX12_readTable_181 ?_
                refine j_iconst hG dX12_readTable_182 ?_
                refine j_callV (rest := [.ref m]) hG vX12_276 dX12_readTable_183 (c_X12_isWord_15 (g := g) (len := len) (s := (MN g tl len (M3 g len (M2 g len (M1 g tl len t S)))).1) hW33_ ht39_.1.2.2.1 ht39_.1.2.2.2 ht39_.2.2.2.2 hg) hW33_.1 rfl rfl (by decide) (by decide) (Nat.le_of_ble_eq_true rfl) rfl rfl (Nat.zero_le _) (Nat.zero_le _) ?_
                rintro _ _ ⟨⟨z372_, rfl, hz373_⟩, rfl⟩
                refine j_st (st' := [.int (iZ (z372_)), .ref m]) rfl ?_
                refine j_if_eq (tgt := 193) hG dX12_readTable_186 (by decide) (by omega) (fun c376_ => ?_) (fun c376_ => ?_)
                · -- taken at 186
                  obtain ⟨-, e375_⟩ := hz373_.resolve_left (fun h => absurd h.1 (by omega))
                  refine j_iconst hG dX12_readTable_193 ?_
                  exact hj301_ (0) (by rcases hc9 with ⟨q1, q2⟩ | ⟨q1, q2, q3⟩ | ⟨q1, q2, q3⟩; omega; omega; (have e : colF g len (MN g tl len (M3 g len (M2 g len (M1 g tl len t S)))).1 = -1 := by unfold colF; rw [if_neg (by rw [q2]; decide), if_neg (by rw [q3]; decide), if_neg (by rw [e375_]; decide)]); exact ⟨by rw [if_neg (by omega)], fun q => absurd q (by decide)⟩)
                · -- on at 186
                  obtain ⟨-, e374_⟩ := hz373_.resolve_right (fun h => absurd h.1 (by omega))
                  refine j_iconst hG dX12_readTable_189 ?_
                  refine j_goto (tgt := 194) hG dX12_readTable_190 (by decide) ?_
                  exact hj301_ (1) (by rcases hc9 with ⟨q1, q2⟩ | ⟨q1, q2, q3⟩ | ⟨q1, q2, q3⟩; omega; omega; (have e : colF g len (MN g tl len (M3 g len (M2 g len (M1 g tl len t S)))).1 = 2 := by unfold colF; rw [if_neg (by rw [q2]; decide), if_neg (by rw [q3]; decide), if_pos e374_]); exact ⟨by rw [if_pos (by omega)], fun _ => by omega⟩)
            refine j_aload_n hG dX12_readTable_120 rfl rfl ?_
            refine j_bipush hG dX12_readTable_121 (by decide) ?_
            refine j_bipush hG dX12_readTable_123 (by decide) ?_
            refine j_bipush hG dX12_readTable_125 (by decide) ?_
            refine j_iconst hG dX12_readTable_127 ?_
            refine j_iconst hG dX12_readTable_128 ?_
            refine j_iconst hG dX12_readTable_129 ?_
            refine j_callV (rest := []) hG vX12_276 dX12_readTable_130 (c_X12_isWord_13 (g := g) (len := len) (s := (MN g tl len (M3 g len (M2 g len (M1 g tl len t S)))).1) hW33_ ht39_.1.2.2.1 ht39_.1.2.2.2 ht39_.2.2.2.2 hg) hW33_.1 rfl rfl (by decide) (by decide) (Nat.le_of_ble_eq_true rfl) rfl rfl (Nat.zero_le _) (Nat.zero_le _) ?_
            rintro _ _ ⟨⟨z377_, rfl, hz378_⟩, rfl⟩
            refine j_st (st' := [.int (iZ (z377_))]) rfl ?_
            refine j_if_eq (tgt := 140) hG dX12_readTable_133 (by decide) (by omega) (fun c381_ => ?_) (fun c381_ => ?_)
            · -- taken at 133
              obtain ⟨-, e380_⟩ := hz378_.resolve_left (fun h => absurd h.1 (by omega))
              refine j_aload_n hG dX12_readTable_140 rfl rfl ?_
              refine j_bipush hG dX12_readTable_141 (by decide) ?_
              refine j_bipush hG dX12_readTable_143 (by decide) ?_
              refine j_bipush hG dX12_readTable_145 (by decide) ?_
              refine j_bipush hG dX12_readTable_147 (by decide) ?_
              refine j_bipush hG dX12_readTable_149 (by decide) ?_
              refine j_iconst hG dX12_readTable_151 ?_
              refine j_callV (rest := []) hG vX12_276 dX12_readTable_152 (c_X12_isWord_14 (g := g) (len := len) (s := (MN g tl len (M3 g len (M2 g len (M1 g tl len t S)))).1) hW33_ ht39_.1.2.2.1 ht39_.1.2.2.2 ht39_.2.2.2.2 hg) hW33_.1 rfl rfl (by decide) (by decide) (Nat.le_of_ble_eq_true rfl) rfl rfl (Nat.zero_le _) (Nat.zero_le _) ?_
              rintro _ _ ⟨⟨z382_, rfl, hz383_⟩, rfl⟩
              refine j_st (st' := [.int (iZ (z382_))]) rfl ?_
              refine j_if_eq (tgt := 162) hG dX12_readTable_155 (by decide) (by omega) (fun c386_ => ?_) (fun c386_ => ?_)
              · -- taken at 155
                obtain ⟨-, e385_⟩ := hz383_.resolve_left (fun h => absurd h.1 (by omega))
                refine j_iconst hG dX12_readTable_162 ?_
                exact hj300_ (2) (Or.inr (Or.inr ⟨rfl, e380_, e385_⟩))
              · -- on at 155
                obtain ⟨-, e384_⟩ := hz383_.resolve_right (fun h => absurd h.1 (by omega))
                refine j_iconst hG dX12_readTable_158 ?_
                refine j_goto (tgt := 163) hG dX12_readTable_159 (by decide) ?_
                exact hj300_ (1) (Or.inr (Or.inl ⟨rfl, e380_, e384_⟩))
            · -- on at 133
              obtain ⟨-, e379_⟩ := hz378_.resolve_right (fun h => absurd h.1 (by omega))
              refine j_iconst hG dX12_readTable_136 ?_
              refine j_goto (tgt := 163) hG dX12_readTable_137 (by decide) ?_
              exact hj300_ (0) (Or.inl ⟨rfl, e379_⟩)
        · -- on at 87
          have hk9 : kd = 0 := by omega
          subst hk9
          refine j_aload_n hG dX12_readTable_90 rfl rfl ?_
          refine j_lconst (y := 0) hG dX12_readTable_91 (by decide) ?_
          refine j_ldc2 (z := 2) hG dX12_readTable_92 kX12_126 (by decide) ?_
          refine j_callV (rest := []) hG vX12_269 dX12_readTable_95 (c_X12_number (g := g) (len := len) (S := (M3 g len (M2 g len (M1 g tl len t S)))) (lo := 0) (hi := 2) hW24_ h4429_ h43 hl hg ht30_ (by omega) (by omega)) hW24_.1 rfl rfl (by decide) (by decide) (Nat.le_of_ble_eq_true rfl) rfl rfl (Nat.zero_le _) (Nat.zero_le _) ?_
          rintro _ f391_ ⟨rfl, V387_, hW388_, ht389_, ho390_⟩
          refine j_st (st' := [.int (iZ (woF g len (M3 g len (M2 g len (M1 g tl len t S))).1))]) rfl ?_
          have ho392_ := othM_tr ho28_ ho390_
          have h44393_ : V387_ 44 = len := (ho390_ 44 (by decide) (by decide) (by decide) (by decide) (by decide) (by decide)).trans h4429_
          have ht394_ : tk V387_ g len (MD g len 0 2 (M3 g len (M2 g len (M1 g tl len t S)))) := ht389_
          refine j_goto (tgt := 105) hG dX12_readTable_98 (by decide) ?_
          refine j_istore_n (lv' := [(0, .ref m), (1, .int (iZ (L9))), (2, .int (iZ (0))), (3, .int (iZ (woF g len (M3 g len (M2 g len (M1 g tl len t S))).1)))]) hG dX12_readTable_105 rfl (by decide) rfl ?_
          refine j_iconst hG dX12_readTable_106 ?_
          refine j_istore (lv' := [(0, .ref m), (1, .int (iZ (L9))), (2, .int (iZ (0))), (3, .int (iZ (woF g len (M3 g len (M2 g len (M1 g tl len t S))).1))), (4, .int (iZ (0)))]) hG dX12_readTable_107 (by decide) rfl ?_
          refine j_iconst hG dX12_readTable_109 ?_
          refine j_istore (lv' := [(0, .ref m), (1, .int (iZ (L9))), (2, .int (iZ (0))), (3, .int (iZ (woF g len (M3 g len (M2 g len (M1 g tl len t S))).1))), (4, .int (iZ (0))), (5, .int (iZ (0)))]) hG dX12_readTable_110 (by decide) rfl ?_
          refine j_iconst hG dX12_readTable_112 ?_
          refine j_istore (lv' := [(0, .ref m), (1, .int (iZ (L9))), (2, .int (iZ (0))), (3, .int (iZ (woF g len (M3 g len (M2 g len (M1 g tl len t S))).1))), (4, .int (iZ (0))), (5, .int (iZ (0))), (6, .int (iZ (0)))]) hG dX12_readTable_113 (by decide) rfl ?_
          refine j_iload_n hG dX12_readTable_115 rfl rfl ?_
          refine j_iconst hG dX12_readTable_116 ?_
          refine j_icmp_ne (tgt := 249) hG dX12_readTable_117 (by decide) (by omega) (by omega) (fun c395_ => ?_) (fun c395_ => ?_)
          · -- taken at 117
            refine j_iload_n hG dX12_readTable_249 rfl rfl ?_
            refine j_iconst hG dX12_readTable_250 ?_
            refine j_icmp_eq (tgt := 259) hG dX12_readTable_251 (by decide) (by omega) (by omega) (fun c396_ => ?_) (fun c396_ => ?_)
            · -- taken at 251
              exfalso; omega
            · -- on at 251
              refine j_iload_n hG dX12_readTable_254 rfl rfl ?_
              refine j_iconst hG dX12_readTable_255 ?_
              refine j_icmp_ne (tgt := 268) hG dX12_readTable_256 (by decide) (by omega) (by omega) (fun c397_ => ?_) (fun c397_ => ?_)
              · -- taken at 256
                refine j_iload_n hG dX12_readTable_268 rfl rfl ?_
                refine j_iconst hG dX12_readTable_269 ?_
                refine j_icmp_eq (tgt := 278) hG dX12_readTable_270 (by decide) (by omega) (by omega) (fun c398_ => ?_) (fun c398_ => ?_)
                · -- taken at 270
                  exfalso; omega
                · -- on at 270
                  refine j_iload_n hG dX12_readTable_273 rfl rfl ?_
                  refine j_iconst hG dX12_readTable_274 ?_
                  refine j_icmp_ne (tgt := 307) hG dX12_readTable_275 (by decide) (by omega) (by omega) (fun c399_ => ?_) (fun c399_ => ?_)
                  · -- taken at 275
                    refine j_iload_n hG dX12_readTable_307 rfl rfl ?_
                    refine j_bipush hG dX12_readTable_308 (by decide) ?_
                    refine j_icmp_eq (tgt := 319) hG dX12_readTable_310 (by decide) (by omega) (by omega) (fun c400_ => ?_) (fun c400_ => ?_)
                    · -- taken at 310
                      exfalso; omega
                    · -- on at 310
                      refine j_iload_n hG dX12_readTable_313 rfl rfl ?_
                      refine j_bipush hG dX12_readTable_314 (by decide) ?_
                      refine j_icmp_ne (tgt := 325) hG dX12_readTable_316 (by decide) (by omega) (by omega) (fun c401_ => ?_) (fun c401_ => ?_)
                      · -- taken at 316
                        refine j_aload_n hG dX12_readTable_325 rfl rfl ?_
                        have b9_ := ht394_.2.2.2.1
                        refine j_get (v := .int (iZ (V387_ 50))) hG fX12_256 dX12_readTable_326 hW388_.1 rfl ?_
                        refine j_eq (show (V387_ 50 : Int) = ((MD g len 0 2 (M3 g len (M2 g len (M1 g tl len t S)))).2.1 : Int) from ht394_.2.1) ?_
                        refine j_if_eq (tgt := 333) hG dX12_readTable_329 (by decide) (by omega) (fun c402_ => ?_) (fun c402_ => ?_)
                        · -- taken at 329
                          have eR : RK g tl len 0 (M3 g len (M2 g len (M1 g tl len t S))) = (MD g len 0 2 (M3 g len (M2 g len (M1 g tl len t S)))) := by unfold RK; (repeat (first | rw [if_pos (by omega)] | rw [if_neg (by omega)]))
                          have ok9 := rt_ok (g := g) (tl := tl) (len := len) (kd := 0) (t := t) (S := S) (by rw [eR]; omega)
                          refine j_aload_n hG dX12_readTable_333 rfl rfl ?_
                          refine j_get (v := .ref (A 37)) hG fX12_93 dX12_readTable_334 hW388_.1 rfl ?_
                          refine j_aload_n hG dX12_readTable_337 rfl rfl ?_
                          refine j_get (v := .int (iZ (V387_ 36))) hG fX12_280 dX12_readTable_338 hW388_.1 rfl ?_
                          refine j_eq (show (V387_ 36 : Int) = ((t : Int) : Int) from ((ho392_ 36 (by decide) (by decide) (by decide) (by decide) (by decide) (by decide)).trans h36)) ?_
                          refine j_iload_n hG dX12_readTable_341 rfl rfl ?_
                          refine j_iast hG dX12_readTable_342 (MF_a37 hW388_) (by omega) (by decide) (fun f403_ h404_ fr405_ => ?_)
                          have hW406_ : MF E rg f0 f403_ m A V387_ (up G 37 (fup (G 37) (t : Int) 0)) := MF_a hW388_ 37 rfl h404_ fr405_
                          refine j_aload_n hG dX12_readTable_343 rfl rfl ?_
                          refine j_get (v := .ref (A 38)) hG fX12_96 dX12_readTable_344 hW406_.1 rfl ?_
                          refine j_aload_n hG dX12_readTable_347 rfl rfl ?_
                          refine j_get (v := .int (iZ (V387_ 36))) hG fX12_280 dX12_readTable_348 hW406_.1 rfl ?_
                          refine j_eq (show (V387_ 36 : Int) = ((t : Int) : Int) from ((ho392_ 36 (by decide) (by decide) (by decide) (by decide) (by decide) (by decide)).trans h36)) ?_
                          refine j_iload_n hG dX12_readTable_351 rfl rfl ?_
                          refine j_iast hG dX12_readTable_352 (MF_a38 hW406_) (by omega) (by decide) (fun f407_ h408_ fr409_ => ?_)
                          have hW410_ : MF E rg f0 f407_ m A V387_ (up (up G 37 (fup (G 37) (t : Int) 0)) 38 (fup (G 38) (t : Int) (woF g len (M3 g len (M2 g len (M1 g tl len t S))).1))) := MF_a hW406_ 38 rfl h408_ fr409_
                          refine j_aload_n hG dX12_readTable_353 rfl rfl ?_
                          refine j_get (v := .ref (A 39)) hG fX12_99 dX12_readTable_354 hW410_.1 rfl ?_
                          refine j_aload_n hG dX12_readTable_357 rfl rfl ?_
                          refine j_get (v := .int (iZ (V387_ 36))) hG fX12_280 dX12_readTable_358 hW410_.1 rfl ?_
                          refine j_eq (show (V387_ 36 : Int) = ((t : Int) : Int) from ((ho392_ 36 (by decide) (by decide) (by decide) (by decide) (by decide) (by decide)).trans h36)) ?_
                          refine j_iload hG dX12_readTable_361 rfl ?_
                          refine j_iast hG dX12_readTable_363 (MF_a39 hW410_) (by omega) (by decide) (fun f411_ h412_ fr413_ => ?_)
                          have hW414_ : MF E rg f0 f411_ m A V387_ (up (up (up G 37 (fup (G 37) (t : Int) 0)) 38 (fup (G 38) (t : Int) (woF g len (M3 g len (M2 g len (M1 g tl len t S))).1))) 39 (fup (G 39) (t : Int) 0)) := MF_a hW410_ 39 rfl h412_ fr413_
                          refine j_aload_n hG dX12_readTable_364 rfl rfl ?_
                          refine j_get (v := .ref (A 40)) hG fX12_102 dX12_readTable_365 hW414_.1 rfl ?_
                          refine j_aload_n hG dX12_readTable_368 rfl rfl ?_
                          refine j_get (v := .int (iZ (V387_ 36))) hG fX12_280 dX12_readTable_369 hW414_.1 rfl ?_
                          refine j_eq (show (V387_ 36 : Int) = ((t : Int) : Int) from ((ho392_ 36 (by decide) (by decide) (by decide) (by decide) (by decide) (by decide)).trans h36)) ?_
                          refine j_iload hG dX12_readTable_372 rfl ?_
                          refine j_iast hG dX12_readTable_374 (MF_a40 hW414_) (by omega) (by decide) (fun f415_ h416_ fr417_ => ?_)
                          have hW418_ : MF E rg f0 f415_ m A V387_ (up (up (up (up G 37 (fup (G 37) (t : Int) 0)) 38 (fup (G 38) (t : Int) (woF g len (M3 g len (M2 g len (M1 g tl len t S))).1))) 39 (fup (G 39) (t : Int) 0)) 40 (fup (G 40) (t : Int) 0)) := MF_a hW414_ 40 rfl h416_ fr417_
                          refine j_aload_n hG dX12_readTable_375 rfl rfl ?_
                          refine j_get (v := .ref (A 41)) hG fX12_105 dX12_readTable_376 hW418_.1 rfl ?_
                          refine j_aload_n hG dX12_readTable_379 rfl rfl ?_
                          refine j_get (v := .int (iZ (V387_ 36))) hG fX12_280 dX12_readTable_380 hW418_.1 rfl ?_
                          refine j_eq (show (V387_ 36 : Int) = ((t : Int) : Int) from ((ho392_ 36 (by decide) (by decide) (by decide) (by decide) (by decide) (by decide)).trans h36)) ?_
                          refine j_iload hG dX12_readTable_383 rfl ?_
                          refine j_iast hG dX12_readTable_385 (MF_a41 hW418_) (by omega) (by decide) (fun f419_ h420_ fr421_ => ?_)
                          have hW422_ : MF E rg f0 f419_ m A V387_ (up (up (up (up (up G 37 (fup (G 37) (t : Int) 0)) 38 (fup (G 38) (t : Int) (woF g len (M3 g len (M2 g len (M1 g tl len t S))).1))) 39 (fup (G 39) (t : Int) 0)) 40 (fup (G 40) (t : Int) 0)) 41 (fup (G 41) (t : Int) 0)) := MF_a hW418_ 41 rfl h420_ fr421_
                          refine j_aload_n hG dX12_readTable_386 rfl rfl ?_
                          refine j_get (v := .ref (A 42)) hG fX12_108 dX12_readTable_387 hW422_.1 rfl ?_
                          refine j_iload_n hG dX12_readTable_390 rfl rfl ?_
                          refine j_aload_n hG dX12_readTable_391 rfl rfl ?_
                          refine j_get (v := .int (iZ (V387_ 36))) hG fX12_280 dX12_readTable_392 hW422_.1 rfl ?_
                          refine j_eq (show (V387_ 36 : Int) = ((t : Int) : Int) from ((ho392_ 36 (by decide) (by decide) (by decide) (by decide) (by decide) (by decide)).trans h36)) ?_
                          refine j_iast hG dX12_readTable_395 (MF_a42 hW422_) (by omega) (by decide) (fun f423_ h424_ fr425_ => ?_)
                          have hW426_ : MF E rg f0 f423_ m A V387_ (up (up (up (up (up (up G 37 (fup (G 37) (t : Int) 0)) 38 (fup (G 38) (t : Int) (woF g len (M3 g len (M2 g len (M1 g tl len t S))).1))) 39 (fup (G 39) (t : Int) 0)) 40 (fup (G 40) (t : Int) 0)) 41 (fup (G 41) (t : Int) 0)) 42 (fup (G 42) L9 (t : Int))) := MF_a hW422_ 42 rfl h424_ fr425_
                          refine j_aload_n hG dX12_readTable_396 rfl rfl ?_
                          refine j_dup hG dX12_readTable_397 rfl ?_
                          refine j_get (v := .int (iZ (V387_ 36))) hG fX12_280 dX12_readTable_398 hW426_.1 rfl ?_
                          refine j_iconst hG dX12_readTable_401 ?_
                          refine j_iadd hG dX12_readTable_402 ?_
                          refine j_put hG pX12_280 dX12_readTable_403 hW426_.1 rfl rfl (Nat.le_of_ble_eq_true rfl) (fun f427_ h428_ fr429_ => ?_)
                          have hW430_ : MF E rg f0 f427_ m A (up V387_ 36 ((V387_ 36) + 1)) (up (up (up (up (up (up G 37 (fup (G 37) (t : Int) 0)) 38 (fup (G 38) (t : Int) (woF g len (M3 g len (M2 g len (M1 g tl len t S))).1))) 39 (fup (G 39) (t : Int) 0)) 40 (fup (G 40) (t : Int) 0)) 41 (fup (G 41) (t : Int) 0)) 42 (fup (G 42) L9 (t : Int))) := MF_p36 hW426_ h428_ fr429_
                          exact j_vret hG hZ dX12_readTable_406 (Nat.zero_le _) (Nat.zero_le _) (⟨rfl, _, _, 0, hkd, hW430_, by rw [eR]; exact ht394_, fun i i0 a b c d e f => by rw [up_n _ _ i0]; exact ho392_ i a b c d e f, Or.inr ⟨by rw [eR]; omega, by show V387_ 36 + 1 = _; rw [ho392_ 36 (by decide) (by decide) (by decide) (by decide) (by decide) (by decide), h36], (woF g len (M3 g len (M2 g len (M1 g tl len t S))).1), 0, 0, 0, by rw [h42, hL9], fun _ => rfl, fun q => by omega, fun q => by omega, fun q => by omega, fun q => by omega, fun q => by omega, fun q => by omega⟩⟩)
                        · -- on at 329
                          have eR : RK g tl len 0 (M3 g len (M2 g len (M1 g tl len t S))) = (MD g len 0 2 (M3 g len (M2 g len (M1 g tl len t S)))) := by unfold RK; (repeat (first | rw [if_pos (by omega)] | rw [if_neg (by omega)]))
                          exact j_vret hG hZ dX12_readTable_332 (Nat.zero_le _) (Nat.zero_le _) (⟨rfl, V387_, G, 0, hkd, hW388_, by rw [eR]; exact ht394_, fun i i0 a b c d e f => ho392_ i a b c d e f, Or.inl ⟨by rw [eR]; omega, (ho392_ 36 (by decide) (by decide) (by decide) (by decide) (by decide) (by decide)).trans h36, rfl⟩⟩)
                      · -- on at 316
                        exfalso; omega
                  · -- on at 275
                    exfalso; omega
              · -- on at 256
                exfalso; omega
          · -- on at 117
            exfalso; omega
      refine j_iload_n hG dX12_readTable_73 rfl rfl ?_
      refine j_iconst hG dX12_readTable_74 ?_
      refine j_icmp_eq (tgt := 82) hG dX12_readTable_75 (by decide) (by omega) (by omega) (fun c431_ => ?_) (fun c431_ => ?_)
      · -- taken at 75
        refine j_iconst hG dX12_readTable_82 ?_
        exact hj22_ (0) (by rw [if_neg (by omega)])
      · -- on at 75
        refine j_iconst hG dX12_readTable_78 ?_
        refine j_goto (tgt := 83) hG dX12_readTable_79 (by decide) ?_
        exact hj22_ (1) (by rw [if_pos (by omega)])
    refine j_iload_n hG dX12_readTable_25 rfl rfl ?_
    refine j_iconst hG dX12_readTable_26 ?_
    refine j_icmp_eq (tgt := 53) hG dX12_readTable_27 (by decide) (by omega) (by omega) (fun c432_ => ?_) (fun c432_ => ?_)
    · -- taken at 27
      refine j_iconst hG dX12_readTable_53 ?_
      exact hj2_ (0) (by rw [if_neg (by rw [← hL9]; intro q; omega)])
    · -- on at 27
      have tr9 := htr L9 (by omega) (by omega)
      refine j_aload_n hG dX12_readTable_30 rfl rfl ?_
      refine j_get (v := .ref (A 42)) hG fX12_108 dX12_readTable_31 hW.1 rfl ?_
      refine j_iload_n hG dX12_readTable_34 rfl rfl ?_
      refine j_iald hG dX12_readTable_35 (MF_a42 hW) (by omega) (by decide) ?_
      refine j_eq (show ((G 42) L9 : Int) = (tl L9 : Int) from (by rw [h42])) ?_
      refine j_iconst hG dX12_readTable_36 ?_
      refine j_icmp_ne (tgt := 53) hG dX12_readTable_37 (by decide) (by omega) (by omega) (fun c433_ => ?_) (fun c433_ => ?_)
      · -- taken at 37
        refine j_iconst hG dX12_readTable_53 ?_
        exact hj2_ (0) (by rw [if_neg (by rw [← hL9]; intro q; omega)])
      · -- on at 37
        refine j_aload_n hG dX12_readTable_40 rfl rfl ?_
        refine j_get (v := .int (iZ (V 36))) hG fX12_280 dX12_readTable_41 hW.1 rfl ?_
        refine j_eq (show (V 36 : Int) = ((t : Int) : Int) from h36) ?_
        refine j_bipush hG dX12_readTable_44 (by decide) ?_
        refine j_eq (show (12 : Int) = (12 : Int) from rfl) ?_
        refine j_icmp_ge (tgt := 53) hG dX12_readTable_46 (by decide) (by omega) (by omega) (fun c434_ => ?_) (fun c434_ => ?_)
        · -- taken at 46
          refine j_iconst hG dX12_readTable_53 ?_
          exact hj2_ (0) (by rw [if_neg (by rw [← hL9]; intro q; omega)])
        · -- on at 46
          refine j_iconst hG dX12_readTable_49 ?_
          refine j_goto (tgt := 54) hG dX12_readTable_50 (by decide) ?_
          exact hj2_ (1) (by rw [if_pos (by rw [← hL9]; exact ⟨by omega, by omega, by omega⟩)])
  refine j_aload_n hG dX12_readTable_0 rfl rfl ?_
  refine j_callV (rest := []) hG vX12_273 dX12_readTable_1 (c_X12_isName (g := g) (len := len) (s := S.1) hW ht.1.1 ht.1.2.1 ht.1.2.2.1 ht.2.2.2.2 hl) hW.1 rfl rfl (by decide) (by decide) (Nat.le_of_ble_eq_true rfl) rfl rfl (Nat.zero_le _) (Nat.zero_le _) ?_
  rintro _ _ ⟨⟨z435_, rfl, hz436_⟩, rfl⟩
  refine j_st (st' := [.int (iZ (z435_))]) rfl ?_
  refine j_if_eq (tgt := 22) hG dX12_readTable_4 (by decide) (by omega) (fun c439_ => ?_) (fun c439_ => ?_)
  · -- taken at 4
    obtain ⟨-, e438_⟩ := hz436_.resolve_left (fun h => absurd h.1 (by omega))
    refine j_iconst hG dX12_readTable_22 ?_
    exact hj1_ (-1) (letr_0 e438_).symm
  · -- on at 4
    obtain ⟨-, e437_⟩ := hz436_.resolve_right (fun h => absurd h.1 (by omega))
    have q9 := letr_1 e437_.1 e437_.2
    have m9 := so_1m e437_.1
    refine j_aload_n hG dX12_readTable_7 rfl rfl ?_
    refine j_get (v := .ref (A 43)) hG fX12_111 dX12_readTable_8 hW.1 rfl ?_
    refine j_aload_n hG dX12_readTable_11 rfl rfl ?_
    refine j_get (v := .int (iZ (V 45))) hG fX12_232 dX12_readTable_12 hW.1 rfl ?_
    refine j_eq (show (V 45 : Int) = (S.1 : Int) from ht.1.1) ?_
    refine j_iald hG dX12_readTable_15 (MF_a43 hW) (by omega) (by decide) ?_
    refine j_eq (show ((G 43) S.1 : Int) = (g S.1 : Int) from (by rw [h43])) ?_
    refine j_bipush hG dX12_readTable_16 (by decide) ?_
    refine j_isub hG dX12_readTable_18 ?_
    refine j_goto (tgt := 23) hG dX12_readTable_19 (by decide) ?_
    exact hj1_ ((g S.1) - 97) (letr_1 e437_.1 e437_.2).1.symm
