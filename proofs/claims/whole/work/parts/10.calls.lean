/-! ===== calls ===== -/
theorem callX {p : Program} {l : Launch} {e : Env} {R : Room} {s : State} {m : MethodId} {args : Array Value} {below : List Frame} {meth : Method} {c : Code} {H : Heap} {locs : List Loc} {cells slots mc ms pc : Nat} {Q : State → Prop} {ls : Array Slot} {rest st0 : List Value} {a : Array Value} {A0 A1 : Nat → Prop} {E : JE} {P : Option Value → Hp → Prop}
    (hr : va_Run p l e R s m args below meth c H locs cells slots mc ms (F0 m pc ls st0) rest (jQ E P A1 a) A1) (hS : va_S A0 s.heap H locs) (hA : ∀ q, A1 q → A0 q)
    (kk : ∀ (v : Option Value) (f' : Hp) (L : List Nat) (H1 : Heap) (locs1 : List Loc), P v f' → jdom L f' → va_P E.1 vwCl (va_pl L f') H1 → va_D A0 (va_pl L f') → va_S A0 s.heap H1 locs1 → W p l e R s m args below meth c H1 locs1 (cells + mc) (slots + ms) Q (F0 m (pc + 3) ls (v.toList ++ rest))) : W p l e R s m args below meth c H locs cells slots Q (F0 m pc ls st0) := by
  intro T hT X
  obtain ⟨v, st₀, t, T', L0, h0, X', hL, e1, e2, ⟨⟨v', f', L, hv, hp, hdm, hP, hD⟩, hz, hk⟩, st⟩ := hr T hT X
  cases hv
  rw [h0] at hz hk
  obtain ⟨t2, a1, b1⟩ := kk v f' L T'.heap (locs ++ L0) hp hdm (by rw [e1]; exact hP) (hD.weaken (fun k q _ h => hA q.1 h))
    ⟨Nat.le_trans hS.1 (by rw [e1]; exact hz), fun q h1 h2 => by rw [e1, hk q (Nat.lt_of_lt_of_le h1 hS.1) (fun z => h2 (hA q z))]; exact hS.2.1 q h1 h2, fun q hq => by
      rcases List.mem_append.mp hq with h | h
      · exact hS.2.2 q h
      · exact hA _ (hL q h)⟩ T' rfl X'
  exact ⟨t2, st t2 a1, b1⟩
theorem AF_in {f : Hp} {L : List Nat} {s : State} {H : Heap} {locs : List Loc} {A : Nat → Prop} (hdm : jdom L f) (hD : va_D A (va_pl L f)) (hS : va_S A s.heap H locs) (hA : ∀ q, s.heap.size ≤ q → A q) : ∀ q, AF f H.size q → A q := by
  intro q h
  rcases h with h | h
  · have hq : q ∈ L := (hdm q).mpr h
    obtain ⟨i, hi⟩ := va_pl_get (X := []) (f := f) hq
    exact hD.2 i (q, f q) (by simpa using hi)
  · exact hA q (Nat.le_trans hS.1 h)
theorem jPre_at {E : JE} {f : Hp} {L : List Nat} {s U : State} {H : Heap} {locs : List Loc} {A : Nat → Prop} (hdm : jdom L f) (hP : va_P E.1 vwCl (va_pl L f) H) (hD : va_D A (va_pl L f)) (hS : va_S A s.heap H locs) (hA : ∀ q, s.heap.size ≤ q → A q) (hK : va_K E.1 vwCl (tysK E.2.1) s) (hN : jN s) (hR : jR E s) (hSS : jS E A s s.heap) (hU : U.heap = H) (hW : s.WarmedH U.vm) : jPre E f H.size U := by
  refine ⟨by rw [hU], ⟨L, hdm, by rw [hU]; exact hP, hD.weaken (fun _ _ _ _ => trivial)⟩, va_K.moved hW.alike hK, hN.warm hW, hR.warm hW, ?_⟩
  rw [hU]
  exact ((hSS.kept hS.2.1).moved hW.alike).narrow (AF_in hdm hD hS hA)
abbrev notMH (y : MethodName) (na : Nat) : Prop := y.cls ≠ "java/lang/invoke/MethodHandle" ∧ y.cls ≠ "java/lang/invoke/VarHandle" ∧ (parseMethodDescriptor y.desc).map (fun d => d.parameters.length) = some na
def jV (own : String) (idx ci : Nat) (y : MethodName) (cy : ByteArray) (maxL : Nat) (ret : Option FieldType) (na : Nat) : Prop := (∃ (T : u_T) (N : Nat), vwCl[ci]? = some (y.cls, T, N)) ∧ ci < 999 ∧ (∀ w ∈ [Cond.methodLink own idx y, Cond.instanceMethod y, Cond.selects y.cls y y, Cond.initialized y.cls], w ∈ gw_tbl) ∧ Cond.code y cy maxL ret ∈ gw_tbl ∧ notMH y na
def jSs (own : String) (idx : Nat) (y : MethodName) (cy : ByteArray) (maxL : Nat) (ret : Option FieldType) (na : Nat) : Prop := (∀ w ∈ [Cond.methodLink own idx y, Cond.static y, Cond.initialized y.cls], w ∈ gw_tbl) ∧ Cond.code y cy maxL ret ∈ gw_tbl ∧ notMH y na
def jSn (own : String) (idx : Nat) (y : MethodName) (cy : ByteArray) (maxL : Nat) (ret : Option FieldType) (na : Nat) : Prop := (own, idx, y) ∈ nestQ ∧ Cond.static y ∈ gw_tbl ∧ Cond.initialized y.cls ∈ gw_tbl ∧ Cond.code y cy maxL ret ∈ gw_tbl ∧ notMH y na
def jIi (own : String) (idx : Nat) (y : MethodName) (cy : ByteArray) (maxL na : Nat) : Prop := (∀ w ∈ [Cond.methodLink own idx y, Cond.instanceMethod y, Cond.initialized y.cls], w ∈ gw_tbl) ∧ Cond.code y cy maxL none ∈ gw_tbl ∧ notMH y na ∧ y.name = "<init>"
def jIn (own : String) (idx : Nat) (y : MethodName) (cy : ByteArray) (maxL na : Nat) : Prop := (own, idx, y) ∈ nestQ ∧ Cond.instanceMethod y ∈ gw_tbl ∧ Cond.initialized y.cls ∈ gw_tbl ∧ Cond.code y cy maxL none ∈ gw_tbl ∧ notMH y na ∧ y.name = "<init>"
section JC
variable {G : JG} {l : Launch} {E : JE} {cc : ByteArray} {own : String} {nL : Nat} {rm : Room} {k n : Nat} {f : Hp} {pc : Nat} {lv : List (Nat × Value)} {st : List Value}
theorem j_callV (hG : jX G l E cc own nL rm) {idx maxL na : Nat} {y : MethodName} {cy : ByteArray} {ret : Option FieldType} {ry : Room} {As rest : List Value} {P : Option Value → Hp → Prop} {b : Nat} {ci : Nat} {fs : List Value} (hV : jV own idx ci y cy maxL ret na) (hd : decode cc pc = .ok (.invokevirtual idx, 3)) (hc : Ct l E y cy maxL ret ry (.ref b :: As) f P) (hb0 : f b = oB ci fs) (hst : st = As.reverse ++ .ref b :: rest) (hna : As.length = na) (hfr : ry.frames + 1 ≤ rm.frames) (hlo : 8 + (maxL + 11) + ry.locals ≤ rm.locals) (hrs : (rest.map fun v => v.category).sum ≤ 8) (h0 : ry.cells = 0) (h1 : ry.slots = 0) (hkc : k + ry.cells ≤ rm.cells) (hks : n + ry.slots ≤ rm.slots) (kk : ∀ (v : Option Value) (f' : Hp), P v f' → J G k n f' (pc + 3) lv (v.toList ++ rest)) : J G k n f pc lv st := by
  obtain ⟨p, l', e, R, s, m, args, below, meth, c, E', A, Z⟩ := G
  obtain ⟨rfl, rfl, rfl, hx, hb, hml, hown, hlocks, hts, hK, hA, hNw, hRs, hSS⟩ := hG
  intro L H locs ls hdm hP hD hS hl
  obtain ⟨⟨T, N, g1⟩, g2, g3, g4, g5⟩ := hV
  obtain ⟨-, q, hq⟩ := jmem hdm hb0 (oB_ne g2)
  have hr := va_runV (p := p) (e := e) (below := below) (meth := meth) (locs := locs) (cells := k) (slots := n) (rest := rest) (As := As) (b := b) (g := F0 m pc ls st) ⟨hx, hb, hml, hown, hts⟩ (hc H.size) (cwV (C := y.cls) na hts (gw_app (fun _ h => h) g3 (gw_ws g4)) rfl rfl rfl ⟨rfl, g5⟩ ⟨hfr, hlo⟩) ⟨jPre_blind, va_recv hK hP (ci := ci) (q := (y.cls, T, N)) (q0 := q) g1 hq, fun U hU hW => ⟨rfl, jPre_at hdm hP hD hS hA hK hNw hRs hSS hU hW⟩⟩ rfl hna (by rw [← hml]; exact hl.1) hst (lv_room hrs) hd ⟨hkc, hks⟩
  rw [h0, h1] at hr
  exact callX (hr) hS (AF_in hdm hD hS hA) (fun v f' L1 H1 locs1 hp1 hd1 hP1 hD1 hS1 => kk v f' hp1 L1 H1 locs1 ls hd1 hP1 hD1 hS1 hl)
theorem j_callS (hG : jX G l E cc own nL rm) {idx maxL na : Nat} {y : MethodName} {cy : ByteArray} {ret : Option FieldType} {ry : Room} {As rest : List Value} {P : Option Value → Hp → Prop} (hV : jSs own idx y cy maxL ret na) (hd : decode cc pc = .ok (.invokestatic idx, 3)) (hc : Ct l E y cy maxL ret ry As f P) (hst : st = As.reverse ++ rest) (hna : As.length = na) (hfr : ry.frames + 1 ≤ rm.frames) (hlo : 8 + (maxL + 11) + ry.locals ≤ rm.locals) (hrs : (rest.map fun v => v.category).sum ≤ 8) (h0 : ry.cells = 0) (h1 : ry.slots = 0) (hkc : k + ry.cells ≤ rm.cells) (hks : n + ry.slots ≤ rm.slots) (kk : ∀ (v : Option Value) (f' : Hp), P v f' → J G k n f' (pc + 3) lv (v.toList ++ rest)) : J G k n f pc lv st := by
  obtain ⟨p, l', e, R, s, m, args, below, meth, c, E', A, Z⟩ := G
  obtain ⟨rfl, rfl, rfl, hx, hb, hml, hown, hlocks, hts, hK, hA, hNw, hRs, hSS⟩ := hG
  intro L H locs ls hdm hP hD hS hl
  obtain ⟨g3, g4, g5⟩ := hV
  have hr := va_runS (p := p) (e := e) (below := below) (meth := meth) (locs := locs) (cells := k) (slots := n) (rest := rest) (As := As) (g := F0 m pc ls st) ⟨hx, hb, hml, hown, hts⟩ (hc H.size) (va_cwS na hts (gw_app (fun _ h => h) g3 (gw_ws g4)) rfl rfl rfl g5 ⟨hfr, hlo⟩) ⟨jPre_blind, fun U hU hW => ⟨rfl, jPre_at hdm hP hD hS hA hK hNw hRs hSS hU hW⟩⟩ rfl hna (by rw [← hml]; exact hl.1) hst (lv_room hrs) hd ⟨hkc, hks⟩
  rw [h0, h1] at hr
  exact callX (hr) hS (AF_in hdm hD hS hA) (fun v f' L1 H1 locs1 hp1 hd1 hP1 hD1 hS1 => kk v f' hp1 L1 H1 locs1 ls hd1 hP1 hD1 hS1 hl)
theorem j_callSN (hG : jX G l E cc own nL rm) {idx maxL na : Nat} {y : MethodName} {cy : ByteArray} {ret : Option FieldType} {ry : Room} {As rest : List Value} {P : Option Value → Hp → Prop} (hV : jSn own idx y cy maxL ret na) (hd : decode cc pc = .ok (.invokestatic idx, 3)) (hc : Ct l E y cy maxL ret ry As f P) (hst : st = As.reverse ++ rest) (hna : As.length = na) (hfr : ry.frames + 1 ≤ rm.frames) (hlo : 8 + (maxL + 11) + ry.locals ≤ rm.locals) (hrs : (rest.map fun v => v.category).sum ≤ 8) (h0 : ry.cells = 0) (h1 : ry.slots = 0) (hkc : k + ry.cells ≤ rm.cells) (hks : n + ry.slots ≤ rm.slots) (kk : ∀ (v : Option Value) (f' : Hp), P v f' → J G k n f' (pc + 3) lv (v.toList ++ rest)) : J G k n f pc lv st := by
  obtain ⟨p, l', e, R, s, m, args, below, meth, c, E', A, Z⟩ := G
  obtain ⟨rfl, rfl, rfl, hx, hb, hml, hown, hlocks, hts, hK, hA, hNw, hRs, hSS⟩ := hG
  intro L H locs ls hdm hP hD hS hl
  obtain ⟨g1, g2, g3, g4, g5⟩ := hV
  have hr := va_runSN (p := p) (e := e) (below := below) (meth := meth) (locs := locs) (cells := k) (slots := n) (rest := rest) (As := As) (g := F0 m pc ls st) ⟨hx, hb, hml, hown, hts⟩ (hc H.size) (⟨va_cnB na hts (fun w h => ⟨gw_ws g4 w h, gw_good (gw_ws g4 w h)⟩) rfl rfl rfl (hNw.1 _ g1) (hts _ g3) g5 ⟨hfr, hlo⟩, hts _ g2, trivial⟩) ⟨jPre_blind, fun U hU hW => ⟨rfl, jPre_at hdm hP hD hS hA hK hNw hRs hSS hU hW⟩⟩ rfl hna (by rw [← hml]; exact hl.1) hst (lv_room hrs) hd ⟨hkc, hks⟩
  rw [h0, h1] at hr
  exact callX (hr) hS (AF_in hdm hD hS hA) (fun v f' L1 H1 locs1 hp1 hd1 hP1 hD1 hS1 => kk v f' hp1 L1 H1 locs1 ls hd1 hP1 hD1 hS1 hl)
theorem j_callI (hG : jX G l E cc own nL rm) {idx maxL na : Nat} {y : MethodName} {cy : ByteArray} {ry : Room} {As rest : List Value} {P : Option Value → Hp → Prop} {b : Nat} (hV : jIi own idx y cy maxL na) (hd : decode cc pc = .ok (.invokespecial idx, 3)) (hc : Ct l E y cy maxL none ry (.ref b :: As) f P) (hst : st = As.reverse ++ .ref b :: rest) (hna : As.length = na) (hfr : ry.frames + 1 ≤ rm.frames) (hlo : 8 + (maxL + 11) + ry.locals ≤ rm.locals) (hrs : (rest.map fun v => v.category).sum ≤ 8) (h0 : ry.cells = 0) (h1 : ry.slots = 0) (hkc : k + ry.cells ≤ rm.cells) (hks : n + ry.slots ≤ rm.slots) (kk : ∀ (v : Option Value) (f' : Hp), P v f' → J G k n f' (pc + 3) lv (v.toList ++ rest)) : J G k n f pc lv st := by
  obtain ⟨p, l', e, R, s, m, args, below, meth, c, E', A, Z⟩ := G
  obtain ⟨rfl, rfl, rfl, hx, hb, hml, hown, hlocks, hts, hK, hA, hNw, hRs, hSS⟩ := hG
  intro L H locs ls hdm hP hD hS hl
  obtain ⟨g3, g4, g5, g6⟩ := hV
  have hr := va_runI (p := p) (e := e) (below := below) (meth := meth) (locs := locs) (cells := k) (slots := n) (rest := rest) (As := As) (b := b) (g := F0 m pc ls st) ⟨hx, hb, hml, hown, hts⟩ (hc H.size) (cwI na hts (fun w h => ⟨gw_ws g4 w h, gw_good (gw_ws g4 w h)⟩) rfl rfl rfl (hts _ (g3 _ (List.mem_cons_of_mem _ (List.mem_cons_of_mem _ List.mem_cons_self)))) (hts _ (g3 _ List.mem_cons_self)) (hts _ (g3 _ (List.mem_cons_of_mem _ List.mem_cons_self))) g6 g5 ⟨hfr, hlo⟩) ⟨jPre_blind, fun U hU hW => ⟨rfl, jPre_at hdm hP hD hS hA hK hNw hRs hSS hU hW⟩⟩ rfl hna (by rw [← hml]; exact hl.1) hst (lv_room hrs) hd ⟨hkc, hks⟩
  rw [h0, h1] at hr
  exact callX (hr) hS (AF_in hdm hD hS hA) (fun v f' L1 H1 locs1 hp1 hd1 hP1 hD1 hS1 => kk v f' hp1 L1 H1 locs1 ls hd1 hP1 hD1 hS1 hl)
theorem j_callIN (hG : jX G l E cc own nL rm) {idx maxL na : Nat} {y : MethodName} {cy : ByteArray} {ry : Room} {As rest : List Value} {P : Option Value → Hp → Prop} {b : Nat} (hV : jIn own idx y cy maxL na) (hd : decode cc pc = .ok (.invokespecial idx, 3)) (hc : Ct l E y cy maxL none ry (.ref b :: As) f P) (hst : st = As.reverse ++ .ref b :: rest) (hna : As.length = na) (hfr : ry.frames + 1 ≤ rm.frames) (hlo : 8 + (maxL + 11) + ry.locals ≤ rm.locals) (hrs : (rest.map fun v => v.category).sum ≤ 8) (h0 : ry.cells = 0) (h1 : ry.slots = 0) (hkc : k + ry.cells ≤ rm.cells) (hks : n + ry.slots ≤ rm.slots) (kk : ∀ (v : Option Value) (f' : Hp), P v f' → J G k n f' (pc + 3) lv (v.toList ++ rest)) : J G k n f pc lv st := by
  obtain ⟨p, l', e, R, s, m, args, below, meth, c, E', A, Z⟩ := G
  obtain ⟨rfl, rfl, rfl, hx, hb, hml, hown, hlocks, hts, hK, hA, hNw, hRs, hSS⟩ := hG
  intro L H locs ls hdm hP hD hS hl
  obtain ⟨g1, g2, g3, g4, g5, g6⟩ := hV
  have hr := va_runIN (p := p) (e := e) (below := below) (meth := meth) (locs := locs) (cells := k) (slots := n) (rest := rest) (As := As) (b := b) (g := F0 m pc ls st) ⟨hx, hb, hml, hown, hts⟩ (hc H.size) (⟨va_cnB na hts (fun w h => ⟨gw_ws g4 w h, gw_good (gw_ws g4 w h)⟩) rfl rfl rfl (hNw.1 _ g1) (hts _ g3) g5 ⟨hfr, hlo⟩, g6, hts _ g2⟩) ⟨jPre_blind, fun U hU hW => ⟨rfl, jPre_at hdm hP hD hS hA hK hNw hRs hSS hU hW⟩⟩ rfl hna (by rw [← hml]; exact hl.1) hst (lv_room hrs) hd ⟨hkc, hks⟩
  rw [h0, h1] at hr
  exact callX (hr) hS (AF_in hdm hD hS hA) (fun v f' L1 H1 locs1 hp1 hd1 hP1 hD1 hS1 => kk v f' hp1 L1 H1 locs1 ls hd1 hP1 hD1 hS1 hl)
theorem j_callVA (hG : jX G l E cc own nL rm) {idx maxL na : Nat} {y : MethodName} {cy : ByteArray} {ret : Option FieldType} {ry : Room} {As rest : List Value} {P : Option Value → Hp → Prop} {b : Nat} {ci : Nat} {fs : List Value} (hV : jV own idx ci y cy maxL ret na) (hd : decode cc pc = .ok (.invokevirtual idx, 3)) (hc : Ct l E y cy maxL ret ry (.ref b :: As) f P) (hb0 : f b = oB ci fs) (hst : st = As.reverse ++ .ref b :: rest) (hna : As.length = na) (hfr : ry.frames + 1 ≤ rm.frames) (hlo : 8 + (maxL + 11) + ry.locals ≤ rm.locals) (hrs : (rest.map fun v => v.category).sum ≤ 8) (hkc : k + ry.cells ≤ rm.cells) (hks : n + ry.slots ≤ rm.slots) (kk : ∀ (v : Option Value) (f' : Hp), P v f' → J G (k + ry.cells) (n + ry.slots) f' (pc + 3) lv (v.toList ++ rest)) : J G k n f pc lv st := by
  obtain ⟨p, l', e, R, s, m, args, below, meth, c, E', A, Z⟩ := G
  obtain ⟨rfl, rfl, rfl, hx, hb, hml, hown, hlocks, hts, hK, hA, hNw, hRs, hSS⟩ := hG
  intro L H locs ls hdm hP hD hS hl
  obtain ⟨⟨T, N, g1⟩, g2, g3, g4, g5⟩ := hV
  obtain ⟨-, q, hq⟩ := jmem hdm hb0 (oB_ne g2)
  have hr := va_runV (p := p) (e := e) (below := below) (meth := meth) (locs := locs) (cells := k) (slots := n) (rest := rest) (As := As) (b := b) (g := F0 m pc ls st) ⟨hx, hb, hml, hown, hts⟩ (hc H.size) (cwV (C := y.cls) na hts (gw_app (fun _ h => h) g3 (gw_ws g4)) rfl rfl rfl ⟨rfl, g5⟩ ⟨hfr, hlo⟩) ⟨jPre_blind, va_recv hK hP (ci := ci) (q := (y.cls, T, N)) (q0 := q) g1 hq, fun U hU hW => ⟨rfl, jPre_at hdm hP hD hS hA hK hNw hRs hSS hU hW⟩⟩ rfl hna (by rw [← hml]; exact hl.1) hst (lv_room hrs) hd ⟨hkc, hks⟩
  exact callX (hr) hS (AF_in hdm hD hS hA) (fun v f' L1 H1 locs1 hp1 hd1 hP1 hD1 hS1 => kk v f' hp1 L1 H1 locs1 ls hd1 hP1 hD1 hS1 hl)
theorem j_callSA (hG : jX G l E cc own nL rm) {idx maxL na : Nat} {y : MethodName} {cy : ByteArray} {ret : Option FieldType} {ry : Room} {As rest : List Value} {P : Option Value → Hp → Prop} (hV : jSs own idx y cy maxL ret na) (hd : decode cc pc = .ok (.invokestatic idx, 3)) (hc : Ct l E y cy maxL ret ry As f P) (hst : st = As.reverse ++ rest) (hna : As.length = na) (hfr : ry.frames + 1 ≤ rm.frames) (hlo : 8 + (maxL + 11) + ry.locals ≤ rm.locals) (hrs : (rest.map fun v => v.category).sum ≤ 8) (hkc : k + ry.cells ≤ rm.cells) (hks : n + ry.slots ≤ rm.slots) (kk : ∀ (v : Option Value) (f' : Hp), P v f' → J G (k + ry.cells) (n + ry.slots) f' (pc + 3) lv (v.toList ++ rest)) : J G k n f pc lv st := by
  obtain ⟨p, l', e, R, s, m, args, below, meth, c, E', A, Z⟩ := G
  obtain ⟨rfl, rfl, rfl, hx, hb, hml, hown, hlocks, hts, hK, hA, hNw, hRs, hSS⟩ := hG
  intro L H locs ls hdm hP hD hS hl
  obtain ⟨g3, g4, g5⟩ := hV
  have hr := va_runS (p := p) (e := e) (below := below) (meth := meth) (locs := locs) (cells := k) (slots := n) (rest := rest) (As := As) (g := F0 m pc ls st) ⟨hx, hb, hml, hown, hts⟩ (hc H.size) (va_cwS na hts (gw_app (fun _ h => h) g3 (gw_ws g4)) rfl rfl rfl g5 ⟨hfr, hlo⟩) ⟨jPre_blind, fun U hU hW => ⟨rfl, jPre_at hdm hP hD hS hA hK hNw hRs hSS hU hW⟩⟩ rfl hna (by rw [← hml]; exact hl.1) hst (lv_room hrs) hd ⟨hkc, hks⟩
  exact callX (hr) hS (AF_in hdm hD hS hA) (fun v f' L1 H1 locs1 hp1 hd1 hP1 hD1 hS1 => kk v f' hp1 L1 H1 locs1 ls hd1 hP1 hD1 hS1 hl)
theorem j_callSNA (hG : jX G l E cc own nL rm) {idx maxL na : Nat} {y : MethodName} {cy : ByteArray} {ret : Option FieldType} {ry : Room} {As rest : List Value} {P : Option Value → Hp → Prop} (hV : jSn own idx y cy maxL ret na) (hd : decode cc pc = .ok (.invokestatic idx, 3)) (hc : Ct l E y cy maxL ret ry As f P) (hst : st = As.reverse ++ rest) (hna : As.length = na) (hfr : ry.frames + 1 ≤ rm.frames) (hlo : 8 + (maxL + 11) + ry.locals ≤ rm.locals) (hrs : (rest.map fun v => v.category).sum ≤ 8) (hkc : k + ry.cells ≤ rm.cells) (hks : n + ry.slots ≤ rm.slots) (kk : ∀ (v : Option Value) (f' : Hp), P v f' → J G (k + ry.cells) (n + ry.slots) f' (pc + 3) lv (v.toList ++ rest)) : J G k n f pc lv st := by
  obtain ⟨p, l', e, R, s, m, args, below, meth, c, E', A, Z⟩ := G
  obtain ⟨rfl, rfl, rfl, hx, hb, hml, hown, hlocks, hts, hK, hA, hNw, hRs, hSS⟩ := hG
  intro L H locs ls hdm hP hD hS hl
  obtain ⟨g1, g2, g3, g4, g5⟩ := hV
  have hr := va_runSN (p := p) (e := e) (below := below) (meth := meth) (locs := locs) (cells := k) (slots := n) (rest := rest) (As := As) (g := F0 m pc ls st) ⟨hx, hb, hml, hown, hts⟩ (hc H.size) (⟨va_cnB na hts (fun w h => ⟨gw_ws g4 w h, gw_good (gw_ws g4 w h)⟩) rfl rfl rfl (hNw.1 _ g1) (hts _ g3) g5 ⟨hfr, hlo⟩, hts _ g2, trivial⟩) ⟨jPre_blind, fun U hU hW => ⟨rfl, jPre_at hdm hP hD hS hA hK hNw hRs hSS hU hW⟩⟩ rfl hna (by rw [← hml]; exact hl.1) hst (lv_room hrs) hd ⟨hkc, hks⟩
  exact callX (hr) hS (AF_in hdm hD hS hA) (fun v f' L1 H1 locs1 hp1 hd1 hP1 hD1 hS1 => kk v f' hp1 L1 H1 locs1 ls hd1 hP1 hD1 hS1 hl)
theorem j_callIA (hG : jX G l E cc own nL rm) {idx maxL na : Nat} {y : MethodName} {cy : ByteArray} {ry : Room} {As rest : List Value} {P : Option Value → Hp → Prop} {b : Nat} (hV : jIi own idx y cy maxL na) (hd : decode cc pc = .ok (.invokespecial idx, 3)) (hc : Ct l E y cy maxL none ry (.ref b :: As) f P) (hst : st = As.reverse ++ .ref b :: rest) (hna : As.length = na) (hfr : ry.frames + 1 ≤ rm.frames) (hlo : 8 + (maxL + 11) + ry.locals ≤ rm.locals) (hrs : (rest.map fun v => v.category).sum ≤ 8) (hkc : k + ry.cells ≤ rm.cells) (hks : n + ry.slots ≤ rm.slots) (kk : ∀ (v : Option Value) (f' : Hp), P v f' → J G (k + ry.cells) (n + ry.slots) f' (pc + 3) lv (v.toList ++ rest)) : J G k n f pc lv st := by
  obtain ⟨p, l', e, R, s, m, args, below, meth, c, E', A, Z⟩ := G
  obtain ⟨rfl, rfl, rfl, hx, hb, hml, hown, hlocks, hts, hK, hA, hNw, hRs, hSS⟩ := hG
  intro L H locs ls hdm hP hD hS hl
  obtain ⟨g3, g4, g5, g6⟩ := hV
  have hr := va_runI (p := p) (e := e) (below := below) (meth := meth) (locs := locs) (cells := k) (slots := n) (rest := rest) (As := As) (b := b) (g := F0 m pc ls st) ⟨hx, hb, hml, hown, hts⟩ (hc H.size) (cwI na hts (fun w h => ⟨gw_ws g4 w h, gw_good (gw_ws g4 w h)⟩) rfl rfl rfl (hts _ (g3 _ (List.mem_cons_of_mem _ (List.mem_cons_of_mem _ List.mem_cons_self)))) (hts _ (g3 _ List.mem_cons_self)) (hts _ (g3 _ (List.mem_cons_of_mem _ List.mem_cons_self))) g6 g5 ⟨hfr, hlo⟩) ⟨jPre_blind, fun U hU hW => ⟨rfl, jPre_at hdm hP hD hS hA hK hNw hRs hSS hU hW⟩⟩ rfl hna (by rw [← hml]; exact hl.1) hst (lv_room hrs) hd ⟨hkc, hks⟩
  exact callX (hr) hS (AF_in hdm hD hS hA) (fun v f' L1 H1 locs1 hp1 hd1 hP1 hD1 hS1 => kk v f' hp1 L1 H1 locs1 ls hd1 hP1 hD1 hS1 hl)
theorem j_callINA (hG : jX G l E cc own nL rm) {idx maxL na : Nat} {y : MethodName} {cy : ByteArray} {ry : Room} {As rest : List Value} {P : Option Value → Hp → Prop} {b : Nat} (hV : jIn own idx y cy maxL na) (hd : decode cc pc = .ok (.invokespecial idx, 3)) (hc : Ct l E y cy maxL none ry (.ref b :: As) f P) (hst : st = As.reverse ++ .ref b :: rest) (hna : As.length = na) (hfr : ry.frames + 1 ≤ rm.frames) (hlo : 8 + (maxL + 11) + ry.locals ≤ rm.locals) (hrs : (rest.map fun v => v.category).sum ≤ 8) (hkc : k + ry.cells ≤ rm.cells) (hks : n + ry.slots ≤ rm.slots) (kk : ∀ (v : Option Value) (f' : Hp), P v f' → J G (k + ry.cells) (n + ry.slots) f' (pc + 3) lv (v.toList ++ rest)) : J G k n f pc lv st := by
  obtain ⟨p, l', e, R, s, m, args, below, meth, c, E', A, Z⟩ := G
  obtain ⟨rfl, rfl, rfl, hx, hb, hml, hown, hlocks, hts, hK, hA, hNw, hRs, hSS⟩ := hG
  intro L H locs ls hdm hP hD hS hl
  obtain ⟨g1, g2, g3, g4, g5, g6⟩ := hV
  have hr := va_runIN (p := p) (e := e) (below := below) (meth := meth) (locs := locs) (cells := k) (slots := n) (rest := rest) (As := As) (b := b) (g := F0 m pc ls st) ⟨hx, hb, hml, hown, hts⟩ (hc H.size) (⟨va_cnB na hts (fun w h => ⟨gw_ws g4 w h, gw_good (gw_ws g4 w h)⟩) rfl rfl rfl (hNw.1 _ g1) (hts _ g3) g5 ⟨hfr, hlo⟩, g6, hts _ g2⟩) ⟨jPre_blind, fun U hU hW => ⟨rfl, jPre_at hdm hP hD hS hA hK hNw hRs hSS hU hW⟩⟩ rfl hna (by rw [← hml]; exact hl.1) hst (lv_room hrs) hd ⟨hkc, hks⟩
  exact callX (hr) hS (AF_in hdm hD hS hA) (fun v f' L1 H1 locs1 hp1 hd1 hP1 hD1 hS1 => kk v f' hp1 L1 H1 locs1 ls hd1 hP1 hD1 hS1 hl)
end JC
