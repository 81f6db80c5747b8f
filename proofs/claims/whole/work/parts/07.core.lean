/-! ===== numbers: every int is iZ of an integer, every long lZ of one ===== -/
def iZ (z : Int) : Int32 := Int32.ofInt z
def lZ (z : Int) : Int64 := Int64.ofInt z
theorem iZ_toInt {a : Int} (h : -2147483648 ≤ a ∧ a < 2147483648) : (iZ a).toInt = a := Int32.toInt_ofInt_of_le (by omega) (by omega)
theorem lZ_toInt {a : Int} (h : -9223372036854775808 ≤ a ∧ a < 9223372036854775808) : (lZ a).toInt = a := Int64.toInt_ofInt_of_le (by omega) (by omega)
theorem iZ_of (x : Int32) : x = iZ x.toInt := (Int32.ofInt_toInt x).symm
theorem lZ_of (x : Int64) : x = lZ x.toInt := (Int64.ofInt_toInt x).symm
theorem iZ_rng (x : Int32) : -2147483648 ≤ x.toInt ∧ x.toInt < 2147483648 := by
  have h1 := Int32.le_toInt x
  have h2 := Int32.toInt_lt x
  omega
theorem iZ_add (a b : Int) : iZ a + iZ b = iZ (a + b) := by
  apply Int32.toInt_inj.1
  simp only [iZ, Int32.toInt_add, Int32.toInt_ofInt]
  simp [Int32.size, Int.add_bmod]
theorem iZ_sub (a b : Int) : iZ a - iZ b = iZ (a - b) := by
  apply Int32.toInt_inj.1
  simp only [iZ, Int32.toInt_sub, Int32.toInt_ofInt]
  simp [Int32.size, Int.sub_bmod]
theorem iZ_mul (a b : Int) : iZ a * iZ b = iZ (a * b) := by
  apply Int32.toInt_inj.1
  simp only [iZ, Int32.toInt_mul, Int32.toInt_ofInt]
  simp [Int32.size, Int.mul_bmod]
theorem iZ_neg (a : Int) : -iZ a = iZ (-a) := by
  have h := iZ_sub 0 a
  rw [Int.zero_sub] at h
  rw [← h]
  show -iZ a = (0 : Int32) - iZ a
  rw [Int32.zero_sub]
theorem lZ_add (a b : Int) : lZ a + lZ b = lZ (a + b) := by
  apply Int64.toInt_inj.1
  simp only [lZ, Int64.toInt_add, Int64.toInt_ofInt]
  simp [Int64.size, Int.add_bmod]
theorem lZ_sub (a b : Int) : lZ a - lZ b = lZ (a - b) := by
  apply Int64.toInt_inj.1
  simp only [lZ, Int64.toInt_sub, Int64.toInt_ofInt]
  simp [Int64.size, Int.sub_bmod]
theorem lZ_mul (a b : Int) : lZ a * lZ b = lZ (a * b) := by
  apply Int64.toInt_inj.1
  simp only [lZ, Int64.toInt_mul, Int64.toInt_ofInt]
  simp [Int64.size, Int.mul_bmod]
theorem iZ_lt {a b : Int} (ha : -2147483648 ≤ a ∧ a < 2147483648) (hb : -2147483648 ≤ b ∧ b < 2147483648) : iZ a < iZ b ↔ a < b := by
  rw [Int32.lt_iff_toInt_lt, iZ_toInt ha, iZ_toInt hb]
theorem iZ_le {a b : Int} (ha : -2147483648 ≤ a ∧ a < 2147483648) (hb : -2147483648 ≤ b ∧ b < 2147483648) : iZ a ≤ iZ b ↔ a ≤ b := by
  rw [Int32.le_iff_toInt_le, iZ_toInt ha, iZ_toInt hb]
theorem iZ_eq {a b : Int} (ha : -2147483648 ≤ a ∧ a < 2147483648) (hb : -2147483648 ≤ b ∧ b < 2147483648) : iZ a = iZ b ↔ a = b := by
  rw [← Int32.toInt_inj, iZ_toInt ha, iZ_toInt hb]
theorem iZ_0 : (0 : Int32) = iZ 0 := by decide
theorem iZ_l {a : Int} (ha : -2147483648 ≤ a ∧ a < 2147483648) : (iZ a).toInt64 = lZ a := by
  apply Int64.toInt_inj.1
  rw [Int32.toInt_toInt64, iZ_toInt ha, lZ_toInt (by omega)]
theorem lZ_i (a : Int) : (lZ a).toInt32 = iZ a := Int64.toInt32_ofInt
theorem iZ_cl {a : Int} (h : 0 ≤ a ∧ a < 2147483648) : (iZ a).toNatClampNeg = a.toNat := by
  show (iZ a).toInt.toNat = a.toNat
  rw [iZ_toInt (by omega)]
theorem iZ_in {a : Int} {n : Nat} (h : 0 ≤ a ∧ a < n) (hn : n < 2147483648) : vp_in (iZ a) n := by
  rw [vp_in_iff, iZ_toInt (by omega)]
  exact h
theorem iZ_nI (n : Nat) : nI n = iZ n := by
  show Int32.ofNat n = Int32.ofInt n
  first | rfl | simp
theorem iZ_rem {a b : Int} (ha : 0 ≤ a ∧ a < 2147483648) (hb : 0 < b ∧ b < 2147483648) : iZ a - iZ a / iZ b * iZ b = iZ (a % b) := by
  obtain ⟨n, rfl⟩ := Int.eq_ofNat_of_zero_le ha.1
  obtain ⟨d, rfl⟩ := Int.eq_ofNat_of_zero_le (Int.le_of_lt hb.1)
  have h := pk_rem (a := n) (d := d) (by omega) (by omega) (by omega)
  rw [iZ_nI, iZ_nI, iZ_nI] at h
  rw [h]
  congr 1
def cI (a b : Int) : Int := if b < a then 1 else if a = b then 0 else -1
theorem cI_eq {a b : Int} : cI a b = 0 ↔ a = b := by unfold cI; split <;> (try split) <;> omega
theorem cI_lt {a b : Int} : cI a b < 0 ↔ a < b := by unfold cI; split <;> (try split) <;> omega
theorem cI_le {a b : Int} : cI a b ≤ 0 ↔ a ≤ b := by unfold cI; split <;> (try split) <;> omega
theorem cI_rng (a b : Int) : -1 ≤ cI a b ∧ cI a b ≤ 1 := by unfold cI; split <;> (try split) <;> omega
theorem lZ_cmp {a b : Int} (ha : -9223372036854775808 ≤ a ∧ a < 9223372036854775808) (hb : -9223372036854775808 ≤ b ∧ b < 9223372036854775808) : lg_cmp (lZ a) (lZ b) = iZ (cI a b) := by
  unfold lg_cmp cI
  simp only [gt_iff_lt, Int64.lt_iff_toInt_lt, ← Int64.toInt_inj, lZ_toInt ha, lZ_toInt hb]
  split
  · rfl
  · split <;> rfl
/-! ===== the words: all good ones of the tables ===== -/
def gw_tbl : List Cond := lw_tbl.filter goodWord
theorem gm {w : Cond} (i : Nat) (h : lw_tbl[i]? = some w) (hg : goodWord w = true) : w ∈ gw_tbl := List.mem_filter.mpr ⟨List.mem_of_getElem? h, hg⟩
theorem gms {ws : List Cond} (ps : List Nat) (h : ps.filterMap (fun i => lw_tbl[i]?) = ws) (hg : ws.all goodWord = true) : ∀ w ∈ ws, w ∈ gw_tbl := by
  intro w hw
  have h1 := List.all_eq_true.mp hg w hw
  rw [← h] at hw
  obtain ⟨i, -, hi⟩ := List.mem_filterMap.mp hw
  exact gm i hi h1
theorem gw_good {w : Cond} (h : w ∈ gw_tbl) : (w.onTables && w.keeps) = true ∨ ∃ ty, w = .arrayClass ty := good_of_word (List.mem_filter.mp h).2
theorem gw_app {big ws vs : List Cond} (hb : ∀ w ∈ gw_tbl, w ∈ big) (hv : ∀ w ∈ vs, w ∈ gw_tbl) (hw : ∀ w ∈ ws, w ∈ gw_tbl) : GoodIn big (vs ++ ws) := fun w h => by
  rcases List.mem_append.mp h with h | h
  · exact ⟨hb w (hv w h), gw_good (hv w h)⟩
  · exact ⟨hb w (hw w h), gw_good (hw w h)⟩
theorem gw_ws {c : Cond} (h : c ∈ gw_tbl) : ∀ w ∈ c :: gw_tbl, w ∈ gw_tbl := fun w hw => by
  rcases List.mem_cons.mp hw with rfl | h2
  · exact h
  · exact h2
/-! ===== the heap: a map of addresses ===== -/
abbrev Hp : Type := Nat → va_E
def eN : va_E := .inr (999, [])
def jdom (L : List Nat) (f : Hp) : Prop := ∀ a, a ∈ L ↔ f a ≠ eN
def AF (f : Hp) (sz : Nat) : Nat → Prop := fun q => f q ≠ eN ∨ sz ≤ q
abbrev JE : Type := va_G × (Nat → ClassId) × (Nat → Nat) × (Nat → Nat)
abbrev tysK (K : Nat → ClassId) : List (ClassId × FieldType) := [(K 0, .int), (K 1, .long), (K 2, .boolean), (K 3, .char), (K 4, .object "TableStreams$Rows"), (K 5, .object "TableStreams$Making")]
def nestQ : List (String × Nat × MethodName) := [(RX5, 17, yX3_init), (RX5, 22, yX11_isWithin), (RX4, 155, yX11_isWithin), (RX2, 23, yX11_isWithin), (RX9, 50, yX11_isWithin), (RX8, 23, yX11_isWithin), (RX0, 19, yX11_isWithin), (RX1, 23, yX11_isWithin)]
def jN (U : State) : Prop := (∀ q ∈ nestQ, va_Nw (.methodLinkNest q.1 q.2.1 q.2.2 "TableStreams") U) ∧ va_AO "TableStreams$Rows" U ∧ va_AO "TableStreams$Making" U
def nJS : Nat := 16
def strQ : List (Nat × String) := [(82, "source"), (84, "where"), (86, "plus"), (88, "times"), (90, "rekey"), (92, "window"), (94, "ever"), (96, "sum"), (98, "count"), (100, "max"), (102, "last"), (104, "join"), (106, "less"), (136, "key"), (141, "value"), (143, "time")]
def lenJS : List Nat := [6, 5, 4, 5, 5, 6, 4, 3, 5, 3, 4, 4, 4, 3, 5, 4]
def bytJS : List (List Int32) := [[115, 111, 117, 114, 99, 101], [119, 104, 101, 114, 101], [112, 108, 117, 115], [116, 105, 109, 101, 115], [114, 101, 107, 101, 121], [119, 105, 110, 100, 111, 119], [101, 118, 101, 114], [115, 117, 109], [99, 111, 117, 110, 116], [109, 97, 120], [108, 97, 115, 116], [106, 111, 105, 110], [108, 101, 115, 115], [107, 101, 121], [118, 97, 108, 117, 101], [116, 105, 109, 101]]
def jR (E : JE) (U : State) : Prop := ∀ (i : Nat) (q : Nat × String), strQ[i]? = some q → vk_R RX4 q.1 q.2 (E.2.2.1 i) U
def jS (E : JE) (A : Nat → Prop) (U : State) (H : Heap) : Prop := vk_S nJS lenJS bytJS E.2.2.1 E.2.2.2 A U H ∧ va_Z "java/lang/String" "COMPACT_STRINGS" "Z" (.int 1) A U H ∧ va_Zq "jdk/internal/util/Preconditions" "SIOOBE_FORMATTER" "Ljava/util/function/BiFunction;" A U H
theorem jN.warm {s U : State} (h : s.WarmedH U.vm) (hn : jN s) : jN U := ⟨fun q hq => va_Nw.warmM h (hn.1 q hq), hn.2.1.moved h.alike, hn.2.2.moved h.alike⟩
theorem jR.warm {E : JE} {s U : State} (h : s.WarmedH U.vm) (hn : jR E s) : jR E U := fun i q hq => vk_R.warm h (hn i q hq)
theorem jS.moved {E : JE} {A : Nat → Prop} {u U : State} {H : Heap} (hvm : u.vm.Alike U.vm) (h : jS E A u H) : jS E A U H := ⟨h.1.moved hvm, h.2.1.moved hvm, h.2.2.moved hvm⟩
theorem jS.kept {E : JE} {A : Nat → Prop} {U : State} {H H1 : Heap} (h : jS E A U H) (hq : ∀ a : Nat, a < H.size → ¬ A a → H1[a]? = H[a]?) : jS E A U H1 := ⟨h.1.kept hq, h.2.1.kept hq, h.2.2.kept hq⟩
theorem jS.narrow {E : JE} {A B : Nat → Prop} {U : State} {H : Heap} (h : jS E A U H) (hAB : ∀ q, B q → A q) : jS E B U H := ⟨h.1.narrow hAB, h.2.1.narrow hAB, h.2.2.narrow hAB⟩
