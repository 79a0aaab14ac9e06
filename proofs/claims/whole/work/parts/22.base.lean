/-! INTS BY THEIR NUMBERS; the class's Setup as numbers; scalar helpers -/
theorem y_eqI (x y : Int32) : (x = y) = (x.toInt = y.toInt) := propext Int32.toInt_inj.symm
theorem y_ltI (x y : Int32) : (x < y) = (x.toInt < y.toInt) := propext Int32.lt_iff_toInt_lt
theorem y_leI (x y : Int32) : (x ≤ y) = (x.toInt ≤ y.toInt) := propext Int32.le_iff_toInt_le
theorem y_lit : ((0 : Int32).toInt = 0) ∧ ((1 : Int32).toInt = 1) ∧ ((2 : Int32).toInt = 2) ∧ ((3 : Int32).toInt = 3) ∧ ((4 : Int32).toInt = 4) ∧ ((5 : Int32).toInt = 5) ∧ ((6 : Int32).toInt = 6) ∧ ((7 : Int32).toInt = 7) ∧ ((8 : Int32).toInt = 8) ∧ ((9 : Int32).toInt = 9) ∧ ((10 : Int32).toInt = 10) ∧ ((11 : Int32).toInt = 11) ∧ ((12 : Int32).toInt = 12) ∧ ((14 : Int32).toInt = 14) ∧ ((20 : Int32).toInt = 20) ∧ ((32 : Int32).toInt = 32) ∧ ((48 : Int32).toInt = 48) ∧ ((57 : Int32).toInt = 57) ∧ ((59 : Int32).toInt = 59) ∧ ((60 : Int32).toInt = 60) ∧ ((97 : Int32).toInt = 97) ∧ ((99 : Int32).toInt = 99) ∧ ((100 : Int32).toInt = 100) ∧ ((122 : Int32).toInt = 122) ∧ ((127 : Int32).toInt = 127) ∧ ((1000 : Int32).toInt = 1000) ∧ ((-1 : Int32).toInt = -1) ∧ ((-2 : Int32).toInt = -2) ∧ ((-3 : Int32).toInt = -3) ∧ ((-4 : Int32).toInt = -4) ∧ ((-5 : Int32).toInt = -5) ∧ ((-10 : Int32).toInt = -10) ∧ ((-11 : Int32).toInt = -11) ∧ ((-12 : Int32).toInt = -12) ∧ ((-13 : Int32).toInt = -13) ∧ ((-14 : Int32).toInt = -14) := by decide +kernel
theorem y_in {i n : Nat} (h : i < n) (hn : n < 2 ^ 31) : xz_in (nI i) n = true := decide_eq_true (nI_in h hn)
theorem y_inx {x : Int32} {n : Nat} (h : 0 ≤ x.toInt ∧ x.toInt < n) : xz_in x n = true := decide_eq_true (vp_in_iff.mpr h)
theorem y_sub {a b : Nat} (h : b ≤ a) : nI a - nI b = nI (a - b) := by
  have : nI a = nI (a - b) + nI b := by rw [nI_add, Nat.sub_add_cancel h]
  rw [this, Int32.add_sub_cancel]
theorem y_1 (a : Nat) : nI a + (1 : Int32) = nI (a + 1) := nI_add a 1
theorem y_m1 {a : Nat} (h : 1 ≤ a) : nI a - (1 : Int32) = nI (a - 1) := y_sub h
theorem y_p0 (x : Int32) : x + (0 : Int32) = x := Int32.add_zero x
def y_bI (c : Bool) : Int32 := match c with
  | true => 1
  | false => 0
theorem y_bIt : y_bI true = 1 := rfl
theorem y_bIf : y_bI false = 0 := rfl
theorem y_eo {α : Type} (x : α) (k : α → xz_Res) : xz_o (some x) k = k x := rfl
theorem y_eb (k : xz_Res) : xz_b true k = k := rfl
theorem y_eI (x : Int32) (M : xz_M) (k : Int32 → xz_M → xz_Res) : xz_bI (some (some (.int x), M)) k = k x M := rfl
theorem y_eJ (x : Int64) (M : xz_M) (k : Int64 → xz_M → xz_Res) : xz_bJ (some (some (.long x), M)) k = k x M := rfl
theorem y_eR (x : Nat) (M : xz_M) (k : Nat → xz_M → xz_Res) : xz_bR (some (some (.ref x), M)) k = k x M := rfl
theorem y_eV (M : xz_M) (k : xz_M → xz_Res) : xz_bV (some (none, M)) k = k M := rfl
theorem y_band : (true && true) = true := rfl
def y_o5 (o : Option Nat) : Int32 := match o with
  | some k => nI k
  | none => -5
def y_o1 (o : Option Nat) : Int32 := match o with
  | some k => nI k
  | none => -1
/-- one of the class's three Setups -/
def y_b3 (b : Nat) : Prop := b = 1 ∨ b = 20 ∨ b = 39
theorem y_shb {b : Nat} (hb : y_b3 b) (I : Nat → Nat → Int32) (J : Nat → Nat → Int64) :
    (xz_is (xz_SH, I, J) b 3 = true ∧ xz_is (xz_SH, I, J) (b + 1) 0 = true ∧ xz_is (xz_SH, I, J) (b + 7) 2 = true ∧ xz_is (xz_SH, I, J) (b + 11) 2 = true ∧ xz_is (xz_SH, I, J) (b + 15) 2 = true) ∧
    ((∀ k, xz_gI (xz_SH, I, J) b 3 k = some (I b k)) ∧ (∀ k, xz_gI (xz_SH, I, J) (b + 1) 0 k = some (I (b + 1) k)) ∧ (∀ k, xz_gI (xz_SH, I, J) (b + 7) 2 k = some (I (b + 7) k)) ∧ (∀ k, xz_gI (xz_SH, I, J) (b + 11) 2 k = some (I (b + 11) k)) ∧ (∀ k, xz_gI (xz_SH, I, J) (b + 15) 2 k = some (I (b + 15) k))) ∧
    ((∀ k v, xz_wI (xz_SH, I, J) b 3 k v = some (xz_SH, xz_up I b k v, J)) ∧ (∀ k v, xz_wI (xz_SH, I, J) (b + 1) 0 k v = some (xz_SH, xz_up I (b + 1) k v, J)) ∧ (∀ k v, xz_wI (xz_SH, I, J) (b + 7) 2 k v = some (xz_SH, xz_up I (b + 7) k v, J)) ∧ (∀ k v, xz_wI (xz_SH, I, J) (b + 11) 2 k v = some (xz_SH, xz_up I (b + 11) k v, J)) ∧ (∀ k v, xz_wI (xz_SH, I, J) (b + 15) 2 k v = some (xz_SH, xz_up I (b + 15) k v, J))) ∧
    (xz_gR (xz_SH, I, J) b 3 5 = some (b + 1) ∧ xz_gR (xz_SH, I, J) b 3 6 = some (b + 7) ∧ xz_gR (xz_SH, I, J) b 3 7 = some (b + 11) ∧ xz_gR (xz_SH, I, J) b 3 8 = some (b + 15)) ∧
    (xz_gR (xz_SH, I, J) (b + 1) 0 1 = some (b + 2) ∧ xz_gR (xz_SH, I, J) (b + 1) 0 2 = some (b + 3) ∧ xz_gR (xz_SH, I, J) (b + 1) 0 3 = some (b + 4) ∧ xz_gR (xz_SH, I, J) (b + 1) 0 4 = some (b + 5) ∧ xz_gR (xz_SH, I, J) (b + 1) 0 5 = some (b + 6)) ∧
    ((∀ i, xz_lI0 (xz_SH, I, J) 0 (b + 2) i = bif xz_in i 14 then some (I (b + 2) i.toNatClampNeg) else none) ∧ (∀ i, xz_lI0 (xz_SH, I, J) 0 (b + 3) i = bif xz_in i 14 then some (I (b + 3) i.toNatClampNeg) else none) ∧ (∀ i, xz_lI0 (xz_SH, I, J) 0 (b + 4) i = bif xz_in i 14 then some (I (b + 4) i.toNatClampNeg) else none) ∧ (∀ i, xz_lI0 (xz_SH, I, J) 0 (b + 5) i = bif xz_in i 14 then some (I (b + 5) i.toNatClampNeg) else none) ∧ (∀ i, xz_lI0 (xz_SH, I, J) 1 (b + 6) i = bif xz_in i 14 then some (I (b + 6) i.toNatClampNeg) else none)) ∧
    ((∀ i v, xz_sI0 (xz_SH, I, J) (b + 2) i v = bif xz_in i 14 then some (xz_SH, xz_up I (b + 2) i.toNatClampNeg v, J) else none) ∧ (∀ i v, xz_sI0 (xz_SH, I, J) (b + 3) i v = bif xz_in i 14 then some (xz_SH, xz_up I (b + 3) i.toNatClampNeg v, J) else none) ∧ (∀ i v, xz_sI0 (xz_SH, I, J) (b + 4) i v = bif xz_in i 14 then some (xz_SH, xz_up I (b + 4) i.toNatClampNeg v, J) else none) ∧ (∀ i v, xz_sI0 (xz_SH, I, J) (b + 5) i v = bif xz_in i 14 then some (xz_SH, xz_up I (b + 5) i.toNatClampNeg v, J) else none) ∧ (∀ i v, xz_sZ0 (xz_SH, I, J) (b + 6) i v = bif xz_in i 14 then some (xz_SH, xz_up I (b + 6) i.toNatClampNeg (v &&& 1), J) else none)) := by
  rcases hb with rfl | rfl | rfl
  · refine ⟨⟨rfl, rfl, rfl, rfl, rfl⟩, ⟨fun _ => rfl, fun _ => rfl, fun _ => rfl, fun _ => rfl, fun _ => rfl⟩, ⟨fun _ _ => rfl, fun _ _ => rfl, fun _ _ => rfl, fun _ _ => rfl, fun _ _ => rfl⟩, ⟨rfl, rfl, rfl, rfl⟩, ⟨rfl, rfl, rfl, rfl, rfl⟩, ⟨fun _ => rfl, fun _ => rfl, fun _ => rfl, fun _ => rfl, fun _ => rfl⟩, ⟨fun _ _ => rfl, fun _ _ => rfl, fun _ _ => rfl, fun _ _ => rfl, fun _ _ => rfl⟩⟩
  · refine ⟨⟨rfl, rfl, rfl, rfl, rfl⟩, ⟨fun _ => rfl, fun _ => rfl, fun _ => rfl, fun _ => rfl, fun _ => rfl⟩, ⟨fun _ _ => rfl, fun _ _ => rfl, fun _ _ => rfl, fun _ _ => rfl, fun _ _ => rfl⟩, ⟨rfl, rfl, rfl, rfl⟩, ⟨rfl, rfl, rfl, rfl, rfl⟩, ⟨fun _ => rfl, fun _ => rfl, fun _ => rfl, fun _ => rfl, fun _ => rfl⟩, ⟨fun _ _ => rfl, fun _ _ => rfl, fun _ _ => rfl, fun _ _ => rfl, fun _ _ => rfl⟩⟩
  · refine ⟨⟨rfl, rfl, rfl, rfl, rfl⟩, ⟨fun _ => rfl, fun _ => rfl, fun _ => rfl, fun _ => rfl, fun _ => rfl⟩, ⟨fun _ _ => rfl, fun _ _ => rfl, fun _ _ => rfl, fun _ _ => rfl, fun _ _ => rfl⟩, ⟨rfl, rfl, rfl, rfl⟩, ⟨rfl, rfl, rfl, rfl, rfl⟩, ⟨fun _ => rfl, fun _ => rfl, fun _ => rfl, fun _ => rfl, fun _ => rfl⟩, ⟨fun _ _ => rfl, fun _ _ => rfl, fun _ _ => rfl, fun _ _ => rfl, fun _ _ => rfl⟩⟩
/-- Setup at b holds the numbers S: people, delay, the question, meetings -/
def y_vM (b : Nat) (S : y_S) (I : Nat → Nat → Int32) : Prop := (I b 0 = nI (S 0 0) ∧ I b 1 = nI (S 0 1) ∧ I b 2 = nI (S 0 2) ∧ I b 3 = nI (S 0 3) ∧ I b 4 = nI (S 0 4)) ∧ I (b + 1) 0 = nI (S 1 0) ∧ ∀ m, m < S 1 0 → I (b + 2) m = nI (S 2 m) ∧ I (b + 3) m = nI (S 3 m) ∧ I (b + 4) m = nI (S 4 m) ∧ I (b + 5) m = nI (S 5 m) ∧ I (b + 6) m = nI (S 6 m)
def y_okM (S : y_S) : Prop := 2 ≤ S 0 0 ∧ S 0 0 ≤ 6 ∧ S 0 1 ≤ 9 ∧ S 0 2 < S 0 0 ∧ S 0 3 < S 0 0 ∧ S 0 4 ≤ 99 ∧ S 1 0 ≤ 14 ∧ ∀ m, m < S 1 0 → S 2 m ≤ 99 ∧ S 3 m < S 0 0 ∧ S 4 m < S 0 0 ∧ S 3 m ≠ S 4 m ∧ 1 ≤ S 5 m ∧ S 5 m ≤ 100 ∧ S 6 m ≤ 1
theorem y_Me_isThere (d : Nat) {b : Nat} (hb : y_b3 b) {S : y_S} {I : Nat → Nat → Int32} (J : Nat → Nat → Int64) (hS : y_vM b S I) (hok : y_okM S) {m : Nat} (hm : m < S 1 0) : zC (d + 1) q_Me_isThere [.ref (b + 1), .int (nI m)] (xz_SH, I, J) = some (some (.int (y_bI (S 6 m == 0))), (xz_SH, I, J)) := by
  obtain ⟨h0, h1, h2⟩ := hS
  obtain ⟨k1, k2, k3, k4, k5, k6, k7, k8⟩ := hok
  obtain ⟨h3, h4, h5, h6, h7⟩ := h2 m hm
  obtain ⟨_, _, _, _, _, _, g7⟩ := k8 m hm
  refine b_Me_isThere _ _ _ _ _ ?_
  by_cases h : S 6 m = 0
  · simp (disch := omega) only [sh_is0, sh_gI0, sh_wI0, sh_wZ0, sh_gR0, sh_gR1, sh_gR2, sh_lI0, sh_lI1, sh_lI2, sh_sI0, sh_sI1, sh_sI2, sh_len0, sh_len1, sh_len2, sh_lZ0, sh_sZ0, sh_gJ0, sh_wJ0, sh_lR0, sh_lJ0, sh_sJ0, y_shb hb, y_eo, y_eb, y_eI, y_eJ, y_eR, y_eV, y_in, nI_clamp, cond_true, y_eqI, y_ltI, y_leI, y_lit, nI_toInt, if_true, if_false, if_pos, if_neg, y_bIt, y_bIf, y_band, h1, h7, h, beq_self_eq_true]
  · have e : (S 6 m == 0) = false := by simpa using h
    simp (disch := omega) only [sh_is0, sh_gI0, sh_wI0, sh_wZ0, sh_gR0, sh_gR1, sh_gR2, sh_lI0, sh_lI1, sh_lI2, sh_sI0, sh_sI1, sh_sI2, sh_len0, sh_len1, sh_len2, sh_lZ0, sh_sZ0, sh_gJ0, sh_wJ0, sh_lR0, sh_lJ0, sh_sJ0, y_shb hb, y_eo, y_eb, y_eI, y_eJ, y_eR, y_eV, y_in, nI_clamp, cond_true, y_eqI, y_ltI, y_leI, y_lit, nI_toInt, if_true, if_false, if_pos, if_neg, y_bIt, y_bIf, y_band, h1, h7, e]
