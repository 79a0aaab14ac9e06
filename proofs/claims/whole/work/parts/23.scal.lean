/-! SCALARS: what the small methods answer -/
def y_rg (x : Int32) (lo hi : Int) : Bool := decide (lo ≤ x.toInt ∧ x.toInt ≤ hi)
theorem y_rgt {x : Int32} {lo hi : Int} : y_rg x lo hi = true ↔ lo ≤ x.toInt ∧ x.toInt ≤ hi := by unfold y_rg; exact decide_eq_true_iff
theorem y_rgf {x : Int32} {lo hi : Int} : y_rg x lo hi = false ↔ ¬ (lo ≤ x.toInt ∧ x.toInt ≤ hi) := by unfold y_rg; exact decide_eq_false_iff_not
theorem y_of (x : Int32) (h : 0 ≤ x.toInt) : ∃ k : Nat, k < 2 ^ 31 ∧ x = nI k ∧ x.toInt = k := by
  obtain ⟨k, hk, rfl⟩ := nI_of (x := x) (by rw [y_ltI, y_lit.1]; omega)
  exact ⟨k, hk, rfl, nI_toInt hk⟩
theorem y_xnr (c : Bool) : xz_nr 1 (y_bI c) = true := by cases c <;> decide
theorem y_b01 (c : Bool) : ((y_bI c).toInt = 0) = (c = false) := by cases c <;> simp [y_bI, y_lit]
theorem y_b11 (c : Bool) : ((y_bI c).toInt = 1) = (c = true) := by cases c <;> simp [y_bI, y_lit]
theorem y_HR_isTime (d : Nat) (x : Int32) (M : xz_M) : zC (d + 1) q_HR_isTime [.int x] M = some (some (.int (y_bI (y_rg x 0 99))), M) := by
  refine b_HR_isTime _ _ _ _ ?_
  cases h : y_rg x 0 99
  · have h' := y_rgf.mp h
    by_cases h1 : x.toInt < 0 <;> simp (disch := omega) only [y_eo, y_eb, y_eI, y_eJ, y_eR, y_eV, y_in, nI_clamp, cond_true, y_eqI, y_ltI, y_leI, y_lit, nI_toInt, if_true, if_false, if_pos, if_neg, y_bIt, y_bIf, y_band]
  · have h' := y_rgt.mp h
    simp (disch := omega) only [y_eo, y_eb, y_eI, y_eJ, y_eR, y_eV, y_in, nI_clamp, cond_true, y_eqI, y_ltI, y_leI, y_lit, nI_toInt, if_true, if_false, if_pos, if_neg, y_bIt, y_bIf, y_band]
theorem y_HR_isSure (d : Nat) (x : Int32) (M : xz_M) : zC (d + 1) q_HR_isSure [.int x] M = some (some (.int (y_bI (y_rg x 1 100))), M) := by
  refine b_HR_isSure _ _ _ _ ?_
  cases h : y_rg x 1 100
  · have h' := y_rgf.mp h
    by_cases h1 : x.toInt < 1 <;> simp (disch := omega) only [y_eo, y_eb, y_eI, y_eJ, y_eR, y_eV, y_in, nI_clamp, cond_true, y_eqI, y_ltI, y_leI, y_lit, nI_toInt, if_true, if_false, if_pos, if_neg, y_bIt, y_bIf, y_band]
  · have h' := y_rgt.mp h
    simp (disch := omega) only [y_eo, y_eb, y_eI, y_eJ, y_eR, y_eV, y_in, nI_clamp, cond_true, y_eqI, y_ltI, y_leI, y_lit, nI_toInt, if_true, if_false, if_pos, if_neg, y_bIt, y_bIf, y_band]
theorem y_HR_isDelay (d : Nat) (x : Int32) (M : xz_M) : zC (d + 1) q_HR_isDelay [.int x] M = some (some (.int (y_bI (y_rg x 0 9))), M) := by
  refine b_HR_isDelay _ _ _ _ ?_
  cases h : y_rg x 0 9
  · have h' := y_rgf.mp h
    by_cases h1 : x.toInt < 0 <;> simp (disch := omega) only [y_eo, y_eb, y_eI, y_eJ, y_eR, y_eV, y_in, nI_clamp, cond_true, y_eqI, y_ltI, y_leI, y_lit, nI_toInt, if_true, if_false, if_pos, if_neg, y_bIt, y_bIf, y_band]
  · have h' := y_rgt.mp h
    simp (disch := omega) only [y_eo, y_eb, y_eI, y_eJ, y_eR, y_eV, y_in, nI_clamp, cond_true, y_eqI, y_ltI, y_leI, y_lit, nI_toInt, if_true, if_false, if_pos, if_neg, y_bIt, y_bIf, y_band]
theorem y_HR_isRule (d : Nat) (x : Int32) (M : xz_M) : zC (d + 1) q_HR_isRule [.int x] M = some (some (.int (y_bI (y_rg x 0 2))), M) := by
  refine b_HR_isRule _ _ _ _ ?_
  cases h : y_rg x 0 2
  · have h' := y_rgf.mp h
    by_cases h1 : x.toInt < 0 <;> simp (disch := omega) only [y_eo, y_eb, y_eI, y_eJ, y_eR, y_eV, y_in, nI_clamp, cond_true, y_eqI, y_ltI, y_leI, y_lit, nI_toInt, if_true, if_false, if_pos, if_neg, y_bIt, y_bIf, y_band]
  · have h' := y_rgt.mp h
    simp (disch := omega) only [y_eo, y_eb, y_eI, y_eJ, y_eR, y_eV, y_in, nI_clamp, cond_true, y_eqI, y_ltI, y_leI, y_lit, nI_toInt, if_true, if_false, if_pos, if_neg, y_bIt, y_bIf, y_band]
theorem y_HR_isPart (d : Nat) (x : Int32) (M : xz_M) : zC (d + 1) q_HR_isPart [.int x] M = some (some (.int (y_bI (y_rg x 0 1))), M) := by
  refine b_HR_isPart _ _ _ _ ?_
  cases h : y_rg x 0 1
  · have h' := y_rgf.mp h
    simp (disch := omega) only [y_eo, y_eb, y_eI, y_eJ, y_eR, y_eV, y_in, nI_clamp, cond_true, y_eqI, y_ltI, y_leI, y_lit, nI_toInt, if_true, if_false, if_pos, if_neg, y_bIt, y_bIf, y_band]
  · have h' := y_rgt.mp h
    by_cases h1 : x.toInt = 0 <;> simp (disch := omega) only [y_eo, y_eb, y_eI, y_eJ, y_eR, y_eV, y_in, nI_clamp, cond_true, y_eqI, y_ltI, y_leI, y_lit, nI_toInt, if_true, if_false, if_pos, if_neg, y_bIt, y_bIf, y_band]
theorem y_Ta_isTape (d : Nat) (x : Int32) (M : xz_M) : zC (d + 1) q_Ta_isTape [.ref 82, .int x] M = some (some (.int (y_bI (y_rg x 0 5))), M) := by
  refine b_Ta_isTape _ _ _ _ _ ?_
  cases h : y_rg x 0 5
  · have h' := y_rgf.mp h
    by_cases h1 : x.toInt < 0 <;> simp (disch := omega) only [y_eo, y_eb, y_eI, y_eJ, y_eR, y_eV, y_in, nI_clamp, cond_true, y_eqI, y_ltI, y_leI, y_lit, nI_toInt, if_true, if_false, if_pos, if_neg, y_bIt, y_bIf, y_band]
  · have h' := y_rgt.mp h
    simp (disch := omega) only [y_eo, y_eb, y_eI, y_eJ, y_eR, y_eV, y_in, nI_clamp, cond_true, y_eqI, y_ltI, y_leI, y_lit, nI_toInt, if_true, if_false, if_pos, if_neg, y_bIt, y_bIf, y_band]
theorem y_Mo_in (d : Nat) (a lo hi : Int64) (M : xz_M) : zC (d + 1) q_Mo_in [.long a, .long lo, .long hi] M = some (some (.int (y_bI (decide (lo.toInt ≤ a.toInt ∧ a.toInt ≤ hi.toInt)))), M) := by
  refine b_Mo_in _ _ _ _ _ _ ?_
  simp only [lg_cmp_lt, lg_cmp_gt, Int64.lt_iff_toInt_lt]
  by_cases h1 : a.toInt < lo.toInt
  · rw [if_pos h1, decide_eq_false (by omega)]
    rfl
  · rw [if_neg h1]
    by_cases h2 : hi.toInt < a.toInt
    · rw [if_pos h2, decide_eq_false (by omega)]
      rfl
    · rw [if_neg h2, decide_eq_true (by omega)]
      rfl
theorem y_litJ : ((0 : Int64).toInt = 0) ∧ ((1 : Int64).toInt = 1) ∧ ((2 : Int64).toInt = 2) ∧ ((3 : Int64).toInt = 3) ∧ ((4 : Int64).toInt = 4) ∧ ((5 : Int64).toInt = 5) ∧ ((6 : Int64).toInt = 6) ∧ ((9 : Int64).toInt = 9) ∧ ((99 : Int64).toInt = 99) ∧ ((100 : Int64).toInt = 100) ∧ ((127 : Int64).toInt = 127) ∧ ((48 : Int64).toInt = 48) ∧ ((57 : Int64).toInt = 57) ∧ ((97 : Int64).toInt = 97) ∧ ((122 : Int64).toInt = 122) ∧ ((-1 : Int64).toInt = -1) := by decide +kernel
/-- in with ints -/
theorem y_Mo_inI (d : Nat) (x : Int32) (lo hi : Int64) {l h : Int} (hl : lo.toInt = l) (hh : hi.toInt = h) (M : xz_M) : zC (d + 1) q_Mo_in [.long (Int32.toInt64 x), .long lo, .long hi] M = some (some (.int (y_bI (y_rg x l h))), M) := by
  rw [y_Mo_in, Int32.toInt_toInt64, hl, hh]
  rfl
theorem y_Mo_inH (d : Nat) (x y : Int32) (lo : Int64) {l h : Int} (hl : lo.toInt = l) (hh : y.toInt = h) (M : xz_M) : zC (d + 1) q_Mo_in [.long (Int32.toInt64 x), .long lo, .long (Int32.toInt64 y)] M = some (some (.int (y_bI (y_rg x l h))), M) := y_Mo_inI d x lo _ hl (by rw [Int32.toInt_toInt64, hh]) M
theorem y_Mo_isTime (d : Nat) (x : Int32) (M : xz_M) : zC (d + 2) q_Mo_isTime [.int x] M = some (some (.int (y_bI (y_rg x 0 99))), M) := by
  refine b_Mo_isTime _ _ _ _ ?_
  rw [y_Mo_inI d x 0 99 (l := 0) (h := 99) (by decide) (by decide)]
  simp only [y_eI, y_xnr, y_eb]
theorem y_Mo_isRule (d : Nat) (x : Int32) (M : xz_M) : zC (d + 2) q_Mo_isRule [.int x] M = some (some (.int (y_bI (y_rg x 0 2))), M) := by
  refine b_Mo_isRule _ _ _ _ ?_
  rw [y_Mo_inI d x 0 2 (l := 0) (h := 2) (by decide) (by decide)]
  simp only [y_eI, y_xnr, y_eb]
theorem y_Mo_isPart (d : Nat) (x : Int32) (M : xz_M) : zC (d + 2) q_Mo_isPart [.int x] M = some (some (.int (y_bI (y_rg x 0 1))), M) := by
  refine b_Mo_isPart _ _ _ _ ?_
  rw [y_Mo_inI d x 0 1 (l := 0) (h := 1) (by decide) (by decide)]
  simp only [y_eI, y_xnr, y_eb]
theorem y_Mo_isTape (d : Nat) (x : Int32) (M : xz_M) : zC (d + 2) q_Mo_isTape [.int x] M = some (some (.int (y_bI (y_rg x 0 5))), M) := by
  refine b_Mo_isTape _ _ _ _ ?_
  rw [y_Mo_inI d x 0 5 (l := 0) (h := 5) (by decide) (by decide)]
  simp only [y_eI, y_xnr, y_eb]
/-! bits -/
theorem y_bit0 : ∀ v, v < 64 → ∀ x, x < 6 → ((nI v >>> (nI x &&& 31)) &&& (1 : Int32)) = y_bI (v.testBit x) := by decide +kernel
theorem y_bit1 : ∀ x, x < 7 → ((1 : Int32) <<< (nI x &&& 31)) = nI (1 <<< x) := by decide +kernel
theorem y_bit2 : ∀ a, a < 64 → ∀ b, b < 6 → nI a ||| nI (1 <<< b) = nI (a ||| 1 <<< b) := by decide +kernel
theorem y_HR_hasBit (d : Nat) {v x : Nat} (hv : v < 64) (hx : x < 6) (M : xz_M) : zC (d + 1) q_HR_hasBit [.int (nI v), .int (nI x)] M = some (some (.int (y_bI (v.testBit x))), M) := by
  refine b_HR_hasBit _ _ _ _ _ ?_
  rw [y_bit0 v hv x hx]
  cases v.testBit x <;> simp (disch := omega) only [y_eo, y_eb, y_eI, y_eJ, y_eR, y_eV, y_in, nI_clamp, cond_true, y_eqI, y_ltI, y_leI, y_lit, nI_toInt, if_true, if_false, if_pos, if_neg, y_bIt, y_bIf, y_band]
theorem y_Mo_has (d : Nat) {v x : Nat} (hv : v < 64) (hx : x < 6) (M : xz_M) : zC (d + 1) q_Mo_has [.int (nI v), .int (nI x)] M = some (some (.int (y_bI (v.testBit x))), M) := by
  refine b_Mo_has _ _ _ _ _ ?_
  rw [y_bit0 v hv x hx]
  cases v.testBit x <;> simp (disch := omega) only [y_eo, y_eb, y_eI, y_eJ, y_eR, y_eV, y_in, nI_clamp, cond_true, y_eqI, y_ltI, y_leI, y_lit, nI_toInt, if_true, if_false, if_pos, if_neg, y_bIt, y_bIf, y_band]
/-! a Setup's people -/
def y_two (S : y_S) (i j : Int32) : Bool := y_rg i 0 (S 0 0 - 1) && (y_rg j 0 (S 0 0 - 1) && decide (i.toInt ≠ j.toInt))
theorem y_Se_isPerson (d : Nat) {b : Nat} (hb : y_b3 b) {S : y_S} {I : Nat → Nat → Int32} (J : Nat → Nat → Int64) (h0 : I b 0 = nI (S 0 0)) (h6 : S 0 0 ≤ 6) (x : Int32) : zC (d + 1) q_Se_isPerson [.ref b, .int x] (xz_SH, I, J) = some (some (.int (y_bI (y_rg x 0 (S 0 0 - 1)))), (xz_SH, I, J)) := by
  refine b_Se_isPerson _ _ _ _ _ ?_
  cases h : y_rg x 0 (S 0 0 - 1)
  · have h' := y_rgf.mp h
    by_cases h1 : x.toInt < 0 <;> simp (disch := omega) only [sh_is0, sh_gI0, sh_wI0, sh_wZ0, sh_gR0, sh_gR1, sh_gR2, sh_lI0, sh_lI1, sh_lI2, sh_sI0, sh_sI1, sh_sI2, sh_len0, sh_len1, sh_len2, sh_lZ0, sh_sZ0, sh_gJ0, sh_wJ0, sh_lR0, sh_lJ0, sh_sJ0, y_shb hb, y_eo, y_eb, y_eI, y_eJ, y_eR, y_eV, y_in, nI_clamp, cond_true, y_eqI, y_ltI, y_leI, y_lit, nI_toInt, if_true, if_false, if_pos, if_neg, y_bIt, y_bIf, y_band, h0]
  · have h' := y_rgt.mp h
    simp (disch := omega) only [sh_is0, sh_gI0, sh_wI0, sh_wZ0, sh_gR0, sh_gR1, sh_gR2, sh_lI0, sh_lI1, sh_lI2, sh_sI0, sh_sI1, sh_sI2, sh_len0, sh_len1, sh_len2, sh_lZ0, sh_sZ0, sh_gJ0, sh_wJ0, sh_lR0, sh_lJ0, sh_sJ0, y_shb hb, y_eo, y_eb, y_eI, y_eJ, y_eR, y_eV, y_in, nI_clamp, cond_true, y_eqI, y_ltI, y_leI, y_lit, nI_toInt, if_true, if_false, if_pos, if_neg, y_bIt, y_bIf, y_band, h0]
theorem y_Se_isPair (d : Nat) {b : Nat} (hb : y_b3 b) {S : y_S} {I : Nat → Nat → Int32} (J : Nat → Nat → Int64) (h0 : I b 0 = nI (S 0 0)) (h6 : S 0 0 ≤ 6) (x y : Int32) : zC (d + 2) q_Se_isPair [.ref b, .int x, .int y] (xz_SH, I, J) = some (some (.int (y_bI (y_two S x y))), (xz_SH, I, J)) := by
  refine b_Se_isPair _ _ _ _ _ _ ?_
  unfold y_two
  cases h : y_rg x 0 (S 0 0 - 1)
  · simp (disch := omega) only [sh_is0, sh_gI0, sh_wI0, sh_wZ0, sh_gR0, sh_gR1, sh_gR2, sh_lI0, sh_lI1, sh_lI2, sh_sI0, sh_sI1, sh_sI2, sh_len0, sh_len1, sh_len2, sh_lZ0, sh_sZ0, sh_gJ0, sh_wJ0, sh_lR0, sh_lJ0, sh_sJ0, y_shb hb, y_eo, y_eb, y_eI, y_eJ, y_eR, y_eV, y_in, nI_clamp, cond_true, y_eqI, y_ltI, y_leI, y_lit, nI_toInt, if_true, if_false, if_pos, if_neg, y_bIt, y_bIf, y_band, y_Se_isPerson d hb J h0 h6, h, Bool.false_and]
  · cases h1 : y_rg y 0 (S 0 0 - 1)
    · simp (disch := omega) only [sh_is0, sh_gI0, sh_wI0, sh_wZ0, sh_gR0, sh_gR1, sh_gR2, sh_lI0, sh_lI1, sh_lI2, sh_sI0, sh_sI1, sh_sI2, sh_len0, sh_len1, sh_len2, sh_lZ0, sh_sZ0, sh_gJ0, sh_wJ0, sh_lR0, sh_lJ0, sh_sJ0, y_shb hb, y_eo, y_eb, y_eI, y_eJ, y_eR, y_eV, y_in, nI_clamp, cond_true, y_eqI, y_ltI, y_leI, y_lit, nI_toInt, if_true, if_false, if_pos, if_neg, y_bIt, y_bIf, y_band, y_Se_isPerson d hb J h0 h6, h, h1, Bool.true_and, Bool.false_and]
    · by_cases h2 : x.toInt = y.toInt
      · simp (disch := omega) only [sh_is0, sh_gI0, sh_wI0, sh_wZ0, sh_gR0, sh_gR1, sh_gR2, sh_lI0, sh_lI1, sh_lI2, sh_sI0, sh_sI1, sh_sI2, sh_len0, sh_len1, sh_len2, sh_lZ0, sh_sZ0, sh_gJ0, sh_wJ0, sh_lR0, sh_lJ0, sh_sJ0, y_shb hb, y_eo, y_eb, y_eI, y_eJ, y_eR, y_eV, y_in, nI_clamp, cond_true, y_eqI, y_ltI, y_leI, y_lit, nI_toInt, if_true, if_false, if_pos, if_neg, y_bIt, y_bIf, y_band, y_Se_isPerson d hb J h0 h6, h, h1, Bool.true_and, decide_eq_false (not_not_intro h2)]
      · simp (disch := omega) only [sh_is0, sh_gI0, sh_wI0, sh_wZ0, sh_gR0, sh_gR1, sh_gR2, sh_lI0, sh_lI1, sh_lI2, sh_sI0, sh_sI1, sh_sI2, sh_len0, sh_len1, sh_len2, sh_lZ0, sh_sZ0, sh_gJ0, sh_wJ0, sh_lR0, sh_lJ0, sh_sJ0, y_shb hb, y_eo, y_eb, y_eI, y_eJ, y_eR, y_eV, y_in, nI_clamp, cond_true, y_eqI, y_ltI, y_leI, y_lit, nI_toInt, if_true, if_false, if_pos, if_neg, y_bIt, y_bIf, y_band, y_Se_isPerson d hb J h0 h6, h, h1, Bool.true_and, decide_eq_true h2]
/-- the reference holds the numbers S: people, delay, the question, meetings -/
def y_vR (S : y_S) (I : Nat → Nat → Int32) : Prop := (I 92 0 = nI (S 0 0) ∧ I 92 7 = nI (S 0 1) ∧ I 92 8 = nI (S 0 2) ∧ I 92 9 = nI (S 0 3) ∧ I 92 10 = nI (S 0 4)) ∧ I 92 1 = nI (S 1 0) ∧ ∀ m, m < S 1 0 → I 94 m = nI (S 2 m) ∧ I 95 m = nI (S 3 m) ∧ I 96 m = nI (S 4 m) ∧ I 97 m = nI (S 5 m) ∧ I 93 m = nI (1 - S 6 m)
theorem y_Mo_isPerson (d : Nat) {S : y_S} {I : Nat → Nat → Int32} (J : Nat → Nat → Int64) (h0 : I 92 0 = nI (S 0 0)) (h2 : 2 ≤ S 0 0) (h6 : S 0 0 ≤ 6) (x : Int32) : zC (d + 2) q_Mo_isPerson [.ref 92, .int x] (xz_SH, I, J) = some (some (.int (y_bI (y_rg x 0 (S 0 0 - 1)))), (xz_SH, I, J)) := by
  refine b_Mo_isPerson _ _ _ _ _ ?_
  have e : (nI (S 0 0) - (1 : Int32)).toInt = (S 0 0 : Int) - 1 := by
    rw [y_m1 (by omega), nI_toInt (by omega)]
    omega
  simp (disch := omega) only [sh_is0, sh_gI0, sh_wI0, sh_wZ0, sh_gR0, sh_gR1, sh_gR2, sh_lI0, sh_lI1, sh_lI2, sh_sI0, sh_sI1, sh_sI2, sh_len0, sh_len1, sh_len2, sh_lZ0, sh_sZ0, sh_gJ0, sh_wJ0, sh_lR0, sh_lJ0, sh_sJ0, y_eo, y_eb, y_eI, y_eJ, y_eR, y_eV, y_in, nI_clamp, cond_true, y_eqI, y_ltI, y_leI, y_lit, nI_toInt, if_true, if_false, if_pos, if_neg, y_bIt, y_bIf, y_band, h0, y_Mo_inH d x _ 0 (l := 0) (by decide) e, y_xnr]
theorem y_Mo_areTwo (d : Nat) {S : y_S} {I : Nat → Nat → Int32} (J : Nat → Nat → Int64) (h0 : I 92 0 = nI (S 0 0)) (h2 : 2 ≤ S 0 0) (h6 : S 0 0 ≤ 6) (x y : Int32) : zC (d + 3) q_Mo_areTwo [.ref 92, .int x, .int y] (xz_SH, I, J) = some (some (.int (y_bI (y_two S x y))), (xz_SH, I, J)) := by
  refine b_Mo_areTwo _ _ _ _ _ _ ?_
  unfold y_two
  cases h : y_rg x 0 (S 0 0 - 1)
  · simp (disch := omega) only [sh_is0, sh_gI0, sh_wI0, sh_wZ0, sh_gR0, sh_gR1, sh_gR2, sh_lI0, sh_lI1, sh_lI2, sh_sI0, sh_sI1, sh_sI2, sh_len0, sh_len1, sh_len2, sh_lZ0, sh_sZ0, sh_gJ0, sh_wJ0, sh_lR0, sh_lJ0, sh_sJ0, y_eo, y_eb, y_eI, y_eJ, y_eR, y_eV, y_in, nI_clamp, cond_true, y_eqI, y_ltI, y_leI, y_lit, nI_toInt, if_true, if_false, if_pos, if_neg, y_bIt, y_bIf, y_band, y_Mo_isPerson d J h0 h2 h6, h, Bool.false_and]
  · cases h1 : y_rg y 0 (S 0 0 - 1)
    · simp (disch := omega) only [sh_is0, sh_gI0, sh_wI0, sh_wZ0, sh_gR0, sh_gR1, sh_gR2, sh_lI0, sh_lI1, sh_lI2, sh_sI0, sh_sI1, sh_sI2, sh_len0, sh_len1, sh_len2, sh_lZ0, sh_sZ0, sh_gJ0, sh_wJ0, sh_lR0, sh_lJ0, sh_sJ0, y_eo, y_eb, y_eI, y_eJ, y_eR, y_eV, y_in, nI_clamp, cond_true, y_eqI, y_ltI, y_leI, y_lit, nI_toInt, if_true, if_false, if_pos, if_neg, y_bIt, y_bIf, y_band, y_Mo_isPerson d J h0 h2 h6, h, h1, Bool.true_and, Bool.false_and]
    · by_cases h2' : x.toInt = y.toInt
      · simp (disch := omega) only [sh_is0, sh_gI0, sh_wI0, sh_wZ0, sh_gR0, sh_gR1, sh_gR2, sh_lI0, sh_lI1, sh_lI2, sh_sI0, sh_sI1, sh_sI2, sh_len0, sh_len1, sh_len2, sh_lZ0, sh_sZ0, sh_gJ0, sh_wJ0, sh_lR0, sh_lJ0, sh_sJ0, y_eo, y_eb, y_eI, y_eJ, y_eR, y_eV, y_in, nI_clamp, cond_true, y_eqI, y_ltI, y_leI, y_lit, nI_toInt, if_true, if_false, if_pos, if_neg, y_bIt, y_bIf, y_band, y_Mo_isPerson d J h0 h2 h6, h, h1, Bool.true_and, decide_eq_false (not_not_intro h2')]
      · simp (disch := omega) only [sh_is0, sh_gI0, sh_wI0, sh_wZ0, sh_gR0, sh_gR1, sh_gR2, sh_lI0, sh_lI1, sh_lI2, sh_sI0, sh_sI1, sh_sI2, sh_len0, sh_len1, sh_len2, sh_lZ0, sh_sZ0, sh_gJ0, sh_wJ0, sh_lR0, sh_lJ0, sh_sJ0, y_eo, y_eb, y_eI, y_eJ, y_eR, y_eV, y_in, nI_clamp, cond_true, y_eqI, y_ltI, y_leI, y_lit, nI_toInt, if_true, if_false, if_pos, if_neg, y_bIt, y_bIf, y_band, y_Mo_isPerson d J h0 h2 h6, h, h1, Bool.true_and, decide_eq_true h2']
