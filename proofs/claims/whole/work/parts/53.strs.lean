/-! read: the text constants, signs -/
def y_st (i : Nat) : List Nat := xz_str.getD i []
theorem y_st_all : ∀ i, i < 9 → (y_st i).length ≤ 6 ∧ xz_sval (2000 + i) = some (2100 + i) ∧ xz_scod (2000 + i) = some 0 ∧ xz_sln (2100 + i) = some (nI (y_st i).length) ∧ ∀ k, k < 6 → k < (y_st i).length → xz_sby (2100 + i) (nI k) = some (nI ((y_st i).getD k 0)) ∧ (y_st i).getD k 0 ≤ 127 := by decide +kernel
theorem y_st_chr : ∀ c, c ≤ 127 → (((nI c &&& (255 : Int32))).toUInt32 % 65536).toInt32 = nI c ∧ xz_nr 2 (nI c) = true := by decide +kernel
theorem y_st_len : ∀ c, c ≤ 6 → nI c >>> ((0 : Int32) &&& 31) = nI c := by decide +kernel
theorem y_st_is {i : Nat} (hi : i < 9) (M : xz_M) : xz_is M (2000 + i) 20 = true := by
  have h1 : Nat.ble 2000 (2000 + i) = true := Nat.ble_eq.mpr (by omega)
  have h2 : Nat.blt (2000 + i) 2009 = true := Nat.blt_eq.mpr (by omega)
  show (bif (20 : Nat) == 20 then Nat.ble 2000 (2000 + i) && Nat.blt (2000 + i) 2009 else _) = true
  rw [h1, h2]
  rfl
theorem y_sLen (d : Nat) {i : Nat} (hi : i < 9) (M : xz_M) : zC (d + 2) q_JD_sLength [.ref (2000 + i)] M = some (some (.int (nI (y_st i).length)), M) := by
  obtain ⟨h0, h1, h2, h3, h4⟩ := y_st_all i hi
  have hc : zC (d + 1) q_JD_sCoder [.ref (2000 + i)] M = some (some (.int 0), M) := by
    refine b_JD_sCoder _ _ _ _ ?_
    rw [if_neg (by decide), h2]
    rfl
  refine b_JD_sLength _ _ _ _ ?_
  rw [h1, y_eo, h3, y_eo, y_st_is hi, y_eb, hc, y_eI, y_st_len _ h0]
theorem y_sChr (d : Nat) {i k : Nat} (hi : i < 9) (hk : k < (y_st i).length) (M : xz_M) : zC (d + 4) q_JD_sCharAt [.ref (2000 + i), .int (nI k)] M = some (some (.int (nI ((y_st i).getD k 0))), M) := by
  obtain ⟨h0, h1, h2, h3, h4⟩ := y_st_all i hi
  obtain ⟨h5, h6⟩ := h4 k (by omega) hk
  obtain ⟨h7, h8⟩ := y_st_chr _ h6
  have hc : ∀ d, zC (d + 1) q_JD_sLatin [.ref (2000 + i)] M = some (some (.int 1), M) := by
    intro d
    refine b_JD_sLatin _ _ _ _ ?_
    rw [if_neg (by decide), h2, y_eo, if_pos rfl]
  have hp : ∀ d, zC (d + 1) q_JD_pCheck [.int (nI k), .int (nI (y_st i).length), .retAddr 0] M = some (some (.int (nI k)), M) := by
    intro d
    refine b_JD_pCheck _ _ _ _ _ ?_
    simp (maxSteps := 1000000) (disch := omega) only [y_eo, y_eb, y_eI, y_eJ, y_eR, y_eV, y_in, nI_clamp, cond_true, y_eqI, y_ltI, y_leI, y_lit, nI_toInt, if_true, if_false, if_pos, if_neg, y_bIt, y_bIf, y_band]
  have hs : ∀ d, zC (d + 2) q_JD_sCheck [.int (nI k), .int (nI (y_st i).length)] M = some (none, M) := by
    intro d
    refine b_JD_sCheck _ _ _ _ _ ?_
    rw [hp, y_eI]
  have hl : ∀ d, zC (d + 3) q_JD_lCharAt [.ref (2100 + i), .int (nI k)] M = some (some (.int (nI ((y_st i).getD k 0))), M) := by
    intro d
    refine b_JD_lCharAt _ _ _ _ _ ?_
    rw [h3, y_eo, hs, y_eV, h5, y_eo, h7, h8, y_eb]
  refine b_JD_sCharAt _ _ _ _ _ ?_
  rw [y_st_is hi, y_eb, hc, y_eI, if_neg (by decide), h1, y_eo, hl, y_eI, h8, y_eb]
/-! signs of the text of n signs g -/
def y_sg (n : Nat) (g : Nat → Nat) (p : Nat) : Int := if p < n then (g p : Int) else -1
def y_sv (n : Nat) (g : Nat → Nat) (p : Nat) : Int32 := if p < n then nI (g p) else -1
def y_tc (n : Nat) (g : Nat → Nat) (I : Nat → Nat → Int32) : Prop := n ≤ 100 ∧ I 66 0 = nI n ∧ ∀ k, k < n → g k ≤ 127 ∧ I 67 k = nI (g k)
def y_tr (n : Nat) (g : Nat → Nat) (I : Nat → Nat → Int32) : Prop := n ≤ 100 ∧ I 92 22 = nI n ∧ ∀ k, k < n → g k ≤ 127 ∧ I 105 k = nI (g k)
theorem y_sv_i {n : Nat} {g : Nat → Nat} (hg : ∀ k, k < n → g k ≤ 127) (p : Nat) : (y_sv n g p).toInt = y_sg n g p ∧ -1 ≤ y_sg n g p ∧ y_sg n g p ≤ 127 := by
  unfold y_sv y_sg
  by_cases h : p < n
  · rw [if_pos h, if_pos h, nI_toInt (by have := hg p h; omega)]
    have := hg p h
    exact ⟨rfl, by omega, by omega⟩
  · rw [if_neg h, if_neg h]
    exact ⟨by decide, by omega, by omega⟩
theorem y_Te_sign (d : Nat) {n : Nat} {g : Nat → Nat} {I : Nat → Nat → Int32} (J : Nat → Nat → Int64) (h : y_tc n g I) {p : Nat} (hp : p < 1000) : zC (d + 1) q_Te_sign [.ref 66, .int (nI p)] (xz_SH, I, J) = some (some (.int (y_sv n g p)), (xz_SH, I, J)) := by
  obtain ⟨h0, h1, h2⟩ := h
  refine b_Te_sign _ _ _ _ _ ?_
  unfold y_sv
  by_cases e : p < n
  · simp (maxSteps := 1000000) (disch := omega) only [sh_is0, sh_gI0, sh_wI0, sh_wZ0, sh_gR0, sh_gR1, sh_gR2, sh_lI0, sh_lI1, sh_lI2, sh_sI0, sh_sI1, sh_sI2, sh_len0, sh_len1, sh_len2, sh_lZ0, sh_sZ0, sh_gJ0, sh_wJ0, sh_lR0, sh_lJ0, sh_sJ0, y_eo, y_eb, y_eI, y_eJ, y_eR, y_eV, y_in, nI_clamp, cond_true, y_eqI, y_ltI, y_leI, y_lit, nI_toInt, if_true, if_false, if_pos, if_neg, y_bIt, y_bIf, y_band, h1, (h2 p e).2]
  · simp (maxSteps := 1000000) (disch := omega) only [sh_is0, sh_gI0, sh_wI0, sh_wZ0, sh_gR0, sh_gR1, sh_gR2, sh_lI0, sh_lI1, sh_lI2, sh_sI0, sh_sI1, sh_sI2, sh_len0, sh_len1, sh_len2, sh_lZ0, sh_sZ0, sh_gJ0, sh_wJ0, sh_lR0, sh_lJ0, sh_sJ0, y_eo, y_eb, y_eI, y_eJ, y_eR, y_eV, y_in, nI_clamp, cond_true, y_eqI, y_ltI, y_leI, y_lit, nI_toInt, if_true, if_false, if_pos, if_neg, y_bIt, y_bIf, y_band, h1]
theorem y_Mo_signAt (d : Nat) {n : Nat} {g : Nat → Nat} {I : Nat → Nat → Int32} (J : Nat → Nat → Int64) (h : y_tr n g I) {p : Nat} (hp : p < 1000) : zC (d + 1) q_Mo_signAt [.ref 92, .int (nI p)] (xz_SH, I, J) = some (some (.int (y_sv n g p)), (xz_SH, I, J)) := by
  obtain ⟨h0, h1, h2⟩ := h
  refine b_Mo_signAt _ _ _ _ _ ?_
  unfold y_sv
  by_cases e : p < n
  · simp (maxSteps := 1000000) (disch := omega) only [sh_is0, sh_gI0, sh_wI0, sh_wZ0, sh_gR0, sh_gR1, sh_gR2, sh_lI0, sh_lI1, sh_lI2, sh_sI0, sh_sI1, sh_sI2, sh_len0, sh_len1, sh_len2, sh_lZ0, sh_sZ0, sh_gJ0, sh_wJ0, sh_lR0, sh_lJ0, sh_sJ0, y_eo, y_eb, y_eI, y_eJ, y_eR, y_eV, y_in, nI_clamp, cond_true, y_eqI, y_ltI, y_leI, y_lit, nI_toInt, if_true, if_false, if_pos, if_neg, y_bIt, y_bIf, y_band, h1, (h2 p e).2]
  · simp (maxSteps := 1000000) (disch := omega) only [sh_is0, sh_gI0, sh_wI0, sh_wZ0, sh_gR0, sh_gR1, sh_gR2, sh_lI0, sh_lI1, sh_lI2, sh_sI0, sh_sI1, sh_sI2, sh_len0, sh_len1, sh_len2, sh_lZ0, sh_sZ0, sh_gJ0, sh_wJ0, sh_lR0, sh_lJ0, sh_sJ0, y_eo, y_eb, y_eI, y_eJ, y_eR, y_eV, y_in, nI_clamp, cond_true, y_eqI, y_ltI, y_leI, y_lit, nI_toInt, if_true, if_false, if_pos, if_neg, y_bIt, y_bIf, y_band, h1]
theorem y_Te_isDigit (d : Nat) (x : Int32) (M : xz_M) : zC (d + 1) q_Te_isDigit [.int x] M = some (some (.int (y_bI (y_rg x 48 57))), M) := by
  refine b_Te_isDigit _ _ _ _ ?_
  have e1 : ((48 : Int32).toInt = 48) ∧ ((57 : Int32).toInt = 57) := by decide
  cases h : y_rg x 48 57 with
  | false =>
    have h' := y_rgf.mp h
    by_cases e : x.toInt < 48
    · rw [if_pos (by rw [y_ltI, e1.1]; exact e)]
      rfl
    · rw [if_neg (by rw [y_ltI, e1.1]; exact e), if_pos (by rw [y_ltI, e1.2]; omega)]
      rfl
  | true =>
    have h' := y_rgt.mp h
    rw [if_neg (by rw [y_ltI, e1.1]; omega), if_neg (by rw [y_ltI, e1.2]; omega)]
    rfl
theorem y_Te_isLetter (d : Nat) (x : Int32) (M : xz_M) : zC (d + 1) q_Te_isLetter [.int x] M = some (some (.int (y_bI (y_rg x 97 122))), M) := by
  refine b_Te_isLetter _ _ _ _ ?_
  have e1 : ((97 : Int32).toInt = 97) ∧ ((122 : Int32).toInt = 122) := by decide
  cases h : y_rg x 97 122 with
  | false =>
    have h' := y_rgf.mp h
    by_cases e : x.toInt < 97
    · rw [if_pos (by rw [y_ltI, e1.1]; exact e)]
      rfl
    · rw [if_neg (by rw [y_ltI, e1.1]; exact e), if_pos (by rw [y_ltI, e1.2]; omega)]
      rfl
  | true =>
    have h' := y_rgt.mp h
    rw [if_neg (by rw [y_ltI, e1.1]; omega), if_neg (by rw [y_ltI, e1.2]; omega)]
    rfl
/-- one cell changed -/
def y_w1 (I I' : Nat → Nat → Int32) (a b : Nat) (v : Int32) : Prop := I' a b = v ∧ ∀ q j, ¬ (q = a ∧ j = b) → I' q j = I q j
theorem y_w1_r {I : Nat → Nat → Int32} {a b : Nat} {v : Int32} (h : I a b = v) : y_w1 I I a b v := ⟨h, fun _ _ _ => rfl⟩
theorem y_w1_u (I : Nat → Nat → Int32) (a b : Nat) (v : Int32) : y_w1 I (xz_up I a b v) a b v := ⟨y_up_e ⟨rfl, rfl⟩, fun q j h => y_up_n (by omega)⟩
theorem y_w1_t {I I' I'' : Nat → Nat → Int32} {a b : Nat} {v w : Int32} (h : y_w1 I I' a b v) (h' : y_w1 I' I'' a b w) : y_w1 I I'' a b w := ⟨h'.1, fun q j hq => (h'.2 q j hq).trans (h.2 q j hq)⟩
theorem y_tc_w {n : Nat} {g : Nat → Nat} {I I' : Nat → Nat → Int32} (h1 : I' 66 0 = I 66 0) (h2 : ∀ k, I' 67 k = I 67 k) (h : y_tc n g I) : y_tc n g I' := ⟨h.1, h1.trans h.2.1, fun k hk => ⟨(h.2.2 k hk).1, (h2 k).trans (h.2.2 k hk).2⟩⟩
theorem y_tr_w {n : Nat} {g : Nat → Nat} {I I' : Nat → Nat → Int32} (h1 : I' 92 22 = I 92 22) (h2 : ∀ k, I' 105 k = I 105 k) (h : y_tr n g I) : y_tr n g I' := ⟨h.1, h1.trans h.2.1, fun k hk => ⟨(h.2.2 k hk).1, (h2 k).trans (h.2.2 k hk).2⟩⟩
