/-! item, peek, shift, judge -/
theorem y_gd {t : Nat} (ht : t < 6) : (([some 86, some 87, some 88, some 89, some 90, some 91] : List (Option Nat)).getD t none = some (86 + t)) ∧ (([some 129, some 130, some 131, some 132, some 133, some 134] : List (Option Nat)).getD t none = some (129 + t)) := by
  have hc : t = 0 ∨ t = 1 ∨ t = 2 ∨ t = 3 ∨ t = 4 ∨ t = 5 := by omega
  rcases hc with rfl | rfl | rfl | rfl | rfl | rfl <;> exact ⟨rfl, rfl⟩
theorem y_Ta_holds (d : Nat) {t : Nat} (ht : t < 6) (I : Nat → Nat → Int32) (J : Nat → Nat → Int64) : zC (d + 2) q_Ta_holds [.ref 82, .int (nI t)] (xz_SH, I, J) = some (some (.int (y_bI (decide (¬ (I 83 t).toInt = -1)))), (xz_SH, I, J)) := by
  have hrg : y_rg (nI t) 0 5 = true := y_rgt.mpr (by rw [nI_toInt (by omega)]; omega)
  refine b_Ta_holds _ _ _ _ _ ?_
  by_cases e : (I 83 t).toInt = -1
  · simp (maxSteps := 1000000) (disch := omega) only [sh_is0, sh_gI0, sh_wI0, sh_wZ0, sh_gR0, sh_gR1, sh_gR2, sh_lI0, sh_lI1, sh_lI2, sh_sI0, sh_sI1, sh_sI2, sh_len0, sh_len1, sh_len2, sh_lZ0, sh_sZ0, sh_gJ0, sh_wJ0, sh_lR0, sh_lJ0, sh_sJ0, y_eo, y_eb, y_eI, y_eJ, y_eR, y_eV, y_in, nI_clamp, cond_true, y_eqI, y_ltI, y_leI, y_lit, nI_toInt, if_true, if_false, if_pos, if_neg, y_bIt, y_bIf, y_band, y_Ta_isTape, hrg, decide_eq_false (not_not_intro e)]
  · simp (maxSteps := 1000000) (disch := omega) only [sh_is0, sh_gI0, sh_wI0, sh_wZ0, sh_gR0, sh_gR1, sh_gR2, sh_lI0, sh_lI1, sh_lI2, sh_sI0, sh_sI1, sh_sI2, sh_len0, sh_len1, sh_len2, sh_lZ0, sh_sZ0, sh_gJ0, sh_wJ0, sh_lR0, sh_lJ0, sh_sJ0, y_eo, y_eb, y_eI, y_eJ, y_eR, y_eV, y_in, nI_clamp, cond_true, y_eqI, y_ltI, y_leI, y_lit, nI_toInt, if_true, if_false, if_pos, if_neg, y_bIt, y_bIf, y_band, y_Ta_isTape, hrg, decide_eq_true e]
theorem y_Ta_hasPlace (d : Nat) {t n : Nat} (ht : t < 6) {I : Nat → Nat → Int32} (J : Nat → Nat → Int64) (h : I 84 t = nI n) (hn : n ≤ 60) (i : Int32) : zC (d + 3) q_Ta_hasPlace [.ref 82, .int (nI t), .int i] (xz_SH, I, J) = some (some (.int (y_bI (decide (¬ (I 83 t).toInt = -1 ∧ 0 ≤ i.toInt ∧ i.toInt < n)))), (xz_SH, I, J)) := by
  have hH := y_Ta_holds d ht I J
  refine b_Ta_hasPlace _ _ _ _ _ _ ?_
  by_cases e : (I 83 t).toInt = -1
  · rw [decide_eq_false (not_not_intro e)] at hH
    simp (maxSteps := 1000000) (disch := omega) only [sh_is0, sh_gI0, sh_wI0, sh_wZ0, sh_gR0, sh_gR1, sh_gR2, sh_lI0, sh_lI1, sh_lI2, sh_sI0, sh_sI1, sh_sI2, sh_len0, sh_len1, sh_len2, sh_lZ0, sh_sZ0, sh_gJ0, sh_wJ0, sh_lR0, sh_lJ0, sh_sJ0, y_eo, y_eb, y_eI, y_eJ, y_eR, y_eV, y_in, nI_clamp, cond_true, y_eqI, y_ltI, y_leI, y_lit, nI_toInt, if_true, if_false, if_pos, if_neg, y_bIt, y_bIf, y_band, hH, decide_eq_false (show ¬ (¬ (I 83 t).toInt = -1 ∧ 0 ≤ i.toInt ∧ i.toInt < n) from fun z => z.1 e)]
  · rw [decide_eq_true e] at hH
    by_cases e1 : i.toInt < 0
    · simp (maxSteps := 1000000) (disch := omega) only [sh_is0, sh_gI0, sh_wI0, sh_wZ0, sh_gR0, sh_gR1, sh_gR2, sh_lI0, sh_lI1, sh_lI2, sh_sI0, sh_sI1, sh_sI2, sh_len0, sh_len1, sh_len2, sh_lZ0, sh_sZ0, sh_gJ0, sh_wJ0, sh_lR0, sh_lJ0, sh_sJ0, y_eo, y_eb, y_eI, y_eJ, y_eR, y_eV, y_in, nI_clamp, cond_true, y_eqI, y_ltI, y_leI, y_lit, nI_toInt, if_true, if_false, if_pos, if_neg, y_bIt, y_bIf, y_band, hH, decide_eq_false (show ¬ (¬ (I 83 t).toInt = -1 ∧ 0 ≤ i.toInt ∧ i.toInt < n) by omega)]
    · by_cases e2 : i.toInt < n
      · simp (maxSteps := 1000000) (disch := omega) only [sh_is0, sh_gI0, sh_wI0, sh_wZ0, sh_gR0, sh_gR1, sh_gR2, sh_lI0, sh_lI1, sh_lI2, sh_sI0, sh_sI1, sh_sI2, sh_len0, sh_len1, sh_len2, sh_lZ0, sh_sZ0, sh_gJ0, sh_wJ0, sh_lR0, sh_lJ0, sh_sJ0, y_eo, y_eb, y_eI, y_eJ, y_eR, y_eV, y_in, nI_clamp, cond_true, y_eqI, y_ltI, y_leI, y_lit, nI_toInt, if_true, if_false, if_pos, if_neg, y_bIt, y_bIf, y_band, hH, h, decide_eq_true (show (¬ (I 83 t).toInt = -1 ∧ 0 ≤ i.toInt ∧ i.toInt < n) by omega)]
      · simp (maxSteps := 1000000) (disch := omega) only [sh_is0, sh_gI0, sh_wI0, sh_wZ0, sh_gR0, sh_gR1, sh_gR2, sh_lI0, sh_lI1, sh_lI2, sh_sI0, sh_sI1, sh_sI2, sh_len0, sh_len1, sh_len2, sh_lZ0, sh_sZ0, sh_gJ0, sh_wJ0, sh_lR0, sh_lJ0, sh_sJ0, y_eo, y_eb, y_eI, y_eJ, y_eR, y_eV, y_in, nI_clamp, cond_true, y_eqI, y_ltI, y_leI, y_lit, nI_toInt, if_true, if_false, if_pos, if_neg, y_bIt, y_bIf, y_band, hH, h, decide_eq_false (show ¬ (¬ (I 83 t).toInt = -1 ∧ 0 ≤ i.toInt ∧ i.toInt < n) by omega)]
theorem y_Mo_refusal2 (d : Nat) {t n : Nat} (ht : t < 6) {I : Nat → Nat → Int32} (J : Nat → Nat → Int64) (h : I 127 t = nI n) (hn : n ≤ 60) (hs : -1 ≤ (I 126 t).toInt) (i : Int32) : zC (d + 3) q_Mo_refusal2 [.ref 92, .int (nI t), .int i] (xz_SH, I, J) = some (some (.int (if (I 126 t).toInt = -1 then -11 else if 0 ≤ i.toInt ∧ i.toInt < n then 0 else -13)), (xz_SH, I, J)) := by
  have hrg : y_rg (nI t) 0 5 = true := y_rgt.mpr (by rw [nI_toInt (by omega)]; omega)
  have ein : ∀ M, zC (d + 2) q_Mo_in [.long (Int32.toInt64 i), .long (0 : Int64), .long (Int32.toInt64 (nI n - (1 : Int32)))] M = some (some (.int (y_bI (y_rg i 0 ((n : Int) - 1)))), M) := fun M => y_Mo_inH (d + 1) i _ 0 (by decide) (by
    rcases Nat.eq_zero_or_pos n with z | z
    · rw [z]; decide
    · rw [y_m1 (by omega), nI_toInt (by omega)]; omega) M
  refine b_Mo_refusal2 _ _ _ _ _ _ ?_
  rw [y_Mo_isTape, hrg, y_eI, if_neg (by decide)]
  simp (maxSteps := 1000000) (disch := omega) only [sh_is0, sh_gI0, sh_wI0, sh_wZ0, sh_gR0, sh_gR1, sh_gR2, sh_lI0, sh_lI1, sh_lI2, sh_sI0, sh_sI1, sh_sI2, sh_len0, sh_len1, sh_len2, sh_lZ0, sh_sZ0, sh_gJ0, sh_wJ0, sh_lR0, sh_lJ0, sh_sJ0, y_eo, y_eb, y_in ht (by decide), nI_clamp (show t < 2 ^ 31 by omega), cond_true, h]
  by_cases e : (I 126 t).toInt = -1
  · rw [if_pos e, if_neg (by rw [y_leI, y_lit.1]; omega)]
  · rw [if_neg e, if_pos (by rw [y_leI, y_lit.1]; omega), ein, y_eI]
    by_cases e2 : 0 ≤ i.toInt ∧ i.toInt < n
    · rw [if_pos e2, y_rgt.mpr (show 0 ≤ i.toInt ∧ i.toInt ≤ (n : Int) - 1 by omega), if_neg (by decide)]
    · rw [if_neg e2, y_rgf.mpr (show ¬ (0 ≤ i.toInt ∧ i.toInt ≤ (n : Int) - 1) by omega), if_pos (by decide)]
theorem y_s_peek (x i : Int32) : zSJ zR q_HR_peek q_Mo_peek [.int x, .int i] := by
  rintro M ⟨S, I, J, rfl, hZ⟩
  have hZ' := hZ
  obtain ⟨z1, z2, z4, z6, z7, z8, z9⟩ := hZ
  have r : ∀ v : Int64, zC 60 q_HR_peek [.ref 0, .int x, .int i] (xz_SH, I, J) = some (some (.long v), (xz_SH, I, J)) → zC 60 q_Mo_peek [.ref 92, .int x, .int i] (xz_SH, I, J) = some (some (.long v), (xz_SH, I, J)) → ∃ (v : Int64) (M1 M2 : xz_M), zC 60 q_HR_peek (.ref 0 :: [.int x, .int i]) (xz_SH, I, J) = some (some (.long v), M1) ∧ xz_is M1 92 8 = true ∧ zC 60 q_Mo_peek (.ref 92 :: [.int x, .int i]) M1 = some (some (.long v), M2) ∧ zR M2 := fun v a b => ⟨v, _, _, a, rfl, b, S, I, J, rfl, hZ'⟩
  cases h : y_rg x 0 5 with
  | false =>
    refine r (-9223372036854775808) (b_HR_peek _ _ _ _ _ _ ?_) (b_Mo_peek _ _ _ _ _ _ ?_)
    · have hp : zC 59 q_Ta_hasPlace [.ref 82, .int x, .int i] (xz_SH, I, J) = some (some (.int 0), (xz_SH, I, J)) := by
        refine b_Ta_hasPlace _ _ _ _ _ _ ?_
        have hh : zC 58 q_Ta_holds [.ref 82, .int x] (xz_SH, I, J) = some (some (.int 0), (xz_SH, I, J)) := by
          refine b_Ta_holds _ _ _ _ _ ?_
          simp (maxSteps := 1000000) (disch := omega) only [sh_is0, sh_gI0, sh_wI0, sh_wZ0, sh_gR0, sh_gR1, sh_gR2, sh_lI0, sh_lI1, sh_lI2, sh_sI0, sh_sI1, sh_sI2, sh_len0, sh_len1, sh_len2, sh_lZ0, sh_sZ0, sh_gJ0, sh_wJ0, sh_lR0, sh_lJ0, sh_sJ0, y_eo, y_eb, y_Ta_isTape, h, y_eI]
          rw [if_pos (by decide)]
        simp (maxSteps := 1000000) (disch := omega) only [sh_is0, sh_gI0, sh_wI0, sh_wZ0, sh_gR0, sh_gR1, sh_gR2, sh_lI0, sh_lI1, sh_lI2, sh_sI0, sh_sI1, sh_sI2, sh_len0, sh_len1, sh_len2, sh_lZ0, sh_sZ0, sh_gJ0, sh_wJ0, sh_lR0, sh_lJ0, sh_sJ0, y_eo, y_eb, hh, y_eI]
        rw [if_pos trivial]
      simp (maxSteps := 1000000) (disch := omega) only [sh_is0, sh_gI0, sh_wI0, sh_wZ0, sh_gR0, sh_gR1, sh_gR2, sh_lI0, sh_lI1, sh_lI2, sh_sI0, sh_sI1, sh_sI2, sh_len0, sh_len1, sh_len2, sh_lZ0, sh_sZ0, sh_gJ0, sh_wJ0, sh_lR0, sh_lJ0, sh_sJ0, y_eo, y_eb, hp, y_eI]
      rw [if_pos trivial]
    · have hp : zC 59 q_Mo_refusal2 [.ref 92, .int x, .int i] (xz_SH, I, J) = some (some (.int (-1)), (xz_SH, I, J)) := by
        refine b_Mo_refusal2 _ _ _ _ _ _ ?_
        rw [y_Mo_isTape, h, y_eI, if_pos (by decide)]
      simp (maxSteps := 1000000) (disch := omega) only [sh_is0, sh_gI0, sh_wI0, sh_wZ0, sh_gR0, sh_gR1, sh_gR2, sh_lI0, sh_lI1, sh_lI2, sh_sI0, sh_sI1, sh_sI2, sh_len0, sh_len1, sh_len2, sh_lZ0, sh_sZ0, sh_gJ0, sh_wJ0, sh_lR0, sh_lJ0, sh_sJ0, y_eo, y_eb, hp, y_eI]
      rw [if_neg (by decide)]
  | true =>
    have h' := y_rgt.mp h
    obtain ⟨t, _, rfl, hx⟩ := y_of x h'.1
    have ht : t < 6 := by omega
    obtain ⟨p1, p2, ⟨n, p3, p4, p5, p6⟩, p7, p8⟩ := z8 t ht
    have hP := y_Ta_hasPlace 56 ht J p4 p3 i
    have hQ := y_Mo_refusal2 56 ht J p5 p3 (by rw [p1]; exact p2.1) i
    rw [p1] at hQ
    by_cases e : ¬ (I 83 t).toInt = -1 ∧ 0 ≤ i.toInt ∧ i.toInt < n
    · rw [decide_eq_true e] at hP
      rw [if_neg e.1, if_pos e.2] at hQ
      obtain ⟨k, _, rfl, hk⟩ := y_of i e.2.1
      have hk60 : k < 60 := by omega
      refine r (J (86 + t) k) (b_HR_peek _ _ _ _ _ _ ?_) (b_Mo_peek _ _ _ _ _ _ ?_)
      · simp (maxSteps := 1000000) (disch := omega) only [sh_is0, sh_gI0, sh_wI0, sh_wZ0, sh_gR0, sh_gR1, sh_gR2, sh_lI0, sh_lI1, sh_lI2, sh_sI0, sh_sI1, sh_sI2, sh_len0, sh_len1, sh_len2, sh_lZ0, sh_sZ0, sh_gJ0, sh_wJ0, sh_lR0, sh_lJ0, sh_sJ0, y_eo, y_eb, hP, y_eI, y_shT ht, y_gd ht, y_in ht (by decide), nI_clamp (show t < 2 ^ 31 by omega), y_in hk60 (by decide), nI_clamp (show k < 2 ^ 31 by omega), cond_true]
        rw [if_neg (by decide)]
      · simp (maxSteps := 1000000) (disch := omega) only [sh_is0, sh_gI0, sh_wI0, sh_wZ0, sh_gR0, sh_gR1, sh_gR2, sh_lI0, sh_lI1, sh_lI2, sh_sI0, sh_sI1, sh_sI2, sh_len0, sh_len1, sh_len2, sh_lZ0, sh_sZ0, sh_gJ0, sh_wJ0, sh_lR0, sh_lJ0, sh_sJ0, y_eo, y_eb, hQ, y_eI, y_shT ht, y_gd ht, y_in ht (by decide), nI_clamp (show t < 2 ^ 31 by omega), y_in hk60 (by decide), nI_clamp (show k < 2 ^ 31 by omega), cond_true, p7 k hk60]
        rw [if_pos trivial]
    · rw [decide_eq_false e] at hP
      have hQ' : ∃ v : Int32, ¬ v = 0 ∧ zC 59 q_Mo_refusal2 [.ref 92, .int (nI t), .int i] (xz_SH, I, J) = some (some (.int v), (xz_SH, I, J)) := by
        by_cases e1 : (I 83 t).toInt = -1
        · rw [if_pos e1] at hQ
          exact ⟨-11, by decide, hQ⟩
        · rw [if_neg e1, if_neg (by omega)] at hQ
          exact ⟨-13, by decide, hQ⟩
      obtain ⟨v, hv, hQ'⟩ := hQ'
      refine r (-9223372036854775808) (b_HR_peek _ _ _ _ _ _ ?_) (b_Mo_peek _ _ _ _ _ _ ?_)
      · simp (maxSteps := 1000000) (disch := omega) only [sh_is0, sh_gI0, sh_wI0, sh_wZ0, sh_gR0, sh_gR1, sh_gR2, sh_lI0, sh_lI1, sh_lI2, sh_sI0, sh_sI1, sh_sI2, sh_len0, sh_len1, sh_len2, sh_lZ0, sh_sZ0, sh_gJ0, sh_wJ0, sh_lR0, sh_lJ0, sh_sJ0, y_eo, y_eb, hP, y_eI]
        rw [if_pos (by decide)]
      · simp (maxSteps := 1000000) (disch := omega) only [sh_is0, sh_gI0, sh_wI0, sh_wZ0, sh_gR0, sh_gR1, sh_gR2, sh_lI0, sh_lI1, sh_lI2, sh_sI0, sh_sI1, sh_sI2, sh_len0, sh_len1, sh_len2, sh_lZ0, sh_sZ0, sh_gJ0, sh_wJ0, sh_lR0, sh_lJ0, sh_sJ0, y_eo, y_eb, hQ', y_eI]
        rw [if_neg hv]
/-! item -/
def y_cut (s : Int32) (v : Int64) : Int64 := if s = 0 then Int32.toInt64 (Int8.toInt32 (Int32.toInt8 (Int64.toInt32 v))) else if s = 1 then Int32.toInt64 (Int16.toInt32 (Int32.toInt16 (Int64.toInt32 v))) else if s = 2 then Int32.toInt64 (Int64.toInt32 v) else if s = 3 then v else if lg_cmp v 0 = 0 then 0 else 1
theorem y_Ta_cutTo (d : Nat) {s : Int32} (hs : 0 ≤ s.toInt ∧ s.toInt ≤ 4) (v : Int64) (M : xz_M) : zC (d + 1) q_Ta_cutTo [.int s, .long v] M = some (some (.long (y_cut s v)), M) := by
  refine b_Ta_cutTo _ _ _ _ _ ?_
  unfold y_cut
  by_cases e0 : s = 0
  · rw [if_pos e0, if_pos e0]
  · rw [if_neg e0, if_neg e0]
    by_cases e1 : s = 1
    · rw [if_pos e1, if_pos e1]
    · rw [if_neg e1, if_neg e1]
      by_cases e2 : s = 2
      · rw [if_pos e2, if_pos e2]
      · rw [if_neg e2, if_neg e2]
        by_cases e3 : s = 3
        · rw [if_pos e3, if_pos e3]
        · rw [if_neg e3, if_neg e3, if_pos (by simp only [y_eqI, y_lit] at e0 e1 e2 e3 ⊢; omega)]
          by_cases e4 : lg_cmp v 0 = 0
          · rw [if_pos e4, if_pos e4]
          · rw [if_neg e4, if_neg e4]
theorem y_s_item (x i : Int32) (v : Int64) : zSI zR q_HR_item q_Mo_item [.int x, .int i, .long v] := by
  rintro M ⟨S, I, J, rfl, hZ⟩
  have hZ' := hZ
  obtain ⟨z1, z2, z4, z6, z7, z8, z9⟩ := hZ
  have no : ∀ w : Int32, zC 60 q_HR_item [.ref 0, .int x, .int i, .long v] (xz_SH, I, J) = some (some (.int w), (xz_SH, I, J)) → zC 60 q_Mo_item [.ref 92, .int x, .int i, .long v] (xz_SH, I, J) = some (some (.int w), (xz_SH, I, J)) → ∃ (w : Int32) (M1 M2 : xz_M), zC 60 q_HR_item (.ref 0 :: [.int x, .int i, .long v]) (xz_SH, I, J) = some (some (.int w), M1) ∧ xz_is M1 92 8 = true ∧ zC 60 q_Mo_item (.ref 92 :: [.int x, .int i, .long v]) M1 = some (some (.int w), M2) ∧ zR M2 := fun w a b => ⟨w, _, _, a, rfl, b, S, I, J, rfl, hZ'⟩
  cases h : y_rg x 0 5 with
  | false =>
    refine no (-1) (b_HR_item _ _ _ _ _ _ _ ?_) (b_Mo_item _ _ _ _ _ _ _ ?_)
    · simp (maxSteps := 1000000) (disch := omega) only [sh_is0, sh_gI0, sh_wI0, sh_wZ0, sh_gR0, sh_gR1, sh_gR2, sh_lI0, sh_lI1, sh_lI2, sh_sI0, sh_sI1, sh_sI2, sh_len0, sh_len1, sh_len2, sh_lZ0, sh_sZ0, sh_gJ0, sh_wJ0, sh_lR0, sh_lJ0, sh_sJ0, y_eo, y_eb, y_Ta_isTape, h, y_eI]
      rw [if_pos (by decide)]
    · have hp : zC 59 q_Mo_refusal2 [.ref 92, .int x, .int i] (xz_SH, I, J) = some (some (.int (-1)), (xz_SH, I, J)) := by
        refine b_Mo_refusal2 _ _ _ _ _ _ ?_
        rw [y_Mo_isTape, h, y_eI, if_pos (by decide)]
      simp (maxSteps := 1000000) (disch := omega) only [sh_is0, sh_gI0, sh_wI0, sh_wZ0, sh_gR0, sh_gR1, sh_gR2, sh_lI0, sh_lI1, sh_lI2, sh_sI0, sh_sI1, sh_sI2, sh_len0, sh_len1, sh_len2, sh_lZ0, sh_sZ0, sh_gJ0, sh_wJ0, sh_lR0, sh_lJ0, sh_sJ0, y_eo, y_eb, hp, y_eI]
      rw [if_neg (by decide)]
  | true =>
    have h' := y_rgt.mp h
    obtain ⟨t, _, rfl, hx⟩ := y_of x h'.1
    have ht : t < 6 := by omega
    obtain ⟨p1, p2, ⟨n, p3, p4, p5, p6⟩, p7, p8⟩ := z8 t ht
    have hH := y_Ta_holds 57 ht I J
    have hP := y_Ta_hasPlace 56 ht J p4 p3 i
    have hQ := y_Mo_refusal2 56 ht J p5 p3 (by rw [p1]; exact p2.1) i
    rw [p1] at hQ
    by_cases e1 : (I 83 t).toInt = -1
    · rw [decide_eq_false (not_not_intro e1)] at hH
      rw [if_pos e1] at hQ
      refine no (-11) (b_HR_item _ _ _ _ _ _ _ ?_) (b_Mo_item _ _ _ _ _ _ _ ?_)
      · simp (maxSteps := 1000000) (disch := omega) only [sh_is0, sh_gI0, sh_wI0, sh_wZ0, sh_gR0, sh_gR1, sh_gR2, sh_lI0, sh_lI1, sh_lI2, sh_sI0, sh_sI1, sh_sI2, sh_len0, sh_len1, sh_len2, sh_lZ0, sh_sZ0, sh_gJ0, sh_wJ0, sh_lR0, sh_lJ0, sh_sJ0, y_eo, y_eb, y_Ta_isTape, h, y_eI]
        rw [if_neg (by decide), hH, y_eI, if_pos (by decide)]
      · simp (maxSteps := 1000000) (disch := omega) only [sh_is0, sh_gI0, sh_wI0, sh_wZ0, sh_gR0, sh_gR1, sh_gR2, sh_lI0, sh_lI1, sh_lI2, sh_sI0, sh_sI1, sh_sI2, sh_len0, sh_len1, sh_len2, sh_lZ0, sh_sZ0, sh_gJ0, sh_wJ0, sh_lR0, sh_lJ0, sh_sJ0, y_eo, y_eb, hQ, y_eI]
        rw [if_neg (by decide)]
    · rw [decide_eq_true e1] at hH
      rw [if_neg e1] at hQ
      by_cases e2 : 0 ≤ i.toInt ∧ i.toInt < n
      · rw [decide_eq_true ⟨e1, e2⟩] at hP
        rw [if_pos e2] at hQ
        obtain ⟨k, _, rfl, hk⟩ := y_of i e2.1
        have hk60 : k < 60 := by omega
        have hct := y_Ta_cutTo 57 (s := I 83 t) (by omega) v (xz_SH, I, J)
        have hput : zC 59 q_Ta_put [.ref 82, .int (nI t), .int (nI k), .long v] (xz_SH, I, J) = some (some (.int 1), (xz_SH, I, xz_up J (86 + t) k (y_cut (I 83 t) v))) := by
          refine b_Ta_put _ _ _ _ _ _ _ ?_
          simp (maxSteps := 1000000) (disch := omega) only [sh_is0, sh_gI0, sh_wI0, sh_wZ0, sh_gR0, sh_gR1, sh_gR2, sh_lI0, sh_lI1, sh_lI2, sh_sI0, sh_sI1, sh_sI2, sh_len0, sh_len1, sh_len2, sh_lZ0, sh_sZ0, sh_gJ0, sh_wJ0, sh_lR0, sh_lJ0, sh_sJ0, y_eo, y_eb, y_shT ht, y_gd ht, y_in ht (by decide), nI_clamp (show t < 2 ^ 31 by omega), cond_true]
          rw [hct, y_eJ]
          simp (maxSteps := 1000000) (disch := omega) only [sh_is0, sh_gI0, sh_wI0, sh_wZ0, sh_gR0, sh_gR1, sh_gR2, sh_lI0, sh_lI1, sh_lI2, sh_sI0, sh_sI1, sh_sI2, sh_len0, sh_len1, sh_len2, sh_lZ0, sh_sZ0, sh_gJ0, sh_wJ0, sh_lR0, sh_lJ0, sh_sJ0, y_eo, y_eb, y_shT ht, y_gd ht, y_in hk60 (by decide), nI_clamp (show k < 2 ^ 31 by omega), cond_true]
        have hQ2 := y_Mo_refusal2 56 ht (xz_up J (86 + t) k (y_cut (I 83 t) v)) p5 p3 (by rw [p1]; exact p2.1) (nI k)
        rw [p1, if_neg e1, if_pos e2] at hQ2
        refine ⟨1, (xz_SH, I, xz_up J (86 + t) k (y_cut (I 83 t) v)), (xz_SH, I, xz_up (xz_up J (86 + t) k (y_cut (I 83 t) v)) (129 + t) k (y_cut (I 83 t) v)), b_HR_item _ _ _ _ _ _ _ ?_, rfl, b_Mo_item _ _ _ _ _ _ _ ?_, S, I, _, rfl, y_Z_tt (fun _ _ => rfl) (fun _ _ => rfl) z7 ?_ hZ'⟩
        · simp (maxSteps := 1000000) (disch := omega) only [sh_is0, sh_gI0, sh_wI0, sh_wZ0, sh_gR0, sh_gR1, sh_gR2, sh_lI0, sh_lI1, sh_lI2, sh_sI0, sh_sI1, sh_sI2, sh_len0, sh_len1, sh_len2, sh_lZ0, sh_sZ0, sh_gJ0, sh_wJ0, sh_lR0, sh_lJ0, sh_sJ0, y_eo, y_eb, y_Ta_isTape, h, y_eI]
          rw [if_neg (by decide), hH, y_eI, if_neg (by decide)]
          simp (maxSteps := 1000000) (disch := omega) only [sh_is0, sh_gI0, sh_wI0, sh_wZ0, sh_gR0, sh_gR1, sh_gR2, sh_lI0, sh_lI1, sh_lI2, sh_sI0, sh_sI1, sh_sI2, sh_len0, sh_len1, sh_len2, sh_lZ0, sh_sZ0, sh_gJ0, sh_wJ0, sh_lR0, sh_lJ0, sh_sJ0, y_eo, y_eb, hP, y_eI]
          rw [if_neg (by decide), hput, y_eI]
        · simp (maxSteps := 1000000) (disch := omega) only [sh_is0, sh_gI0, sh_wI0, sh_wZ0, sh_gR0, sh_gR1, sh_gR2, sh_lI0, sh_lI1, sh_lI2, sh_sI0, sh_sI1, sh_sI2, sh_len0, sh_len1, sh_len2, sh_lZ0, sh_sZ0, sh_gJ0, sh_wJ0, sh_lR0, sh_lJ0, sh_sJ0, y_eo, y_eb, hQ2, y_eI]
          rw [if_pos trivial]
          simp (maxSteps := 1000000) (disch := omega) only [sh_is0, sh_gI0, sh_wI0, sh_wZ0, sh_gR0, sh_gR1, sh_gR2, sh_lI0, sh_lI1, sh_lI2, sh_sI0, sh_sI1, sh_sI2, sh_len0, sh_len1, sh_len2, sh_lZ0, sh_sZ0, sh_gJ0, sh_wJ0, sh_lR0, sh_lJ0, sh_sJ0, y_eo, y_eb, y_shT ht, y_gd ht, y_in ht (by decide), nI_clamp (show t < 2 ^ 31 by omega), nI_clamp (show k < 2 ^ 31 by omega), y_in hk60 (by decide), cond_true, p1]
          unfold y_cut
          by_cases a0 : I 83 t = 0
          · rw [if_pos a0, if_pos a0]
          · rw [if_neg a0, if_neg a0]
            by_cases a1 : I 83 t = 1
            · rw [if_pos a1, if_pos a1]
            · rw [if_neg a1, if_neg a1]
              by_cases a2 : I 83 t = 2
              · rw [if_pos a2, if_pos a2]
              · rw [if_neg a2, if_neg a2]
                by_cases a3 : I 83 t = 3
                · rw [if_pos a3, if_pos a3]
                · rw [if_neg a3, if_neg a3]
                  by_cases a4 : lg_cmp v 0 = 0
                  · rw [if_pos a4, if_pos a4]
                  · rw [if_neg a4, if_neg a4]
        · intro t' ht'
          obtain ⟨q1, q2, ⟨n', q3, q4, q5, q6⟩, q7, q8⟩ := z8 t' ht'
          by_cases e : t' = t
          · subst e
            refine ⟨q1, q2, ⟨n', q3, q4, q5, q6⟩, fun k' hk' => ?_, fun hz k' hk' => ?_⟩
            · by_cases ek : k' = k
              · subst ek
                simp (maxSteps := 1000000) (disch := omega) only [y_up_e, y_up_n, y_ps_e, y_ps_n]
              · simp (maxSteps := 1000000) (disch := omega) only [y_up_e, y_up_n, y_ps_e, y_ps_n]
                exact q7 k' hk'
            · by_cases ek : k' = k
              · subst ek
                simp (maxSteps := 1000000) (disch := omega) only [y_up_e, y_up_n, y_ps_e, y_ps_n]
                unfold y_cut
                rw [if_pos hz, Int32.toInt_toInt64]
                have := lg_i2b_range (Int64.toInt32 v)
                omega
              · simp (maxSteps := 1000000) (disch := omega) only [y_up_e, y_up_n, y_ps_e, y_ps_n]
                exact q8 hz k' hk'
          · simp (maxSteps := 1000000) (disch := omega) only [y_up_e, y_up_n, y_ps_e, y_ps_n, y_up_r]
            exact ⟨q1, q2, ⟨n', q3, q4, q5, q6⟩, q7, q8⟩
      · rw [decide_eq_false (fun z => e2 z.2)] at hP
        rw [if_neg e2] at hQ
        refine no (-13) (b_HR_item _ _ _ _ _ _ _ ?_) (b_Mo_item _ _ _ _ _ _ _ ?_)
        · simp (maxSteps := 1000000) (disch := omega) only [sh_is0, sh_gI0, sh_wI0, sh_wZ0, sh_gR0, sh_gR1, sh_gR2, sh_lI0, sh_lI1, sh_lI2, sh_sI0, sh_sI1, sh_sI2, sh_len0, sh_len1, sh_len2, sh_lZ0, sh_sZ0, sh_gJ0, sh_wJ0, sh_lR0, sh_lJ0, sh_sJ0, y_eo, y_eb, y_Ta_isTape, h, y_eI]
          rw [if_neg (by decide), hH, y_eI, if_neg (by decide)]
          simp (maxSteps := 1000000) (disch := omega) only [sh_is0, sh_gI0, sh_wI0, sh_wZ0, sh_gR0, sh_gR1, sh_gR2, sh_lI0, sh_lI1, sh_lI2, sh_sI0, sh_sI1, sh_sI2, sh_len0, sh_len1, sh_len2, sh_lZ0, sh_sZ0, sh_gJ0, sh_wJ0, sh_lR0, sh_lJ0, sh_sJ0, y_eo, y_eb, hP, y_eI]
          rw [if_pos (by decide)]
        · simp (maxSteps := 1000000) (disch := omega) only [sh_is0, sh_gI0, sh_wI0, sh_wZ0, sh_gR0, sh_gR1, sh_gR2, sh_lI0, sh_lI1, sh_lI2, sh_sI0, sh_sI1, sh_sI2, sh_len0, sh_len1, sh_len2, sh_lZ0, sh_sZ0, sh_gJ0, sh_wJ0, sh_lR0, sh_lJ0, sh_sJ0, y_eo, y_eb, hQ, y_eI]
          rw [if_neg (by decide)]
