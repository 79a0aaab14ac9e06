/-! count, feed, TAPES -/
theorem y_Z_tt {S : y_S} {I I' : Nat → Nat → Int32} {J J' : Nat → Nat → Int64} (h1 : ∀ q, q < 66 ∨ (93 ≤ q ∧ q < 105) ∨ (108 ≤ q ∧ q < 126) → I' q = I q) (h2 : ∀ j, j < 14 ∨ 28 ≤ j → I' 92 j = I 92 j) (ht : y_text I') (hp : y_tape I' J') (hZ : y_Z S I J) : y_Z S I' J' := by
  obtain ⟨z1, ⟨z2, z3⟩, ⟨z4, z5⟩, z6, z7, z8, z9⟩ := hZ
  exact ⟨z1, ⟨y_vM_of (fun q _ _ => h1 q (by omega)) z2, y_vX_of (fun q _ _ => h1 q (by omega)) z3⟩, ⟨y_vR_of (fun q _ _ => h1 q (by omega)) (fun j _ => h2 j (by omega)) z4, y_vY_of (fun q _ _ => h1 q (by omega)) (fun j _ _ => h2 j (by omega)) z5⟩, y_kept_of (fun q _ => h1 q (by omega)) (by rw [h1 0 (by omega)]) (h2 42 (by omega)) z6, ht, hp, y_cst_of (by rw [h1 8 (by omega)]) (by rw [h1 12 (by omega)]) (by rw [h1 16 (by omega)]) z9⟩
theorem y_t4 (x : Int32) : x = 0 ∨ x = 1 ∨ x = 2 ∨ x = 3 ∨ (¬ x = 0 ∧ ¬ x = 1 ∧ ¬ x = 2 ∧ ¬ x = 3) := by
  simp only [y_eqI, y_lit]
  omega
theorem y_s_count (x : Int32) : zSI zR q_HR_count q_Mo_count [.int x] := by
  rintro M ⟨S, I, J, rfl, hZ⟩
  have hZ' := hZ
  obtain ⟨z1, ⟨z2, z3⟩, ⟨z4, z5⟩, z6, ⟨n, g, t1, t2, t3, t4⟩, z8, z9⟩ := hZ
  have r : ∀ v : Int32, zC 60 q_HR_count [.ref 0, .int x] (xz_SH, I, J) = some (some (.int v), (xz_SH, I, J)) → zC 60 q_Mo_count [.ref 92, .int x] (xz_SH, I, J) = some (some (.int v), (xz_SH, I, J)) → ∃ (v : Int32) (M1 M2 : xz_M), zC 60 q_HR_count (.ref 0 :: [.int x]) (xz_SH, I, J) = some (some (.int v), M1) ∧ xz_is M1 92 8 = true ∧ zC 60 q_Mo_count (.ref 92 :: [.int x]) M1 = some (some (.int v), M2) ∧ zR M2 := fun v a b => ⟨v, _, _, a, rfl, b, S, I, J, rfl, hZ'⟩
  have e7 : I 8 0 = nI (S 7 0) := z3.1.1
  have e11 : I 12 0 = nI (S 11 0) := z3.2.1.1
  have e15 : I 16 0 = nI (S 15 0) := z3.2.2.1
  rcases y_t4 x with rfl | rfl | rfl | rfl | ⟨e0, e1, e2, e3⟩
  · refine r (nI (S 7 0)) (b_HR_count _ _ _ _ _ ?_) (b_Mo_count _ _ _ _ _ ?_)
    · rw [if_pos rfl]
      simp (maxSteps := 1000000) (disch := omega) only [sh_is0, sh_gI0, sh_wI0, sh_wZ0, sh_gR0, sh_gR1, sh_gR2, sh_lI0, sh_lI1, sh_lI2, sh_sI0, sh_sI1, sh_sI2, sh_len0, sh_len1, sh_len2, sh_lZ0, sh_sZ0, sh_gJ0, sh_wJ0, sh_lR0, sh_lJ0, sh_sJ0, y_eo, y_eb, e7]
    · rw [if_pos rfl]
      simp (maxSteps := 1000000) (disch := omega) only [sh_is0, sh_gI0, sh_wI0, sh_wZ0, sh_gR0, sh_gR1, sh_gR2, sh_lI0, sh_lI1, sh_lI2, sh_sI0, sh_sI1, sh_sI2, sh_len0, sh_len1, sh_len2, sh_lZ0, sh_sZ0, sh_gJ0, sh_wJ0, sh_lR0, sh_lJ0, sh_sJ0, y_eo, y_eb, z5.1.1]
  · refine r (nI (S 11 0)) (b_HR_count _ _ _ _ _ ?_) (b_Mo_count _ _ _ _ _ ?_)
    · rw [if_neg (by decide), if_pos rfl]
      simp (maxSteps := 1000000) (disch := omega) only [sh_is0, sh_gI0, sh_wI0, sh_wZ0, sh_gR0, sh_gR1, sh_gR2, sh_lI0, sh_lI1, sh_lI2, sh_sI0, sh_sI1, sh_sI2, sh_len0, sh_len1, sh_len2, sh_lZ0, sh_sZ0, sh_gJ0, sh_wJ0, sh_lR0, sh_lJ0, sh_sJ0, y_eo, y_eb, e11]
    · rw [if_neg (by decide), if_pos rfl]
      simp (maxSteps := 1000000) (disch := omega) only [sh_is0, sh_gI0, sh_wI0, sh_wZ0, sh_gR0, sh_gR1, sh_gR2, sh_lI0, sh_lI1, sh_lI2, sh_sI0, sh_sI1, sh_sI2, sh_len0, sh_len1, sh_len2, sh_lZ0, sh_sZ0, sh_gJ0, sh_wJ0, sh_lR0, sh_lJ0, sh_sJ0, y_eo, y_eb, z5.2.1.1]
  · refine r (nI (S 15 0)) (b_HR_count _ _ _ _ _ ?_) (b_Mo_count _ _ _ _ _ ?_)
    · rw [if_neg (by decide), if_neg (by decide), if_pos rfl]
      simp (maxSteps := 1000000) (disch := omega) only [sh_is0, sh_gI0, sh_wI0, sh_wZ0, sh_gR0, sh_gR1, sh_gR2, sh_lI0, sh_lI1, sh_lI2, sh_sI0, sh_sI1, sh_sI2, sh_len0, sh_len1, sh_len2, sh_lZ0, sh_sZ0, sh_gJ0, sh_wJ0, sh_lR0, sh_lJ0, sh_sJ0, y_eo, y_eb, e15]
    · rw [if_neg (by decide), if_neg (by decide), if_pos rfl]
      simp (maxSteps := 1000000) (disch := omega) only [sh_is0, sh_gI0, sh_wI0, sh_wZ0, sh_gR0, sh_gR1, sh_gR2, sh_lI0, sh_lI1, sh_lI2, sh_sI0, sh_sI1, sh_sI2, sh_len0, sh_len1, sh_len2, sh_lZ0, sh_sZ0, sh_gJ0, sh_wJ0, sh_lR0, sh_lJ0, sh_sJ0, y_eo, y_eb, z5.2.2.1]
  · refine r (nI n) (b_HR_count _ _ _ _ _ ?_) (b_Mo_count _ _ _ _ _ ?_)
    · rw [if_neg (by decide), if_neg (by decide), if_neg (by decide), if_pos rfl]
      simp (maxSteps := 1000000) (disch := omega) only [sh_is0, sh_gI0, sh_wI0, sh_wZ0, sh_gR0, sh_gR1, sh_gR2, sh_lI0, sh_lI1, sh_lI2, sh_sI0, sh_sI1, sh_sI2, sh_len0, sh_len1, sh_len2, sh_lZ0, sh_sZ0, sh_gJ0, sh_wJ0, sh_lR0, sh_lJ0, sh_sJ0, y_eo, y_eb, t2]
    · rw [if_neg (by decide), if_neg (by decide), if_neg (by decide), if_pos rfl]
      simp (maxSteps := 1000000) (disch := omega) only [sh_is0, sh_gI0, sh_wI0, sh_wZ0, sh_gR0, sh_gR1, sh_gR2, sh_lI0, sh_lI1, sh_lI2, sh_sI0, sh_sI1, sh_sI2, sh_len0, sh_len1, sh_len2, sh_lZ0, sh_sZ0, sh_gJ0, sh_wJ0, sh_lR0, sh_lJ0, sh_sJ0, y_eo, y_eb, t3]
  · refine r (-2) (b_HR_count _ _ _ _ _ ?_) (b_Mo_count _ _ _ _ _ ?_)
    · rw [if_neg e0, if_neg e1, if_neg e2, if_neg e3]
    · rw [if_neg e0, if_neg e1, if_neg e2, if_neg e3]
theorem y_s_feed (x : Int32) : zSI zR q_HR_feed q_Mo_feed [.int x] := by
  rintro M ⟨S, I, J, rfl, hZ⟩
  have hZ' := hZ
  obtain ⟨z1, ⟨z2, z3⟩, ⟨z4, z5⟩, z6, ⟨n, g, t1, t2, t3, t4⟩, z8, z9⟩ := hZ
  cases h : y_rg x 0 127 with
  | false =>
    have h' := y_rgf.mp h
    refine ⟨-2, (xz_SH, I, J), (xz_SH, I, J), ?_, rfl, ?_, S, I, J, rfl, hZ'⟩
    · refine b_HR_feed _ _ _ _ _ ?_
      by_cases e : x.toInt < 0 <;> simp (maxSteps := 1000000) (disch := omega) only [sh_is0, sh_gI0, sh_wI0, sh_wZ0, sh_gR0, sh_gR1, sh_gR2, sh_lI0, sh_lI1, sh_lI2, sh_sI0, sh_sI1, sh_sI2, sh_len0, sh_len1, sh_len2, sh_lZ0, sh_sZ0, sh_gJ0, sh_wJ0, sh_lR0, sh_lJ0, sh_sJ0, y_eo, y_eb, y_eI, y_eJ, y_eR, y_eV, y_in, nI_clamp, cond_true, y_eqI, y_ltI, y_leI, y_lit, nI_toInt, if_true, if_false, if_pos, if_neg, y_bIt, y_bIf, y_band]
    · refine b_Mo_feed _ _ _ _ _ ?_
      simp (maxSteps := 1000000) (disch := omega) only [sh_is0, sh_gI0, sh_wI0, sh_wZ0, sh_gR0, sh_gR1, sh_gR2, sh_lI0, sh_lI1, sh_lI2, sh_sI0, sh_sI1, sh_sI2, sh_len0, sh_len1, sh_len2, sh_lZ0, sh_sZ0, sh_gJ0, sh_wJ0, sh_lR0, sh_lJ0, sh_sJ0, y_eo, y_eb, y_eI, y_eJ, y_eR, y_eV, y_in, nI_clamp, cond_true, y_eqI, y_ltI, y_leI, y_lit, nI_toInt, if_true, if_false, if_pos, if_neg, y_bIt, y_bIf, y_band, y_Mo_inI _ x 0 127 (l := 0) (h := 127) (by decide) (by decide), h]
  | true =>
    have h' := y_rgt.mp h
    obtain ⟨s, hs, rfl, hx⟩ := y_of x h'.1
    by_cases hn : n < 100
    · refine ⟨nI (n + 1), (xz_SH, xz_up (xz_up I 67 n (nI s)) 66 0 (nI (n + 1)), J), (xz_SH, xz_up (xz_up (xz_up (xz_up I 67 n (nI s)) 66 0 (nI (n + 1))) 105 n (nI s)) 92 22 (nI (n + 1)), J), ?_, rfl, ?_, S, _, J, rfl, y_Z_tt (fun q hq => ?_) (fun j hj => ?_) ?_ ?_ hZ'⟩
      · have hA : zC 59 q_Te_add [.ref 66, .int (nI s)] (xz_SH, I, J) = some (some (.int (nI (n + 1))), (xz_SH, xz_up (xz_up I 67 n (nI s)) 66 0 (nI (n + 1)), J)) := by
          refine b_Te_add _ _ _ _ _ ?_
          simp (maxSteps := 1000000) (disch := omega) only [sh_is0, sh_gI0, sh_wI0, sh_wZ0, sh_gR0, sh_gR1, sh_gR2, sh_lI0, sh_lI1, sh_lI2, sh_sI0, sh_sI1, sh_sI2, sh_len0, sh_len1, sh_len2, sh_lZ0, sh_sZ0, sh_gJ0, sh_wJ0, sh_lR0, sh_lJ0, sh_sJ0, y_eo, y_eb, y_eI, y_eJ, y_eR, y_eV, y_in, nI_clamp, cond_true, y_eqI, y_ltI, y_leI, y_lit, nI_toInt, if_true, if_false, if_pos, if_neg, y_bIt, y_bIf, y_band, t2, y_up_n, y_up_e, y_1]
        refine b_HR_feed _ _ _ _ _ ?_
        simp (maxSteps := 1000000) (disch := omega) only [sh_is0, sh_gI0, sh_wI0, sh_wZ0, sh_gR0, sh_gR1, sh_gR2, sh_lI0, sh_lI1, sh_lI2, sh_sI0, sh_sI1, sh_sI2, sh_len0, sh_len1, sh_len2, sh_lZ0, sh_sZ0, sh_gJ0, sh_wJ0, sh_lR0, sh_lJ0, sh_sJ0, y_eo, y_eb, y_eI, y_eJ, y_eR, y_eV, y_in, nI_clamp, cond_true, y_eqI, y_ltI, y_leI, y_lit, nI_toInt, if_true, if_false, if_pos, if_neg, y_bIt, y_bIf, y_band, hA]
      · refine b_Mo_feed _ _ _ _ _ ?_
        simp (maxSteps := 1000000) (disch := omega) only [sh_is0, sh_gI0, sh_wI0, sh_wZ0, sh_gR0, sh_gR1, sh_gR2, sh_lI0, sh_lI1, sh_lI2, sh_sI0, sh_sI1, sh_sI2, sh_len0, sh_len1, sh_len2, sh_lZ0, sh_sZ0, sh_gJ0, sh_wJ0, sh_lR0, sh_lJ0, sh_sJ0, y_eo, y_eb, y_eI, y_eJ, y_eR, y_eV, y_in, nI_clamp, cond_true, y_eqI, y_ltI, y_leI, y_lit, nI_toInt, if_true, if_false, if_pos, if_neg, y_bIt, y_bIf, y_band, y_Mo_inI _ _ 0 127 (l := 0) (h := 127) (by decide) (by decide), h, t3, y_up_n, y_up_e, y_1]
      · simp (maxSteps := 1000000) (disch := omega) only [y_up_e, y_up_n, y_ps_e, y_ps_n, y_up_r]
      · simp (maxSteps := 1000000) (disch := omega) only [y_up_e, y_up_n, y_ps_e, y_ps_n]
      · refine ⟨n + 1, fun k => if k = n then s else g k, by omega, ?_, ?_, fun k hk => ?_⟩
        · simp (maxSteps := 1000000) (disch := omega) only [y_up_e, y_up_n, y_ps_e, y_ps_n]
        · simp (maxSteps := 1000000) (disch := omega) only [y_up_e, y_up_n, y_ps_e, y_ps_n]
        · dsimp only
          by_cases e : k = n
          · subst e
            rw [if_pos rfl]
            simp (maxSteps := 1000000) (disch := omega) only [y_up_e, y_up_n, y_ps_e, y_ps_n]
            exact ⟨by omega, trivial, trivial⟩
          · rw [if_neg e]
            simp (maxSteps := 1000000) (disch := omega) only [y_up_e, y_up_n, y_ps_e, y_ps_n]
            exact t4 k (by omega)
      · exact y_tape_of (fun q hq => by simp (disch := omega) only [y_up_r]) (fun _ _ => rfl) z8
    · refine ⟨-4, (xz_SH, I, J), (xz_SH, I, J), ?_, rfl, ?_, S, I, J, rfl, hZ'⟩
      · have hA : zC 59 q_Te_add [.ref 66, .int (nI s)] (xz_SH, I, J) = some (some (.int (-4)), (xz_SH, I, J)) := by
          refine b_Te_add _ _ _ _ _ ?_
          simp (maxSteps := 1000000) (disch := omega) only [sh_is0, sh_gI0, sh_wI0, sh_wZ0, sh_gR0, sh_gR1, sh_gR2, sh_lI0, sh_lI1, sh_lI2, sh_sI0, sh_sI1, sh_sI2, sh_len0, sh_len1, sh_len2, sh_lZ0, sh_sZ0, sh_gJ0, sh_wJ0, sh_lR0, sh_lJ0, sh_sJ0, y_eo, y_eb, y_eI, y_eJ, y_eR, y_eV, y_in, nI_clamp, cond_true, y_eqI, y_ltI, y_leI, y_lit, nI_toInt, if_true, if_false, if_pos, if_neg, y_bIt, y_bIf, y_band, t2]
        refine b_HR_feed _ _ _ _ _ ?_
        simp (maxSteps := 1000000) (disch := omega) only [sh_is0, sh_gI0, sh_wI0, sh_wZ0, sh_gR0, sh_gR1, sh_gR2, sh_lI0, sh_lI1, sh_lI2, sh_sI0, sh_sI1, sh_sI2, sh_len0, sh_len1, sh_len2, sh_lZ0, sh_sZ0, sh_gJ0, sh_wJ0, sh_lR0, sh_lJ0, sh_sJ0, y_eo, y_eb, y_eI, y_eJ, y_eR, y_eV, y_in, nI_clamp, cond_true, y_eqI, y_ltI, y_leI, y_lit, nI_toInt, if_true, if_false, if_pos, if_neg, y_bIt, y_bIf, y_band, hA]
      · refine b_Mo_feed _ _ _ _ _ ?_
        simp (maxSteps := 1000000) (disch := omega) only [sh_is0, sh_gI0, sh_wI0, sh_wZ0, sh_gR0, sh_gR1, sh_gR2, sh_lI0, sh_lI1, sh_lI2, sh_sI0, sh_sI1, sh_sI2, sh_len0, sh_len1, sh_len2, sh_lZ0, sh_sZ0, sh_gJ0, sh_wJ0, sh_lR0, sh_lJ0, sh_sJ0, y_eo, y_eb, y_eI, y_eJ, y_eR, y_eV, y_in, nI_clamp, cond_true, y_eqI, y_ltI, y_leI, y_lit, nI_toInt, if_true, if_false, if_pos, if_neg, y_bIt, y_bIf, y_band, y_Mo_inI _ _ 0 127 (l := 0) (h := 127) (by decide) (by decide), h, t3]
/-! tapes -/
theorem y_shT {t : Nat} (ht : t < 6) (I : Nat → Nat → Int32) (J : Nat → Nat → Int64) : (xz_lR0 (xz_SH, I, J) 85 (nI t) = some (86 + t) ∧ xz_lR0 (xz_SH, I, J) 128 (nI t) = some (129 + t)) ∧ ((∀ i, xz_lJ0 (xz_SH, I, J) (86 + t) i = bif xz_in i 60 then some (J (86 + t) i.toNatClampNeg) else none) ∧ (∀ i, xz_lJ0 (xz_SH, I, J) (129 + t) i = bif xz_in i 60 then some (J (129 + t) i.toNatClampNeg) else none)) ∧ ((∀ i v, xz_sJ0 (xz_SH, I, J) (86 + t) i v = bif xz_in i 60 then some (xz_SH, I, xz_up J (86 + t) i.toNatClampNeg v) else none) ∧ (∀ i v, xz_sJ0 (xz_SH, I, J) (129 + t) i v = bif xz_in i 60 then some (xz_SH, I, xz_up J (129 + t) i.toNatClampNeg v) else none)) ∧ (xz_len (xz_SH, I, J) (86 + t) = some (nI 60)) ∧ (xz_SH[86 + t]? = some (2, 60, []) ∧ xz_SH[129 + t]? = some (2, 60, [])) := by
  have a1 : xz_lR0 (xz_SH, I, J) 85 (nI t) = (bif xz_in (nI t) 6 then ([some 86, some 87, some 88, some 89, some 90, some 91] : List (Option Nat)).getD (nI t).toNatClampNeg none else none) := rfl
  have a2 : xz_lR0 (xz_SH, I, J) 128 (nI t) = (bif xz_in (nI t) 6 then ([some 129, some 130, some 131, some 132, some 133, some 134] : List (Option Nat)).getD (nI t).toNatClampNeg none else none) := rfl
  rw [a1, a2, y_in ht (by decide), nI_clamp (by omega)]
  have hc : t = 0 ∨ t = 1 ∨ t = 2 ∨ t = 3 ∨ t = 4 ∨ t = 5 := by omega
  rcases hc with rfl | rfl | rfl | rfl | rfl | rfl <;> exact ⟨⟨rfl, rfl⟩, ⟨fun _ => rfl, fun _ => rfl⟩, ⟨fun _ _ => rfl, fun _ _ => rfl⟩, rfl, rfl, rfl⟩
theorem y_fillJ_l (d : Nat) {t : Nat} (ht : t < 6) (I : Nat → Nat → Int32) : ∀ (j k : Nat) (J : Nat → Nat → Int64), k + j = 60 → ∃ J', zL d q_JD_fillJ 6 [(0, .ref (86 + t)), (1, .long 0), (3, .int (nI k)), (4, .int (nI 60))] (xz_SH, I, J) = some (none, (xz_SH, I, J')) ∧ (∀ q, q ≠ 86 + t → J' q = J q) ∧ (∀ i, k ≤ i → i < 60 → J' (86 + t) i = 0) ∧ ∀ i, i < k → J' (86 + t) i = J (86 + t) i
  | 0, k, J, hk => by
    refine ⟨J, ?_, fun _ _ => rfl, fun i h1 h2 => by omega, fun _ _ => rfl⟩
    refine b_JD_fillJ_l6 _ _ _ _ _ _ _ ?_
    simp (maxSteps := 1000000) (disch := omega) only [y_eo, y_eb, y_eI, y_eJ, y_eR, y_eV, y_in, nI_clamp, cond_true, y_eqI, y_ltI, y_leI, y_lit, nI_toInt, if_true, if_false, if_pos, if_neg, y_bIt, y_bIf, y_band]
  | j + 1, k, J, hk => by
    obtain ⟨J', f1, f2, f3, f4⟩ := y_fillJ_l d ht I j (k + 1) (xz_up J (86 + t) k 0) (by omega)
    refine ⟨J', ?_, fun q hq => by rw [f2 q hq, y_up_r hq], fun i h1 h2 => ?_, fun i hi => ?_⟩
    · refine b_JD_fillJ_l6 _ _ _ _ _ _ _ ?_
      simp (maxSteps := 1000000) (disch := omega) only [y_eo, y_eb, y_eI, y_eJ, y_eR, y_eV, y_in, nI_clamp, cond_true, y_eqI, y_ltI, y_leI, y_lit, nI_toInt, if_true, if_false, if_pos, if_neg, y_bIt, y_bIf, y_band, y_shT ht, y_1, f1]
    · by_cases e : i = k
      · rw [e, f4 k (by omega), y_up_e ⟨rfl, rfl⟩]
      · exact f3 i (by omega) h2
    · rw [f4 i (by omega), y_up_n (by omega)]
theorem y_Mo_tape_l (d : Nat) {t : Nat} (ht : t < 6) (I : Nat → Nat → Int32) : ∀ (j k : Nat) (J : Nat → Nat → Int64), k + j = 60 → ∃ J', zL d q_Mo_tape 41 [(0, .ref 92), (1, .int (nI t)), (4, .int (nI k))] (xz_SH, I, J) = some (some (.int 1), (xz_SH, I, J')) ∧ (∀ q, q ≠ 129 + t → J' q = J q) ∧ (∀ i, k ≤ i → i < 60 → J' (129 + t) i = 0) ∧ ∀ i, i < k → J' (129 + t) i = J (129 + t) i
  | 0, k, J, hk => by
    refine ⟨J, ?_, fun _ _ => rfl, fun i h1 h2 => by omega, fun _ _ => rfl⟩
    refine b_Mo_tape_l41 _ _ _ _ _ _ ?_
    rw [if_pos (by rw [y_leI, nI_toInt (by omega)]; simp only [y_lit]; omega)]
  | j + 1, k, J, hk => by
    obtain ⟨J', f1, f2, f3, f4⟩ := y_Mo_tape_l d ht I j (k + 1) (xz_up J (129 + t) k 0) (by omega)
    refine ⟨J', ?_, fun q hq => by rw [f2 q hq, y_up_r hq], fun i h1 h2 => ?_, fun i hi => ?_⟩
    · refine b_Mo_tape_l41 _ _ _ _ _ _ ?_
      rw [if_neg (by rw [y_leI, nI_toInt (by omega)]; simp only [y_lit]; omega)]
      simp (maxSteps := 1000000) (disch := omega) only [sh_is0, sh_gI0, sh_wI0, sh_wZ0, sh_gR0, sh_gR1, sh_gR2, sh_lI0, sh_lI1, sh_lI2, sh_sI0, sh_sI1, sh_sI2, sh_len0, sh_len1, sh_len2, sh_lZ0, sh_sZ0, sh_gJ0, sh_wJ0, sh_lR0, sh_lJ0, sh_sJ0, y_eo, y_eb, y_shT ht, y_in (show k < 60 by omega) (by decide), nI_clamp (show k < 2 ^ 31 by omega), cond_true, y_1]
      exact f1
    · by_cases e : i = k
      · rw [e, f4 k (by omega), y_up_e ⟨rfl, rfl⟩]
      · exact f3 i (by omega) h2
    · rw [f4 i (by omega), y_up_n (by omega)]
theorem y_s_tape (x s n : Int32) : zSI zR q_HR_tape q_Mo_tape [.int x, .int s, .int n] := by
  rintro M ⟨S, I, J, rfl, hZ⟩
  have hZ' := hZ
  obtain ⟨z1, z2, z4, z6, z7, z8, z9⟩ := hZ
  have no : ∀ v : Int32, zC 60 q_HR_tape [.ref 0, .int x, .int s, .int n] (xz_SH, I, J) = some (some (.int v), (xz_SH, I, J)) → zC 60 q_Mo_tape [.ref 92, .int x, .int s, .int n] (xz_SH, I, J) = some (some (.int v), (xz_SH, I, J)) → ∃ (v : Int32) (M1 M2 : xz_M), zC 60 q_HR_tape (.ref 0 :: [.int x, .int s, .int n]) (xz_SH, I, J) = some (some (.int v), M1) ∧ xz_is M1 92 8 = true ∧ zC 60 q_Mo_tape (.ref 92 :: [.int x, .int s, .int n]) M1 = some (some (.int v), M2) ∧ zR M2 := fun v a b => ⟨v, _, _, a, rfl, b, S, I, J, rfl, hZ'⟩
  cases h : y_rg x 0 5 with
  | false =>
    refine no (-1) (b_HR_tape _ _ _ _ _ _ _ ?_) (b_Mo_tape _ _ _ _ _ _ _ ?_)
    · simp (maxSteps := 1000000) (disch := omega) only [sh_is0, sh_gI0, sh_wI0, sh_wZ0, sh_gR0, sh_gR1, sh_gR2, sh_lI0, sh_lI1, sh_lI2, sh_sI0, sh_sI1, sh_sI2, sh_len0, sh_len1, sh_len2, sh_lZ0, sh_sZ0, sh_gJ0, sh_wJ0, sh_lR0, sh_lJ0, sh_sJ0, y_eo, y_eb, y_Ta_isTape, h, y_eI]
      rw [if_pos (by decide)]
    · rw [y_Mo_isTape, h, y_eI, if_pos (by decide)]
  | true =>
    have h' := y_rgt.mp h
    obtain ⟨t, _, rfl, hx⟩ := y_of x h'.1
    have ht : t < 6 := by omega
    have min : ∀ d M, zC (d + 1) q_Mo_in [.long (Int32.toInt64 s), .long (-1 : Int64), .long (4 : Int64)] M = some (some (.int (y_bI (y_rg s (-1) 4))), M) := fun d M => y_Mo_inI d s (-1) 4 (by decide) (by decide) M
    -- the tape becomes of sort s, of m items
    have good : ∀ m : Nat, m ≤ 60 → (s.toInt = -1 → m = 0) → -1 ≤ s.toInt → s.toInt ≤ 4 → (∀ r, zC 59 q_Ta_become [.ref 82, .int (nI t), .int s, .int (nI m)] (xz_SH, I, J) = some (some (.int 1), r) → zC 60 q_HR_tape [.ref 0, .int (nI t), .int s, .int n] (xz_SH, I, J) = some (some (.int 1), r)) → (∀ I J r, zL 59 q_Mo_tape 41 [(0, .ref 92), (1, .int (nI t)), (4, .int (0 : Int32))] (xz_SH, xz_up (xz_up I 126 t s) 127 t (nI m), J) = some r → zC 60 q_Mo_tape [.ref 92, .int (nI t), .int s, .int n] (xz_SH, I, J) = some r) → ∃ (v : Int32) (M1 M2 : xz_M), zC 60 q_HR_tape (.ref 0 :: [.int (nI t), .int s, .int n]) (xz_SH, I, J) = some (some (.int v), M1) ∧ xz_is M1 92 8 = true ∧ zC 60 q_Mo_tape (.ref 92 :: [.int (nI t), .int s, .int n]) M1 = some (some (.int v), M2) ∧ zR M2 := by
      intro m hm hm0 hs1 hs2 hc hd
      obtain ⟨J1, f1, f2, f3, _⟩ := y_fillJ_l 57 ht (xz_up (xz_up I 83 t s) 84 t (nI m)) 60 0 J rfl
      have hf : zC 58 q_JD_fillJ [.ref (86 + t), .long (0 : Int64)] (xz_SH, xz_up (xz_up I 83 t s) 84 t (nI m), J) = some (none, (xz_SH, xz_up (xz_up I 83 t s) 84 t (nI m), J1)) := by
        refine b_JD_fillJ _ _ _ _ _ ?_
        rw [(y_shT ht _ J).2.2.2.1, y_eo]
        exact f1
      have hb : zC 59 q_Ta_become [.ref 82, .int (nI t), .int s, .int (nI m)] (xz_SH, I, J) = some (some (.int 1), (xz_SH, xz_up (xz_up I 83 t s) 84 t (nI m), J1)) := by
        refine b_Ta_become _ _ _ _ _ _ _ ?_
        simp (maxSteps := 1000000) (disch := omega) only [sh_is0, sh_gI0, sh_wI0, sh_wZ0, sh_gR0, sh_gR1, sh_gR2, sh_lI0, sh_lI1, sh_lI2, sh_sI0, sh_sI1, sh_sI2, sh_len0, sh_len1, sh_len2, sh_lZ0, sh_sZ0, sh_gJ0, sh_wJ0, sh_lR0, sh_lJ0, sh_sJ0, y_eo, y_eb, y_eI, y_eJ, y_eR, y_eV, y_in, nI_clamp, cond_true, y_eqI, y_ltI, y_leI, y_lit, nI_toInt, if_true, if_false, if_pos, if_neg, y_bIt, y_bIf, y_band, y_shT ht, hf]
      obtain ⟨J2, g1, g2, g3, _⟩ := y_Mo_tape_l 59 ht (xz_up (xz_up (xz_up (xz_up I 83 t s) 84 t (nI m)) 126 t s) 127 t (nI m)) 60 0 J1 rfl
      refine ⟨1, _, _, hc _ hb, rfl, hd _ _ _ g1, S, _, J2, rfl, y_Z_tt (fun q hq => ?_) (fun j hj => ?_) ?_ ?_ hZ'⟩
      · simp (maxSteps := 1000000) (disch := omega) only [y_up_e, y_up_n, y_ps_e, y_ps_n, y_up_r]
      · simp (maxSteps := 1000000) (disch := omega) only [y_up_e, y_up_n, y_ps_e, y_ps_n]
      · exact y_text_of (by simp (maxSteps := 1000000) (disch := omega) only [y_up_e, y_up_n, y_ps_e, y_ps_n]) (by simp (maxSteps := 1000000) (disch := omega) only [y_up_e, y_up_n, y_ps_e, y_ps_n]) (by simp (maxSteps := 1000000) (disch := omega) only [y_up_e, y_up_n, y_ps_e, y_ps_n, y_up_r]) (by simp (maxSteps := 1000000) (disch := omega) only [y_up_e, y_up_n, y_ps_e, y_ps_n, y_up_r]) z7
      · intro t' ht'
        obtain ⟨p1, p2, ⟨n', p3, p4, p5, p6⟩, p7, p8⟩ := z8 t' ht'
        by_cases e : t' = t
        · subst e
          simp (maxSteps := 1000000) (disch := omega) only [y_up_e, y_up_n, y_ps_e, y_ps_n]
          refine ⟨trivial, ⟨hs1, hs2⟩, ⟨m, hm, rfl, rfl, fun z => hm0 (by rw [z]; decide)⟩, fun k hk => ?_, fun _ k hk => ?_⟩
          · rw [g3 k (by omega) hk, g2 (86 + t') (by omega), f3 k (by omega) hk]
          · rw [g2 (86 + t') (by omega), f3 k (by omega) hk]
            decide
        · simp (maxSteps := 1000000) (disch := omega) only [y_up_e, y_up_n, y_ps_e, y_ps_n]
          rw [g2 (129 + t') (by omega), g2 (86 + t') (by omega), f2 (129 + t') (by omega), f2 (86 + t') (by omega)]
          exact ⟨p1, p2, ⟨n', p3, p4, p5, p6⟩, p7, p8⟩
    by_cases e1 : s = -1
    · subst e1
      refine good 0 (by omega) (fun _ => rfl) (by decide) (by decide) (fun r hr => b_HR_tape _ _ _ _ _ _ _ ?_) (fun I J r hr => b_Mo_tape _ _ _ _ _ _ _ ?_)
      · have hr' : zC 59 q_Ta_become [.ref 82, .int (nI t), .int (-1 : Int32), .int (0 : Int32)] (xz_SH, I, J) = some (some (.int 1), r) := hr
        simp (maxSteps := 1000000) (disch := omega) only [sh_is0, sh_gI0, sh_wI0, sh_wZ0, sh_gR0, sh_gR1, sh_gR2, sh_lI0, sh_lI1, sh_lI2, sh_sI0, sh_sI1, sh_sI2, sh_len0, sh_len1, sh_len2, sh_lZ0, sh_sZ0, sh_gJ0, sh_wJ0, sh_lR0, sh_lJ0, sh_sJ0, y_eo, y_eb, y_Ta_isTape, h, y_eI]
        rw [if_neg (by decide), if_pos trivial, hr', y_eI]
      · rw [y_Mo_isTape, h, y_eI, if_neg (by decide), min, show y_rg (-1 : Int32) (-1) 4 = true by decide, y_eI, if_neg (by decide), if_pos (by decide), if_pos (by decide)]
        have hr' : zL 59 q_Mo_tape 41 [(0, .ref 92), (1, .int (nI t)), (4, .int (0 : Int32))] (xz_SH, xz_up (xz_up I 126 t (-1)) 127 t (0 : Int32), J) = some r := hr
        simp (maxSteps := 1000000) (disch := omega) only [sh_is0, sh_gI0, sh_wI0, sh_wZ0, sh_gR0, sh_gR1, sh_gR2, sh_lI0, sh_lI1, sh_lI2, sh_sI0, sh_sI1, sh_sI2, sh_len0, sh_len1, sh_len2, sh_lZ0, sh_sZ0, sh_gJ0, sh_wJ0, sh_lR0, sh_lJ0, sh_sJ0, y_eo, y_eb, y_in ht (by decide), nI_clamp (show t < 2 ^ 31 by omega), cond_true]
        rw [if_neg (by decide)]
        exact hr'
    · have e1' : ¬ s.toInt = -1 := fun z => e1 (by rw [y_eqI]; simp only [y_lit]; exact z)
      by_cases e2 : 0 ≤ s.toInt ∧ s.toInt ≤ 4
      · have s1 : ¬ s < 0 := by rw [y_ltI, y_lit.1]; omega
        have s2 : ¬ (4 : Int32) < s := by rw [y_ltI]; simp only [y_lit]; omega
        have s3 : (0 : Int32) ≤ s := by rw [y_leI, y_lit.1]; omega
        have hrg : y_rg s (-1) 4 = true := y_rgt.mpr (by omega)
        by_cases e3 : n.toInt ≤ 60
        · have n1 : n ≤ 60 := by rw [y_leI]; simp only [y_lit]; omega
          by_cases e4 : 0 ≤ n.toInt
          · obtain ⟨m, _, rfl, hm⟩ := y_of n e4
            have n2 : (0 : Int32) ≤ nI m := by rw [y_leI, y_lit.1]; omega
            refine good m (by omega) (fun z => absurd z e1') (by omega) (by omega) (fun r hr => b_HR_tape _ _ _ _ _ _ _ ?_) (fun I J r hr => b_Mo_tape _ _ _ _ _ _ _ ?_)
            · simp (maxSteps := 1000000) (disch := omega) only [sh_is0, sh_gI0, sh_wI0, sh_wZ0, sh_gR0, sh_gR1, sh_gR2, sh_lI0, sh_lI1, sh_lI2, sh_sI0, sh_sI1, sh_sI2, sh_len0, sh_len1, sh_len2, sh_lZ0, sh_sZ0, sh_gJ0, sh_wJ0, sh_lR0, sh_lJ0, sh_sJ0, y_eo, y_eb, y_Ta_isTape, h, y_eI]
              rw [if_neg (by decide), if_neg e1, if_neg s1, if_neg s2, if_pos n1, if_pos n2, hr, y_eI]
            · rw [y_Mo_isTape, h, y_eI, if_neg (by decide), min, hrg, y_eI, if_neg (by decide), if_neg s1, if_pos n1, if_neg s1, if_pos n2]
              simp (maxSteps := 1000000) (disch := omega) only [sh_is0, sh_gI0, sh_wI0, sh_wZ0, sh_gR0, sh_gR1, sh_gR2, sh_lI0, sh_lI1, sh_lI2, sh_sI0, sh_sI1, sh_sI2, sh_len0, sh_len1, sh_len2, sh_lZ0, sh_sZ0, sh_gJ0, sh_wJ0, sh_lR0, sh_lJ0, sh_sJ0, y_eo, y_eb, y_in ht (by decide), nI_clamp (show t < 2 ^ 31 by omega), cond_true]
              rw [if_pos s3]
              exact hr
          · have n2 : ¬ (0 : Int32) ≤ n := by rw [y_leI, y_lit.1]; omega
            refine no (-14) (b_HR_tape _ _ _ _ _ _ _ ?_) (b_Mo_tape _ _ _ _ _ _ _ ?_)
            · simp (maxSteps := 1000000) (disch := omega) only [sh_is0, sh_gI0, sh_wI0, sh_wZ0, sh_gR0, sh_gR1, sh_gR2, sh_lI0, sh_lI1, sh_lI2, sh_sI0, sh_sI1, sh_sI2, sh_len0, sh_len1, sh_len2, sh_lZ0, sh_sZ0, sh_gJ0, sh_wJ0, sh_lR0, sh_lJ0, sh_sJ0, y_eo, y_eb, y_Ta_isTape, h, y_eI]
              rw [if_neg (by decide), if_neg e1, if_neg s1, if_neg s2, if_pos n1, if_neg n2]
            · rw [y_Mo_isTape, h, y_eI, if_neg (by decide), min, hrg, y_eI, if_neg (by decide), if_neg s1, if_pos n1, if_neg s1, if_neg n2]
        · have n1 : ¬ n ≤ 60 := by rw [y_leI]; simp only [y_lit]; omega
          refine no (-2) (b_HR_tape _ _ _ _ _ _ _ ?_) (b_Mo_tape _ _ _ _ _ _ _ ?_)
          · simp (maxSteps := 1000000) (disch := omega) only [sh_is0, sh_gI0, sh_wI0, sh_wZ0, sh_gR0, sh_gR1, sh_gR2, sh_lI0, sh_lI1, sh_lI2, sh_sI0, sh_sI1, sh_sI2, sh_len0, sh_len1, sh_len2, sh_lZ0, sh_sZ0, sh_gJ0, sh_wJ0, sh_lR0, sh_lJ0, sh_sJ0, y_eo, y_eb, y_Ta_isTape, h, y_eI]
            rw [if_neg (by decide), if_neg e1, if_neg s1, if_neg s2, if_neg n1]
          · rw [y_Mo_isTape, h, y_eI, if_neg (by decide), min, hrg, y_eI, if_neg (by decide), if_neg s1, if_neg n1]
      · refine no (-2) (b_HR_tape _ _ _ _ _ _ _ ?_) (b_Mo_tape _ _ _ _ _ _ _ ?_)
        · simp (maxSteps := 1000000) (disch := omega) only [sh_is0, sh_gI0, sh_wI0, sh_wZ0, sh_gR0, sh_gR1, sh_gR2, sh_lI0, sh_lI1, sh_lI2, sh_sI0, sh_sI1, sh_sI2, sh_len0, sh_len1, sh_len2, sh_lZ0, sh_sZ0, sh_gJ0, sh_wJ0, sh_lR0, sh_lJ0, sh_sJ0, y_eo, y_eb, y_Ta_isTape, h, y_eI]
          rw [if_neg (by decide), if_neg e1]
          by_cases z : s.toInt < 0
          · rw [if_pos (by rw [y_ltI, y_lit.1]; exact z)]
          · rw [if_neg (by rw [y_ltI, y_lit.1]; exact z), if_pos (by rw [y_ltI]; simp only [y_lit]; omega)]
        · rw [y_Mo_isTape, h, y_eI, if_neg (by decide), min, y_rgf.mpr (show ¬ (-1 ≤ s.toInt ∧ s.toInt ≤ 4) by omega), y_eI, if_pos (by decide)]
