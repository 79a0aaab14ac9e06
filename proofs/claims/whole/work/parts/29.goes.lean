/-! THE REFERENCE: ways gone through -/
def y_vG (S : y_S) (st : Nat) (o : Option (List Nat)) (I : Nat → Nat → Int32) (J : Nat → Nat → Int64) : Prop := match o with
  | none => I 92 37 = 0
  | some q => I 92 37 = 1 ∧ y_pth S q ∧ I 92 33 = nI q.length ∧ I 92 34 = nI (y_ar S st q) ∧ J 92 35 = lN (y_su S q) ∧ ∀ i, i < q.length → I 109 i = nI (q.getD i 0)
abbrev y_Q : Type := Nat × Option (List Nat)
def y_vQ (S : y_S) (st : Nat) (Q : y_Q) (I : Nat → Nat → Int32) (J : Nat → Nat → Int64) : Prop := I 92 32 = nI Q.1 ∧ y_vG S st Q.2 I J
def y_adr (S : y_S) (st rule : Nat) (e : Bool) (Q : y_Q) (p : List Nat) : y_Q := if e = true ∧ Q.2.isSome = true then Q else (Q.1 + 1, y_bst S st rule Q.2 p)
/-- what is looked for -/
def y_vc (g B k rule : Nat) (e : Bool) (I : Nat → Nat → Int32) : Prop := I 92 28 = nI g ∧ I 92 29 = nI B ∧ I 92 30 = nI k ∧ I 92 31 = nI rule ∧ I 92 36 = y_bI e
def y_fg (I I' : Nat → Nat → Int32) (J J' : Nat → Nat → Int64) : Prop := (∀ q, q ≠ 92 → q ≠ 108 → q ≠ 109 → I' q = I q) ∧ (∀ j, (j < 32 ∨ 35 ≤ j) → j ≠ 37 → I' 92 j = I 92 j) ∧ ∀ q, q ≠ 92 → J' q = J q
theorem y_fg_r (I : Nat → Nat → Int32) (J : Nat → Nat → Int64) : y_fg I I J J := ⟨fun _ _ _ _ => rfl, fun _ _ _ => rfl, fun _ _ => rfl⟩
theorem y_fg_t {I I' I'' : Nat → Nat → Int32} {J J' J'' : Nat → Nat → Int64} (h : y_fg I I' J J') (h' : y_fg I' I'' J' J'') : y_fg I I'' J J'' := ⟨fun q h1 h2 h3 => (h'.1 q h1 h2 h3).trans (h.1 q h1 h2 h3), fun j h1 h2 => (h'.2.1 j h1 h2).trans (h.2.1 j h1 h2), fun q hq => (h'.2.2 q hq).trans (h.2.2 q hq)⟩
theorem y_vR_fg {S : y_S} {I I' : Nat → Nat → Int32} {J J' : Nat → Nat → Int64} (h : y_fg I I' J J') (hR : y_vR S I) : y_vR S I' := by
  obtain ⟨⟨c0, c1, c2, c3, c4⟩, h1, h2⟩ := hR
  refine ⟨⟨?_, ?_, ?_, ?_, ?_⟩, ?_, fun m hm => ?_⟩
  · rw [h.2.1 0 (by omega) (by omega)]; exact c0
  · rw [h.2.1 7 (by omega) (by omega)]; exact c1
  · rw [h.2.1 8 (by omega) (by omega)]; exact c2
  · rw [h.2.1 9 (by omega) (by omega)]; exact c3
  · rw [h.2.1 10 (by omega) (by omega)]; exact c4
  · rw [h.2.1 1 (by omega) (by omega)]; exact h1
  · rw [h.1 94 (by omega) (by omega) (by omega), h.1 95 (by omega) (by omega) (by omega), h.1 96 (by omega) (by omega) (by omega), h.1 97 (by omega) (by omega) (by omega), h.1 93 (by omega) (by omega) (by omega)]
    exact h2 m hm
theorem y_vc_fg {g B k rule : Nat} {e : Bool} {I I' : Nat → Nat → Int32} {J J' : Nat → Nat → Int64} (h : y_fg I I' J J') (hc : y_vc g B k rule e I) : y_vc g B k rule e I' := by
  unfold y_vc at *
  rw [h.2.1 28 (by omega) (by omega), h.2.1 29 (by omega) (by omega), h.2.1 30 (by omega) (by omega), h.2.1 31 (by omega) (by omega), h.2.1 36 (by omega) (by omega)]
  exact hc
theorem y_take_s {p : List Nat} {k : Nat} (h : k < p.length) : p.take (k + 1) = p.take k ++ [p.getD k 0] := by
  rw [List.take_add_one, List.getD_eq_getElem?_getD, List.getElem?_eq_getElem h]
  rfl
theorem y_Mo_sureOf_l (d : Nat) {S : y_S} (hok : y_okM S) {I : Nat → Nat → Int32} (J : Nat → Nat → Int64) (hR : y_vR S I) {p : List Nat} (hp : y_pth S p) (h108 : ∀ i, i < p.length → I 108 i = nI (p.getD i 0)) : ∀ (j k : Nat), k + j = 5 → zL d q_Mo_sureOf 5 [(0, .ref 92), (1, .ref 108), (2, .int (nI p.length)), (3, .long (lN (y_pr S (p.take k) * 100 ^ (k - p.length)))), (5, .int (nI k))] (xz_SH, I, J) = some (some (.long (lN (y_su S p))), (xz_SH, I, J))
  | 0, k, hk => by
    refine b_Mo_sureOf_l5 _ _ _ _ _ _ _ _ ?_
    have e : y_pr S (p.take k) * 100 ^ (k - p.length) = y_su S p := by
      unfold y_su
      rw [List.take_of_length_le (by have := hp.1; omega), show k = 5 by omega]
    rw [e]
    simp (maxSteps := 1000000) (disch := omega) only [y_eo, y_eb, y_eI, y_eJ, y_eR, y_eV, y_in, nI_clamp, cond_true, y_eqI, y_ltI, y_leI, y_lit, nI_toInt, if_true, if_false, if_pos, if_neg, y_bIt, y_bIf, y_band]
  | j + 1, k, hk => by
    have ih := y_Mo_sureOf_l d hok J hR hp h108 j (k + 1) (by omega)
    have hl := hp.1
    refine b_Mo_sureOf_l5 _ _ _ _ _ _ _ _ ?_
    by_cases e : k < p.length
    · have hm : p.getD k 0 < S 1 0 := hp.2 _ (by
        rw [List.getD_eq_getElem?_getD, List.getElem?_eq_getElem e]
        exact List.getElem_mem _)
      have e1 := h108 k e
      obtain ⟨_, _, h2⟩ := hR
      obtain ⟨_, _, _, m4, _⟩ := h2 _ hm
      have := hok.2.2.2.2.2.2.1
      have g7 := (hok.2.2.2.2.2.2.2 _ hm).2.2.2.2.2.1
      have e2 : y_pr S (p.take (k + 1)) * 100 ^ (k + 1 - p.length) = y_pr S (p.take k) * 100 ^ (k - p.length) * S 5 (p.getD k 0) := by
        rw [y_take_s e, y_pr_app, show k + 1 - p.length = 0 by omega, show k - p.length = 0 by omega]
        simp
      rw [e2] at ih
      simp (maxSteps := 1000000) (disch := omega) only [sh_is0, sh_gI0, sh_wI0, sh_wZ0, sh_gR0, sh_gR1, sh_gR2, sh_lI0, sh_lI1, sh_lI2, sh_sI0, sh_sI1, sh_sI2, sh_len0, sh_len1, sh_len2, sh_lZ0, sh_sZ0, sh_gJ0, sh_wJ0, sh_lR0, sh_lJ0, sh_sJ0, y_eo, y_eb, y_eI, y_eJ, y_eR, y_eV, y_in, nI_clamp, cond_true, y_eqI, y_ltI, y_leI, y_lit, nI_toInt, if_true, if_false, if_pos, if_neg, y_bIt, y_bIf, y_band, e1, m4, y_1, nI_l, lN_mul, ih]
    · have e2 : y_pr S (p.take (k + 1)) * 100 ^ (k + 1 - p.length) = y_pr S (p.take k) * 100 ^ (k - p.length) * 100 := by
        rw [List.take_of_length_le (by omega), List.take_of_length_le (by omega), show k + 1 - p.length = (k - p.length) + 1 by omega, Nat.pow_succ, Nat.mul_assoc]
      rw [e2] at ih
      have e3 : (100 : Int64) = lN 100 := rfl
      simp (maxSteps := 1000000) (disch := omega) only [sh_is0, sh_gI0, sh_wI0, sh_wZ0, sh_gR0, sh_gR1, sh_gR2, sh_lI0, sh_lI1, sh_lI2, sh_sI0, sh_sI1, sh_sI2, sh_len0, sh_len1, sh_len2, sh_lZ0, sh_sZ0, sh_gJ0, sh_wJ0, sh_lR0, sh_lJ0, sh_sJ0, y_eo, y_eb, y_eI, y_eJ, y_eR, y_eV, y_in, nI_clamp, cond_true, y_eqI, y_ltI, y_leI, y_lit, nI_toInt, if_true, if_false, if_pos, if_neg, y_bIt, y_bIf, y_band, y_1, e3, lN_mul, ih]
theorem y_Mo_sureOf (d : Nat) {S : y_S} (hok : y_okM S) {I : Nat → Nat → Int32} (J : Nat → Nat → Int64) (hR : y_vR S I) {p : List Nat} (hp : y_pth S p) (h108 : ∀ i, i < p.length → I 108 i = nI (p.getD i 0)) : zC (d + 1) q_Mo_sureOf [.ref 92, .ref 108, .int (nI p.length)] (xz_SH, I, J) = some (some (.long (lN (y_su S p))), (xz_SH, I, J)) := by
  refine b_Mo_sureOf _ _ _ _ _ _ ?_
  have := y_Mo_sureOf_l d hok J hR hp h108 5 0 rfl
  simp only [List.take_zero, Nat.zero_sub] at this
  exact this
set_option maxHeartbeats 4000000 in
theorem y_Mo_isBetter (d : Nat) {S : y_S} (hok : y_okM S) {st rule : Nat} {I : Nat → Nat → Int32} {J : Nat → Nat → Int64} {p q : List Nat} (hr : rule ≤ 2) (hp : y_pth S p) (hq : y_pth S q) (hst : st ≤ 99) (h0 : I 92 31 = nI rule) (h1 : I 92 37 = 1) (h2 : I 92 33 = nI q.length) (h3 : I 92 34 = nI (y_ar S st q)) (h4 : J 92 35 = lN (y_su S q)) : zC (d + 1) q_Mo_isBetter [.ref 92, .int (nI p.length), .int (nI (y_ar S st p)), .long (lN (y_su S p))] (xz_SH, I, J) = some (some (.int (y_bI (y_bet S st rule p q))), (xz_SH, I, J)) := by
  have a1 := y_su_le hok hp
  have a2 := y_su_le hok hq
  have a3 := y_ar_le hok hp.2 hst
  have a4 := y_ar_le hok hq.2 hst
  have a5 := hp.1
  have a6 := hq.1
  refine b_Mo_isBetter _ _ _ _ _ _ _ ?_
  unfold y_bet
  by_cases r2 : rule = 2
  · have r1 : ¬ rule = 1 := by omega
    by_cases e1 : y_su S p = y_su S q
    · by_cases e2 : y_ar S st p = y_ar S st q
      · by_cases e3 : p.length < q.length
        · simp (maxSteps := 1000000) (disch := omega) only [sh_is0, sh_gI0, sh_wI0, sh_wZ0, sh_gR0, sh_gR1, sh_gR2, sh_lI0, sh_lI1, sh_lI2, sh_sI0, sh_sI1, sh_sI2, sh_len0, sh_len1, sh_len2, sh_lZ0, sh_sZ0, sh_gJ0, sh_wJ0, sh_lR0, sh_lJ0, sh_sJ0, y_eo, y_eb, y_eI, y_eJ, y_eR, y_eV, y_in, nI_clamp, cond_true, y_eqI, y_ltI, y_leI, y_lit, nI_toInt, if_true, if_false, if_pos, if_neg, y_bIt, y_bIf, y_band, h0, h1, h2, h3, h4, y_lg0, decide_eq_true e3]
        · simp (maxSteps := 1000000) (disch := omega) only [sh_is0, sh_gI0, sh_wI0, sh_wZ0, sh_gR0, sh_gR1, sh_gR2, sh_lI0, sh_lI1, sh_lI2, sh_sI0, sh_sI1, sh_sI2, sh_len0, sh_len1, sh_len2, sh_lZ0, sh_sZ0, sh_gJ0, sh_wJ0, sh_lR0, sh_lJ0, sh_sJ0, y_eo, y_eb, y_eI, y_eJ, y_eR, y_eV, y_in, nI_clamp, cond_true, y_eqI, y_ltI, y_leI, y_lit, nI_toInt, if_true, if_false, if_pos, if_neg, y_bIt, y_bIf, y_band, h0, h1, h2, h3, h4, y_lg0, decide_eq_false e3]
      · by_cases e3 : y_ar S st p < y_ar S st q
        · simp (maxSteps := 1000000) (disch := omega) only [sh_is0, sh_gI0, sh_wI0, sh_wZ0, sh_gR0, sh_gR1, sh_gR2, sh_lI0, sh_lI1, sh_lI2, sh_sI0, sh_sI1, sh_sI2, sh_len0, sh_len1, sh_len2, sh_lZ0, sh_sZ0, sh_gJ0, sh_wJ0, sh_lR0, sh_lJ0, sh_sJ0, y_eo, y_eb, y_eI, y_eJ, y_eR, y_eV, y_in, nI_clamp, cond_true, y_eqI, y_ltI, y_leI, y_lit, nI_toInt, if_true, if_false, if_pos, if_neg, y_bIt, y_bIf, y_band, h0, h1, h2, h3, h4, y_lg0, decide_eq_true e3]
        · simp (maxSteps := 1000000) (disch := omega) only [sh_is0, sh_gI0, sh_wI0, sh_wZ0, sh_gR0, sh_gR1, sh_gR2, sh_lI0, sh_lI1, sh_lI2, sh_sI0, sh_sI1, sh_sI2, sh_len0, sh_len1, sh_len2, sh_lZ0, sh_sZ0, sh_gJ0, sh_wJ0, sh_lR0, sh_lJ0, sh_sJ0, y_eo, y_eb, y_eI, y_eJ, y_eR, y_eV, y_in, nI_clamp, cond_true, y_eqI, y_ltI, y_leI, y_lit, nI_toInt, if_true, if_false, if_pos, if_neg, y_bIt, y_bIf, y_band, h0, h1, h2, h3, h4, y_lg0, decide_eq_false e3]
    · by_cases e2 : y_su S q < y_su S p
      · simp (maxSteps := 1000000) (disch := omega) only [sh_is0, sh_gI0, sh_wI0, sh_wZ0, sh_gR0, sh_gR1, sh_gR2, sh_lI0, sh_lI1, sh_lI2, sh_sI0, sh_sI1, sh_sI2, sh_len0, sh_len1, sh_len2, sh_lZ0, sh_sZ0, sh_gJ0, sh_wJ0, sh_lR0, sh_lJ0, sh_sJ0, y_eo, y_eb, y_eI, y_eJ, y_eR, y_eV, y_in, nI_clamp, cond_true, y_eqI, y_ltI, y_leI, y_lit, nI_toInt, if_true, if_false, if_pos, if_neg, y_bIt, y_bIf, y_band, h0, h1, h2, h3, h4, y_lg0, decide_eq_true e2]
      · simp (maxSteps := 1000000) (disch := omega) only [sh_is0, sh_gI0, sh_wI0, sh_wZ0, sh_gR0, sh_gR1, sh_gR2, sh_lI0, sh_lI1, sh_lI2, sh_sI0, sh_sI1, sh_sI2, sh_len0, sh_len1, sh_len2, sh_lZ0, sh_sZ0, sh_gJ0, sh_wJ0, sh_lR0, sh_lJ0, sh_sJ0, y_eo, y_eb, y_eI, y_eJ, y_eR, y_eV, y_in, nI_clamp, cond_true, y_eqI, y_ltI, y_leI, y_lit, nI_toInt, if_true, if_false, if_pos, if_neg, y_bIt, y_bIf, y_band, h0, h1, h2, h3, h4, y_lg0, decide_eq_false e2]
  · by_cases r1 : rule = 1
    · by_cases e1 : p.length = q.length
      · by_cases e2 : y_ar S st p = y_ar S st q
        · have e3 : ¬ p.length < q.length := by omega
          simp (maxSteps := 1000000) (disch := omega) only [sh_is0, sh_gI0, sh_wI0, sh_wZ0, sh_gR0, sh_gR1, sh_gR2, sh_lI0, sh_lI1, sh_lI2, sh_sI0, sh_sI1, sh_sI2, sh_len0, sh_len1, sh_len2, sh_lZ0, sh_sZ0, sh_gJ0, sh_wJ0, sh_lR0, sh_lJ0, sh_sJ0, y_eo, y_eb, y_eI, y_eJ, y_eR, y_eV, y_in, nI_clamp, cond_true, y_eqI, y_ltI, y_leI, y_lit, nI_toInt, if_true, if_false, if_pos, if_neg, y_bIt, y_bIf, y_band, h0, h1, h2, h3, h4, decide_eq_false e3]
        · by_cases e3 : y_ar S st p < y_ar S st q
          · simp (maxSteps := 1000000) (disch := omega) only [sh_is0, sh_gI0, sh_wI0, sh_wZ0, sh_gR0, sh_gR1, sh_gR2, sh_lI0, sh_lI1, sh_lI2, sh_sI0, sh_sI1, sh_sI2, sh_len0, sh_len1, sh_len2, sh_lZ0, sh_sZ0, sh_gJ0, sh_wJ0, sh_lR0, sh_lJ0, sh_sJ0, y_eo, y_eb, y_eI, y_eJ, y_eR, y_eV, y_in, nI_clamp, cond_true, y_eqI, y_ltI, y_leI, y_lit, nI_toInt, if_true, if_false, if_pos, if_neg, y_bIt, y_bIf, y_band, h0, h1, h2, h3, h4, decide_eq_true e3]
          · simp (maxSteps := 1000000) (disch := omega) only [sh_is0, sh_gI0, sh_wI0, sh_wZ0, sh_gR0, sh_gR1, sh_gR2, sh_lI0, sh_lI1, sh_lI2, sh_sI0, sh_sI1, sh_sI2, sh_len0, sh_len1, sh_len2, sh_lZ0, sh_sZ0, sh_gJ0, sh_wJ0, sh_lR0, sh_lJ0, sh_sJ0, y_eo, y_eb, y_eI, y_eJ, y_eR, y_eV, y_in, nI_clamp, cond_true, y_eqI, y_ltI, y_leI, y_lit, nI_toInt, if_true, if_false, if_pos, if_neg, y_bIt, y_bIf, y_band, h0, h1, h2, h3, h4, decide_eq_false e3]
      · by_cases e2 : p.length < q.length
        · simp (maxSteps := 1000000) (disch := omega) only [sh_is0, sh_gI0, sh_wI0, sh_wZ0, sh_gR0, sh_gR1, sh_gR2, sh_lI0, sh_lI1, sh_lI2, sh_sI0, sh_sI1, sh_sI2, sh_len0, sh_len1, sh_len2, sh_lZ0, sh_sZ0, sh_gJ0, sh_wJ0, sh_lR0, sh_lJ0, sh_sJ0, y_eo, y_eb, y_eI, y_eJ, y_eR, y_eV, y_in, nI_clamp, cond_true, y_eqI, y_ltI, y_leI, y_lit, nI_toInt, if_true, if_false, if_pos, if_neg, y_bIt, y_bIf, y_band, h0, h1, h2, h3, h4, decide_eq_true e2]
        · simp (maxSteps := 1000000) (disch := omega) only [sh_is0, sh_gI0, sh_wI0, sh_wZ0, sh_gR0, sh_gR1, sh_gR2, sh_lI0, sh_lI1, sh_lI2, sh_sI0, sh_sI1, sh_sI2, sh_len0, sh_len1, sh_len2, sh_lZ0, sh_sZ0, sh_gJ0, sh_wJ0, sh_lR0, sh_lJ0, sh_sJ0, y_eo, y_eb, y_eI, y_eJ, y_eR, y_eV, y_in, nI_clamp, cond_true, y_eqI, y_ltI, y_leI, y_lit, nI_toInt, if_true, if_false, if_pos, if_neg, y_bIt, y_bIf, y_band, h0, h1, h2, h3, h4, decide_eq_false e2]
    · by_cases e2 : y_ar S st p = y_ar S st q
      · by_cases e3 : p.length < q.length
        · simp (maxSteps := 1000000) (disch := omega) only [sh_is0, sh_gI0, sh_wI0, sh_wZ0, sh_gR0, sh_gR1, sh_gR2, sh_lI0, sh_lI1, sh_lI2, sh_sI0, sh_sI1, sh_sI2, sh_len0, sh_len1, sh_len2, sh_lZ0, sh_sZ0, sh_gJ0, sh_wJ0, sh_lR0, sh_lJ0, sh_sJ0, y_eo, y_eb, y_eI, y_eJ, y_eR, y_eV, y_in, nI_clamp, cond_true, y_eqI, y_ltI, y_leI, y_lit, nI_toInt, if_true, if_false, if_pos, if_neg, y_bIt, y_bIf, y_band, h0, h1, h2, h3, h4, decide_eq_true e3]
        · simp (maxSteps := 1000000) (disch := omega) only [sh_is0, sh_gI0, sh_wI0, sh_wZ0, sh_gR0, sh_gR1, sh_gR2, sh_lI0, sh_lI1, sh_lI2, sh_sI0, sh_sI1, sh_sI2, sh_len0, sh_len1, sh_len2, sh_lZ0, sh_sZ0, sh_gJ0, sh_wJ0, sh_lR0, sh_lJ0, sh_sJ0, y_eo, y_eb, y_eI, y_eJ, y_eR, y_eV, y_in, nI_clamp, cond_true, y_eqI, y_ltI, y_leI, y_lit, nI_toInt, if_true, if_false, if_pos, if_neg, y_bIt, y_bIf, y_band, h0, h1, h2, h3, h4, decide_eq_false e3]
      · by_cases e3 : y_ar S st p < y_ar S st q
        · simp (maxSteps := 1000000) (disch := omega) only [sh_is0, sh_gI0, sh_wI0, sh_wZ0, sh_gR0, sh_gR1, sh_gR2, sh_lI0, sh_lI1, sh_lI2, sh_sI0, sh_sI1, sh_sI2, sh_len0, sh_len1, sh_len2, sh_lZ0, sh_sZ0, sh_gJ0, sh_wJ0, sh_lR0, sh_lJ0, sh_sJ0, y_eo, y_eb, y_eI, y_eJ, y_eR, y_eV, y_in, nI_clamp, cond_true, y_eqI, y_ltI, y_leI, y_lit, nI_toInt, if_true, if_false, if_pos, if_neg, y_bIt, y_bIf, y_band, h0, h1, h2, h3, h4, decide_eq_true e3]
        · simp (maxSteps := 1000000) (disch := omega) only [sh_is0, sh_gI0, sh_wI0, sh_wZ0, sh_gR0, sh_gR1, sh_gR2, sh_lI0, sh_lI1, sh_lI2, sh_sI0, sh_sI1, sh_sI2, sh_len0, sh_len1, sh_len2, sh_lZ0, sh_sZ0, sh_gJ0, sh_wJ0, sh_lR0, sh_lJ0, sh_sJ0, y_eo, y_eb, y_eI, y_eJ, y_eR, y_eV, y_in, nI_clamp, cond_true, y_eqI, y_ltI, y_leI, y_lit, nI_toInt, if_true, if_false, if_pos, if_neg, y_bIt, y_bIf, y_band, h0, h1, h2, h3, h4, decide_eq_false e3]
theorem y_z1 : ((1 : Int32) &&& 1 == 1) = true := by decide
theorem y_z0 : ((0 : Int32) &&& 1 == 0) = true := by decide
theorem y_ze (e : Bool) : (y_bI e &&& 1 == y_bI e) = true := by cases e <;> decide
/-- a way written down as the best -/
def y_wr (I : Nat → Nat → Int32) (p : List Nat) (a : Int32) : Nat → Nat → Int32 := xz_row (xz_up (xz_up (xz_up I 92 37 (1 : Int32)) 92 33 (nI p.length)) 92 34 a) 109 (va_cpy (I 108) (I 109) 0 0 p.length)
set_option maxHeartbeats 8000000 in
theorem y_Mo_comes (d : Nat) {S : y_S} (hok : y_okM S) {rule : Nat} (hr : rule ≤ 2) {e : Bool} {g B k : Nat} {Q : y_Q} {I : Nat → Nat → Int32} {J : Nat → Nat → Int64} (hR : y_vR S I) (hc : y_vc g B k rule e I) (hQ : y_vQ S (S 0 4) Q I J) {p : List Nat} (hp : y_pth S p) (h108 : ∀ i, i < p.length → I 108 i = nI (p.getD i 0)) :
    ∃ I' J', zC (d + 2) q_Mo_comes [.ref 92, .int (nI p.length)] (xz_SH, I, J) = some (none, (xz_SH, I', J')) ∧ y_vQ S (S 0 4) (Q.1 + 1, y_bst S (S 0 4) rule Q.2 p) I' J' ∧ y_fg I I' J J' ∧ I' 108 = I 108 := by
  have a5 := hp.1
  obtain ⟨q1, q2⟩ := hQ
  obtain ⟨v1, v2, v3, v4, v5⟩ := id hc
  obtain ⟨k1, k2, k3, k4, k5, k6, k7, k8⟩ := id hok
  -- behind many++
  have fg1 : y_fg I (xz_up I 92 32 (nI (Q.1 + 1))) J J := ⟨fun q h1 h2 h3 => y_up_r h1, fun j h1 h2 => y_up_n (by omega), fun _ _ => rfl⟩
  have hR1 := y_vR_fg fg1 hR
  have e108 : (xz_up I 92 32 (nI (Q.1 + 1))) 108 = I 108 := y_up_r (by omega)
  have hsu := y_Mo_sureOf (d := d) hok J hR1 hp (by rw [e108]; exact h108)
  have harr : (p.length = 0 ∧ y_ar S (S 0 4) p = S 0 4) ∨ (0 < p.length ∧ p.getD (p.length - 1) 0 < S 1 0 ∧ y_ar S (S 0 4) p = S 2 (p.getD (p.length - 1) 0)) := by
    by_cases h0 : p = []
    · left
      rw [h0]
      exact ⟨rfl, rfl⟩
    · right
      refine ⟨List.length_pos_iff.mpr h0, ?_⟩
      obtain ⟨q, m, e⟩ : ∃ q m, p = q ++ [m] := ⟨p.dropLast, p.getLast h0, (List.dropLast_concat_getLast h0).symm⟩
      rw [e, y_ar_app]
      have : (q ++ [m]).getD ((q ++ [m]).length - 1) 0 = m := by simp [List.getD_eq_getElem?_getD]
      rw [this]
      exact ⟨hp.2 m (by rw [e]; simp), rfl⟩
  have c1 : ∀ (I : Nat → Nat → Int32) (J : Nat → Nat → Int64), xz_copy (xz_SH, I, J) 108 (0 : Int32) 109 (0 : Int32) (nI p.length) = some (xz_SH, xz_row I 109 (va_cpy (I 108) (I 109) 0 0 p.length), J) := fun I J => y_cpI (sp := 0) (dp := 0) (L := 6) (L' := 6) (e := []) (e' := []) (kd := 0) (by rfl) (by rfl) (by decide) (by omega) (by omega) (by decide) (by decide)
  -- better: written down
  have hyes : zC (d + 1) q_Mo_isBetter [.ref 92, .int (nI p.length), .int (nI (y_ar S (S 0 4) p)), .long (lN (y_su S p))] (xz_SH, xz_up I 92 32 (nI (Q.1 + 1)), J) = some (some (.int 1), (xz_SH, xz_up I 92 32 (nI (Q.1 + 1)), J)) → y_bst S (S 0 4) rule Q.2 p = some p →
      ∃ I' J', zC (d + 2) q_Mo_comes [.ref 92, .int (nI p.length)] (xz_SH, I, J) = some (none, (xz_SH, I', J')) ∧ y_vQ S (S 0 4) (Q.1 + 1, y_bst S (S 0 4) rule Q.2 p) I' J' ∧ y_fg I I' J J' ∧ I' 108 = I 108 := by
    intro hB hb
    refine ⟨y_wr (xz_up I 92 32 (nI (Q.1 + 1))) p (nI (y_ar S (S 0 4) p)), xz_up J 92 35 (lN (y_su S p)), ?_, ⟨?_, ?_⟩, ⟨fun q h1 h2 h3 => ?_, fun j h1 h2 => ?_, fun q hq => y_up_r hq⟩, ?_⟩
    · refine b_Mo_comes _ _ _ _ _ ?_
      unfold y_wr
      rcases harr with ⟨z1, z2⟩ | ⟨z1, z2, z3⟩
      · rw [z2] at hB ⊢
        simp (maxSteps := 1000000) (disch := omega) only [sh_is0, sh_gI0, sh_wI0, sh_wZ0, sh_gR0, sh_gR1, sh_gR2, sh_lI0, sh_lI1, sh_lI2, sh_sI0, sh_sI1, sh_sI2, sh_len0, sh_len1, sh_len2, sh_lZ0, sh_sZ0, sh_gJ0, sh_wJ0, sh_lR0, sh_lJ0, sh_sJ0, y_eo, y_eb, q1, y_1]
        rw [if_pos (by rw [y_eqI, nI_toInt (by omega), y_lit.1]; omega)]
        simp (maxSteps := 1000000) (disch := omega) only [sh_is0, sh_gI0, sh_wI0, sh_wZ0, sh_gR0, sh_gR1, sh_gR2, sh_lI0, sh_lI1, sh_lI2, sh_sI0, sh_sI1, sh_sI2, sh_len0, sh_len1, sh_len2, sh_lZ0, sh_sZ0, sh_gJ0, sh_wJ0, sh_lR0, sh_lJ0, sh_sJ0, y_eo, y_eb, y_eI, y_eJ, y_eR, y_eV, y_in, nI_clamp, cond_true, y_eqI, y_ltI, y_leI, y_lit, nI_toInt, if_true, if_false, if_pos, if_neg, y_bIt, y_bIf, y_band, q1, y_1, y_up_n, y_up_r, hR.1.2.2.2.2, hsu, hB, c1, y_z1]
      · rw [z3] at hB ⊢
        have e64 := h108 (p.length - 1) (by omega)
        have e2 := (hR.2.2 _ z2).1
        simp (maxSteps := 1000000) (disch := omega) only [sh_is0, sh_gI0, sh_wI0, sh_wZ0, sh_gR0, sh_gR1, sh_gR2, sh_lI0, sh_lI1, sh_lI2, sh_sI0, sh_sI1, sh_sI2, sh_len0, sh_len1, sh_len2, sh_lZ0, sh_sZ0, sh_gJ0, sh_wJ0, sh_lR0, sh_lJ0, sh_sJ0, y_eo, y_eb, q1, y_1]
        rw [if_neg (by rw [y_eqI, nI_toInt (by omega), y_lit.1]; omega)]
        simp (maxSteps := 1000000) (disch := omega) only [sh_is0, sh_gI0, sh_wI0, sh_wZ0, sh_gR0, sh_gR1, sh_gR2, sh_lI0, sh_lI1, sh_lI2, sh_sI0, sh_sI1, sh_sI2, sh_len0, sh_len1, sh_len2, sh_lZ0, sh_sZ0, sh_gJ0, sh_wJ0, sh_lR0, sh_lJ0, sh_sJ0, y_eo, y_eb, y_eI, y_eJ, y_eR, y_eV, y_in, nI_clamp, cond_true, y_eqI, y_ltI, y_leI, y_lit, nI_toInt, if_true, if_false, if_pos, if_neg, y_bIt, y_bIf, y_band, q1, y_1, y_m1, y_up_n, y_up_r, e64, e2, hsu, hB, c1, y_z1]
    · unfold y_wr
      simp (disch := omega) only [y_row_n, y_up_n, y_up_e]
    · rw [hb]
      unfold y_wr
      refine ⟨?_, hp, ?_, ?_, ?_, fun i hi => ?_⟩
      · simp (disch := omega) only [y_row_n, y_up_n, y_up_e]
      · simp (disch := omega) only [y_row_n, y_up_n, y_up_e]
      · simp (disch := omega) only [y_row_n, y_up_n, y_up_e]
      · exact y_up_e ⟨rfl, rfl⟩
      · simp (disch := omega) only [y_row_e, pk_cpy_in, e108, Nat.zero_add, Nat.sub_zero, h108]
    · unfold y_wr
      simp (disch := omega) only [y_row_n, y_up_r]
    · unfold y_wr
      simp (disch := omega) only [y_row_n, y_up_n]
    · unfold y_wr
      simp (disch := omega) only [y_row_n, y_up_r]
  cases e2 : Q.2 with
  | none =>
    rw [e2] at q2
    rw [e2] at hyes
    refine hyes ?_ rfl
    have q2' : I 92 37 = 0 := q2
    refine b_Mo_isBetter _ _ _ _ _ _ _ ?_
    simp (maxSteps := 1000000) (disch := omega) only [sh_is0, sh_gI0, sh_wI0, sh_wZ0, sh_gR0, sh_gR1, sh_gR2, sh_lI0, sh_lI1, sh_lI2, sh_sI0, sh_sI1, sh_sI2, sh_len0, sh_len1, sh_len2, sh_lZ0, sh_sZ0, sh_gJ0, sh_wJ0, sh_lR0, sh_lJ0, sh_sJ0, y_eo, y_eb, y_eI, y_eJ, y_eR, y_eV, y_in, nI_clamp, cond_true, y_eqI, y_ltI, y_leI, y_lit, nI_toInt, if_true, if_false, if_pos, if_neg, y_bIt, y_bIf, y_band, y_up_n, q2']
  | some q =>
    rw [e2] at q2 hyes
    obtain ⟨w1, w2, w3, w4, w5, w6⟩ := q2
    have hB := y_Mo_isBetter d hok (st := S 0 4) (rule := rule) (I := xz_up I 92 32 (nI (Q.1 + 1))) (J := J) hr hp w2 k6 (by rw [y_up_n (by omega)]; exact v4) (by rw [y_up_n (by omega)]; exact w1) (by rw [y_up_n (by omega)]; exact w3) (by rw [y_up_n (by omega)]; exact w4) w5
    cases e3 : y_bet S (S 0 4) rule p q with
    | true =>
      rw [e3] at hB
      exact hyes hB (by unfold y_bst; dsimp only; rw [if_pos e3])
    | false =>
      rw [e3] at hB
      have hb : y_bst S (S 0 4) rule (some q) p = some q := by unfold y_bst; dsimp only; rw [if_neg (by rw [e3]; simp)]
      rw [hb]
      refine ⟨xz_up I 92 32 (nI (Q.1 + 1)), J, ?_, ⟨y_up_e ⟨rfl, rfl⟩, ?_⟩, fg1, e108⟩
      · refine b_Mo_comes _ _ _ _ _ ?_
        rcases harr with ⟨z1, z2⟩ | ⟨z1, z2, z3⟩
        · rw [z2] at hB
          simp (maxSteps := 1000000) (disch := omega) only [sh_is0, sh_gI0, sh_wI0, sh_wZ0, sh_gR0, sh_gR1, sh_gR2, sh_lI0, sh_lI1, sh_lI2, sh_sI0, sh_sI1, sh_sI2, sh_len0, sh_len1, sh_len2, sh_lZ0, sh_sZ0, sh_gJ0, sh_wJ0, sh_lR0, sh_lJ0, sh_sJ0, y_eo, y_eb, q1, y_1]
          rw [if_pos (by rw [y_eqI, nI_toInt (by omega), y_lit.1]; omega)]
          simp (maxSteps := 1000000) (disch := omega) only [sh_is0, sh_gI0, sh_wI0, sh_wZ0, sh_gR0, sh_gR1, sh_gR2, sh_lI0, sh_lI1, sh_lI2, sh_sI0, sh_sI1, sh_sI2, sh_len0, sh_len1, sh_len2, sh_lZ0, sh_sZ0, sh_gJ0, sh_wJ0, sh_lR0, sh_lJ0, sh_sJ0, y_eo, y_eb, y_eI, y_eJ, y_eR, y_eV, y_in, nI_clamp, cond_true, y_eqI, y_ltI, y_leI, y_lit, nI_toInt, if_true, if_false, if_pos, if_neg, y_bIt, y_bIf, y_band, q1, y_1, y_up_n, y_up_r, hR.1.2.2.2.2, hsu, hB]
        · rw [z3] at hB
          have e64 := h108 (p.length - 1) (by omega)
          have e2 := (hR.2.2 _ z2).1
          simp (maxSteps := 1000000) (disch := omega) only [sh_is0, sh_gI0, sh_wI0, sh_wZ0, sh_gR0, sh_gR1, sh_gR2, sh_lI0, sh_lI1, sh_lI2, sh_sI0, sh_sI1, sh_sI2, sh_len0, sh_len1, sh_len2, sh_lZ0, sh_sZ0, sh_gJ0, sh_wJ0, sh_lR0, sh_lJ0, sh_sJ0, y_eo, y_eb, q1, y_1]
          rw [if_neg (by rw [y_eqI, nI_toInt (by omega), y_lit.1]; omega)]
          simp (maxSteps := 1000000) (disch := omega) only [sh_is0, sh_gI0, sh_wI0, sh_wZ0, sh_gR0, sh_gR1, sh_gR2, sh_lI0, sh_lI1, sh_lI2, sh_sI0, sh_sI1, sh_sI2, sh_len0, sh_len1, sh_len2, sh_lZ0, sh_sZ0, sh_gJ0, sh_wJ0, sh_lR0, sh_lJ0, sh_sJ0, y_eo, y_eb, y_eI, y_eJ, y_eR, y_eV, y_in, nI_clamp, cond_true, y_eqI, y_ltI, y_leI, y_lit, nI_toInt, if_true, if_false, if_pos, if_neg, y_bIt, y_bIf, y_band, q1, y_1, y_m1, y_up_n, y_up_r, e64, e2, hsu, hB]
      · refine ⟨?_, w2, ?_, ?_, w5, fun i hi => ?_⟩
        · rw [y_up_n (by omega)]; exact w1
        · rw [y_up_n (by omega)]; exact w3
        · rw [y_up_n (by omega)]; exact w4
        · rw [y_up_n (by omega)]; exact w6 i hi
