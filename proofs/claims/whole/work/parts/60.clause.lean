/-! read: one clause, both -/
def y_fK (c : Nat) (I I' : Nat → Nat → Int32) : Prop := ∀ q j, ¬ (q = 66 ∧ j = 5) → ¬ (q = 68 ∧ j = c) → q ≠ 70 + c → I' q j = I q j
def y_cC (n : Nat) (g : Nat → Nat) (p c i : Nat) (xs : Nat → Nat) (F : Bool × Nat) : Prop := ∀ d I J, y_tc n g I → I 66 5 = nI p → ∃ I', zC (d + 7) q_Te_takeClause [.ref 66, .int (nI c)] (xz_SH, I, J) = some (some (.int (y_bI F.1)), (xz_SH, I', J)) ∧ I' 66 5 = nI F.2 ∧ (F.1 = true → I' 68 c = nI i ∧ ∀ j, j < y_K i → I' (70 + c) j = nI (xs j)) ∧ y_fK c I I'
def y_cR (n : Nat) (g : Nat → Nat) (p c i : Nat) (xs : Nat → Nat) (F : Bool × Nat) : Prop := ∀ d I J, y_tr n g I → I 92 23 = nI p → I 92 24 = -1 → I 92 25 = nI c → ∃ I', zC (d + 7) q_Mo_clauseRead [.ref 92] (xz_SH, I, J) = some (none, (xz_SH, I', J)) ∧ y_QR c i xs F I I'
theorem y_cC_of {n : Nat} {g : Nat → Nat} {p c i : Nat} {xs : Nat → Nat} {F : Bool × Nat} (hn : n ≤ 100) (hc : c < 12) (hi : i < 5) (hw : y_wd n g p i) (h : y_cl n g c (y_W i) 0 (true, p + (y_st i).length) F xs) : y_cC n g p c i xs F := by
  intro d I J ht hI
  obtain ⟨w1, w2, w3⟩ := hw
  obtain ⟨W1, W2⟩ := y_K_W i hi
  obtain ⟨I', k1, k2, k3, k4⟩ := h rfl (d + 1) (xz_up (xz_up I 66 5 (nI (p + (y_st i).length))) 68 c (nI i)) J (y_tc_w (by rw [y_up_n (by omega), y_up_n (by omega)]) (fun k => by rw [y_up_n (by omega), y_up_n (by omega)]) ht) (by rw [y_up_n (by omega), y_up_e ⟨rfl, rfl⟩])
  refine ⟨I', b_Te_takeClause _ _ _ _ _ ?_, k2, fun hF => ⟨?_, fun j hj => k3 hF j (Nat.zero_le _) (by omega)⟩, fun q j h1 h2 h3 => ?_⟩
  · rw [show xz_is (xz_SH, I, J) 66 5 = true from rfl, y_eb, w2 d I J ht hI, y_eI, if_neg (by rw [y_eqI, nI_toInt (by omega)]; show ¬ (i : Int) = -1; omega)]
    simp (maxSteps := 1000000) (disch := omega) only [sh_is0, sh_gI0, sh_wI0, sh_wZ0, sh_gR0, sh_gR1, sh_gR2, sh_lI0, sh_lI1, sh_lI2, sh_sI0, sh_sI1, sh_sI2, sh_len0, sh_len1, sh_len2, sh_lZ0, sh_sZ0, sh_gJ0, sh_wJ0, sh_lR0, sh_lJ0, sh_sJ0, y_eo, y_eb, hI]
    rw [y_Te_spelling (d + 5) hi, y_eR, y_st_is (by omega), y_eb, y_sLen (d + 4) (by omega), y_eI, nI_add]
    simp (maxSteps := 1000000) (disch := omega) only [sh_is0, sh_gI0, sh_wI0, sh_wZ0, sh_gR0, sh_gR1, sh_gR2, sh_lI0, sh_lI1, sh_lI2, sh_sI0, sh_sI1, sh_sI2, sh_len0, sh_len1, sh_len2, sh_lZ0, sh_sZ0, sh_gJ0, sh_wJ0, sh_lR0, sh_lJ0, sh_sJ0, y_eo, y_eb, y_in hc (by decide), nI_clamp (show c < 2 ^ 31 by omega), cond_true]
    rw [y_Te_widths (d + 5) hi, y_eR]
    exact k1
  · rw [k4 _ _ (by omega) (by omega), y_up_e ⟨rfl, rfl⟩]
  · rw [k4 _ _ h1 (by omega), y_up_n (by omega), y_up_n (by omega)]
theorem y_clause {n : Nat} {g : Nat → Nat} (hn : n ≤ 100) (hg : ∀ k, k < n → g k ≤ 127) {p c : Nat} (hp : p ≤ n) (hc : c < 12) : ∃ (i : Nat) (xs : Nat → Nat) (F : Bool × Nat), i < 5 ∧ F.2 ≤ n ∧ y_cC n g p c i xs F ∧ y_cR n g p c i xs F := by
  rcases y_word hn hg hp with ⟨i, hi, hw⟩ | ⟨h1, h2⟩
  · have hc5 : i = 0 ∨ i = 1 ∨ i = 2 ∨ i = 3 ∨ i = 4 := by omega
    rcases hc5 with rfl | rfl | rfl | rfl | rfl
    · obtain ⟨v0, s1, b1, a1, r1⟩ := y_st_step hn hg (true, p + (y_st 0).length) hw.1 (show 1 ≤ 1 by omega) (by omega)
      refine ⟨0, fun _ => v0, s1, by omega, b1, y_cC_of hn hc (by omega) hw ?_, fun d I J ht hI hf h25 => ?_⟩
      · exact y_cl_s (k := 0) hc (by decide) (by decide) (by decide) (by decide) rfl a1 (fun _ => rfl) (y_cl_e (by decide) (by decide) s1 _)
      · exact y_rcl0 hn hc rfl r1 rfl b1 ht hf h25 d J (hw.2.2 d I J ht hI)
    · obtain ⟨v0, s1, b1, a1, r1⟩ := y_st_step hn hg (true, p + (y_st 1).length) hw.1 (show 1 ≤ 2 by omega) (by omega)
      obtain ⟨v1, s2, b2, a2, r2⟩ := y_st_step hn hg s1 b1 (show 1 ≤ 1 by omega) (by omega)
      obtain ⟨v2, s3, b3, a3, r3⟩ := y_st_step hn hg s2 b2 (show 1 ≤ 1 by omega) (by omega)
      obtain ⟨v3, s4, b4, a4, r4⟩ := y_st_step hn hg s3 b3 (show 1 ≤ 3 by omega) (by omega)
      have e3 : s3.1 = false → s4 = s3 := fun h => y_stp_f a4 h
      have e2 : s2.1 = false → s4 = s2 := fun h => (e3 (by rw [y_stp_f a3 h]; exact h)).trans (y_stp_f a3 h)
      have e1 : s1.1 = false → s4 = s1 := fun h => (e2 (by rw [y_stp_f a2 h]; exact h)).trans (y_stp_f a2 h)
      refine ⟨1, fun j => match j with | 0 => v0 | 1 => v1 | 2 => v2 | _ => v3, s4, by omega, b4, y_cC_of hn hc (by omega) hw ?_, fun d I J ht hI hf h25 => ?_⟩
      · exact y_cl_s (k := 0) hc (by decide) (by decide) (by decide) (by decide) rfl a1 e1 (y_cl_s (k := 1) hc (by decide) (by decide) (by decide) (by decide) rfl a2 e2 (y_cl_s (k := 2) hc (by decide) (by decide) (by decide) (by decide) rfl a3 e3 (y_cl_s (k := 3) hc (by decide) (by decide) (by decide) (by decide) rfl a4 (fun _ => rfl) (y_cl_e (by decide) (by decide) s4 _))))
      · exact y_rcl1 hn hc rfl r1 rfl r2 rfl r3 rfl r4 rfl b4 ht hf h25 d J (hw.2.2 d I J ht hI)
    · obtain ⟨v0, s1, b1, a1, r1⟩ := y_st_step hn hg (true, p + (y_st 2).length) hw.1 (show 1 ≤ 2 by omega) (by omega)
      refine ⟨2, fun _ => v0, s1, by omega, b1, y_cC_of hn hc (by omega) hw ?_, fun d I J ht hI hf h25 => ?_⟩
      · exact y_cl_s (k := 0) hc (by decide) (by decide) (by decide) (by decide) rfl a1 (fun _ => rfl) (y_cl_e (by decide) (by decide) s1 _)
      · exact y_rcl2 hn hc rfl r1 rfl b1 ht hf h25 d J (hw.2.2 d I J ht hI)
    · obtain ⟨v0, s1, b1, a1, r1⟩ := y_st_step hn hg (true, p + (y_st 3).length) hw.1 (show 1 ≤ 1 by omega) (by omega)
      refine ⟨3, fun _ => v0, s1, by omega, b1, y_cC_of hn hc (by omega) hw ?_, fun d I J ht hI hf h25 => ?_⟩
      · exact y_cl_s (k := 0) hc (by decide) (by decide) (by decide) (by decide) rfl a1 (fun _ => rfl) (y_cl_e (by decide) (by decide) s1 _)
      · exact y_rcl3 hn hc rfl r1 rfl b1 ht hf h25 d J (hw.2.2 d I J ht hI)
    · obtain ⟨v0, s1, b1, a1, r1⟩ := y_st_step hn hg (true, p + (y_st 4).length) hw.1 (show 1 ≤ 1 by omega) (by omega)
      obtain ⟨v1, s2, b2, a2, r2⟩ := y_st_step hn hg s1 b1 (show 1 ≤ 1 by omega) (by omega)
      obtain ⟨v2, s3, b3, a3, r3⟩ := y_st_step hn hg s2 b2 (show 1 ≤ 2 by omega) (by omega)
      have e2 : s2.1 = false → s3 = s2 := fun h => y_stp_f a3 h
      have e1 : s1.1 = false → s3 = s1 := fun h => (e2 (by rw [y_stp_f a2 h]; exact h)).trans (y_stp_f a2 h)
      refine ⟨4, fun j => match j with | 0 => v0 | 1 => v1 | _ => v2, s3, by omega, b3, y_cC_of hn hc (by omega) hw ?_, fun d I J ht hI hf h25 => ?_⟩
      · exact y_cl_s (k := 0) hc (by decide) (by decide) (by decide) (by decide) rfl a1 e1 (y_cl_s (k := 1) hc (by decide) (by decide) (by decide) (by decide) rfl a2 e2 (y_cl_s (k := 2) hc (by decide) (by decide) (by decide) (by decide) rfl a3 (fun _ => rfl) (y_cl_e (by decide) (by decide) s3 _)))
      · exact y_rcl4 hn hc rfl r1 rfl r2 rfl r3 rfl b3 ht hf h25 d J (hw.2.2 d I J ht hI)
  · refine ⟨0, fun _ => 0, (false, p), by omega, hp, fun d I J ht hI => ?_, fun d I J ht hI hf h25 => ?_⟩
    · refine ⟨I, b_Te_takeClause _ _ _ _ _ ?_, hI, fun h => (by cases h), fun _ _ _ _ _ => rfl⟩
      rw [show xz_is (xz_SH, I, J) 66 5 = true from rfl, y_eb, h1 d I J ht hI, y_eI, if_pos rfl]
      rfl
    · refine ⟨xz_up I 92 24 (nI p), b_Mo_clauseRead _ _ _ _ ?_, ⟨fun h => (by cases h), fun _ => y_up_e ⟨rfl, rfl⟩⟩, fun h => (by cases h), fun q j a b c => y_up_n (by omega)⟩
      rw [show xz_is (xz_SH, I, J) 92 8 = true from rfl, y_eb, h2 d I J ht hI, y_eI, show xz_gI (xz_SH, xz_up I 92 24 (nI p), J) 92 8 24 = some (xz_up I 92 24 (nI p) 92 24) from rfl, y_up_e ⟨rfl, rfl⟩, y_eo, if_neg (by rw [y_ltI, nI_toInt (by omega)]; simp only [y_lit]; omega)]
