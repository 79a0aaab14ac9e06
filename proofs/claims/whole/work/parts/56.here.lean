/-! read: the word at a place -/
theorem y_Te_spelling (d : Nat) {i : Nat} (hi : i < 5) (M : xz_M) : zC (d + 1) q_Te_spelling [.int (nI i)] M = some (some (.ref (2000 + i)), M) := by
  have hc : i = 0 ∨ i = 1 ∨ i = 2 ∨ i = 3 ∨ i = 4 := by omega
  rcases hc with rfl | rfl | rfl | rfl | rfl
  · exact b_Te_spelling _ _ _ _ (if_pos rfl)
  · refine b_Te_spelling _ _ _ _ ?_
    rw [if_neg (by decide), if_pos (by decide)]
  · refine b_Te_spelling _ _ _ _ ?_
    rw [if_neg (by decide), if_neg (by decide), if_pos (by decide)]
  · refine b_Te_spelling _ _ _ _ ?_
    rw [if_neg (by decide), if_neg (by decide), if_neg (by decide), if_pos (by decide)]
  · refine b_Te_spelling _ _ _ _ ?_
    rw [if_neg (by decide), if_neg (by decide), if_neg (by decide), if_neg (by decide)]
theorem y_w18 {p e i : Nat} (hp : p ≤ e) (he : e < 1000) (hi : i < 5) {b : Bool} (d : Nat) (I : Nat → Nat → Int32) (J : Nat → Nat → Int64) (hI : I 66 5 = nI p) (hs : zC (d + 5) q_Te_isSpelt [.ref 66, .ref (2000 + i), .int (nI (e - p))] (xz_SH, I, J) = some (some (.int (y_bI b)), (xz_SH, I, J))) (r : Option Value × xz_M) (h : match b with | true => r = (some (.int (nI i)), (xz_SH, I, J)) | false => zL (d + 5) q_Te_wordHere 18 [(0, .ref 66), (1, .int (nI e)), (2, .int (nI (i + 1)))] (xz_SH, I, J) = some r) : zL (d + 5) q_Te_wordHere 18 [(0, .ref 66), (1, .int (nI e)), (2, .int (nI i))] (xz_SH, I, J) = some r := by
  refine b_Te_wordHere_l18 _ _ _ _ _ _ ?_
  rw [if_neg (by rw [y_leI, nI_toInt (by omega)]; simp only [y_lit]; omega), y_Te_spelling (d + 4) hi, y_eR]
  simp (maxSteps := 1000000) (disch := omega) only [sh_is0, sh_gI0, sh_wI0, sh_wZ0, sh_gR0, sh_gR1, sh_gR2, sh_lI0, sh_lI1, sh_lI2, sh_sI0, sh_sI1, sh_sI2, sh_len0, sh_len1, sh_len2, sh_lZ0, sh_sZ0, sh_gJ0, sh_wJ0, sh_lR0, sh_lJ0, sh_sJ0, y_eo, y_eb, hI, y_sub hp, hs, y_eI]
  cases b with
  | true =>
    rw [if_neg (by decide)]
    exact congrArg some h.symm
  | false =>
    rw [if_pos (by decide), y_1]
    exact h
def y_wd (n : Nat) (g : Nat → Nat) (p i : Nat) : Prop := p + (y_st i).length ≤ n ∧ (∀ d I J, y_tc n g I → I 66 5 = nI p → zC (d + 6) q_Te_wordHere [.ref 66] (xz_SH, I, J) = some (some (.int (nI i)), (xz_SH, I, J))) ∧ ∀ d I J, y_tr n g I → I 92 23 = nI p → zC (d + 6) q_Mo_wordRead [.ref 92] (xz_SH, I, J) = some (some (.int (nI i)), (xz_SH, xz_up I 92 23 (nI (p + (y_st i).length)), J))
theorem y_word {n : Nat} {g : Nat → Nat} (hn : n ≤ 100) (hg : ∀ k, k < n → g k ≤ 127) {p : Nat} (hp : p ≤ n) : (∃ i, i < 5 ∧ y_wd n g p i) ∨ ((∀ d I J, y_tc n g I → I 66 5 = nI p → zC (d + 6) q_Te_wordHere [.ref 66] (xz_SH, I, J) = some (some (.int (-1)), (xz_SH, I, J))) ∧ ∀ d I J, y_tr n g I → I 92 23 = nI p → zC (d + 6) q_Mo_wordRead [.ref 92] (xz_SH, I, J) = some (some (.int (-1)), (xz_SH, xz_up I 92 24 (nI p), J))) := by
  obtain ⟨e, e1, e2, e3, e4, e5⟩ := y_end hn hg (n - p) p (by omega)
  have c : ∀ d I J r, y_tc n g I → I 66 5 = nI p → zL (d + 5) q_Te_wordHere 18 [(0, .ref 66), (1, .int (nI e)), (2, .int (nI 0))] (xz_SH, I, J) = some r → zC (d + 6) q_Te_wordHere [.ref 66] (xz_SH, I, J) = some r := by
    intro d I J r ht hI h
    refine b_Te_wordHere _ _ _ _ ?_
    simp (maxSteps := 1000000) (disch := omega) only [sh_is0, sh_gI0, sh_wI0, sh_wZ0, sh_gR0, sh_gR1, sh_gR2, sh_lI0, sh_lI1, sh_lI2, sh_sI0, sh_sI1, sh_sI2, sh_len0, sh_len1, sh_len2, sh_lZ0, sh_sZ0, sh_gJ0, sh_wJ0, sh_lR0, sh_lJ0, sh_sJ0, y_eo, y_eb, hI]
    exact e4 (d + 4) I J r ht h
  have a : ∀ d I J r, y_tr n g I → I 92 23 = nI p → zL (d + 5) q_Mo_wordRead 4 [(0, .ref 92), (1, .int (nI e))] (xz_SH, I, J) = some r → zC (d + 6) q_Mo_wordRead [.ref 92] (xz_SH, I, J) = some r := by
    intro d I J r ht hI h
    refine b_Mo_wordRead _ _ _ _ ?_
    simp (maxSteps := 1000000) (disch := omega) only [sh_is0, sh_gI0, sh_wI0, sh_wZ0, sh_gR0, sh_gR1, sh_gR2, sh_lI0, sh_lI1, sh_lI2, sh_sI0, sh_sI1, sh_sI2, sh_len0, sh_len1, sh_len2, sh_lZ0, sh_sZ0, sh_gJ0, sh_wJ0, sh_lR0, sh_lJ0, sh_sJ0, y_eo, y_eb, hI]
    exact e5 (d + 4) I J r ht h
  obtain ⟨b0, s0, t0, u0⟩ := y_sp hn hg e1 e2 0 (by omega)
  obtain ⟨b1, s1, t1, u1⟩ := y_sp hn hg e1 e2 1 (by omega)
  obtain ⟨b2, s2, t2, u2⟩ := y_sp hn hg e1 e2 2 (by omega)
  obtain ⟨b3, s3, t3, u3⟩ := y_sp hn hg e1 e2 3 (by omega)
  obtain ⟨b4, s4, t4, u4⟩ := y_sp hn hg e1 e2 4 (by omega)
  cases b0 with
  | true =>
    refine Or.inl ⟨0, by omega, ?_, fun d I J ht hI => ?_, fun d I J ht hI => ?_⟩
    · rw [← s0 rfl]
      exact e2
    · refine c d I J _ ht hI ?_
      exact y_w18 (i := 0) e1 (by omega) (by omega) d I J hI (t0 d I J ht hI) _ rfl
    · refine a d I J _ ht hI (b_Mo_wordRead_l4 _ _ _ _ _ ?_)
      simp (maxSteps := 1000000) (disch := omega) only [sh_is0, sh_gI0, sh_wI0, sh_wZ0, sh_gR0, sh_gR1, sh_gR2, sh_lI0, sh_lI1, sh_lI2, sh_sI0, sh_sI1, sh_sI2, sh_len0, sh_len1, sh_len2, sh_lZ0, sh_sZ0, sh_gJ0, sh_wJ0, sh_lR0, sh_lJ0, sh_sJ0, y_eo, y_eb]
      rw [y_Mo_signAt (d + 4) J ht (show e < 1000 by omega), y_eI, y_Mo_inI _ (y_sv n g e) 97 122 (l := 97) (h := 122) (by decide) (by decide), e3, y_eI, if_pos (by decide)]
      rw [u0 d I J ht hI, y_eI, if_neg (by decide)]
      rw [if_neg (by decide), ← s0 rfl]
      simp (maxSteps := 1000000) (disch := omega) only [sh_is0, sh_gI0, sh_wI0, sh_wZ0, sh_gR0, sh_gR1, sh_gR2, sh_lI0, sh_lI1, sh_lI2, sh_sI0, sh_sI1, sh_sI2, sh_len0, sh_len1, sh_len2, sh_lZ0, sh_sZ0, sh_gJ0, sh_wJ0, sh_lR0, sh_lJ0, sh_sJ0, y_eo, y_eb]
      rfl
  | false =>
    cases b1 with
    | true =>
      refine Or.inl ⟨1, by omega, ?_, fun d I J ht hI => ?_, fun d I J ht hI => ?_⟩
      · rw [← s1 rfl]
        exact e2
      · refine c d I J _ ht hI ?_
        refine y_w18 (i := 0) e1 (by omega) (by omega) d I J hI (t0 d I J ht hI) _ ?_
        exact y_w18 (i := 1) e1 (by omega) (by omega) d I J hI (t1 d I J ht hI) _ rfl
      · refine a d I J _ ht hI (b_Mo_wordRead_l4 _ _ _ _ _ ?_)
        simp (maxSteps := 1000000) (disch := omega) only [sh_is0, sh_gI0, sh_wI0, sh_wZ0, sh_gR0, sh_gR1, sh_gR2, sh_lI0, sh_lI1, sh_lI2, sh_sI0, sh_sI1, sh_sI2, sh_len0, sh_len1, sh_len2, sh_lZ0, sh_sZ0, sh_gJ0, sh_wJ0, sh_lR0, sh_lJ0, sh_sJ0, y_eo, y_eb]
        rw [y_Mo_signAt (d + 4) J ht (show e < 1000 by omega), y_eI, y_Mo_inI _ (y_sv n g e) 97 122 (l := 97) (h := 122) (by decide) (by decide), e3, y_eI, if_pos (by decide)]
        rw [u0 d I J ht hI, y_eI, if_pos (by decide)]
        rw [u1 d I J ht hI, y_eI, if_neg (by decide)]
        rw [if_neg (by decide), ← s1 rfl]
        simp (maxSteps := 1000000) (disch := omega) only [sh_is0, sh_gI0, sh_wI0, sh_wZ0, sh_gR0, sh_gR1, sh_gR2, sh_lI0, sh_lI1, sh_lI2, sh_sI0, sh_sI1, sh_sI2, sh_len0, sh_len1, sh_len2, sh_lZ0, sh_sZ0, sh_gJ0, sh_wJ0, sh_lR0, sh_lJ0, sh_sJ0, y_eo, y_eb]
        rfl
    | false =>
      cases b2 with
      | true =>
        refine Or.inl ⟨2, by omega, ?_, fun d I J ht hI => ?_, fun d I J ht hI => ?_⟩
        · rw [← s2 rfl]
          exact e2
        · refine c d I J _ ht hI ?_
          refine y_w18 (i := 0) e1 (by omega) (by omega) d I J hI (t0 d I J ht hI) _ ?_
          refine y_w18 (i := 1) e1 (by omega) (by omega) d I J hI (t1 d I J ht hI) _ ?_
          exact y_w18 (i := 2) e1 (by omega) (by omega) d I J hI (t2 d I J ht hI) _ rfl
        · refine a d I J _ ht hI (b_Mo_wordRead_l4 _ _ _ _ _ ?_)
          simp (maxSteps := 1000000) (disch := omega) only [sh_is0, sh_gI0, sh_wI0, sh_wZ0, sh_gR0, sh_gR1, sh_gR2, sh_lI0, sh_lI1, sh_lI2, sh_sI0, sh_sI1, sh_sI2, sh_len0, sh_len1, sh_len2, sh_lZ0, sh_sZ0, sh_gJ0, sh_wJ0, sh_lR0, sh_lJ0, sh_sJ0, y_eo, y_eb]
          rw [y_Mo_signAt (d + 4) J ht (show e < 1000 by omega), y_eI, y_Mo_inI _ (y_sv n g e) 97 122 (l := 97) (h := 122) (by decide) (by decide), e3, y_eI, if_pos (by decide)]
          rw [u0 d I J ht hI, y_eI, if_pos (by decide)]
          rw [u1 d I J ht hI, y_eI, if_pos (by decide)]
          rw [u2 d I J ht hI, y_eI, if_neg (by decide)]
          rw [if_neg (by decide), ← s2 rfl]
          simp (maxSteps := 1000000) (disch := omega) only [sh_is0, sh_gI0, sh_wI0, sh_wZ0, sh_gR0, sh_gR1, sh_gR2, sh_lI0, sh_lI1, sh_lI2, sh_sI0, sh_sI1, sh_sI2, sh_len0, sh_len1, sh_len2, sh_lZ0, sh_sZ0, sh_gJ0, sh_wJ0, sh_lR0, sh_lJ0, sh_sJ0, y_eo, y_eb]
          rfl
      | false =>
        cases b3 with
        | true =>
          refine Or.inl ⟨3, by omega, ?_, fun d I J ht hI => ?_, fun d I J ht hI => ?_⟩
          · rw [← s3 rfl]
            exact e2
          · refine c d I J _ ht hI ?_
            refine y_w18 (i := 0) e1 (by omega) (by omega) d I J hI (t0 d I J ht hI) _ ?_
            refine y_w18 (i := 1) e1 (by omega) (by omega) d I J hI (t1 d I J ht hI) _ ?_
            refine y_w18 (i := 2) e1 (by omega) (by omega) d I J hI (t2 d I J ht hI) _ ?_
            exact y_w18 (i := 3) e1 (by omega) (by omega) d I J hI (t3 d I J ht hI) _ rfl
          · refine a d I J _ ht hI (b_Mo_wordRead_l4 _ _ _ _ _ ?_)
            simp (maxSteps := 1000000) (disch := omega) only [sh_is0, sh_gI0, sh_wI0, sh_wZ0, sh_gR0, sh_gR1, sh_gR2, sh_lI0, sh_lI1, sh_lI2, sh_sI0, sh_sI1, sh_sI2, sh_len0, sh_len1, sh_len2, sh_lZ0, sh_sZ0, sh_gJ0, sh_wJ0, sh_lR0, sh_lJ0, sh_sJ0, y_eo, y_eb]
            rw [y_Mo_signAt (d + 4) J ht (show e < 1000 by omega), y_eI, y_Mo_inI _ (y_sv n g e) 97 122 (l := 97) (h := 122) (by decide) (by decide), e3, y_eI, if_pos (by decide)]
            rw [u0 d I J ht hI, y_eI, if_pos (by decide)]
            rw [u1 d I J ht hI, y_eI, if_pos (by decide)]
            rw [u2 d I J ht hI, y_eI, if_pos (by decide)]
            rw [u3 d I J ht hI, y_eI, if_neg (by decide)]
            rw [if_neg (by decide), ← s3 rfl]
            simp (maxSteps := 1000000) (disch := omega) only [sh_is0, sh_gI0, sh_wI0, sh_wZ0, sh_gR0, sh_gR1, sh_gR2, sh_lI0, sh_lI1, sh_lI2, sh_sI0, sh_sI1, sh_sI2, sh_len0, sh_len1, sh_len2, sh_lZ0, sh_sZ0, sh_gJ0, sh_wJ0, sh_lR0, sh_lJ0, sh_sJ0, y_eo, y_eb]
            rfl
        | false =>
          cases b4 with
          | true =>
            refine Or.inl ⟨4, by omega, ?_, fun d I J ht hI => ?_, fun d I J ht hI => ?_⟩
            · rw [← s4 rfl]
              exact e2
            · refine c d I J _ ht hI ?_
              refine y_w18 (i := 0) e1 (by omega) (by omega) d I J hI (t0 d I J ht hI) _ ?_
              refine y_w18 (i := 1) e1 (by omega) (by omega) d I J hI (t1 d I J ht hI) _ ?_
              refine y_w18 (i := 2) e1 (by omega) (by omega) d I J hI (t2 d I J ht hI) _ ?_
              refine y_w18 (i := 3) e1 (by omega) (by omega) d I J hI (t3 d I J ht hI) _ ?_
              exact y_w18 (i := 4) e1 (by omega) (by omega) d I J hI (t4 d I J ht hI) _ rfl
            · refine a d I J _ ht hI (b_Mo_wordRead_l4 _ _ _ _ _ ?_)
              simp (maxSteps := 1000000) (disch := omega) only [sh_is0, sh_gI0, sh_wI0, sh_wZ0, sh_gR0, sh_gR1, sh_gR2, sh_lI0, sh_lI1, sh_lI2, sh_sI0, sh_sI1, sh_sI2, sh_len0, sh_len1, sh_len2, sh_lZ0, sh_sZ0, sh_gJ0, sh_wJ0, sh_lR0, sh_lJ0, sh_sJ0, y_eo, y_eb]
              rw [y_Mo_signAt (d + 4) J ht (show e < 1000 by omega), y_eI, y_Mo_inI _ (y_sv n g e) 97 122 (l := 97) (h := 122) (by decide) (by decide), e3, y_eI, if_pos (by decide)]
              rw [u0 d I J ht hI, y_eI, if_pos (by decide)]
              rw [u1 d I J ht hI, y_eI, if_pos (by decide)]
              rw [u2 d I J ht hI, y_eI, if_pos (by decide)]
              rw [u3 d I J ht hI, y_eI, if_pos (by decide)]
              rw [u4 d I J ht hI, y_eI, if_neg (by decide)]
              rw [if_neg (by decide), ← s4 rfl]
              simp (maxSteps := 1000000) (disch := omega) only [sh_is0, sh_gI0, sh_wI0, sh_wZ0, sh_gR0, sh_gR1, sh_gR2, sh_lI0, sh_lI1, sh_lI2, sh_sI0, sh_sI1, sh_sI2, sh_len0, sh_len1, sh_len2, sh_lZ0, sh_sZ0, sh_gJ0, sh_wJ0, sh_lR0, sh_lJ0, sh_sJ0, y_eo, y_eb]
              rfl
          | false =>
            refine Or.inr ⟨fun d I J ht hI => ?_, fun d I J ht hI => ?_⟩
            · refine c d I J _ ht hI ?_
              refine y_w18 (i := 0) e1 (by omega) (by omega) d I J hI (t0 d I J ht hI) _ ?_
              refine y_w18 (i := 1) e1 (by omega) (by omega) d I J hI (t1 d I J ht hI) _ ?_
              refine y_w18 (i := 2) e1 (by omega) (by omega) d I J hI (t2 d I J ht hI) _ ?_
              refine y_w18 (i := 3) e1 (by omega) (by omega) d I J hI (t3 d I J ht hI) _ ?_
              refine y_w18 (i := 4) e1 (by omega) (by omega) d I J hI (t4 d I J ht hI) _ ?_
              refine b_Te_wordHere_l18 _ _ _ _ _ _ ?_
              rw [if_pos (by decide)]
            · refine a d I J _ ht hI (b_Mo_wordRead_l4 _ _ _ _ _ ?_)
              simp (maxSteps := 1000000) (disch := omega) only [sh_is0, sh_gI0, sh_wI0, sh_wZ0, sh_gR0, sh_gR1, sh_gR2, sh_lI0, sh_lI1, sh_lI2, sh_sI0, sh_sI1, sh_sI2, sh_len0, sh_len1, sh_len2, sh_lZ0, sh_sZ0, sh_gJ0, sh_wJ0, sh_lR0, sh_lJ0, sh_sJ0, y_eo, y_eb]
              rw [y_Mo_signAt (d + 4) J ht (show e < 1000 by omega), y_eI, y_Mo_inI _ (y_sv n g e) 97 122 (l := 97) (h := 122) (by decide) (by decide), e3, y_eI, if_pos (by decide)]
              rw [u0 d I J ht hI, y_eI, if_pos (by decide)]
              rw [u1 d I J ht hI, y_eI, if_pos (by decide)]
              rw [u2 d I J ht hI, y_eI, if_pos (by decide)]
              rw [u3 d I J ht hI, y_eI, if_pos (by decide)]
              rw [u4 d I J ht hI, y_eI, if_pos (by decide)]
              rw [if_pos trivial]
              simp (maxSteps := 1000000) (disch := omega) only [sh_is0, sh_gI0, sh_wI0, sh_wZ0, sh_gR0, sh_gR1, sh_gR2, sh_lI0, sh_lI1, sh_lI2, sh_sI0, sh_sI1, sh_sI2, sh_len0, sh_len1, sh_len2, sh_lZ0, sh_sZ0, sh_gJ0, sh_wJ0, sh_lR0, sh_lJ0, sh_sJ0, y_eo, y_eb, hI]
