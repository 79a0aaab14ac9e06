/-! holder, sureness -/
theorem y_oth_i (S : y_S) (m h x : Nat) (e : y_ot S m h = some x) : (y_ot S m h).getD 0 = x := by rw [e]; rfl
/-- a row of meetings that can be gone along -/
def y_trl (S : y_S) : List Nat → Nat → Prop
  | [], _ => True
  | m :: p, h => m < S 1 0 ∧ ∃ x, y_ot S m h = some x ∧ y_trl S p x
theorem y_run_trl {S : y_S} {B : Nat} : ∀ {p : List Nat} {h r v g r' v' : Nat}, y_run S B p h r v = some (g, r', v') → y_trl S p h
  | [], _, _, _, _, _, _, _ => trivial
  | m :: p, h, r, v, g, r', v', e => by
    obtain ⟨h1, x, hx, e1⟩ := y_run_ci e
    exact ⟨h1, x, (y_tk_i hx).2.2.1, y_run_trl e1⟩
theorem y_bst_mem (S : y_S) (st rule : Nat) : ∀ (l : List (List Nat)) (o : Option (List Nat)) (q : List Nat), l.foldl (y_bst S st rule) o = some q → o = some q ∨ q ∈ l
  | [], o, q, h => Or.inl h
  | p :: l, o, q, h => by
    rw [List.foldl_cons] at h
    rcases y_bst_mem S st rule l _ q h with h1 | h1
    · unfold y_bst at h1
      cases o with
      | none =>
        cases h1
        exact Or.inr List.mem_cons_self
      | some q' =>
        dsimp only at h1
        split at h1
        · cases h1
          exact Or.inr List.mem_cons_self
        · exact Or.inl h1
    · exact Or.inr (List.mem_cons_of_mem _ h1)
theorem y_all_trl {S : y_S} {rule : Nat} {q : List Nat} (e : (y_all S rule).2.1 = some q) : y_trl S q (S 0 2) := by
  unfold y_all at e
  rw [y_fold_add] at e
  rcases y_bst_mem S _ _ _ _ _ e with h | h
  · cases h
  · obtain ⟨_, r', v', e1⟩ := (y_wl_mem (y_one.mpr rfl)).mp h
    exact y_run_trl e1
theorem y_trl_hd {S : y_S} (hok : y_okM S) : ∀ {p : List Nat} {h : Nat}, y_trl S p h → h < 6 → ∀ i, i < p.length → ∃ x, p.getD i 0 < S 1 0 ∧ y_ot S (p.getD i 0) (y_hd S h (p.take i)) = some x ∧ y_hd S h (p.take (i + 1)) = x ∧ y_hd S h (p.take i) < 6
  | [], h, _, _, i, hi => by cases hi
  | m :: p, h, ht, h6, i, hi => by
    obtain ⟨h1, x, hx, h2⟩ := ht
    have hx6 := (y_ot_lt hok h1 hx).2
    cases i with
    | zero =>
      refine ⟨x, h1, hx, ?_, h6⟩
      show (y_ot S m h).getD 0 = x
      rw [hx]
      rfl
    | succ i =>
      obtain ⟨y, g1, g2, g3, g4⟩ := y_trl_hd hok h2 hx6 i (by simpa using hi)
      have e : ∀ j, y_hd S h ((m :: p).take (j + 1)) = y_hd S x (p.take j) := by
        intro j
        show y_hd S ((y_ot S m h).getD 0) (p.take j) = _
        rw [hx]
        rfl
      refine ⟨y, ?_, ?_, ?_, ?_⟩
      · simpa using g1
      · rw [e]
        simpa using g2
      · rw [e]
        exact g3
      · rw [e]
        exact g4
theorem y_Mo_holder_l (d : Nat) {S : y_S} (hok : y_okM S) {I : Nat → Nat → Int32} (J : Nat → Nat → Int64) (hR : y_vR S I) {q : List Nat} (hq : y_trl S q (S 0 2)) (hl : q.length ≤ 5) (h109 : ∀ i, i < q.length → I 109 i = nI (q.getD i 0)) {k : Nat} (hk : k ≤ q.length) : ∀ (j i : Nat), i + j = k → zL (d + 1) q_Mo_holder 34 [(0, .ref 92), (2, .int (nI k)), (3, .int (nI (y_hd S (S 0 2) (q.take i)))), (4, .int (nI i))] (xz_SH, I, J) = some (some (.int (nI (y_hd S (S 0 2) (q.take k)))), (xz_SH, I, J))
  | 0, i, hi => by
    refine b_Mo_holder_l34 _ _ _ _ _ _ _ ?_
    have : i = k := by omega
    subst this
    simp (maxSteps := 1000000) (disch := omega) only [y_eo, y_eb, y_eI, y_eJ, y_eR, y_eV, y_in, nI_clamp, cond_true, y_eqI, y_ltI, y_leI, y_lit, nI_toInt, if_true, if_false, if_pos, if_neg, y_bIt, y_bIf, y_band]
  | j + 1, i, hi => by
    have ih := y_Mo_holder_l d hok J hR hq hl h109 hk j (i + 1) (by omega)
    have hf : S 0 2 < 6 := by obtain ⟨k1, k2, k3, k4, k5, k6, k7, k8⟩ := hok; omega
    have hc : S 1 0 ≤ 14 := by obtain ⟨k1, k2, k3, k4, k5, k6, k7, k8⟩ := hok; omega
    obtain ⟨x, g1, g2, g3, g4⟩ := y_trl_hd hok hq hf i (by omega)
    have hO := y_Mo_otherBy d J hR hok g1 (h := y_hd S (S 0 2) (q.take i)) (by omega)
    rw [g2] at hO
    rw [g3] at ih
    refine b_Mo_holder_l34 _ _ _ _ _ _ _ ?_
    have e1 := h109 i (by omega)
    simp (maxSteps := 1000000) (disch := omega) only [sh_is0, sh_gI0, sh_wI0, sh_wZ0, sh_gR0, sh_gR1, sh_gR2, sh_lI0, sh_lI1, sh_lI2, sh_sI0, sh_sI1, sh_sI2, sh_len0, sh_len1, sh_len2, sh_lZ0, sh_sZ0, sh_gJ0, sh_wJ0, sh_lR0, sh_lJ0, sh_sJ0, y_eo, y_eb, y_eI, y_eJ, y_eR, y_eV, y_in, nI_clamp, cond_true, y_eqI, y_ltI, y_leI, y_lit, nI_toInt, if_true, if_false, if_pos, if_neg, y_bIt, y_bIf, y_band, e1, hO, y_o1s, y_1, ih]
theorem y_s_holder (x k : Int32) : zSI zR q_HR_holder q_Mo_holder [.int x, .int k] := by
  refine y_simI fun S hok hox => ?_
  obtain ⟨k1, k2, k3, k4, k5, k6, k7, k8⟩ := id hok
  cases h : y_rg x 0 2 with
  | false =>
    refine ⟨-2, fun I J hZ => ⟨I, J, ?_, y_sm_r I J⟩, fun I J hZ => ⟨I, J, ?_, y_sm_r I J⟩⟩
    · refine b_HR_holder _ _ _ _ _ _ ?_
      simp (maxSteps := 1000000) (disch := omega) only [sh_is0, sh_gI0, sh_wI0, sh_wZ0, sh_gR0, sh_gR1, sh_gR2, sh_lI0, sh_lI1, sh_lI2, sh_sI0, sh_sI1, sh_sI2, sh_len0, sh_len1, sh_len2, sh_lZ0, sh_sZ0, sh_gJ0, sh_wJ0, sh_lR0, sh_lJ0, sh_sJ0, y_eo, y_eb, y_eI, y_eJ, y_eR, y_eV, y_in, nI_clamp, cond_true, y_eqI, y_ltI, y_leI, y_lit, nI_toInt, if_true, if_false, if_pos, if_neg, y_bIt, y_bIf, y_band, y_HR_isRule, h]
    · refine b_Mo_holder _ _ _ _ _ _ ?_
      simp (maxSteps := 1000000) (disch := omega) only [sh_is0, sh_gI0, sh_wI0, sh_wZ0, sh_gR0, sh_gR1, sh_gR2, sh_lI0, sh_lI1, sh_lI2, sh_sI0, sh_sI1, sh_sI2, sh_len0, sh_len1, sh_len2, sh_lZ0, sh_sZ0, sh_gJ0, sh_wJ0, sh_lR0, sh_lJ0, sh_sJ0, y_eo, y_eb, y_eI, y_eJ, y_eR, y_eV, y_in, nI_clamp, cond_true, y_eqI, y_ltI, y_leI, y_lit, nI_toInt, if_true, if_false, if_pos, if_neg, y_bIt, y_bIf, y_band, y_Mo_isRule, h]
  | true =>
    obtain ⟨rule, hr, rfl⟩ := y_rule h
    have hb := (y_all_fnd hok rule).2
    have hS : ∀ I J, y_Z S I J → _ := fun I J hZ => y_Wa_search 49 (Or.inl rfl) hok hr J hZ.2.1.1
    have hF : ∀ I J, y_Z S I J → _ := fun I J hZ => y_Mo_find6 48 hok (rule := rule) (g := S 0 3) hr (by omega) J hZ.2.2.1.1
    cases e : (y_all S rule).2.1 with
    | none =>
      refine ⟨-5, fun I J hZ => ?_, fun I J hZ => ?_⟩
      · obtain ⟨I', J', f1, f2, f3⟩ := hS I J hZ
        have f4 := f2.2.2.1
        rw [e] at f4
        have f4' : I' 60 2 = -5 := f4
        refine ⟨I', J', ?_, y_sm_fw f3⟩
        refine b_HR_holder _ _ _ _ _ _ ?_
        simp (maxSteps := 1000000) (disch := omega) only [sh_is0, sh_gI0, sh_wI0, sh_wZ0, sh_gR0, sh_gR1, sh_gR2, sh_lI0, sh_lI1, sh_lI2, sh_sI0, sh_sI1, sh_sI2, sh_len0, sh_len1, sh_len2, sh_lZ0, sh_sZ0, sh_gJ0, sh_wJ0, sh_lR0, sh_lJ0, sh_sJ0, y_eo, y_eb, y_eI, y_eJ, y_eR, y_eV, y_in, nI_clamp, cond_true, y_eqI, y_ltI, y_leI, y_lit, nI_toInt, if_true, if_false, if_pos, if_neg, y_bIt, y_bIf, y_band, y_HR_isRule, h, f1, f4']
      · obtain ⟨I', J', f1, f2, f3⟩ := hF I J hZ
        have f4 := f2.2
        rw [← hb, e] at f4
        have f4' : I' 92 37 = 0 := f4
        refine ⟨I', J', ?_, y_ff_sm f3⟩
        refine b_Mo_holder _ _ _ _ _ _ ?_
        simp (maxSteps := 1000000) (disch := omega) only [sh_is0, sh_gI0, sh_wI0, sh_wZ0, sh_gR0, sh_gR1, sh_gR2, sh_lI0, sh_lI1, sh_lI2, sh_sI0, sh_sI1, sh_sI2, sh_len0, sh_len1, sh_len2, sh_lZ0, sh_sZ0, sh_gJ0, sh_wJ0, sh_lR0, sh_lJ0, sh_sJ0, y_eo, y_eb, y_eI, y_eJ, y_eR, y_eV, y_in, nI_clamp, cond_true, y_eqI, y_ltI, y_leI, y_lit, nI_toInt, if_true, if_false, if_pos, if_neg, y_bIt, y_bIf, y_band, y_Mo_isRule, h, hZ.2.2.1.1.1.2.2.2.1, f1, f4']
    | some q =>
      have ht := y_all_trl e
      refine ⟨if 0 ≤ k.toInt ∧ k.toInt ≤ q.length then nI (y_hd S (S 0 2) (q.take k.toInt.toNat)) else -1, fun I J hZ => ?_, fun I J hZ => ?_⟩
      · obtain ⟨I', J', f1, f2, f3⟩ := hS I J hZ
        have f4 := f2.2.2.1
        rw [e] at f4
        have a5 := f4.1.1
        refine ⟨I', J', ?_, y_sm_fw f3⟩
        refine b_HR_holder _ _ _ _ _ _ ?_
        obtain ⟨w1, w2, w3, w4, w5, w6⟩ := f4
        by_cases z3 : 0 ≤ k.toInt ∧ k.toInt ≤ q.length
        · rw [if_pos z3]
          have e5 : I' 62 k.toNatClampNeg = nI (y_hd S (S 0 2) (q.take k.toInt.toNat)) := w6 _ (by show k.toInt.toNat ≤ q.length; omega)
          simp (maxSteps := 1000000) (disch := omega) only [sh_is0, sh_gI0, sh_wI0, sh_wZ0, sh_gR0, sh_gR1, sh_gR2, sh_lI0, sh_lI1, sh_lI2, sh_sI0, sh_sI1, sh_sI2, sh_len0, sh_len1, sh_len2, sh_lZ0, sh_sZ0, sh_gJ0, sh_wJ0, sh_lR0, sh_lJ0, sh_sJ0, y_eo, y_eb, y_eI, y_eJ, y_eR, y_eV, y_in, nI_clamp, cond_true, y_eqI, y_ltI, y_leI, y_lit, nI_toInt, if_true, if_false, if_pos, if_neg, y_bIt, y_bIf, y_band, y_HR_isRule, h, f1, w2, y_inx, e5]
        · rw [if_neg z3]
          by_cases z4 : k.toInt < 0 <;> simp (maxSteps := 1000000) (disch := omega) only [sh_is0, sh_gI0, sh_wI0, sh_wZ0, sh_gR0, sh_gR1, sh_gR2, sh_lI0, sh_lI1, sh_lI2, sh_sI0, sh_sI1, sh_sI2, sh_len0, sh_len1, sh_len2, sh_lZ0, sh_sZ0, sh_gJ0, sh_wJ0, sh_lR0, sh_lJ0, sh_sJ0, y_eo, y_eb, y_eI, y_eJ, y_eR, y_eV, y_in, nI_clamp, cond_true, y_eqI, y_ltI, y_leI, y_lit, nI_toInt, if_true, if_false, if_pos, if_neg, y_bIt, y_bIf, y_band, y_HR_isRule, h, f1, w2]
      · obtain ⟨I', J', f1, f2, f3⟩ := hF I J hZ
        have hR' := y_vR_ff f3 hZ.2.2.1.1
        have f4 := f2.2
        rw [← hb, e] at f4
        obtain ⟨w0, w1, w2, w3, w4, w5⟩ := f4
        have a5 := w1.1
        have hc3 := hZ.2.2.1.1.1.2.2.2.1
        refine ⟨I', J', ?_, y_ff_sm f3⟩
        refine b_Mo_holder _ _ _ _ _ _ ?_
        have ein : ∀ d M, zC (d + 1) q_Mo_in [.long (Int32.toInt64 k), .long (0 : Int64), .long (Int32.toInt64 (nI q.length))] M = some (some (.int (y_bI (y_rg k 0 (q.length : Int)))), M) := fun d M => y_Mo_inH d k _ 0 (by decide) (nI_toInt (by omega)) M
        by_cases z3 : 0 ≤ k.toInt ∧ k.toInt ≤ q.length
        · rw [if_pos z3]
          obtain ⟨n, hn, rfl, hx⟩ := y_of k z3.1
          have e6 : ((n : Int)).toNat = n := Int.toNat_natCast n
          rw [hx, e6]
          simp (maxSteps := 1000000) (disch := omega) only [sh_is0, sh_gI0, sh_wI0, sh_wZ0, sh_gR0, sh_gR1, sh_gR2, sh_lI0, sh_lI1, sh_lI2, sh_sI0, sh_sI1, sh_sI2, sh_len0, sh_len1, sh_len2, sh_lZ0, sh_sZ0, sh_gJ0, sh_wJ0, sh_lR0, sh_lJ0, sh_sJ0, y_eo, y_eb, y_eI, y_eJ, y_eR, y_eV, y_in, nI_clamp, cond_true, y_eqI, y_ltI, y_leI, y_lit, nI_toInt, if_true, if_false, if_pos, if_neg, y_bIt, y_bIf, y_band, y_Mo_isRule, h, hc3, f1, w0, w2, ein, y_rgt.mpr z3, hR'.1.2.2.1]
          exact y_Mo_holder_l 58 hok J' hR' ht a5 w5 (by omega) n 0 (by omega)
        · rw [if_neg z3]
          simp (maxSteps := 1000000) (disch := omega) only [sh_is0, sh_gI0, sh_wI0, sh_wZ0, sh_gR0, sh_gR1, sh_gR2, sh_lI0, sh_lI1, sh_lI2, sh_sI0, sh_sI1, sh_sI2, sh_len0, sh_len1, sh_len2, sh_lZ0, sh_sZ0, sh_gJ0, sh_wJ0, sh_lR0, sh_lJ0, sh_sJ0, y_eo, y_eb, y_eI, y_eJ, y_eR, y_eV, y_in, nI_clamp, cond_true, y_eqI, y_ltI, y_leI, y_lit, nI_toInt, if_true, if_false, if_pos, if_neg, y_bIt, y_bIf, y_band, y_Mo_isRule, h, hc3, f1, w0, w2, ein, y_rgf.mpr z3]
/-! sureness -/
theorem y_lNm (a : Nat) (b : Nat) (hb : b < 2 ^ 31) : lN a * Int32.toInt64 (nI b) = lN (a * b) := by rw [nI_l hb, lN_mul]
theorem y_lN100 (a : Nat) : lN a * (100 : Int64) = lN (a * 100) := by rw [show (100 : Int64) = lN 100 from rfl, lN_mul]
theorem y_Mo_sure_l (d : Nat) {S : y_S} (hok : y_okM S) {I : Nat → Nat → Int32} (J : Nat → Nat → Int64) (hR : y_vR S I) {q : List Nat} (hq : y_pth S q) (h33 : I 92 33 = nI q.length) (h109 : ∀ i, i < q.length → I 109 i = nI (q.getD i 0)) (part : Int32) : ∀ (j i : Nat), i + j = q.length → zL (d + 1) q_Mo_sureness 28 [(0, .ref 92), (2, .int part), (3, .long (lN (y_pr S (q.take i)))), (5, .long (lN (100 ^ i))), (7, .int (nI i))] (xz_SH, I, J) = some (some (.long (lN (y_lo (y_pr S q) (100 ^ q.length) part))), (xz_SH, I, J))
  | 0, i, hi => by
    have hl := hq.1
    have e : i = q.length := by omega
    rw [e, List.take_length]
    have hp1 := y_pr_le hok hq.2
    have hp2 : 100 ^ q.length ≤ 100 ^ 5 := Nat.pow_le_pow_right (by decide) hl
    have hp3 : (100 : Nat) ^ 5 = 10000000000 := by decide
    have hL := y_Mo_lowest d (a := y_pr S q) (c := 100 ^ q.length) (by omega) (by omega) (Nat.pow_pos (by decide)) part (xz_SH, I, J)
    refine b_Mo_sureness_l28 _ _ _ _ _ _ _ _ ?_
    simp (maxSteps := 1000000) (disch := omega) only [sh_is0, sh_gI0, sh_wI0, sh_wZ0, sh_gR0, sh_gR1, sh_gR2, sh_lI0, sh_lI1, sh_lI2, sh_sI0, sh_sI1, sh_sI2, sh_len0, sh_len1, sh_len2, sh_lZ0, sh_sZ0, sh_gJ0, sh_wJ0, sh_lR0, sh_lJ0, sh_sJ0, y_eo, y_eb, h33]
    rw [if_pos (by rw [y_leI, nI_toInt (by omega)]; omega), hL]
    rfl
  | j + 1, i, hi => by
    have hl := hq.1
    have ih := y_Mo_sure_l d hok J hR hq h33 h109 part j (i + 1) (by omega)
    have hm : q.getD i 0 < S 1 0 := hq.2 _ (by
      rw [List.getD_eq_getElem?_getD, List.getElem?_eq_getElem (show i < q.length by omega)]
      exact List.getElem_mem _)
    have e1 := h109 i (by omega)
    have m4 := (hR.2.2 _ hm).2.2.2.1
    have h14 := hok.2.2.2.2.2.2.1
    have g7 := (hok.2.2.2.2.2.2.2 _ hm).2.2.2.2.2.1
    rw [y_take_s (by omega), y_pr_app, Nat.pow_succ] at ih
    refine b_Mo_sureness_l28 _ _ _ _ _ _ _ _ ?_
    simp (maxSteps := 1000000) (disch := omega) only [sh_is0, sh_gI0, sh_wI0, sh_wZ0, sh_gR0, sh_gR1, sh_gR2, sh_lI0, sh_lI1, sh_lI2, sh_sI0, sh_sI1, sh_sI2, sh_len0, sh_len1, sh_len2, sh_lZ0, sh_sZ0, sh_gJ0, sh_wJ0, sh_lR0, sh_lJ0, sh_sJ0, y_eo, y_eb, y_eI, y_eJ, y_eR, y_eV, y_in, nI_clamp, cond_true, y_eqI, y_ltI, y_leI, y_lit, nI_toInt, if_true, if_false, if_pos, if_neg, y_bIt, y_bIf, y_band, h33, e1, m4, y_1, y_lNm, y_lN100, ih]
theorem y_s_sureness (x part : Int32) : zSJ zR q_HR_sureness q_Mo_sureness [.int x, .int part] := by
  refine y_simJ fun S hok hox => ?_
  obtain ⟨k1, k2, k3, k4, k5, k6, k7, k8⟩ := id hok
  cases h : y_rg x 0 2 with
  | false =>
    refine ⟨-9223372036854775808, fun I J hZ => ⟨I, J, ?_, y_sm_r I J⟩, fun I J hZ => ⟨I, J, ?_, y_sm_r I J⟩⟩
    · refine b_HR_sureness _ _ _ _ _ _ ?_
      simp (maxSteps := 1000000) (disch := omega) only [sh_is0, sh_gI0, sh_wI0, sh_wZ0, sh_gR0, sh_gR1, sh_gR2, sh_lI0, sh_lI1, sh_lI2, sh_sI0, sh_sI1, sh_sI2, sh_len0, sh_len1, sh_len2, sh_lZ0, sh_sZ0, sh_gJ0, sh_wJ0, sh_lR0, sh_lJ0, sh_sJ0, y_eo, y_eb, y_eI, y_eJ, y_eR, y_eV, y_in, nI_clamp, cond_true, y_eqI, y_ltI, y_leI, y_lit, nI_toInt, if_true, if_false, if_pos, if_neg, y_bIt, y_bIf, y_band, y_HR_isRule, h]
    · refine b_Mo_sureness _ _ _ _ _ _ ?_
      simp (maxSteps := 1000000) (disch := omega) only [sh_is0, sh_gI0, sh_wI0, sh_wZ0, sh_gR0, sh_gR1, sh_gR2, sh_lI0, sh_lI1, sh_lI2, sh_sI0, sh_sI1, sh_sI2, sh_len0, sh_len1, sh_len2, sh_lZ0, sh_sZ0, sh_gJ0, sh_wJ0, sh_lR0, sh_lJ0, sh_sJ0, y_eo, y_eb, y_eI, y_eJ, y_eR, y_eV, y_in, nI_clamp, cond_true, y_eqI, y_ltI, y_leI, y_lit, nI_toInt, if_true, if_false, if_pos, if_neg, y_bIt, y_bIf, y_band, y_Mo_isRule, h]
  | true =>
    obtain ⟨rule, hr, rfl⟩ := y_rule h
    cases h2 : y_rg part 0 1 with
    | false =>
      refine ⟨-9223372036854775808, fun I J hZ => ⟨I, J, ?_, y_sm_r I J⟩, fun I J hZ => ⟨I, J, ?_, y_sm_r I J⟩⟩
      · refine b_HR_sureness _ _ _ _ _ _ ?_
        simp (maxSteps := 1000000) (disch := omega) only [sh_is0, sh_gI0, sh_wI0, sh_wZ0, sh_gR0, sh_gR1, sh_gR2, sh_lI0, sh_lI1, sh_lI2, sh_sI0, sh_sI1, sh_sI2, sh_len0, sh_len1, sh_len2, sh_lZ0, sh_sZ0, sh_gJ0, sh_wJ0, sh_lR0, sh_lJ0, sh_sJ0, y_eo, y_eb, y_eI, y_eJ, y_eR, y_eV, y_in, nI_clamp, cond_true, y_eqI, y_ltI, y_leI, y_lit, nI_toInt, if_true, if_false, if_pos, if_neg, y_bIt, y_bIf, y_band, y_HR_isRule, h, y_HR_isPart, h2]
      · refine b_Mo_sureness _ _ _ _ _ _ ?_
        simp (maxSteps := 1000000) (disch := omega) only [sh_is0, sh_gI0, sh_wI0, sh_wZ0, sh_gR0, sh_gR1, sh_gR2, sh_lI0, sh_lI1, sh_lI2, sh_sI0, sh_sI1, sh_sI2, sh_len0, sh_len1, sh_len2, sh_lZ0, sh_sZ0, sh_gJ0, sh_wJ0, sh_lR0, sh_lJ0, sh_sJ0, y_eo, y_eb, y_eI, y_eJ, y_eR, y_eV, y_in, nI_clamp, cond_true, y_eqI, y_ltI, y_leI, y_lit, nI_toInt, if_true, if_false, if_pos, if_neg, y_bIt, y_bIf, y_band, y_Mo_isRule, h, y_Mo_isPart, h2]
    | true =>
      have hb := (y_all_fnd hok rule).2
      have hS : ∀ I J, y_Z S I J → _ := fun I J hZ => y_Wa_search 49 (Or.inl rfl) hok hr J hZ.2.1.1
      have hF : ∀ I J, y_Z S I J → _ := fun I J hZ => y_Mo_find6 48 hok (rule := rule) (g := S 0 3) hr (by omega) J hZ.2.2.1.1
      cases e : (y_all S rule).2.1 with
      | none =>
        refine ⟨-9223372036854775808, fun I J hZ => ?_, fun I J hZ => ?_⟩
        · obtain ⟨I', J', f1, f2, f3⟩ := hS I J hZ
          have f4 := f2.2.2.1
          rw [e] at f4
          have f4' : I' 60 2 = -5 := f4
          refine ⟨I', J', ?_, y_sm_fw f3⟩
          refine b_HR_sureness _ _ _ _ _ _ ?_
          simp (maxSteps := 1000000) (disch := omega) only [sh_is0, sh_gI0, sh_wI0, sh_wZ0, sh_gR0, sh_gR1, sh_gR2, sh_lI0, sh_lI1, sh_lI2, sh_sI0, sh_sI1, sh_sI2, sh_len0, sh_len1, sh_len2, sh_lZ0, sh_sZ0, sh_gJ0, sh_wJ0, sh_lR0, sh_lJ0, sh_sJ0, y_eo, y_eb, y_eI, y_eJ, y_eR, y_eV, y_in, nI_clamp, cond_true, y_eqI, y_ltI, y_leI, y_lit, nI_toInt, if_true, if_false, if_pos, if_neg, y_bIt, y_bIf, y_band, y_HR_isRule, h, y_HR_isPart, h2, f1, f4']
        · obtain ⟨I', J', f1, f2, f3⟩ := hF I J hZ
          have f4 := f2.2
          rw [← hb, e] at f4
          have f4' : I' 92 37 = 0 := f4
          refine ⟨I', J', ?_, y_ff_sm f3⟩
          refine b_Mo_sureness _ _ _ _ _ _ ?_
          simp (maxSteps := 1000000) (disch := omega) only [sh_is0, sh_gI0, sh_wI0, sh_wZ0, sh_gR0, sh_gR1, sh_gR2, sh_lI0, sh_lI1, sh_lI2, sh_sI0, sh_sI1, sh_sI2, sh_len0, sh_len1, sh_len2, sh_lZ0, sh_sZ0, sh_gJ0, sh_wJ0, sh_lR0, sh_lJ0, sh_sJ0, y_eo, y_eb, y_eI, y_eJ, y_eR, y_eV, y_in, nI_clamp, cond_true, y_eqI, y_ltI, y_leI, y_lit, nI_toInt, if_true, if_false, if_pos, if_neg, y_bIt, y_bIf, y_band, y_Mo_isRule, h, y_Mo_isPart, h2, hZ.2.2.1.1.1.2.2.2.1, f1, f4']
      | some q =>
        refine ⟨lN (y_lo (y_pr S q) (100 ^ q.length) part), fun I J hZ => ?_, fun I J hZ => ?_⟩
        · obtain ⟨I', J', f1, f2, f3⟩ := hS I J hZ
          have f4 := f2.2.2.1
          rw [e] at f4
          have a5 := f4.1.1
          refine ⟨I', J', ?_, y_sm_fw f3⟩
          refine b_HR_sureness _ _ _ _ _ _ ?_
          have hs := y_su_le hok f4.1
          have hL := y_HR_lowest 57 (a := y_su S q) (c := 10000000000) hs (Nat.le_refl _) (by decide) part (xz_SH, I', J')
          have hc : 10000000000 = 100 ^ q.length * 100 ^ (5 - q.length) := by
            rw [← Nat.pow_add, show q.length + (5 - q.length) = 5 by omega]
          have hL' : zC 59 q_HR_lowest [.long (lN (y_su S q)), .long (10000000000 : Int64), .int part] (xz_SH, I', J') = some (some (.long (lN (y_lo (y_pr S q) (100 ^ q.length) part))), (xz_SH, I', J')) := by
            rw [← y_lo_mul (y_pr S q) (100 ^ q.length) (100 ^ (5 - q.length)) (Nat.pow_pos (by decide)) part, ← hc]
            exact hL
          simp (maxSteps := 1000000) (disch := omega) only [sh_is0, sh_gI0, sh_wI0, sh_wZ0, sh_gR0, sh_gR1, sh_gR2, sh_lI0, sh_lI1, sh_lI2, sh_sI0, sh_sI1, sh_sI2, sh_len0, sh_len1, sh_len2, sh_lZ0, sh_sZ0, sh_gJ0, sh_wJ0, sh_lR0, sh_lJ0, sh_sJ0, y_eo, y_eb, y_eI, y_eJ, y_eR, y_eV, y_in, nI_clamp, cond_true, y_eqI, y_ltI, y_leI, y_lit, nI_toInt, if_true, if_false, if_pos, if_neg, y_bIt, y_bIf, y_band, y_HR_isRule, h, y_HR_isPart, h2, f1, f4.2.1, f4.2.2.2.1, hL']
        · obtain ⟨I', J', f1, f2, f3⟩ := hF I J hZ
          have hR' := y_vR_ff f3 hZ.2.2.1.1
          have f4 := f2.2
          rw [← hb, e] at f4
          obtain ⟨w0, w1, w2, w3, w4, w5⟩ := f4
          have hc3 := hZ.2.2.1.1.1.2.2.2.1
          refine ⟨I', J', ?_, y_ff_sm f3⟩
          refine b_Mo_sureness _ _ _ _ _ _ ?_
          simp (maxSteps := 1000000) (disch := omega) only [sh_is0, sh_gI0, sh_wI0, sh_wZ0, sh_gR0, sh_gR1, sh_gR2, sh_lI0, sh_lI1, sh_lI2, sh_sI0, sh_sI1, sh_sI2, sh_len0, sh_len1, sh_len2, sh_lZ0, sh_sZ0, sh_gJ0, sh_wJ0, sh_lR0, sh_lJ0, sh_sJ0, y_eo, y_eb, y_eI, y_eJ, y_eR, y_eV, y_in, nI_clamp, cond_true, y_eqI, y_ltI, y_leI, y_lit, nI_toInt, if_true, if_false, if_pos, if_neg, y_bIt, y_bIf, y_band, y_Mo_isRule, h, y_Mo_isPart, h2, hc3, f1, w0]
          exact y_Mo_sure_l 58 hok J' hR' w1 w2 w5 part q.length 0 (by omega)
