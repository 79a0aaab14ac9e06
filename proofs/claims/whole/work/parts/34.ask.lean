/-! ASKED OF THE WAYS: reach, ways, way, holder, sureness, by -/
theorem y_run_all {S : y_S} {B : Nat} : ∀ {p : List Nat} {h r v g r' v' : Nat}, y_run S B p h r v = some (g, r', v') → ∀ m, m ∈ p → m < S 1 0
  | [], _, _, _, _, _, _, _, m, hm => by cases hm
  | i :: p, h, r, v, g, r', v', e, m, hm => by
    obtain ⟨h1, x, hx, e1⟩ := y_run_ci e
    rcases List.mem_cons.mp hm with rfl | hm
    · exact h1
    · exact y_run_all e1 m hm
theorem y_rc_le {S : y_S} (hok : y_okM S) {B st g t : Nat} (hst : st ≤ 99) (h : y_rc S B st g = some t) : t ≤ 99 := by
  unfold y_rc at h
  rw [List.min?_eq_some_iff'] at h
  obtain ⟨w, hw, rfl⟩ := List.mem_map.mp h.1
  obtain ⟨_, r', v', e⟩ := (y_wl_mem (y_one.mpr rfl)).mp hw
  exact y_ar_le hok (y_run_all e) hst
/-- what finds may touch -/
def y_ff (I I' : Nat → Nat → Int32) (J J' : Nat → Nat → Int64) : Prop := (∀ q, q ≠ 92 → q ≠ 108 → q ≠ 109 → I' q = I q) ∧ (∀ j, j < 28 ∨ 38 ≤ j → I' 92 j = I 92 j) ∧ ∀ q, q ≠ 92 → J' q = J q
theorem y_ff_sm {I I' : Nat → Nat → Int32} {J J' : Nat → Nat → Int64} (h : y_ff I I' J J') : y_sm I I' J J' := y_sm_fd h.1 h.2.1 h.2.2
theorem y_ff_r (I : Nat → Nat → Int32) (J : Nat → Nat → Int64) : y_ff I I J J := ⟨fun _ _ _ _ => rfl, fun _ _ => rfl, fun _ _ => rfl⟩
theorem y_ff_t {I I' I'' : Nat → Nat → Int32} {J J' J'' : Nat → Nat → Int64} (h : y_ff I I' J J') (h' : y_ff I' I'' J' J'') : y_ff I I'' J J'' := ⟨fun q h1 h2 h3 => (h'.1 q h1 h2 h3).trans (h.1 q h1 h2 h3), fun j hj => (h'.2.1 j hj).trans (h.2.1 j hj), fun q h1 => (h'.2.2 q h1).trans (h.2.2 q h1)⟩
theorem y_vR_ff {S : y_S} {I I' : Nat → Nat → Int32} {J J' : Nat → Nat → Int64} (h : y_ff I I' J J') (hR : y_vR S I) : y_vR S I' := y_vR_of (fun q _ _ => h.1 q (by omega) (by omega) (by omega)) (fun j _ => h.2.1 j (by omega)) hR
/-- finds for all ways, by a rule -/
theorem y_Mo_find6 (d : Nat) {S : y_S} (hok : y_okM S) {rule g : Nat} (hr : rule ≤ 2) (hg6 : g < 6) {I : Nat → Nat → Int32} (J : Nat → Nat → Int64) (hR : y_vR S I) : ∃ I' J', zC (d + 11) q_Mo_finds [.ref 92, .int (nI g), .int (0 : Int32), .int (6 : Int32), .int (nI rule), .int (0 : Int32)] (xz_SH, I, J) = some (none, (xz_SH, I', J')) ∧ y_vQ S (S 0 4) (y_fnd S g 0 6 rule false) I' J' ∧ y_ff I I' J J' := by
  obtain ⟨I', J', f1, f2, f3, f4, f5⟩ := y_Mo_finds d hok (rule := rule) (g := g) (B := 0) (k := 6) (e := false) hr hg6 (by decide) (by decide) J hR
  exact ⟨I', J', f1, f2, f3, f4, f5⟩
theorem y_Mo_reachOf (d : Nat) {S : y_S} (hok : y_okM S) {p : Nat} (hp : p < 6) {I : Nat → Nat → Int32} (J : Nat → Nat → Int64) (hR : y_vR S I) : ∃ I' J', zC (d + 12) q_Mo_reachOf [.ref 92, .int (nI p)] (xz_SH, I, J) = some (some (.int (y_o5 (y_rc S 0 (S 0 4) p))), (xz_SH, I', J')) ∧ y_ff I I' J J' := by
  obtain ⟨I', J', f1, f2, f3⟩ := y_Mo_find6 d hok (rule := 0) (by decide) hp J hR
  have f1' : zC (d + 11) q_Mo_finds [.ref 92, .int (nI p), .int (0 : Int32), .int (6 : Int32), .int (0 : Int32), .int (0 : Int32)] (xz_SH, I, J) = some (none, (xz_SH, I', J')) := f1
  refine ⟨I', J', ?_, f3⟩
  refine b_Mo_reachOf _ _ _ _ _ ?_
  rw [← y_rc_fnd hok p]
  obtain ⟨_, f4⟩ := f2
  cases e : (y_fnd S p 0 6 0 false).2 with
  | none =>
    rw [e] at f4
    have f4' : I' 92 37 = 0 := f4
    simp (maxSteps := 1000000) (disch := omega) only [sh_is0, sh_gI0, sh_wI0, sh_wZ0, sh_gR0, sh_gR1, sh_gR2, sh_lI0, sh_lI1, sh_lI2, sh_sI0, sh_sI1, sh_sI2, sh_len0, sh_len1, sh_len2, sh_lZ0, sh_sZ0, sh_gJ0, sh_wJ0, sh_lR0, sh_lJ0, sh_sJ0, y_eo, y_eb, y_eI, y_eJ, y_eR, y_eV, y_in, nI_clamp, cond_true, y_eqI, y_ltI, y_leI, y_lit, nI_toInt, if_true, if_false, if_pos, if_neg, y_bIt, y_bIf, y_band, f1', f4']
    rfl
  | some q =>
    rw [e] at f4
    simp (maxSteps := 1000000) (disch := omega) only [sh_is0, sh_gI0, sh_wI0, sh_wZ0, sh_gR0, sh_gR1, sh_gR2, sh_lI0, sh_lI1, sh_lI2, sh_sI0, sh_sI1, sh_sI2, sh_len0, sh_len1, sh_len2, sh_lZ0, sh_sZ0, sh_gJ0, sh_wJ0, sh_lR0, sh_lJ0, sh_sJ0, y_eo, y_eb, y_eI, y_eJ, y_eR, y_eV, y_in, nI_clamp, cond_true, y_eqI, y_ltI, y_leI, y_lit, nI_toInt, if_true, if_false, if_pos, if_neg, y_bIt, y_bIf, y_band, f1', f4.1, f4.2.2.2.1]
    rfl
theorem y_Mo_isThereOne (d : Nat) {S : y_S} (hok : y_okM S) {B : Nat} (hB : B < 64) {I : Nat → Nat → Int32} (J : Nat → Nat → Int64) (hR : y_vR S I) : ∃ I' J', zC (d + 12) q_Mo_isThereOne [.ref 92, .int (nI B)] (xz_SH, I, J) = some (some (.int (y_bI (y_rc S B (S 0 4) (S 0 3)).isSome)), (xz_SH, I', J')) ∧ y_ff I I' J J' := by
  obtain ⟨I', J', f1, f2, f3, f4, f5⟩ := y_Mo_finds d hok (rule := 0) (g := S 0 3) (B := B) (k := 6) (e := true) (by decide) (by obtain ⟨k1, k2, k3, k4, k5, k6, k7, k8⟩ := hok; omega) hB (by decide) J hR
  have f1' : zC (d + 11) q_Mo_finds [.ref 92, .int (nI (S 0 3)), .int (nI B), .int (6 : Int32), .int (0 : Int32), .int (1 : Int32)] (xz_SH, I, J) = some (none, (xz_SH, I', J')) := f1
  refine ⟨I', J', ?_, f3, f4, f5⟩
  refine b_Mo_isThereOne _ _ _ _ _ ?_
  rw [← y_rc_one hok]
  obtain ⟨_, f6⟩ := f2
  have c3 := hR.1.2.2.2.1
  cases e : (y_fnd S (S 0 3) B 6 0 true).2 with
  | none =>
    rw [e] at f6
    have f6' : I' 92 37 = 0 := f6
    simp (maxSteps := 1000000) (disch := omega) only [sh_is0, sh_gI0, sh_wI0, sh_wZ0, sh_gR0, sh_gR1, sh_gR2, sh_lI0, sh_lI1, sh_lI2, sh_sI0, sh_sI1, sh_sI2, sh_len0, sh_len1, sh_len2, sh_lZ0, sh_sZ0, sh_gJ0, sh_wJ0, sh_lR0, sh_lJ0, sh_sJ0, y_eo, y_eb, y_eI, y_eJ, y_eR, y_eV, y_in, nI_clamp, cond_true, y_eqI, y_ltI, y_leI, y_lit, nI_toInt, if_true, if_false, if_pos, if_neg, y_bIt, y_bIf, y_band, c3, f1', f6', show xz_nr 1 (0 : Int32) = true from rfl]
    rfl
  | some q =>
    rw [e] at f6
    simp (maxSteps := 1000000) (disch := omega) only [sh_is0, sh_gI0, sh_wI0, sh_wZ0, sh_gR0, sh_gR1, sh_gR2, sh_lI0, sh_lI1, sh_lI2, sh_sI0, sh_sI1, sh_sI2, sh_len0, sh_len1, sh_len2, sh_lZ0, sh_sZ0, sh_gJ0, sh_wJ0, sh_lR0, sh_lJ0, sh_sJ0, y_eo, y_eb, y_eI, y_eJ, y_eR, y_eV, y_in, nI_clamp, cond_true, y_eqI, y_ltI, y_leI, y_lit, nI_toInt, if_true, if_false, if_pos, if_neg, y_bIt, y_bIf, y_band, c3, f1', f6.1, show xz_nr 1 (1 : Int32) = true from rfl]
    rfl
theorem y_Mo_ways (d : Nat) {S : y_S} (hok : y_okM S) {I : Nat → Nat → Int32} (J : Nat → Nat → Int64) (hR : y_vR S I) : ∃ I' J', zC (d + 12) q_Mo_ways [.ref 92] (xz_SH, I, J) = some (some (.int (nI (y_all S 0).1)), (xz_SH, I', J')) ∧ y_ff I I' J J' := by
  have h3 : S 0 3 < 6 := by obtain ⟨k1, k2, k3, k4, k5, k6, k7, k8⟩ := hok; omega
  obtain ⟨I', J', f1, f2, f3⟩ := y_Mo_find6 d hok (rule := 0) (by decide) h3 J hR
  have f1' : zC (d + 11) q_Mo_finds [.ref 92, .int (nI (S 0 3)), .int (0 : Int32), .int (6 : Int32), .int (0 : Int32), .int (0 : Int32)] (xz_SH, I, J) = some (none, (xz_SH, I', J')) := f1
  refine ⟨I', J', ?_, f3⟩
  refine b_Mo_ways _ _ _ _ ?_
  rw [(y_all_fnd hok 0).1]
  have c3 := hR.1.2.2.2.1
  simp (maxSteps := 1000000) (disch := omega) only [sh_is0, sh_gI0, sh_wI0, sh_wZ0, sh_gR0, sh_gR1, sh_gR2, sh_lI0, sh_lI1, sh_lI2, sh_sI0, sh_sI1, sh_sI2, sh_len0, sh_len1, sh_len2, sh_lZ0, sh_sZ0, sh_gJ0, sh_wJ0, sh_lR0, sh_lJ0, sh_sJ0, y_eo, y_eb, y_eI, y_eJ, y_eR, y_eV, y_in, nI_clamp, cond_true, y_eqI, y_ltI, y_leI, y_lit, nI_toInt, if_true, if_false, if_pos, if_neg, y_bIt, y_bIf, y_band, c3, f1', f2.1]
/-- the count does not hang on the rule -/
theorem y_all_1 (S : y_S) (rule : Nat) : (y_all S rule).1 = (y_all S 0).1 := by
  unfold y_all
  rw [y_fold_add, y_fold_add]
theorem y_s_reach (x : Int32) : zSI zR q_HR_reach q_Mo_reach [.int x] := by
  refine y_simI fun S hok hox => ?_
  obtain ⟨k1, k2, k3, k4, k5, k6, k7, k8⟩ := id hok
  cases h : y_rg x 0 (S 0 0 - 1) with
  | false =>
    refine ⟨-1, fun I J hZ => ⟨I, J, ?_, y_sm_r I J⟩, fun I J hZ => ⟨I, J, ?_, y_sm_r I J⟩⟩
    · refine b_HR_reach _ _ _ _ _ ?_
      simp (maxSteps := 1000000) (disch := omega) only [sh_is0, sh_gI0, sh_wI0, sh_wZ0, sh_gR0, sh_gR1, sh_gR2, sh_lI0, sh_lI1, sh_lI2, sh_sI0, sh_sI1, sh_sI2, sh_len0, sh_len1, sh_len2, sh_lZ0, sh_sZ0, sh_gJ0, sh_wJ0, sh_lR0, sh_lJ0, sh_sJ0, y_eo, y_eb, y_eI, y_eJ, y_eR, y_eV, y_in, nI_clamp, cond_true, y_eqI, y_ltI, y_leI, y_lit, nI_toInt, if_true, if_false, if_pos, if_neg, y_bIt, y_bIf, y_band, y_Se_isPerson _ (Or.inl rfl) J hZ.2.1.1.1.1 k2, h]
    · refine b_Mo_reach _ _ _ _ _ ?_
      simp (maxSteps := 1000000) (disch := omega) only [sh_is0, sh_gI0, sh_wI0, sh_wZ0, sh_gR0, sh_gR1, sh_gR2, sh_lI0, sh_lI1, sh_lI2, sh_sI0, sh_sI1, sh_sI2, sh_len0, sh_len1, sh_len2, sh_lZ0, sh_sZ0, sh_gJ0, sh_wJ0, sh_lR0, sh_lJ0, sh_sJ0, y_eo, y_eb, y_eI, y_eJ, y_eR, y_eV, y_in, nI_clamp, cond_true, y_eqI, y_ltI, y_leI, y_lit, nI_toInt, if_true, if_false, if_pos, if_neg, y_bIt, y_bIf, y_band, y_Mo_isPerson _ J hZ.2.2.1.1.1.1 k1 k2, h]
  | true =>
    have h' := y_rgt.mp h
    obtain ⟨p, hp, rfl, hx⟩ := y_of x h'.1
    refine ⟨y_o5 (y_rc S 0 (S 0 4) p), fun I J hZ => ?_, fun I J hZ => ?_⟩
    · obtain ⟨I', f1, f2, f3⟩ := y_Re_fill 55 (Or.inl rfl) hok k6 J hZ.2.1.1
      refine ⟨I', J, ?_, y_sm_59 J f3⟩
      refine b_HR_reach _ _ _ _ _ ?_
      simp (maxSteps := 1000000) (disch := omega) only [sh_is0, sh_gI0, sh_wI0, sh_wZ0, sh_gR0, sh_gR1, sh_gR2, sh_lI0, sh_lI1, sh_lI2, sh_sI0, sh_sI1, sh_sI2, sh_len0, sh_len1, sh_len2, sh_lZ0, sh_sZ0, sh_gJ0, sh_wJ0, sh_lR0, sh_lJ0, sh_sJ0, y_eo, y_eb, y_eI, y_eJ, y_eR, y_eV, y_in, nI_clamp, cond_true, y_eqI, y_ltI, y_leI, y_lit, nI_toInt, if_true, if_false, if_pos, if_neg, y_bIt, y_bIf, y_band, y_Se_isPerson _ (Or.inl rfl) J hZ.2.1.1.1.1 k2, h, hZ.2.1.1.1.2.2.2.2, f1, y_Re_of _ J f2 (show p < 6 by omega)]
    · obtain ⟨I', J', f1, f2⟩ := y_Mo_reachOf 47 hok (p := p) (by omega) J hZ.2.2.1.1
      refine ⟨I', J', ?_, y_ff_sm f2⟩
      refine b_Mo_reach _ _ _ _ _ ?_
      simp (maxSteps := 1000000) (disch := omega) only [sh_is0, sh_gI0, sh_wI0, sh_wZ0, sh_gR0, sh_gR1, sh_gR2, sh_lI0, sh_lI1, sh_lI2, sh_sI0, sh_sI1, sh_sI2, sh_len0, sh_len1, sh_len2, sh_lZ0, sh_sZ0, sh_gJ0, sh_wJ0, sh_lR0, sh_lJ0, sh_sJ0, y_eo, y_eb, y_eI, y_eJ, y_eR, y_eV, y_in, nI_clamp, cond_true, y_eqI, y_ltI, y_leI, y_lit, nI_toInt, if_true, if_false, if_pos, if_neg, y_bIt, y_bIf, y_band, y_Mo_isPerson _ J hZ.2.2.1.1.1.1 k1 k2, h, f1]
theorem y_rule {x : Int32} (h : y_rg x 0 2 = true) : ∃ r : Nat, r ≤ 2 ∧ x = nI r := by
  have h' := y_rgt.mp h
  obtain ⟨r, hr, rfl, hx⟩ := y_of x h'.1
  exact ⟨r, by omega, rfl⟩
theorem y_s_way (x k : Int32) : zSI zR q_HR_way q_Mo_way [.int x, .int k] := by
  refine y_simI fun S hok hox => ?_
  obtain ⟨k1, k2, k3, k4, k5, k6, k7, k8⟩ := id hok
  cases h : y_rg x 0 2 with
  | false =>
    refine ⟨-2, fun I J hZ => ⟨I, J, ?_, y_sm_r I J⟩, fun I J hZ => ⟨I, J, ?_, y_sm_r I J⟩⟩
    · refine b_HR_way _ _ _ _ _ _ ?_
      simp (maxSteps := 1000000) (disch := omega) only [sh_is0, sh_gI0, sh_wI0, sh_wZ0, sh_gR0, sh_gR1, sh_gR2, sh_lI0, sh_lI1, sh_lI2, sh_sI0, sh_sI1, sh_sI2, sh_len0, sh_len1, sh_len2, sh_lZ0, sh_sZ0, sh_gJ0, sh_wJ0, sh_lR0, sh_lJ0, sh_sJ0, y_eo, y_eb, y_eI, y_eJ, y_eR, y_eV, y_in, nI_clamp, cond_true, y_eqI, y_ltI, y_leI, y_lit, nI_toInt, if_true, if_false, if_pos, if_neg, y_bIt, y_bIf, y_band, y_HR_isRule, h]
    · refine b_Mo_way _ _ _ _ _ _ ?_
      simp (maxSteps := 1000000) (disch := omega) only [sh_is0, sh_gI0, sh_wI0, sh_wZ0, sh_gR0, sh_gR1, sh_gR2, sh_lI0, sh_lI1, sh_lI2, sh_sI0, sh_sI1, sh_sI2, sh_len0, sh_len1, sh_len2, sh_lZ0, sh_sZ0, sh_gJ0, sh_wJ0, sh_lR0, sh_lJ0, sh_sJ0, y_eo, y_eb, y_eI, y_eJ, y_eR, y_eV, y_in, nI_clamp, cond_true, y_eqI, y_ltI, y_leI, y_lit, nI_toInt, if_true, if_false, if_pos, if_neg, y_bIt, y_bIf, y_band, y_Mo_isRule, h]
  | true =>
    obtain ⟨rule, hr, rfl⟩ := y_rule h
    have hb := (y_all_fnd hok rule).2
    have hS : ∀ I J, y_Z S I J → _ := fun I J hZ => y_Wa_search 49 (Or.inl rfl) hok hr J hZ.2.1.1
    have hF : ∀ I J, y_Z S I J → _ := fun I J hZ => y_Mo_find6 48 hok (rule := rule) (g := S 0 3) hr (by omega) J hZ.2.2.1.1
    cases e : (y_all S rule).2.1 with
    | none =>
      refine ⟨-5, fun I J hZ => ?_, fun I J hZ => ?_⟩
      · obtain ⟨I', J', f1, f2, f3⟩ := hS I J hZ
        have f4 := f2.2.2.1
        rw [e] at f4
        have f4' : I' 60 2 = -5 := f4
        refine ⟨I', J', ?_, y_sm_fw f3⟩
        refine b_HR_way _ _ _ _ _ _ ?_
        simp (maxSteps := 1000000) (disch := omega) only [sh_is0, sh_gI0, sh_wI0, sh_wZ0, sh_gR0, sh_gR1, sh_gR2, sh_lI0, sh_lI1, sh_lI2, sh_sI0, sh_sI1, sh_sI2, sh_len0, sh_len1, sh_len2, sh_lZ0, sh_sZ0, sh_gJ0, sh_wJ0, sh_lR0, sh_lJ0, sh_sJ0, y_eo, y_eb, y_eI, y_eJ, y_eR, y_eV, y_in, nI_clamp, cond_true, y_eqI, y_ltI, y_leI, y_lit, nI_toInt, if_true, if_false, if_pos, if_neg, y_bIt, y_bIf, y_band, y_HR_isRule, h, f1, f4']
      · obtain ⟨I', J', f1, f2, f3⟩ := hF I J hZ
        have f4 := f2.2
        rw [← hb, e] at f4
        have f4' : I' 92 37 = 0 := f4
        refine ⟨I', J', ?_, y_ff_sm f3⟩
        refine b_Mo_way _ _ _ _ _ _ ?_
        simp (maxSteps := 1000000) (disch := omega) only [sh_is0, sh_gI0, sh_wI0, sh_wZ0, sh_gR0, sh_gR1, sh_gR2, sh_lI0, sh_lI1, sh_lI2, sh_sI0, sh_sI1, sh_sI2, sh_len0, sh_len1, sh_len2, sh_lZ0, sh_sZ0, sh_gJ0, sh_wJ0, sh_lR0, sh_lJ0, sh_sJ0, y_eo, y_eb, y_eI, y_eJ, y_eR, y_eV, y_in, nI_clamp, cond_true, y_eqI, y_ltI, y_leI, y_lit, nI_toInt, if_true, if_false, if_pos, if_neg, y_bIt, y_bIf, y_band, y_Mo_isRule, h, hZ.2.2.1.1.1.2.2.2.1, f1, f4']
    | some q =>
      have hv : ∃ v : Int32, (∀ (I : Nat → Nat → Int32) (J : Nat → Nat → Int64), y_vB S (S 0 4) (S 0 2) (some q) I J → (if k = (-1 : Int32) then nI q.length else if k = (-2 : Int32) then nI (y_ar S (S 0 4) q) else if 0 ≤ k.toInt ∧ k.toInt < q.length then I 61 k.toNatClampNeg else -1) = v) ∧ v = (if k = (-1 : Int32) then nI q.length else if k = (-2 : Int32) then nI (y_ar S (S 0 4) q) else if 0 ≤ k.toInt ∧ k.toInt < q.length then nI (q.getD k.toInt.toNat 0) else -1) := by
        refine ⟨_, fun I J hB => ?_, rfl⟩
        by_cases z1 : k = -1
        · rw [if_pos z1, if_pos z1]
        · rw [if_neg z1, if_neg z1]
          by_cases z2 : k = -2
          · rw [if_pos z2, if_pos z2]
          · rw [if_neg z2, if_neg z2]
            by_cases z3 : 0 ≤ k.toInt ∧ k.toInt < q.length
            · rw [if_pos z3, if_pos z3]
              exact hB.2.2.2.2.1 _ (by show k.toInt.toNat < _; omega)
            · rw [if_neg z3, if_neg z3]
      obtain ⟨v, hv1, hv2⟩ := hv
      refine ⟨v, fun I J hZ => ?_, fun I J hZ => ?_⟩
      · obtain ⟨I', J', f1, f2, f3⟩ := hS I J hZ
        have f4 := f2.2.2.1
        rw [e] at f4
        have a5 := f4.1.1
        refine ⟨I', J', ?_, y_sm_fw f3⟩
        refine b_HR_way _ _ _ _ _ _ ?_
        rw [← hv1 I' J' f4]
        obtain ⟨w1, w2, w3, w4, w5, w6⟩ := f4
        by_cases z1 : k = -1
        · rw [if_pos z1]
          subst z1
          simp (maxSteps := 1000000) (disch := omega) only [sh_is0, sh_gI0, sh_wI0, sh_wZ0, sh_gR0, sh_gR1, sh_gR2, sh_lI0, sh_lI1, sh_lI2, sh_sI0, sh_sI1, sh_sI2, sh_len0, sh_len1, sh_len2, sh_lZ0, sh_sZ0, sh_gJ0, sh_wJ0, sh_lR0, sh_lJ0, sh_sJ0, y_eo, y_eb, y_eI, y_eJ, y_eR, y_eV, y_in, nI_clamp, cond_true, y_eqI, y_ltI, y_leI, y_lit, nI_toInt, if_true, if_false, if_pos, if_neg, y_bIt, y_bIf, y_band, y_HR_isRule, h, f1, w2]
        · rw [if_neg z1]
          have z1' : ¬ k.toInt = -1 := fun z => z1 (by rw [y_eqI]; simp only [y_lit]; exact z)
          by_cases z2 : k = -2
          · rw [if_pos z2]
            subst z2
            simp (maxSteps := 1000000) (disch := omega) only [sh_is0, sh_gI0, sh_wI0, sh_wZ0, sh_gR0, sh_gR1, sh_gR2, sh_lI0, sh_lI1, sh_lI2, sh_sI0, sh_sI1, sh_sI2, sh_len0, sh_len1, sh_len2, sh_lZ0, sh_sZ0, sh_gJ0, sh_wJ0, sh_lR0, sh_lJ0, sh_sJ0, y_eo, y_eb, y_eI, y_eJ, y_eR, y_eV, y_in, nI_clamp, cond_true, y_eqI, y_ltI, y_leI, y_lit, nI_toInt, if_true, if_false, if_pos, if_neg, y_bIt, y_bIf, y_band, y_HR_isRule, h, f1, w2, w3]
          · rw [if_neg z2]
            have z2' : ¬ k.toInt = -2 := fun z => z2 (by rw [y_eqI]; simp only [y_lit]; exact z)
            by_cases z3 : 0 ≤ k.toInt ∧ k.toInt < q.length
            · rw [if_pos z3]
              simp (maxSteps := 1000000) (disch := omega) only [sh_is0, sh_gI0, sh_wI0, sh_wZ0, sh_gR0, sh_gR1, sh_gR2, sh_lI0, sh_lI1, sh_lI2, sh_sI0, sh_sI1, sh_sI2, sh_len0, sh_len1, sh_len2, sh_lZ0, sh_sZ0, sh_gJ0, sh_wJ0, sh_lR0, sh_lJ0, sh_sJ0, y_eo, y_eb, y_eI, y_eJ, y_eR, y_eV, y_in, nI_clamp, cond_true, y_eqI, y_ltI, y_leI, y_lit, nI_toInt, if_true, if_false, if_pos, if_neg, y_bIt, y_bIf, y_band, y_HR_isRule, h, f1, w2, y_inx]
            · rw [if_neg z3]
              by_cases z4 : k.toInt < 0 <;> simp (maxSteps := 1000000) (disch := omega) only [sh_is0, sh_gI0, sh_wI0, sh_wZ0, sh_gR0, sh_gR1, sh_gR2, sh_lI0, sh_lI1, sh_lI2, sh_sI0, sh_sI1, sh_sI2, sh_len0, sh_len1, sh_len2, sh_lZ0, sh_sZ0, sh_gJ0, sh_wJ0, sh_lR0, sh_lJ0, sh_sJ0, y_eo, y_eb, y_eI, y_eJ, y_eR, y_eV, y_in, nI_clamp, cond_true, y_eqI, y_ltI, y_leI, y_lit, nI_toInt, if_true, if_false, if_pos, if_neg, y_bIt, y_bIf, y_band, y_HR_isRule, h, f1, w2]
      · obtain ⟨I', J', f1, f2, f3⟩ := hF I J hZ
        have f4 := f2.2
        rw [← hb, e] at f4
        obtain ⟨w0, w1, w2, w3, w4, w5⟩ := f4
        have a5 := w1.1
        have hc3 := hZ.2.2.1.1.1.2.2.2.1
        refine ⟨I', J', ?_, y_ff_sm f3⟩
        refine b_Mo_way _ _ _ _ _ _ ?_
        rw [hv2]
        have ein : ∀ d M, zC (d + 1) q_Mo_in [.long (Int32.toInt64 k), .long (0 : Int64), .long (Int32.toInt64 (nI q.length - (1 : Int32)))] M = some (some (.int (y_bI (y_rg k 0 ((q.length : Int) - 1)))), M) := fun d M => y_Mo_inH d k _ 0 (by decide) (by
          rcases Nat.eq_zero_or_pos q.length with z | z
          · rw [z]; decide
          · rw [y_m1 (by omega), nI_toInt (by omega)]; omega) M
        by_cases z1 : k = -1
        · rw [if_pos z1]
          subst z1
          simp (maxSteps := 1000000) (disch := omega) only [sh_is0, sh_gI0, sh_wI0, sh_wZ0, sh_gR0, sh_gR1, sh_gR2, sh_lI0, sh_lI1, sh_lI2, sh_sI0, sh_sI1, sh_sI2, sh_len0, sh_len1, sh_len2, sh_lZ0, sh_sZ0, sh_gJ0, sh_wJ0, sh_lR0, sh_lJ0, sh_sJ0, y_eo, y_eb, y_eI, y_eJ, y_eR, y_eV, y_in, nI_clamp, cond_true, y_eqI, y_ltI, y_leI, y_lit, nI_toInt, if_true, if_false, if_pos, if_neg, y_bIt, y_bIf, y_band, y_Mo_isRule, h, hc3, f1, w0, w2]
        · rw [if_neg z1]
          have z1' : ¬ k.toInt = -1 := fun z => z1 (by rw [y_eqI]; simp only [y_lit]; exact z)
          by_cases z2 : k = -2
          · rw [if_pos z2]
            subst z2
            simp (maxSteps := 1000000) (disch := omega) only [sh_is0, sh_gI0, sh_wI0, sh_wZ0, sh_gR0, sh_gR1, sh_gR2, sh_lI0, sh_lI1, sh_lI2, sh_sI0, sh_sI1, sh_sI2, sh_len0, sh_len1, sh_len2, sh_lZ0, sh_sZ0, sh_gJ0, sh_wJ0, sh_lR0, sh_lJ0, sh_sJ0, y_eo, y_eb, y_eI, y_eJ, y_eR, y_eV, y_in, nI_clamp, cond_true, y_eqI, y_ltI, y_leI, y_lit, nI_toInt, if_true, if_false, if_pos, if_neg, y_bIt, y_bIf, y_band, y_Mo_isRule, h, hc3, f1, w0, w2, w3]
          · rw [if_neg z2]
            have z2' : ¬ k.toInt = -2 := fun z => z2 (by rw [y_eqI]; simp only [y_lit]; exact z)
            by_cases z3 : 0 ≤ k.toInt ∧ k.toInt < q.length
            · rw [if_pos z3]
              have e5 : I' 109 k.toNatClampNeg = nI (q.getD k.toInt.toNat 0) := w5 _ (by show k.toInt.toNat < q.length; omega)
              simp (maxSteps := 1000000) (disch := omega) only [sh_is0, sh_gI0, sh_wI0, sh_wZ0, sh_gR0, sh_gR1, sh_gR2, sh_lI0, sh_lI1, sh_lI2, sh_sI0, sh_sI1, sh_sI2, sh_len0, sh_len1, sh_len2, sh_lZ0, sh_sZ0, sh_gJ0, sh_wJ0, sh_lR0, sh_lJ0, sh_sJ0, y_eo, y_eb, y_eI, y_eJ, y_eR, y_eV, y_in, nI_clamp, cond_true, y_eqI, y_ltI, y_leI, y_lit, nI_toInt, if_true, if_false, if_pos, if_neg, y_bIt, y_bIf, y_band, y_Mo_isRule, h, hc3, f1, w0, w2, ein, y_rgt.mpr (show 0 ≤ k.toInt ∧ k.toInt ≤ (q.length : Int) - 1 by omega), y_inx, e5]
            · rw [if_neg z3]
              simp (maxSteps := 1000000) (disch := omega) only [sh_is0, sh_gI0, sh_wI0, sh_wZ0, sh_gR0, sh_gR1, sh_gR2, sh_lI0, sh_lI1, sh_lI2, sh_sI0, sh_sI1, sh_sI2, sh_len0, sh_len1, sh_len2, sh_lZ0, sh_sZ0, sh_gJ0, sh_wJ0, sh_lR0, sh_lJ0, sh_sJ0, y_eo, y_eb, y_eI, y_eJ, y_eR, y_eV, y_in, nI_clamp, cond_true, y_eqI, y_ltI, y_leI, y_lit, nI_toInt, if_true, if_false, if_pos, if_neg, y_bIt, y_bIf, y_band, y_Mo_isRule, h, hc3, f1, w0, w2, ein, y_rgf.mpr (show ¬ (0 ≤ k.toInt ∧ k.toInt ≤ (q.length : Int) - 1) by omega)]
theorem y_s_by (x : Int32) : zSI zR q_HR_by q_Mo_by [.int x] := by
  refine y_simI fun S hok hox => ?_
  obtain ⟨k1, k2, k3, k4, k5, k6, k7, k8⟩ := id hok
  cases h : y_rg x 0 5 with
  | false =>
    have h' := y_rgf.mp h
    refine ⟨-2, fun I J hZ => ⟨I, J, ?_, y_sm_r I J⟩, fun I J hZ => ⟨I, J, ?_, y_sm_r I J⟩⟩
    · refine b_HR_by _ _ _ _ _ ?_
      by_cases z : x.toInt < 0 <;> simp (maxSteps := 1000000) (disch := omega) only [sh_is0, sh_gI0, sh_wI0, sh_wZ0, sh_gR0, sh_gR1, sh_gR2, sh_lI0, sh_lI1, sh_lI2, sh_sI0, sh_sI1, sh_sI2, sh_len0, sh_len1, sh_len2, sh_lZ0, sh_sZ0, sh_gJ0, sh_wJ0, sh_lR0, sh_lJ0, sh_sJ0, y_eo, y_eb, y_eI, y_eJ, y_eR, y_eV, y_in, nI_clamp, cond_true, y_eqI, y_ltI, y_leI, y_lit, nI_toInt, if_true, if_false, if_pos, if_neg, y_bIt, y_bIf, y_band]
    · refine b_Mo_by _ _ _ _ _ ?_
      simp (maxSteps := 1000000) (disch := omega) only [sh_is0, sh_gI0, sh_wI0, sh_wZ0, sh_gR0, sh_gR1, sh_gR2, sh_lI0, sh_lI1, sh_lI2, sh_sI0, sh_sI1, sh_sI2, sh_len0, sh_len1, sh_len2, sh_lZ0, sh_sZ0, sh_gJ0, sh_wJ0, sh_lR0, sh_lJ0, sh_sJ0, y_eo, y_eb, y_eI, y_eJ, y_eR, y_eV, y_in, nI_clamp, cond_true, y_eqI, y_ltI, y_leI, y_lit, nI_toInt, if_true, if_false, if_pos, if_neg, y_bIt, y_bIf, y_band, y_Mo_inI _ x 0 5 (l := 0) (h := 5) (by decide) (by decide), h]
  | true =>
    have h' := y_rgt.mp h
    obtain ⟨k, hk, rfl, hx⟩ := y_of x h'.1
    refine ⟨y_o5 (y_lb (y_all S 0).2.2 (k + 1) 0 none), fun I J hZ => ?_, fun I J hZ => ?_⟩
    · obtain ⟨I', J', f1, f2, f3⟩ := y_Wa_search 49 (Or.inl rfl) hok (rule := 0) (by decide) J hZ.2.1.1
      have f1' : zC 59 q_Wa_search [.ref 60, .ref 1, .int (0 : Int32)] (xz_SH, I, J) = some (none, (xz_SH, I', J')) := f1
      refine ⟨I', J', ?_, y_sm_fw f3⟩
      refine b_HR_by _ _ _ _ _ ?_
      simp (maxSteps := 1000000) (disch := omega) only [sh_is0, sh_gI0, sh_wI0, sh_wZ0, sh_gR0, sh_gR1, sh_gR2, sh_lI0, sh_lI1, sh_lI2, sh_sI0, sh_sI1, sh_sI2, sh_len0, sh_len1, sh_len2, sh_lZ0, sh_sZ0, sh_gJ0, sh_wJ0, sh_lR0, sh_lJ0, sh_sJ0, y_eo, y_eb, y_eI, y_eJ, y_eR, y_eV, y_in, nI_clamp, cond_true, y_eqI, y_ltI, y_leI, y_lit, nI_toInt, if_true, if_false, if_pos, if_neg, y_bIt, y_bIf, y_band, f1', y_Wa_leastBy _ J' f2.2.2.2 (show k ≤ 5 by omega)]
    · obtain ⟨I', J', f1, f2, f3⟩ := y_Mo_finds 48 hok (rule := 0) (g := S 0 3) (B := 0) (k := k) (e := false) (by decide) (by omega) (by decide) (by omega) J hZ.2.2.1.1
      have f1' : zC 59 q_Mo_finds [.ref 92, .int (nI (S 0 3)), .int (0 : Int32), .int (nI k), .int (0 : Int32), .int (0 : Int32)] (xz_SH, I, J) = some (none, (xz_SH, I', J')) := f1
      refine ⟨I', J', ?_, y_sm_fd f3.1 f3.2.1 f3.2.2⟩
      refine b_Mo_by _ _ _ _ _ ?_
      rw [y_by hok (by omega)]
      have hc3 := hZ.2.2.1.1.1.2.2.2.1
      have f4 := f2.2
      cases e : (y_fnd S (S 0 3) 0 k 0 false).2 with
      | none =>
        rw [e] at f4
        have f4' : I' 92 37 = 0 := f4
        simp (maxSteps := 1000000) (disch := omega) only [sh_is0, sh_gI0, sh_wI0, sh_wZ0, sh_gR0, sh_gR1, sh_gR2, sh_lI0, sh_lI1, sh_lI2, sh_sI0, sh_sI1, sh_sI2, sh_len0, sh_len1, sh_len2, sh_lZ0, sh_sZ0, sh_gJ0, sh_wJ0, sh_lR0, sh_lJ0, sh_sJ0, y_eo, y_eb, y_eI, y_eJ, y_eR, y_eV, y_in, nI_clamp, cond_true, y_eqI, y_ltI, y_leI, y_lit, nI_toInt, if_true, if_false, if_pos, if_neg, y_bIt, y_bIf, y_band, y_Mo_inI _ _ 0 5 (l := 0) (h := 5) (by decide) (by decide), h, hc3, f1', f4']
        rfl
      | some q =>
        rw [e] at f4
        simp (maxSteps := 1000000) (disch := omega) only [sh_is0, sh_gI0, sh_wI0, sh_wZ0, sh_gR0, sh_gR1, sh_gR2, sh_lI0, sh_lI1, sh_lI2, sh_sI0, sh_sI1, sh_sI2, sh_len0, sh_len1, sh_len2, sh_lZ0, sh_sZ0, sh_gJ0, sh_wJ0, sh_lR0, sh_lJ0, sh_sJ0, y_eo, y_eb, y_eI, y_eJ, y_eR, y_eV, y_in, nI_clamp, cond_true, y_eqI, y_ltI, y_leI, y_lit, nI_toInt, if_true, if_false, if_pos, if_neg, y_bIt, y_bIf, y_band, y_Mo_inI _ _ 0 5 (l := 0) (h := 5) (by decide) (by decide), h, hc3, f1', f4.1, f4.2.2.2.1]
        rfl
