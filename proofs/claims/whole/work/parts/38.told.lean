/-! LATEST; told -/
theorem y_tk_congr {S T : y_S} (h : ∀ m, T 2 m = S 2 m ∧ T 3 m = S 3 m ∧ T 4 m = S 4 m ∧ T 6 m = S 6 m) (B m x r v : Nat) : y_tk T B m x r v = y_tk S B m x r v := by
  obtain ⟨h2, h3, h4, h6⟩ := h m
  unfold y_tk y_ot
  rw [h2, h3, h4, h6]
theorem y_wl_congr {S T : y_S} (h01 : T 0 1 = S 0 1) (h10 : T 1 0 = S 1 0) (h : ∀ m, T 2 m = S 2 m ∧ T 3 m = S 3 m ∧ T 4 m = S 4 m ∧ T 6 m = S 6 m) (g B : Nat) : ∀ k x r v, y_wl T g B k x r v = y_wl S g B k x r v
  | 0, x, r, v => rfl
  | k + 1, x, r, v => by
    have ih := y_wl_congr h01 h10 h g B k
    show (if x = g then [[]] else y_wm (fun m y => y_wl T g B k y (T 2 m + T 0 1) (v ||| 1 <<< y)) (fun m => y_tk T B m x r v) (T 1 0) 0) = (if x = g then [[]] else y_wm (fun m y => y_wl S g B k y (S 2 m + S 0 1) (v ||| 1 <<< y)) (fun m => y_tk S B m x r v) (S 1 0) 0)
    have e1 : (fun m y => y_wl T g B k y (T 2 m + T 0 1) (v ||| 1 <<< y)) = (fun m y => y_wl S g B k y (S 2 m + S 0 1) (v ||| 1 <<< y)) := by
      funext m y
      rw [ih, (h m).1, h01]
    have e2 : (fun m => y_tk T B m x r v) = (fun m => y_tk S B m x r v) := by
      funext m
      exact y_tk_congr h B m x r v
    rw [e1, e2, h10]
theorem y_ar_congr {S T : y_S} (h : ∀ m, T 2 m = S 2 m) : ∀ (p : List Nat) (st : Nat), y_ar T st p = y_ar S st p
  | [], _ => rfl
  | m :: p, st => by
    show y_ar T (T 2 m) p = y_ar S (S 2 m) p
    rw [h m]
    exact y_ar_congr h p (S 2 m)
theorem y_rc_congr {S T : y_S} (h01 : T 0 1 = S 0 1) (h02 : T 0 2 = S 0 2) (h10 : T 1 0 = S 1 0) (h : ∀ m, T 2 m = S 2 m ∧ T 3 m = S 3 m ∧ T 4 m = S 4 m ∧ T 6 m = S 6 m) (B st g : Nat) : y_rc T B st g = y_rc S B st g := by
  unfold y_rc
  rw [y_wl_congr h01 h10 h, h02]
  congr 1
  refine List.map_congr_left fun p _ => y_ar_congr (fun m => (h m).1) p st
/-- S with another START -/
def y_sS (S : y_S) (t : Nat) : y_S := fun k j => if k = 0 ∧ j = 4 then t else S k j
theorem y_sS4 (S : y_S) (t : Nat) : y_sS S t 0 4 = t := by unfold y_sS; rw [if_pos ⟨rfl, rfl⟩]
theorem y_sSn (S : y_S) (t k j : Nat) (h : k ≠ 0 ∨ j ≠ 4) : y_sS S t k j = S k j := by unfold y_sS; rw [if_neg (by omega)]
theorem y_sS_rc (S : y_S) (t B st g : Nat) : y_rc (y_sS S t) B st g = y_rc S B st g := y_rc_congr (y_sSn S t 0 1 (by omega)) (y_sSn S t 0 2 (by omega)) (y_sSn S t 1 0 (by omega)) (fun m => ⟨y_sSn S t 2 m (by omega), y_sSn S t 3 m (by omega), y_sSn S t 4 m (by omega), y_sSn S t 6 m (by omega)⟩) B st g
theorem y_sS_ok {S : y_S} (hok : y_okM S) {t : Nat} (ht : t ≤ 99) : y_okM (y_sS S t) := by
  obtain ⟨k1, k2, k3, k4, k5, k6, k7, k8⟩ := hok
  unfold y_okM
  rw [y_sSn S t 0 0 (by omega), y_sSn S t 0 1 (by omega), y_sSn S t 0 2 (by omega), y_sSn S t 0 3 (by omega), y_sS4, y_sSn S t 1 0 (by omega)]
  refine ⟨k1, k2, k3, k4, k5, ht, k7, fun m hm => ?_⟩
  rw [y_sSn S t 2 m (by omega), y_sSn S t 3 m (by omega), y_sSn S t 4 m (by omega), y_sSn S t 5 m (by omega), y_sSn S t 6 m (by omega)]
  exact k8 m hm
theorem y_sS_vR {S : y_S} {I : Nat → Nat → Int32} (hR : y_vR S I) (t : Nat) : y_vR (y_sS S t) (xz_up I 92 10 (nI t)) := by
  obtain ⟨⟨c0, c1, c2, c3, c4⟩, h1, h2⟩ := hR
  unfold y_vR
  rw [y_sSn S t 0 0 (by omega), y_sSn S t 0 1 (by omega), y_sSn S t 0 2 (by omega), y_sSn S t 0 3 (by omega), y_sS4, y_sSn S t 1 0 (by omega)]
  refine ⟨⟨?_, ?_, ?_, ?_, ?_⟩, ?_, fun m hm => ?_⟩
  · rw [y_up_n (by omega)]; exact c0
  · rw [y_up_n (by omega)]; exact c1
  · rw [y_up_n (by omega)]; exact c2
  · rw [y_up_n (by omega)]; exact c3
  · rw [y_up_e ⟨rfl, rfl⟩]
  · rw [y_up_n (by omega)]; exact h1
  · rw [y_sSn S t 2 m (by omega), y_sSn S t 3 m (by omega), y_sSn S t 4 m (by omega), y_sSn S t 5 m (by omega), y_sSn S t 6 m (by omega), y_up_r (by omega), y_up_r (by omega), y_up_r (by omega), y_up_r (by omega), y_up_r (by omega)]
    exact h2 m hm
/-- the greatest below j, the last from m on -/
def y_lt (P : Nat → Bool) : Nat → Option Nat
  | 0 => none
  | j + 1 => if P j = true then some j else y_lt P j
def y_lu (P : Nat → Bool) : Nat → Nat → Option Nat → Option Nat
  | 0, _, o => o
  | j + 1, m, o => y_lu P j (m + 1) (if P m = true then some m else o)
theorem y_lu_s (P : Nat → Bool) : ∀ (j m : Nat) (o : Option Nat), y_lu P (j + 1) m o = if P (m + j) = true then some (m + j) else y_lu P j m o
  | 0, m, o => rfl
  | j + 1, m, o => by
    show y_lu P (j + 1) (m + 1) (if P m = true then some m else o) = _
    rw [y_lu_s P j (m + 1), show m + 1 + j = m + (j + 1) by omega]
    rfl
theorem y_lu_lt (P : Nat → Bool) : ∀ j, y_lu P j 0 none = y_lt P j
  | 0 => rfl
  | j + 1 => by
    rw [y_lu_s, y_lu_lt P j, Nat.zero_add]
    rfl
def y_pd (j : Nat) : Int32 := match j with
  | 0 => -1
  | j + 1 => nI j
theorem y_pd_s (j : Nat) : nI j + (-1 : Int32) = y_pd j := by
  cases j with
  | zero => decide
  | succ j =>
    show nI (j + 1) + (-1 : Int32) = nI j
    rw [← nI_pred j, Int32.sub_eq_add_neg]
theorem y_HR_latest_l (d : Nat) {S : y_S} (hok : y_okM S) (J : Nat → Nat → Int64) : ∀ (j : Nat) (I : Nat → Nat → Int32), j ≤ 100 → y_vM 1 S I → ∃ I', zL (d + 4) q_HR_latest 3 [(0, .ref 0), (1, .int (y_pd j))] (xz_SH, I, J) = some (some (.int (y_o5 (y_lt (fun t => (y_rc S 0 t (S 0 3)).isSome) j))), (xz_SH, I', J)) ∧ ∀ q, q ≠ 59 → I' q = I q
  | 0, I, hj, hM => by
    refine ⟨I, ?_, fun _ _ => rfl⟩
    refine b_HR_latest_l3 _ _ _ _ _ ?_
    rw [if_pos (show y_pd 0 < 0 by decide)]
    rfl
  | j + 1, I, hj, hM => by
    obtain ⟨k1, k2, k3, k4, k5, k6, k7, k8⟩ := id hok
    obtain ⟨I1, f1, f2, f3⟩ := y_Re_fill d (Or.inl rfl) hok (st := j) (by omega) J hM
    have hM1 : y_vM 1 S I1 := y_vM_of (fun q _ _ => f3 q (by omega)) hM
    have hO := y_Re_of (d + 3) J f2 (show S 0 3 < 6 by omega)
    have hl := (f2 (S 0 3) (by omega)).2
    show ∃ I', zL (d + 4) q_HR_latest 3 [(0, .ref 0), (1, .int (nI j))] (xz_SH, I, J) = some (some (.int (y_o5 (if (y_rc S 0 j (S 0 3)).isSome = true then some j else y_lt (fun t => (y_rc S 0 t (S 0 3)).isSome) j))), (xz_SH, I', J)) ∧ ∀ q, q ≠ 59 → I' q = I q
    cases e : (y_rc S 0 j (S 0 3)).isSome with
    | true =>
      rw [if_pos rfl]
      refine ⟨I1, ?_, f3⟩
      refine b_HR_latest_l3 _ _ _ _ _ ?_
      simp (maxSteps := 1000000) (disch := omega) only [sh_is0, sh_gI0, sh_wI0, sh_wZ0, sh_gR0, sh_gR1, sh_gR2, sh_lI0, sh_lI1, sh_lI2, sh_sI0, sh_sI1, sh_sI2, sh_len0, sh_len1, sh_len2, sh_lZ0, sh_sZ0, sh_gJ0, sh_wJ0, sh_lR0, sh_lJ0, sh_sJ0, y_eo, y_eb, y_eI, y_eJ, y_eR, y_eV, y_in, nI_clamp, cond_true, y_eqI, y_ltI, y_leI, y_lit, nI_toInt, if_true, if_false, if_pos, if_neg, y_bIt, y_bIf, y_band, f1, hM1.1.2.2.2.1, hO, y_lt0o _ hl, e, Bool.true_eq_false, y_o5s]
    | false =>
      rw [if_neg (by simp)]
      obtain ⟨I', g1, g2⟩ := y_HR_latest_l d hok J j I1 (by omega) hM1
      refine ⟨I', ?_, fun q hq => (g2 q hq).trans (f3 q hq)⟩
      refine b_HR_latest_l3 _ _ _ _ _ ?_
      simp (maxSteps := 1000000) (disch := omega) only [sh_is0, sh_gI0, sh_wI0, sh_wZ0, sh_gR0, sh_gR1, sh_gR2, sh_lI0, sh_lI1, sh_lI2, sh_sI0, sh_sI1, sh_sI2, sh_len0, sh_len1, sh_len2, sh_lZ0, sh_sZ0, sh_gJ0, sh_wJ0, sh_lR0, sh_lJ0, sh_sJ0, y_eo, y_eb, y_eI, y_eJ, y_eR, y_eV, y_in, nI_clamp, cond_true, y_eqI, y_ltI, y_leI, y_lit, nI_toInt, if_true, if_false, if_pos, if_neg, y_bIt, y_bIf, y_band, f1, hM1.1.2.2.2.1, hO, y_lt0o _ hl, e, y_pd_s]
      exact g1
theorem y_HR_latest (d : Nat) {S : y_S} (hok : y_okM S) {I : Nat → Nat → Int32} (J : Nat → Nat → Int64) (hM : y_vM 1 S I) : ∃ I', zC (d + 5) q_HR_latest [.ref 0] (xz_SH, I, J) = some (some (.int (y_o5 (y_lt (fun t => (y_rc S 0 t (S 0 3)).isSome) 100))), (xz_SH, I', J)) ∧ ∀ q, q ≠ 59 → I' q = I q := by
  obtain ⟨I', f1, f2⟩ := y_HR_latest_l d hok J 100 I (by omega) hM
  exact ⟨I', b_HR_latest _ _ _ _ f1, f2⟩
/-- START stands where a loop over starts left it; all else as finds leaves it -/
def y_fs (I I' : Nat → Nat → Int32) (J J' : Nat → Nat → Int64) : Prop := (∀ q, q ≠ 92 → q ≠ 108 → q ≠ 109 → I' q = I q) ∧ (∀ j, j < 28 ∨ 38 ≤ j → j ≠ 10 → I' 92 j = I 92 j) ∧ ∀ q, q ≠ 92 → J' q = J q
theorem y_Mo_latest_l (d : Nat) {S : y_S} (hok : y_okM S) (w : Nat) : ∀ (j t : Nat) (o : Option Nat) (I : Nat → Nat → Int32) (J : Nat → Nat → Int64), t + j = 100 → (∃ u, y_vR (y_sS S u) I) → ∃ I' J', zL (d + 12) q_Mo_latest 8 [(0, .ref 92), (1, .int (nI w)), (2, .int (y_o5 o)), (3, .int (nI t))] (xz_SH, I, J) = some (some (.int (y_o5 (y_lu (fun t => (y_rc S 0 t (S 0 3)).isSome) j t o))), (xz_SH, I', J')) ∧ y_fs I I' J J' ∧ I' 92 10 = nI w
  | 0, t, o, I, J, ht, hR => by
    refine ⟨xz_up I 92 10 (nI w), J, ?_, ⟨fun q h1 h2 h3 => y_up_r h1, fun j h1 h2 => y_up_n (by omega), fun _ _ => rfl⟩, y_up_e ⟨rfl, rfl⟩⟩
    refine b_Mo_latest_l8 _ _ _ _ _ _ _ ?_
    simp (maxSteps := 1000000) (disch := omega) only [sh_is0, sh_gI0, sh_wI0, sh_wZ0, sh_gR0, sh_gR1, sh_gR2, sh_lI0, sh_lI1, sh_lI2, sh_sI0, sh_sI1, sh_sI2, sh_len0, sh_len1, sh_len2, sh_lZ0, sh_sZ0, sh_gJ0, sh_wJ0, sh_lR0, sh_lJ0, sh_sJ0, y_eo, y_eb, y_eI, y_eJ, y_eR, y_eV, y_in, nI_clamp, cond_true, y_eqI, y_ltI, y_leI, y_lit, nI_toInt, if_true, if_false, if_pos, if_neg, y_bIt, y_bIf, y_band]
    rfl
  | j + 1, t, o, I, J, ht, hR => by
    obtain ⟨k1, k2, k3, k4, k5, k6, k7, k8⟩ := id hok
    obtain ⟨u, hR⟩ := hR
    have hR1 : y_vR (y_sS S t) (xz_up I 92 10 (nI t)) := by
      have := y_sS_vR hR t
      have e : y_sS (y_sS S u) t = y_sS S t := by
        funext k j
        unfold y_sS
        by_cases h : k = 0 ∧ j = 4
        · rw [if_pos h, if_pos h]
        · rw [if_neg h, if_neg h, if_neg h]
      rw [e] at this
      exact this
    obtain ⟨I1, J1, f1, f2⟩ := y_Mo_isThereOne d (y_sS_ok hok (t := t) (by omega)) (B := 0) (by decide) J hR1
    rw [y_sS_rc, y_sS4, y_sSn S t 0 3 (by omega)] at f1
    have f1' : zC (d + 12) q_Mo_isThereOne [.ref 92, .int (0 : Int32)] (xz_SH, xz_up I 92 10 (nI t), J) = some (some (.int (y_bI (y_rc S 0 t (S 0 3)).isSome)), (xz_SH, I1, J1)) := f1
    obtain ⟨I', J', g1, g2, g3⟩ := y_Mo_latest_l d hok w j (t + 1) (if (y_rc S 0 t (S 0 3)).isSome = true then some t else o) I1 J1 (by omega) ⟨t, y_vR_ff f2 hR1⟩
    refine ⟨I', J', ?_, ⟨fun q h1 h2 h3 => ?_, fun j h1 h2 => ?_, fun q hq => ?_⟩, g3⟩
    · refine b_Mo_latest_l8 _ _ _ _ _ _ _ ?_
      show _ = some (some (Value.int (y_o5 (y_lu (fun t => (y_rc S 0 t (S 0 3)).isSome) j (t + 1) (if (y_rc S 0 t (S 0 3)).isSome = true then some t else o)))), ((xz_SH, I', J') : xz_M))
      rw [← g1]
      cases e : (y_rc S 0 t (S 0 3)).isSome with
      | true =>
        rw [e] at f1'
        simp (maxSteps := 1000000) (disch := omega) only [sh_is0, sh_gI0, sh_wI0, sh_wZ0, sh_gR0, sh_gR1, sh_gR2, sh_lI0, sh_lI1, sh_lI2, sh_sI0, sh_sI1, sh_sI2, sh_len0, sh_len1, sh_len2, sh_lZ0, sh_sZ0, sh_gJ0, sh_wJ0, sh_lR0, sh_lJ0, sh_sJ0, y_eo, y_eb, y_eI, y_eJ, y_eR, y_eV, y_in, nI_clamp, cond_true, y_eqI, y_ltI, y_leI, y_lit, nI_toInt, if_true, if_false, if_pos, if_neg, y_bIt, y_bIf, y_band, f1', y_1, y_o5s]
      | false =>
        rw [e] at f1'
        simp (maxSteps := 1000000) (disch := omega) only [sh_is0, sh_gI0, sh_wI0, sh_wZ0, sh_gR0, sh_gR1, sh_gR2, sh_lI0, sh_lI1, sh_lI2, sh_sI0, sh_sI1, sh_sI2, sh_len0, sh_len1, sh_len2, sh_lZ0, sh_sZ0, sh_gJ0, sh_wJ0, sh_lR0, sh_lJ0, sh_sJ0, y_eo, y_eb, y_eI, y_eJ, y_eR, y_eV, y_in, nI_clamp, cond_true, y_eqI, y_ltI, y_leI, y_lit, nI_toInt, if_true, if_false, if_pos, if_neg, y_bIt, y_bIf, y_band, f1', y_1, Bool.false_eq_true]
    · rw [g2.1 q h1 h2 h3, f2.1 q h1 h2 h3, y_up_r h1]
    · rw [g2.2.1 j h1 h2, f2.2.1 j h1, y_up_n (by omega)]
    · rw [g2.2.2 q hq, f2.2.2 q hq]
theorem y_Mo_latest (d : Nat) {S : y_S} (hok : y_okM S) {I : Nat → Nat → Int32} (J : Nat → Nat → Int64) (hR : y_vR S I) : ∃ I' J', zC (d + 13) q_Mo_latest [.ref 92] (xz_SH, I, J) = some (some (.int (y_o5 (y_lt (fun t => (y_rc S 0 t (S 0 3)).isSome) 100))), (xz_SH, I', J')) ∧ y_ff I I' J J' := by
  have e : y_sS S (S 0 4) = S := by
    funext k j
    unfold y_sS
    by_cases h : k = 0 ∧ j = 4
    · rw [if_pos h, h.1, h.2]
    · rw [if_neg h]
  obtain ⟨I', J', f1, f2, f3⟩ := y_Mo_latest_l d hok (S 0 4) 100 0 none I J (by omega) ⟨S 0 4, by rw [e]; exact hR⟩
  rw [y_lu_lt] at f1
  refine ⟨I', J', ?_, f2.1, fun j hj => ?_, f2.2.2⟩
  · refine b_Mo_latest _ _ _ _ ?_
    simp (maxSteps := 1000000) (disch := omega) only [sh_is0, sh_gI0, sh_wI0, sh_wZ0, sh_gR0, sh_gR1, sh_gR2, sh_lI0, sh_lI1, sh_lI2, sh_sI0, sh_sI1, sh_sI2, sh_len0, sh_len1, sh_len2, sh_lZ0, sh_sZ0, sh_gJ0, sh_wJ0, sh_lR0, sh_lJ0, sh_sJ0, y_eo, y_eb, y_eI, y_eJ, y_eR, y_eV, y_in, nI_clamp, cond_true, y_eqI, y_ltI, y_leI, y_lit, nI_toInt, if_true, if_false, if_pos, if_neg, y_bIt, y_bIf, y_band, hR.1.2.2.2.2]
    exact f1
  · by_cases h : j = 10
    · rw [h, f3, hR.1.2.2.2.2]
    · exact f2.2.1 j hj h
theorem y_simI2 {q q' : Nat} {as : List Value} (h : ∀ S I J, y_Z S I J → ∃ v I1 J1, zC 60 q (.ref 0 :: as) (xz_SH, I, J) = some (some (.int v), (xz_SH, I1, J1)) ∧ y_sm I I1 J J1 ∧ y_qI q' 92 as S v) : zSI zR q q' as := by
  rintro M ⟨S, I, J, rfl, hZ⟩
  obtain ⟨v, I1, J1, f1, f2, h2⟩ := h S I J hZ
  have hZ1 := y_Z_sm f2 hZ
  obtain ⟨I2, J2, g1, g2⟩ := h2 I1 J1 hZ1
  exact ⟨v, _, _, f1, rfl, g1, S, I2, J2, rfl, y_Z_sm g2 hZ1⟩
theorem y_t12 (x : Int32) : x = 0 ∨ x = 1 ∨ x = 2 ∨ x = 3 ∨ x = 4 ∨ x = 5 ∨ x = 6 ∨ x = 7 ∨ x = 8 ∨ x = 9 ∨ x = 10 ∨ x = 11 ∨ (¬ x = 0 ∧ ¬ x = 1 ∧ ¬ x = 2 ∧ ¬ x = 3 ∧ ¬ x = 4 ∧ ¬ x = 5 ∧ ¬ x = 6 ∧ ¬ x = 7 ∧ ¬ x = 8 ∧ ¬ x = 9 ∧ ¬ x = 10 ∧ ¬ x = 11) := by
  simp only [y_eqI, y_lit]
  omega

theorem y_s_told (x : Int32) : zSI zR q_HR_told q_Mo_told [.int x] := by
  refine y_simI2 fun S I J hZ => ?_
  have hok := hZ.1.1
  obtain ⟨k1, k2, k3, k4, k5, k6, k7, k8⟩ := id hok
  rcases y_t12 x with rfl | rfl | rfl | rfl | rfl | rfl | rfl | rfl | rfl | rfl | rfl | rfl | ⟨e0, e1, e2, e3, e4, e5, e6, e7, e8, e9, e10, e11⟩
  · refine ⟨nI (S 0 0), I, J, ?_, y_sm_r I J, fun I J hZ => ⟨I, J, ?_, y_sm_r I J⟩⟩
    · refine b_HR_told _ _ _ _ _ ?_
      rw [if_pos rfl]
      simp (maxSteps := 1000000) (disch := omega) only [sh_is0, sh_gI0, sh_wI0, sh_wZ0, sh_gR0, sh_gR1, sh_gR2, sh_lI0, sh_lI1, sh_lI2, sh_sI0, sh_sI1, sh_sI2, sh_len0, sh_len1, sh_len2, sh_lZ0, sh_sZ0, sh_gJ0, sh_wJ0, sh_lR0, sh_lJ0, sh_sJ0, y_eo, y_eb, y_eI, y_eJ, y_eR, y_eV, y_in, nI_clamp, cond_true, y_eqI, y_ltI, y_leI, y_lit, nI_toInt, if_true, if_false, if_pos, if_neg, y_bIt, y_bIf, y_band, hZ.2.1.1.1.1]
    · refine b_Mo_told _ _ _ _ _ ?_
      rw [if_pos rfl]
      simp (maxSteps := 1000000) (disch := omega) only [sh_is0, sh_gI0, sh_wI0, sh_wZ0, sh_gR0, sh_gR1, sh_gR2, sh_lI0, sh_lI1, sh_lI2, sh_sI0, sh_sI1, sh_sI2, sh_len0, sh_len1, sh_len2, sh_lZ0, sh_sZ0, sh_gJ0, sh_wJ0, sh_lR0, sh_lJ0, sh_sJ0, y_eo, y_eb, y_eI, y_eJ, y_eR, y_eV, y_in, nI_clamp, cond_true, y_eqI, y_ltI, y_leI, y_lit, nI_toInt, if_true, if_false, if_pos, if_neg, y_bIt, y_bIf, y_band, hZ.2.2.1.1.1.1]
  · refine ⟨nI (y_lf S), I, J, ?_, y_sm_r I J, fun I J hZ => ⟨I, J, ?_, y_sm_r I J⟩⟩
    · refine b_HR_told _ _ _ _ _ ?_
      rw [if_neg (by decide), if_pos rfl]
      simp (maxSteps := 1000000) (disch := omega) only [sh_is0, sh_gI0, sh_wI0, sh_wZ0, sh_gR0, sh_gR1, sh_gR2, sh_lI0, sh_lI1, sh_lI2, sh_sI0, sh_sI1, sh_sI2, sh_len0, sh_len1, sh_len2, sh_lZ0, sh_sZ0, sh_gJ0, sh_wJ0, sh_lR0, sh_lJ0, sh_sJ0, y_eo, y_eb, y_eI, y_eJ, y_eR, y_eV, y_in, nI_clamp, cond_true, y_eqI, y_ltI, y_leI, y_lit, nI_toInt, if_true, if_false, if_pos, if_neg, y_bIt, y_bIf, y_band, y_Me_left _ (Or.inl rfl) J hZ.2.1.1 hok]
    · refine b_Mo_told _ _ _ _ _ ?_
      rw [if_neg (by decide), if_pos rfl]
      simp (maxSteps := 1000000) (disch := omega) only [sh_is0, sh_gI0, sh_wI0, sh_wZ0, sh_gR0, sh_gR1, sh_gR2, sh_lI0, sh_lI1, sh_lI2, sh_sI0, sh_sI1, sh_sI2, sh_len0, sh_len1, sh_len2, sh_lZ0, sh_sZ0, sh_gJ0, sh_wJ0, sh_lR0, sh_lJ0, sh_sJ0, y_eo, y_eb, y_eI, y_eJ, y_eR, y_eV, y_in, nI_clamp, cond_true, y_eqI, y_ltI, y_leI, y_lit, nI_toInt, if_true, if_false, if_pos, if_neg, y_bIt, y_bIf, y_band, y_Mo_left _ J hZ.2.2.1.1 hok]
  · refine ⟨nI (S 0 1), I, J, ?_, y_sm_r I J, fun I J hZ => ⟨I, J, ?_, y_sm_r I J⟩⟩
    · refine b_HR_told _ _ _ _ _ ?_
      rw [if_neg (by decide), if_neg (by decide), if_pos rfl]
      simp (maxSteps := 1000000) (disch := omega) only [sh_is0, sh_gI0, sh_wI0, sh_wZ0, sh_gR0, sh_gR1, sh_gR2, sh_lI0, sh_lI1, sh_lI2, sh_sI0, sh_sI1, sh_sI2, sh_len0, sh_len1, sh_len2, sh_lZ0, sh_sZ0, sh_gJ0, sh_wJ0, sh_lR0, sh_lJ0, sh_sJ0, y_eo, y_eb, y_eI, y_eJ, y_eR, y_eV, y_in, nI_clamp, cond_true, y_eqI, y_ltI, y_leI, y_lit, nI_toInt, if_true, if_false, if_pos, if_neg, y_bIt, y_bIf, y_band, hZ.2.1.1.1.2.1]
    · refine b_Mo_told _ _ _ _ _ ?_
      rw [if_neg (by decide), if_neg (by decide), if_pos rfl]
      simp (maxSteps := 1000000) (disch := omega) only [sh_is0, sh_gI0, sh_wI0, sh_wZ0, sh_gR0, sh_gR1, sh_gR2, sh_lI0, sh_lI1, sh_lI2, sh_sI0, sh_sI1, sh_sI2, sh_len0, sh_len1, sh_len2, sh_lZ0, sh_sZ0, sh_gJ0, sh_wJ0, sh_lR0, sh_lJ0, sh_sJ0, y_eo, y_eb, y_eI, y_eJ, y_eR, y_eV, y_in, nI_clamp, cond_true, y_eqI, y_ltI, y_leI, y_lit, nI_toInt, if_true, if_false, if_pos, if_neg, y_bIt, y_bIf, y_band, hZ.2.2.1.1.1.2.1]
  · refine ⟨nI (S 0 2), I, J, ?_, y_sm_r I J, fun I J hZ => ⟨I, J, ?_, y_sm_r I J⟩⟩
    · refine b_HR_told _ _ _ _ _ ?_
      rw [if_neg (by decide), if_neg (by decide), if_neg (by decide), if_pos rfl]
      simp (maxSteps := 1000000) (disch := omega) only [sh_is0, sh_gI0, sh_wI0, sh_wZ0, sh_gR0, sh_gR1, sh_gR2, sh_lI0, sh_lI1, sh_lI2, sh_sI0, sh_sI1, sh_sI2, sh_len0, sh_len1, sh_len2, sh_lZ0, sh_sZ0, sh_gJ0, sh_wJ0, sh_lR0, sh_lJ0, sh_sJ0, y_eo, y_eb, y_eI, y_eJ, y_eR, y_eV, y_in, nI_clamp, cond_true, y_eqI, y_ltI, y_leI, y_lit, nI_toInt, if_true, if_false, if_pos, if_neg, y_bIt, y_bIf, y_band, hZ.2.1.1.1.2.2.1]
    · refine b_Mo_told _ _ _ _ _ ?_
      rw [if_neg (by decide), if_neg (by decide), if_neg (by decide), if_pos rfl]
      simp (maxSteps := 1000000) (disch := omega) only [sh_is0, sh_gI0, sh_wI0, sh_wZ0, sh_gR0, sh_gR1, sh_gR2, sh_lI0, sh_lI1, sh_lI2, sh_sI0, sh_sI1, sh_sI2, sh_len0, sh_len1, sh_len2, sh_lZ0, sh_sZ0, sh_gJ0, sh_wJ0, sh_lR0, sh_lJ0, sh_sJ0, y_eo, y_eb, y_eI, y_eJ, y_eR, y_eV, y_in, nI_clamp, cond_true, y_eqI, y_ltI, y_leI, y_lit, nI_toInt, if_true, if_false, if_pos, if_neg, y_bIt, y_bIf, y_band, hZ.2.2.1.1.1.2.2.1]
  · refine ⟨nI (S 0 3), I, J, ?_, y_sm_r I J, fun I J hZ => ⟨I, J, ?_, y_sm_r I J⟩⟩
    · refine b_HR_told _ _ _ _ _ ?_
      rw [if_neg (by decide), if_neg (by decide), if_neg (by decide), if_neg (by decide), if_pos rfl]
      simp (maxSteps := 1000000) (disch := omega) only [sh_is0, sh_gI0, sh_wI0, sh_wZ0, sh_gR0, sh_gR1, sh_gR2, sh_lI0, sh_lI1, sh_lI2, sh_sI0, sh_sI1, sh_sI2, sh_len0, sh_len1, sh_len2, sh_lZ0, sh_sZ0, sh_gJ0, sh_wJ0, sh_lR0, sh_lJ0, sh_sJ0, y_eo, y_eb, y_eI, y_eJ, y_eR, y_eV, y_in, nI_clamp, cond_true, y_eqI, y_ltI, y_leI, y_lit, nI_toInt, if_true, if_false, if_pos, if_neg, y_bIt, y_bIf, y_band, hZ.2.1.1.1.2.2.2.1]
    · refine b_Mo_told _ _ _ _ _ ?_
      rw [if_neg (by decide), if_neg (by decide), if_neg (by decide), if_neg (by decide), if_pos rfl]
      simp (maxSteps := 1000000) (disch := omega) only [sh_is0, sh_gI0, sh_wI0, sh_wZ0, sh_gR0, sh_gR1, sh_gR2, sh_lI0, sh_lI1, sh_lI2, sh_sI0, sh_sI1, sh_sI2, sh_len0, sh_len1, sh_len2, sh_lZ0, sh_sZ0, sh_gJ0, sh_wJ0, sh_lR0, sh_lJ0, sh_sJ0, y_eo, y_eb, y_eI, y_eJ, y_eR, y_eV, y_in, nI_clamp, cond_true, y_eqI, y_ltI, y_leI, y_lit, nI_toInt, if_true, if_false, if_pos, if_neg, y_bIt, y_bIf, y_band, hZ.2.2.1.1.1.2.2.2.1]
  · refine ⟨nI (S 0 4), I, J, ?_, y_sm_r I J, fun I J hZ => ⟨I, J, ?_, y_sm_r I J⟩⟩
    · refine b_HR_told _ _ _ _ _ ?_
      rw [if_neg (by decide), if_neg (by decide), if_neg (by decide), if_neg (by decide), if_neg (by decide), if_pos rfl]
      simp (maxSteps := 1000000) (disch := omega) only [sh_is0, sh_gI0, sh_wI0, sh_wZ0, sh_gR0, sh_gR1, sh_gR2, sh_lI0, sh_lI1, sh_lI2, sh_sI0, sh_sI1, sh_sI2, sh_len0, sh_len1, sh_len2, sh_lZ0, sh_sZ0, sh_gJ0, sh_wJ0, sh_lR0, sh_lJ0, sh_sJ0, y_eo, y_eb, y_eI, y_eJ, y_eR, y_eV, y_in, nI_clamp, cond_true, y_eqI, y_ltI, y_leI, y_lit, nI_toInt, if_true, if_false, if_pos, if_neg, y_bIt, y_bIf, y_band, hZ.2.1.1.1.2.2.2.2]
    · refine b_Mo_told _ _ _ _ _ ?_
      rw [if_neg (by decide), if_neg (by decide), if_neg (by decide), if_neg (by decide), if_neg (by decide), if_pos rfl]
      simp (maxSteps := 1000000) (disch := omega) only [sh_is0, sh_gI0, sh_wI0, sh_wZ0, sh_gR0, sh_gR1, sh_gR2, sh_lI0, sh_lI1, sh_lI2, sh_sI0, sh_sI1, sh_sI2, sh_len0, sh_len1, sh_len2, sh_lZ0, sh_sZ0, sh_gJ0, sh_wJ0, sh_lR0, sh_lJ0, sh_sJ0, y_eo, y_eb, y_eI, y_eJ, y_eR, y_eV, y_in, nI_clamp, cond_true, y_eqI, y_ltI, y_leI, y_lit, nI_toInt, if_true, if_false, if_pos, if_neg, y_bIt, y_bIf, y_band, hZ.2.2.1.1.1.2.2.2.2]
  · obtain ⟨I', J', f1, f2, f3⟩ := y_Wa_search 49 (Or.inl rfl) hok (rule := 0) (by decide) J hZ.2.1.1
    have f1' : zC 59 q_Wa_search [.ref 60, .ref 1, .int (0 : Int32)] (xz_SH, I, J) = some (none, (xz_SH, I', J')) := f1
    refine ⟨nI (y_all S 0).1, I', J', ?_, y_sm_fw f3, fun I J hZ => ?_⟩
    · refine b_HR_told _ _ _ _ _ ?_
      rw [if_neg (by decide), if_neg (by decide), if_neg (by decide), if_neg (by decide), if_neg (by decide), if_neg (by decide), if_pos rfl]
      simp (maxSteps := 1000000) (disch := omega) only [sh_is0, sh_gI0, sh_wI0, sh_wZ0, sh_gR0, sh_gR1, sh_gR2, sh_lI0, sh_lI1, sh_lI2, sh_sI0, sh_sI1, sh_sI2, sh_len0, sh_len1, sh_len2, sh_lZ0, sh_sZ0, sh_gJ0, sh_wJ0, sh_lR0, sh_lJ0, sh_sJ0, y_eo, y_eb, y_eI, y_eJ, y_eR, y_eV, y_in, nI_clamp, cond_true, y_eqI, y_ltI, y_leI, y_lit, nI_toInt, if_true, if_false, if_pos, if_neg, y_bIt, y_bIf, y_band, f1', f2.2.1]
    · obtain ⟨I', J', g1, g2⟩ := y_Mo_ways 47 hok J hZ.2.2.1.1
      refine ⟨I', J', ?_, y_ff_sm g2⟩
      refine b_Mo_told _ _ _ _ _ ?_
      rw [if_neg (by decide), if_neg (by decide), if_neg (by decide), if_neg (by decide), if_neg (by decide), if_neg (by decide), if_pos rfl]
      simp (maxSteps := 1000000) (disch := omega) only [sh_is0, sh_gI0, sh_wI0, sh_wZ0, sh_gR0, sh_gR1, sh_gR2, sh_lI0, sh_lI1, sh_lI2, sh_sI0, sh_sI1, sh_sI2, sh_len0, sh_len1, sh_len2, sh_lZ0, sh_sZ0, sh_gJ0, sh_wJ0, sh_lR0, sh_lJ0, sh_sJ0, y_eo, y_eb, y_eI, y_eJ, y_eR, y_eV, y_in, nI_clamp, cond_true, y_eqI, y_ltI, y_leI, y_lit, nI_toInt, if_true, if_false, if_pos, if_neg, y_bIt, y_bIf, y_band, g1]
  · obtain ⟨I', f1, f2⟩ := y_HR_latest 54 hok J hZ.2.1.1
    refine ⟨y_o5 (y_lt (fun t => (y_rc S 0 t (S 0 3)).isSome) 100), I', J, ?_, y_sm_59 J f2, fun I J hZ => ?_⟩
    · refine b_HR_told _ _ _ _ _ ?_
      rw [if_neg (by decide), if_neg (by decide), if_neg (by decide), if_neg (by decide), if_neg (by decide), if_neg (by decide), if_neg (by decide), if_pos rfl]
      simp (maxSteps := 1000000) (disch := omega) only [sh_is0, sh_gI0, sh_wI0, sh_wZ0, sh_gR0, sh_gR1, sh_gR2, sh_lI0, sh_lI1, sh_lI2, sh_sI0, sh_sI1, sh_sI2, sh_len0, sh_len1, sh_len2, sh_lZ0, sh_sZ0, sh_gJ0, sh_wJ0, sh_lR0, sh_lJ0, sh_sJ0, y_eo, y_eb, y_eI, y_eJ, y_eR, y_eV, y_in, nI_clamp, cond_true, y_eqI, y_ltI, y_leI, y_lit, nI_toInt, if_true, if_false, if_pos, if_neg, y_bIt, y_bIf, y_band, f1]
    · obtain ⟨I', J', g1, g2⟩ := y_Mo_latest 46 hok J hZ.2.2.1.1
      refine ⟨I', J', ?_, y_ff_sm g2⟩
      refine b_Mo_told _ _ _ _ _ ?_
      rw [if_neg (by decide), if_neg (by decide), if_neg (by decide), if_neg (by decide), if_neg (by decide), if_neg (by decide), if_neg (by decide), if_pos rfl]
      simp (maxSteps := 1000000) (disch := omega) only [sh_is0, sh_gI0, sh_wI0, sh_wZ0, sh_gR0, sh_gR1, sh_gR2, sh_lI0, sh_lI1, sh_lI2, sh_sI0, sh_sI1, sh_sI2, sh_len0, sh_len1, sh_len2, sh_lZ0, sh_sZ0, sh_gJ0, sh_wJ0, sh_lR0, sh_lJ0, sh_sJ0, y_eo, y_eb, y_eI, y_eJ, y_eR, y_eV, y_in, nI_clamp, cond_true, y_eqI, y_ltI, y_leI, y_lit, nI_toInt, if_true, if_false, if_pos, if_neg, y_bIt, y_bIf, y_band, g1]
  · obtain ⟨I', f1, f2⟩ := y_HR_points_l 54 hok J (S 0 0) 0 0 I (by omega) (by decide) hZ.2.1.1
    have f1' := b_HR_points 58 0 _ _ f1
    refine ⟨nI (y_bits (fun p => y_cuts S (1 <<< p)) (S 0 0) 0 0), I', J, ?_, y_sm_59 J f2, fun I J hZ => ?_⟩
    · refine b_HR_told _ _ _ _ _ ?_
      rw [if_neg (by decide), if_neg (by decide), if_neg (by decide), if_neg (by decide), if_neg (by decide), if_neg (by decide), if_neg (by decide), if_neg (by decide), if_pos rfl]
      simp (maxSteps := 1000000) (disch := omega) only [sh_is0, sh_gI0, sh_wI0, sh_wZ0, sh_gR0, sh_gR1, sh_gR2, sh_lI0, sh_lI1, sh_lI2, sh_sI0, sh_sI1, sh_sI2, sh_len0, sh_len1, sh_len2, sh_lZ0, sh_sZ0, sh_gJ0, sh_wJ0, sh_lR0, sh_lJ0, sh_sJ0, y_eo, y_eb, y_eI, y_eJ, y_eR, y_eV, y_in, nI_clamp, cond_true, y_eqI, y_ltI, y_leI, y_lit, nI_toInt, if_true, if_false, if_pos, if_neg, y_bIt, y_bIf, y_band, f1']
    · obtain ⟨I', J', g1, g2⟩ := y_Mo_points_l 46 hok (S 0 0) 0 0 I J (by omega) (by decide) hZ.2.2.1.1
      have g1' := b_Mo_points 58 92 _ _ g1
      refine ⟨I', J', ?_, y_ff_sm g2⟩
      refine b_Mo_told _ _ _ _ _ ?_
      rw [if_neg (by decide), if_neg (by decide), if_neg (by decide), if_neg (by decide), if_neg (by decide), if_neg (by decide), if_neg (by decide), if_neg (by decide), if_pos rfl]
      simp (maxSteps := 1000000) (disch := omega) only [sh_is0, sh_gI0, sh_wI0, sh_wZ0, sh_gR0, sh_gR1, sh_gR2, sh_lI0, sh_lI1, sh_lI2, sh_sI0, sh_sI1, sh_sI2, sh_len0, sh_len1, sh_len2, sh_lZ0, sh_sZ0, sh_gJ0, sh_wJ0, sh_lR0, sh_lJ0, sh_sJ0, y_eo, y_eb, y_eI, y_eJ, y_eR, y_eV, y_in, nI_clamp, cond_true, y_eqI, y_ltI, y_leI, y_lit, nI_toInt, if_true, if_false, if_pos, if_neg, y_bIt, y_bIf, y_band, g1']
  · obtain ⟨I', o, f1, f2, f3⟩ := y_HR_lc_l 54 hok J (1 <<< S 0 0) 0 none I (by omega) (fun w hw => by omega) hZ.2.1.1
    have f1' := b_HR_leastCut 58 0 _ _ f1
    refine ⟨y_o5 o, I', J, ?_, y_sm_59 J f3, fun I J hZ => ?_⟩
    · refine b_HR_told _ _ _ _ _ ?_
      rw [if_neg (by decide), if_neg (by decide), if_neg (by decide), if_neg (by decide), if_neg (by decide), if_neg (by decide), if_neg (by decide), if_neg (by decide), if_neg (by decide), if_pos rfl]
      simp (maxSteps := 1000000) (disch := omega) only [sh_is0, sh_gI0, sh_wI0, sh_wZ0, sh_gR0, sh_gR1, sh_gR2, sh_lI0, sh_lI1, sh_lI2, sh_sI0, sh_sI1, sh_sI2, sh_len0, sh_len1, sh_len2, sh_lZ0, sh_sZ0, sh_gJ0, sh_wJ0, sh_lR0, sh_lJ0, sh_sJ0, y_eo, y_eb, y_eI, y_eJ, y_eR, y_eV, y_in, nI_clamp, cond_true, y_eqI, y_ltI, y_leI, y_lit, nI_toInt, if_true, if_false, if_pos, if_neg, y_bIt, y_bIf, y_band, f1']
    · obtain ⟨I', J', o', g1, g2, g3⟩ := y_Mo_lc_l 46 hok (S 0 0) 0 (by omega) I J hZ.2.2.1.1 (fun w hw => by omega)
      have g1' := b_Mo_leastCut 58 92 _ _ g1
      refine ⟨I', J', ?_, y_ff_sm g3⟩
      refine b_Mo_told _ _ _ _ _ ?_
      rw [if_neg (by decide), if_neg (by decide), if_neg (by decide), if_neg (by decide), if_neg (by decide), if_neg (by decide), if_neg (by decide), if_neg (by decide), if_neg (by decide), if_pos rfl]
      rw [y_lcP_u f2 g2]
      simp (maxSteps := 1000000) (disch := omega) only [sh_is0, sh_gI0, sh_wI0, sh_wZ0, sh_gR0, sh_gR1, sh_gR2, sh_lI0, sh_lI1, sh_lI2, sh_sI0, sh_sI1, sh_sI2, sh_len0, sh_len1, sh_len2, sh_lZ0, sh_sZ0, sh_gJ0, sh_wJ0, sh_lR0, sh_lJ0, sh_sJ0, y_eo, y_eb, y_eI, y_eJ, y_eR, y_eV, y_in, nI_clamp, cond_true, y_eqI, y_ltI, y_leI, y_lit, nI_toInt, if_true, if_false, if_pos, if_neg, y_bIt, y_bIf, y_band, g1']
  · obtain ⟨I', f1, f2⟩ := y_HR_reached 54 hok J hZ.2.1.1
    refine ⟨nI (y_bits (fun p => (y_rc S 0 (S 0 4) p).isSome) (S 0 0) 0 0), I', J, ?_, y_sm_59 J f2, fun I J hZ => ?_⟩
    · refine b_HR_told _ _ _ _ _ ?_
      rw [if_neg (by decide), if_neg (by decide), if_neg (by decide), if_neg (by decide), if_neg (by decide), if_neg (by decide), if_neg (by decide), if_neg (by decide), if_neg (by decide), if_neg (by decide), if_pos rfl]
      simp (maxSteps := 1000000) (disch := omega) only [sh_is0, sh_gI0, sh_wI0, sh_wZ0, sh_gR0, sh_gR1, sh_gR2, sh_lI0, sh_lI1, sh_lI2, sh_sI0, sh_sI1, sh_sI2, sh_len0, sh_len1, sh_len2, sh_lZ0, sh_sZ0, sh_gJ0, sh_wJ0, sh_lR0, sh_lJ0, sh_sJ0, y_eo, y_eb, y_eI, y_eJ, y_eR, y_eV, y_in, nI_clamp, cond_true, y_eqI, y_ltI, y_leI, y_lit, nI_toInt, if_true, if_false, if_pos, if_neg, y_bIt, y_bIf, y_band, f1]
    · obtain ⟨I', J', g1, g2⟩ := y_Mo_reached 45 hok J hZ.2.2.1.1
      refine ⟨I', J', ?_, y_tf_sm g2⟩
      refine b_Mo_told _ _ _ _ _ ?_
      rw [if_neg (by decide), if_neg (by decide), if_neg (by decide), if_neg (by decide), if_neg (by decide), if_neg (by decide), if_neg (by decide), if_neg (by decide), if_neg (by decide), if_neg (by decide), if_pos rfl]
      simp (maxSteps := 1000000) (disch := omega) only [sh_is0, sh_gI0, sh_wI0, sh_wZ0, sh_gR0, sh_gR1, sh_gR2, sh_lI0, sh_lI1, sh_lI2, sh_sI0, sh_sI1, sh_sI2, sh_len0, sh_len1, sh_len2, sh_lZ0, sh_sZ0, sh_gJ0, sh_wJ0, sh_lR0, sh_lJ0, sh_sJ0, y_eo, y_eb, y_eI, y_eJ, y_eR, y_eV, y_in, nI_clamp, cond_true, y_eqI, y_ltI, y_leI, y_lit, nI_toInt, if_true, if_false, if_pos, if_neg, y_bIt, y_bIf, y_band, g1]
  · refine ⟨nI (S 1 0), I, J, ?_, y_sm_r I J, fun I J hZ => ⟨I, J, ?_, y_sm_r I J⟩⟩
    · refine b_HR_told _ _ _ _ _ ?_
      rw [if_neg (by decide), if_neg (by decide), if_neg (by decide), if_neg (by decide), if_neg (by decide), if_neg (by decide), if_neg (by decide), if_neg (by decide), if_neg (by decide), if_neg (by decide), if_neg (by decide), if_pos rfl]
      simp (maxSteps := 1000000) (disch := omega) only [sh_is0, sh_gI0, sh_wI0, sh_wZ0, sh_gR0, sh_gR1, sh_gR2, sh_lI0, sh_lI1, sh_lI2, sh_sI0, sh_sI1, sh_sI2, sh_len0, sh_len1, sh_len2, sh_lZ0, sh_sZ0, sh_gJ0, sh_wJ0, sh_lR0, sh_lJ0, sh_sJ0, y_eo, y_eb, y_eI, y_eJ, y_eR, y_eV, y_in, nI_clamp, cond_true, y_eqI, y_ltI, y_leI, y_lit, nI_toInt, if_true, if_false, if_pos, if_neg, y_bIt, y_bIf, y_band, hZ.2.1.1.2.1]
    · refine b_Mo_told _ _ _ _ _ ?_
      rw [if_neg (by decide), if_neg (by decide), if_neg (by decide), if_neg (by decide), if_neg (by decide), if_neg (by decide), if_neg (by decide), if_neg (by decide), if_neg (by decide), if_neg (by decide), if_neg (by decide), if_pos rfl]
      simp (maxSteps := 1000000) (disch := omega) only [sh_is0, sh_gI0, sh_wI0, sh_wZ0, sh_gR0, sh_gR1, sh_gR2, sh_lI0, sh_lI1, sh_lI2, sh_sI0, sh_sI1, sh_sI2, sh_len0, sh_len1, sh_len2, sh_lZ0, sh_sZ0, sh_gJ0, sh_wJ0, sh_lR0, sh_lJ0, sh_sJ0, y_eo, y_eb, y_eI, y_eJ, y_eR, y_eV, y_in, nI_clamp, cond_true, y_eqI, y_ltI, y_leI, y_lit, nI_toInt, if_true, if_false, if_pos, if_neg, y_bIt, y_bIf, y_band, hZ.2.2.1.1.2.1]
  · refine ⟨-1, I, J, ?_, y_sm_r I J, fun I J hZ => ⟨I, J, ?_, y_sm_r I J⟩⟩
    · refine b_HR_told _ _ _ _ _ ?_
      rw [if_neg e0, if_neg e1, if_neg e2, if_neg e3, if_neg e4, if_neg e5, if_neg e6, if_neg e7, if_neg e8, if_neg e9, if_neg e10, if_neg e11]
    · refine b_Mo_told _ _ _ _ _ ?_
      rw [if_neg e0, if_neg e1, if_neg e2, if_neg e3, if_neg e4, if_neg e5, if_neg e6, if_neg e7, if_neg e8, if_neg e9, if_neg e10, if_neg e11]
