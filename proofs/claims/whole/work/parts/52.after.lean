/-! after -/
def y_dpl : y_S → Nat → Nat → Nat → y_S
  | T, _, 0, _ => T
  | T, n, j + 1, m => y_dpl (if T 3 m = n ∨ T 4 m = n then y_dr T m else T) n j (m + 1)
def y_ev (T : y_S) (w n : Nat) : y_S := if w = 0 then y_dr T n else if w = 1 then y_ps T 0 1 n else if w = 2 then y_dpl T n (T 1 0) 0 else y_ps T 0 4 n
theorem y_ps01_ok {T : y_S} (hok : y_okM T) {n : Nat} (h : n ≤ 9) : y_okM (y_ps T 0 1 n) := by
  obtain ⟨k1, k2, k3, k4, k5, k6, k7, k8⟩ := hok
  unfold y_okM
  simp (maxSteps := 1000000) (disch := omega) only [y_up_e, y_up_n, y_ps_e, y_ps_n]
  exact ⟨k1, k2, h, k4, k5, k6, k7, k8⟩
theorem y_ps04_ok {T : y_S} (hok : y_okM T) {n : Nat} (h : n ≤ 99) : y_okM (y_ps T 0 4 n) := by
  obtain ⟨k1, k2, k3, k4, k5, k6, k7, k8⟩ := hok
  unfold y_okM
  simp (maxSteps := 1000000) (disch := omega) only [y_up_e, y_up_n, y_ps_e, y_ps_n]
  exact ⟨k1, k2, k3, k4, k5, h, k7, k8⟩
theorem y_dpl_ok (n : Nat) : ∀ (j m : Nat) (T : y_S), y_okM T → y_okM (y_dpl T n j m) ∧ y_dpl T n j m 1 0 = T 1 0
  | 0, m, T, h => ⟨h, rfl⟩
  | j + 1, m, T, h => by
    unfold y_dpl
    by_cases e : T 3 m = n ∨ T 4 m = n
    · rw [if_pos e]
      have := y_dpl_ok n j (m + 1) (y_dr T m) (y_dr_ok h m)
      rw [y_drn T m 1 0 (by omega)] at this
      exact this
    · rw [if_neg e]
      exact y_dpl_ok n j (m + 1) T h
def y_evV (T : y_S) (w n : Nat) : Prop := (w = 0 ∧ n < T 1 0) ∨ (w = 1 ∧ n ≤ 9) ∨ (w = 2 ∧ n < 6) ∨ (w = 3 ∧ n ≤ 99)
theorem y_ev_ok {T : y_S} (hok : y_okM T) {w n : Nat} (h : y_evV T w n) : y_okM (y_ev T w n) ∧ y_ev T w n 1 0 = T 1 0 := by
  unfold y_ev
  rcases h with ⟨rfl, h⟩ | ⟨rfl, h⟩ | ⟨rfl, h⟩ | ⟨rfl, h⟩
  · rw [if_pos rfl]
    exact ⟨y_dr_ok hok n, y_drn T n 1 0 (by omega)⟩
  · rw [if_neg (by decide), if_pos rfl]
    exact ⟨y_ps01_ok hok h, y_ps_n (by omega)⟩
  · rw [if_neg (by decide), if_neg (by decide), if_pos rfl]
    exact y_dpl_ok n _ _ T hok
  · rw [if_neg (by decide), if_neg (by decide), if_neg (by decide)]
    exact ⟨y_ps04_ok hok h, y_ps_n (by omega)⟩
theorem y_dr_vM {T : y_S} {I : Nat → Nat → Int32} (hM : y_vM 39 T I) (m : Nat) : y_vM 39 (y_dr T m) (xz_up I 45 m 1) := by
  obtain ⟨⟨c0, c1, c2, c3, c4⟩, z3, z4⟩ := hM
  refine ⟨⟨?_, ?_, ?_, ?_, ?_⟩, ?_, fun i hi => ?_⟩
  · simp (disch := omega) only [y_up_n, y_drn, c0]
  · simp (disch := omega) only [y_up_n, y_drn, c1]
  · simp (disch := omega) only [y_up_n, y_drn, c2]
  · simp (disch := omega) only [y_up_n, y_drn, c3]
  · simp (disch := omega) only [y_up_n, y_drn, c4]
  · simp (disch := omega) only [y_up_n, y_drn, z3]
  · simp (disch := omega) only [y_drn] at hi
    obtain ⟨i1, i2, i3, i4, i5⟩ := z4 i hi
    by_cases e : i = m
    · subst e
      simp (disch := omega) only [y_up_n, y_up_e, y_drn, y_dre]
      exact ⟨i1, i2, i3, i4, rfl⟩
    · simp (disch := omega) only [y_up_n, y_drn]
      exact ⟨i1, i2, i3, i4, i5⟩
theorem y_ps_vM {T : y_S} {I : Nat → Nat → Int32} (hM : y_vM 39 T I) (k n : Nat) (hk : k < 5) : y_vM 39 (y_ps T 0 k n) (xz_up I 39 k (nI n)) := by
  obtain ⟨⟨c0, c1, c2, c3, c4⟩, z3, z4⟩ := hM
  have f : ∀ j, I 39 j = nI (T 0 j) → xz_up I 39 k (nI n) 39 j = nI (y_ps T 0 k n 0 j) := by
    intro j hj
    by_cases e : j = k
    · subst e
      simp (maxSteps := 1000000) (disch := omega) only [y_up_e, y_up_n, y_ps_e, y_ps_n]
    · simp (maxSteps := 1000000) (disch := omega) only [y_up_e, y_up_n, y_ps_e, y_ps_n]
      exact hj
  refine ⟨⟨f 0 c0, f 1 c1, f 2 c2, f 3 c3, f 4 c4⟩, ?_, fun i hi => ?_⟩
  · simp (maxSteps := 1000000) (disch := omega) only [y_up_e, y_up_n, y_ps_e, y_ps_n]
    exact z3
  · simp (disch := omega) only [y_ps_n] at hi
    simp (maxSteps := 1000000) (disch := omega) only [y_up_e, y_up_n, y_ps_e, y_ps_n]
    exact z4 i hi
theorem y_Me_rAll_l (d : Nat) {n : Nat} (hn : n < 6) (J : Nat → Nat → Int64) : ∀ (j m : Nat) (T : y_S) (I : Nat → Nat → Int32), y_okM T → m + j = T 1 0 → y_vM 39 T I → ∃ I', zL d q_Me_removeAllOf 3 [(0, .ref 40), (1, .int (nI n)), (2, .int (nI m))] (xz_SH, I, J) = some (none, (xz_SH, I', J)) ∧ y_vM 39 (y_dpl T n j m) I' ∧ ∀ q, q ≠ 45 → I' q = I q
  | 0, m, T, I, hok, hm, hM => by
    obtain ⟨k1, k2, k3, k4, k5, k6, k7, k8⟩ := id hok
    have e1 : I 40 0 = nI (T 1 0) := hM.2.1
    refine ⟨I, ?_, hM, fun _ _ => rfl⟩
    refine b_Me_removeAllOf_l3 _ _ _ _ _ _ ?_
    simp (maxSteps := 1000000) (disch := omega) only [sh_is0, sh_gI0, sh_wI0, sh_wZ0, sh_gR0, sh_gR1, sh_gR2, sh_lI0, sh_lI1, sh_lI2, sh_sI0, sh_sI1, sh_sI2, sh_len0, sh_len1, sh_len2, sh_lZ0, sh_sZ0, sh_gJ0, sh_wJ0, sh_lR0, sh_lJ0, sh_sJ0, y_eo, y_eb, y_eI, y_eJ, y_eR, y_eV, y_in, nI_clamp, cond_true, y_eqI, y_ltI, y_leI, y_lit, nI_toInt, if_true, if_false, if_pos, if_neg, y_bIt, y_bIf, y_band, e1]
  | j + 1, m, T, I, hok, hm, hM => by
    obtain ⟨k1, k2, k3, k4, k5, k6, k7, k8⟩ := id hok
    have e1 : I 40 0 = nI (T 1 0) := hM.2.1
    obtain ⟨m1, m2, m3, m4, m5⟩ := hM.2.2 m (by omega)
    obtain ⟨g2, g3, g4, _⟩ := k8 m (by omega)
    have e2 : I 42 m = nI (T 3 m) := m2
    have e3 : I 43 m = nI (T 4 m) := m3
    unfold y_dpl
    by_cases e : T 3 m = n ∨ T 4 m = n
    · rw [if_pos e]
      obtain ⟨I', f1, f2, f3⟩ := y_Me_rAll_l d hn J j (m + 1) (y_dr T m) (xz_up I 45 m 1) (y_dr_ok hok m) (by rw [y_drn T m 1 0 (by omega)]; omega) (y_dr_vM hM m)
      refine ⟨I', ?_, f2, fun q hq => by rw [f3 q hq, y_up_r hq]⟩
      refine b_Me_removeAllOf_l3 _ _ _ _ _ _ ?_
      by_cases ea : T 3 m = n
      · simp (maxSteps := 1000000) (disch := omega) only [sh_is0, sh_gI0, sh_wI0, sh_wZ0, sh_gR0, sh_gR1, sh_gR2, sh_lI0, sh_lI1, sh_lI2, sh_sI0, sh_sI1, sh_sI2, sh_len0, sh_len1, sh_len2, sh_lZ0, sh_sZ0, sh_gJ0, sh_wJ0, sh_lR0, sh_lJ0, sh_sJ0, y_eo, y_eb, y_eI, y_eJ, y_eR, y_eV, y_in, nI_clamp, cond_true, y_eqI, y_ltI, y_leI, y_lit, nI_toInt, if_true, if_false, if_pos, if_neg, y_bIt, y_bIf, y_band, e1, e2, y_an1, y_1, f1]
      · simp (maxSteps := 1000000) (disch := omega) only [sh_is0, sh_gI0, sh_wI0, sh_wZ0, sh_gR0, sh_gR1, sh_gR2, sh_lI0, sh_lI1, sh_lI2, sh_sI0, sh_sI1, sh_sI2, sh_len0, sh_len1, sh_len2, sh_lZ0, sh_sZ0, sh_gJ0, sh_wJ0, sh_lR0, sh_lJ0, sh_sJ0, y_eo, y_eb, y_eI, y_eJ, y_eR, y_eV, y_in, nI_clamp, cond_true, y_eqI, y_ltI, y_leI, y_lit, nI_toInt, if_true, if_false, if_pos, if_neg, y_bIt, y_bIf, y_band, e1, e2, e3, y_an1, y_1, f1]
    · rw [if_neg e]
      obtain ⟨I', f1, f2, f3⟩ := y_Me_rAll_l d hn J j (m + 1) T I hok (by omega) hM
      refine ⟨I', ?_, f2, f3⟩
      refine b_Me_removeAllOf_l3 _ _ _ _ _ _ ?_
      simp (maxSteps := 1000000) (disch := omega) only [sh_is0, sh_gI0, sh_wI0, sh_wZ0, sh_gR0, sh_gR1, sh_gR2, sh_lI0, sh_lI1, sh_lI2, sh_sI0, sh_sI1, sh_sI2, sh_len0, sh_len1, sh_len2, sh_lZ0, sh_sZ0, sh_gJ0, sh_wJ0, sh_lR0, sh_lJ0, sh_sJ0, y_eo, y_eb, y_eI, y_eJ, y_eR, y_eV, y_in, nI_clamp, cond_true, y_eqI, y_ltI, y_leI, y_lit, nI_toInt, if_true, if_false, if_pos, if_neg, y_bIt, y_bIf, y_band, e1, e2, e3, y_1, f1]
theorem y_Se_undergo (d : Nat) {T : y_S} (hok : y_okM T) {w n : Nat} (h : y_evV T w n) {I : Nat → Nat → Int32} (J : Nat → Nat → Int64) (hM : y_vM 39 T I) : ∃ I', zC (d + 3) q_Se_undergo [.ref 39, .int (nI w), .int (nI n)] (xz_SH, I, J) = some (none, (xz_SH, I', J)) ∧ y_vM 39 (y_ev T w n) I' ∧ ∀ q, q < 39 ∨ 46 ≤ q → I' q = I q := by
  obtain ⟨k1, k2, k3, k4, k5, k6, k7, k8⟩ := id hok
  unfold y_ev
  rcases h with ⟨rfl, h⟩ | ⟨rfl, h⟩ | ⟨rfl, h⟩ | ⟨rfl, h⟩
  · rw [if_pos rfl]
    refine ⟨xz_up I 45 n 1, ?_, y_dr_vM hM n, fun q hq => y_up_r (by omega)⟩
    have hrm : zC (d + 2) q_Me_remove [.ref 40, .int (nI n)] (xz_SH, I, J) = some (none, (xz_SH, xz_up I 45 n 1, J)) := by
      have hrg : y_rg (nI n) 0 (T 1 0 - 1) = true := y_rgt.mpr (by rw [nI_toInt (by omega)]; omega)
      have hcm := y_Me_hasCome d (Or.inr (Or.inr rfl)) J hM hok (nI n)
      rw [hrg] at hcm
      have hcm' : zC (d + 1) q_Me_hasCome [.ref 40, .int (nI n)] (xz_SH, I, J) = some (some (.int 1), (xz_SH, I, J)) := hcm
      refine b_Me_remove _ _ _ _ _ ?_
      simp (maxSteps := 1000000) (disch := omega) only [sh_is0, sh_gI0, sh_wI0, sh_wZ0, sh_gR0, sh_gR1, sh_gR2, sh_lI0, sh_lI1, sh_lI2, sh_sI0, sh_sI1, sh_sI2, sh_len0, sh_len1, sh_len2, sh_lZ0, sh_sZ0, sh_gJ0, sh_wJ0, sh_lR0, sh_lJ0, sh_sJ0, y_eo, y_eb, y_eI, y_eJ, y_eR, y_eV, y_in, nI_clamp, cond_true, y_eqI, y_ltI, y_leI, y_lit, nI_toInt, if_true, if_false, if_pos, if_neg, y_bIt, y_bIf, y_band, hcm', y_an1]
    refine b_Se_undergo _ _ _ _ _ _ ?_
    rw [if_pos (by decide)]
    simp (maxSteps := 1000000) (disch := omega) only [sh_is0, sh_gI0, sh_wI0, sh_wZ0, sh_gR0, sh_gR1, sh_gR2, sh_lI0, sh_lI1, sh_lI2, sh_sI0, sh_sI1, sh_sI2, sh_len0, sh_len1, sh_len2, sh_lZ0, sh_sZ0, sh_gJ0, sh_wJ0, sh_lR0, sh_lJ0, sh_sJ0, y_eo, y_eb, hrm, y_eV]
  · rw [if_neg (by decide), if_pos rfl]
    refine ⟨xz_up I 39 1 (nI n), ?_, y_ps_vM hM 1 n (by decide), fun q hq => y_up_r (by omega)⟩
    refine b_Se_undergo _ _ _ _ _ _ ?_
    rw [if_neg (by decide), if_pos (by decide)]
    simp (maxSteps := 1000000) (disch := omega) only [sh_is0, sh_gI0, sh_wI0, sh_wZ0, sh_gR0, sh_gR1, sh_gR2, sh_lI0, sh_lI1, sh_lI2, sh_sI0, sh_sI1, sh_sI2, sh_len0, sh_len1, sh_len2, sh_lZ0, sh_sZ0, sh_gJ0, sh_wJ0, sh_lR0, sh_lJ0, sh_sJ0, y_eo, y_eb]
  · rw [if_neg (by decide), if_neg (by decide), if_pos rfl]
    obtain ⟨I', f1, f2, f3⟩ := y_Me_rAll_l (d + 1) h J (T 1 0) 0 T I hok (by omega) hM
    have f1' := b_Me_removeAllOf (d + 1) 40 (nI n) _ _ f1
    refine ⟨I', ?_, f2, fun q hq => f3 q (by omega)⟩
    refine b_Se_undergo _ _ _ _ _ _ ?_
    rw [if_neg (by decide), if_neg (by decide), if_pos (by decide)]
    simp (maxSteps := 1000000) (disch := omega) only [sh_is0, sh_gI0, sh_wI0, sh_wZ0, sh_gR0, sh_gR1, sh_gR2, sh_lI0, sh_lI1, sh_lI2, sh_sI0, sh_sI1, sh_sI2, sh_len0, sh_len1, sh_len2, sh_lZ0, sh_sZ0, sh_gJ0, sh_wJ0, sh_lR0, sh_lJ0, sh_sJ0, y_eo, y_eb, f1', y_eV]
  · rw [if_neg (by decide), if_neg (by decide), if_neg (by decide)]
    refine ⟨xz_up I 39 4 (nI n), ?_, y_ps_vM hM 4 n (by decide), fun q hq => y_up_r (by omega)⟩
    refine b_Se_undergo _ _ _ _ _ _ ?_
    rw [if_neg (by decide), if_neg (by decide), if_neg (by decide)]
    simp (maxSteps := 1000000) (disch := omega) only [sh_is0, sh_gI0, sh_wI0, sh_wZ0, sh_gR0, sh_gR1, sh_gR2, sh_lI0, sh_lI1, sh_lI2, sh_sI0, sh_sI1, sh_sI2, sh_len0, sh_len1, sh_len2, sh_lZ0, sh_sZ0, sh_gJ0, sh_wJ0, sh_lR0, sh_lJ0, sh_sJ0, y_eo, y_eb]
def y_evs (S : y_S) : y_S → Nat → Nat → y_S
  | T, 0, _ => T
  | T, j + 1, r => y_evs S (y_ev T (S 12 r) (S 13 r)) j (r + 1)
def y_afr (x : Int32) (T : y_S) : Int32 := if x = 0 then y_o5 (y_rc T 0 (T 0 4) (T 0 3)) else if x = 1 then (match (y_all T 1).2.1 with
  | none => -5
  | some q => nI q.length) else nI (y_all T 0).1
def y_cf (I I' : Nat → Nat → Int32) (J J' : Nat → Nat → Int64) : Prop := (∀ q, q < 39 ∨ 66 ≤ q → I' q = I q) ∧ ∀ q, q ≠ 60 → J' q = J q
theorem y_HR_after_l (d : Nat) {S : y_S} (hok : y_okM S) (hox : y_okX S) (x : Int32) : ∀ (j r : Nat) (T : y_S) (I : Nat → Nat → Int32) (J : Nat → Nat → Int64), r + j = S 11 0 → y_okM T → T 1 0 = S 1 0 → y_vM 39 T I → y_vX 1 S I → ∃ I' J', zL (d + 10) q_HR_after 15 [(0, .ref 0), (1, .int x), (2, .int (nI r))] (xz_SH, I, J) = some (some (.int (y_afr x (y_evs S T j r))), (xz_SH, I', J')) ∧ y_cf I I' J J'
  | 0, r, T, I, J, hr, hT, h1, hM, hX => by
    have e0 : I 12 0 = nI (S 11 0) := hX.2.1.1
    have e8 := hox.2.1.1
    have hle : nI (S 11 0) ≤ nI r := by rw [y_leI, nI_toInt (by omega), nI_toInt (by omega)]; omega
    show ∃ I' J', zL (d + 10) q_HR_after 15 [(0, .ref 0), (1, .int x), (2, .int (nI r))] (xz_SH, I, J) = some (some (.int (y_afr x T)), (xz_SH, I', J')) ∧ y_cf I I' J J'
    unfold y_afr
    have f0 : T 0 3 < 6 := by have := hT.2.1; have := hT.2.2.2.2.1; omega
    by_cases x0 : x = 0
    · rw [if_pos x0]
      obtain ⟨I', f1, f2, f3⟩ := y_Re_fill (d + 6) (Or.inr (Or.inr rfl)) hT hT.2.2.2.2.2.1 J hM
      have hO := y_Re_of (d + 9) J f2 f0
      refine ⟨I', J, ?_, fun q hq => f3 q (by omega), fun _ _ => rfl⟩
      refine b_HR_after_l15 _ _ _ _ _ _ ?_
      have g4 : I 39 4 = nI (T 0 4) := hM.1.2.2.2.2
      have g3 : I' 39 3 = nI (T 0 3) := by rw [f3 39 (by omega)]; exact hM.1.2.2.2.1
      simp (maxSteps := 1000000) (disch := omega) only [sh_is0, sh_gI0, sh_wI0, sh_wZ0, sh_gR0, sh_gR1, sh_gR2, sh_lI0, sh_lI1, sh_lI2, sh_sI0, sh_sI1, sh_sI2, sh_len0, sh_len1, sh_len2, sh_lZ0, sh_sZ0, sh_gJ0, sh_wJ0, sh_lR0, sh_lJ0, sh_sJ0, y_eo, y_eb, e0]
      rw [if_pos hle, if_pos x0]
      simp (maxSteps := 1000000) (disch := omega) only [sh_is0, sh_gI0, sh_wI0, sh_wZ0, sh_gR0, sh_gR1, sh_gR2, sh_lI0, sh_lI1, sh_lI2, sh_sI0, sh_sI1, sh_sI2, sh_len0, sh_len1, sh_len2, sh_lZ0, sh_sZ0, sh_gJ0, sh_wJ0, sh_lR0, sh_lJ0, sh_sJ0, y_eo, y_eb, g4, f1, y_eV]
      simp (maxSteps := 1000000) (disch := omega) only [sh_is0, sh_gI0, sh_wI0, sh_wZ0, sh_gR0, sh_gR1, sh_gR2, sh_lI0, sh_lI1, sh_lI2, sh_sI0, sh_sI1, sh_sI2, sh_len0, sh_len1, sh_len2, sh_lZ0, sh_sZ0, sh_gJ0, sh_wJ0, sh_lR0, sh_lJ0, sh_sJ0, y_eo, y_eb, g3, hO, y_eI]
    · rw [if_neg x0]
      obtain ⟨I', J', f1, f2, f3⟩ := y_Wa_search d (Or.inr (Or.inr rfl)) hT (rule := 1) (by decide) J hM
      have f1' : zC (d + 10) q_Wa_search [.ref 60, .ref 39, .int (1 : Int32)] (xz_SH, I, J) = some (none, (xz_SH, I', J')) := f1
      refine ⟨I', J', ?_, fun q hq => f3.1 q (by omega), f3.2⟩
      refine b_HR_after_l15 _ _ _ _ _ _ ?_
      simp (maxSteps := 1000000) (disch := omega) only [sh_is0, sh_gI0, sh_wI0, sh_wZ0, sh_gR0, sh_gR1, sh_gR2, sh_lI0, sh_lI1, sh_lI2, sh_sI0, sh_sI1, sh_sI2, sh_len0, sh_len1, sh_len2, sh_lZ0, sh_sZ0, sh_gJ0, sh_wJ0, sh_lR0, sh_lJ0, sh_sJ0, y_eo, y_eb, e0]
      rw [if_pos hle, if_neg x0]
      simp (maxSteps := 1000000) (disch := omega) only [sh_is0, sh_gI0, sh_wI0, sh_wZ0, sh_gR0, sh_gR1, sh_gR2, sh_lI0, sh_lI1, sh_lI2, sh_sI0, sh_sI1, sh_sI2, sh_len0, sh_len1, sh_len2, sh_lZ0, sh_sZ0, sh_gJ0, sh_wJ0, sh_lR0, sh_lJ0, sh_sJ0, y_eo, y_eb, f1', y_eV]
      by_cases x1 : x = 1
      · rw [if_pos x1, if_pos x1]
        have f4 := f2.2.2.1
        cases e : (y_all T 1).2.1 with
        | none =>
          rw [e] at f4
          have f4' : I' 60 2 = -5 := f4
          simp (maxSteps := 1000000) (disch := omega) only [sh_is0, sh_gI0, sh_wI0, sh_wZ0, sh_gR0, sh_gR1, sh_gR2, sh_lI0, sh_lI1, sh_lI2, sh_sI0, sh_sI1, sh_sI2, sh_len0, sh_len1, sh_len2, sh_lZ0, sh_sZ0, sh_gJ0, sh_wJ0, sh_lR0, sh_lJ0, sh_sJ0, y_eo, y_eb, f4']
        | some q =>
          rw [e] at f4
          simp (maxSteps := 1000000) (disch := omega) only [sh_is0, sh_gI0, sh_wI0, sh_wZ0, sh_gR0, sh_gR1, sh_gR2, sh_lI0, sh_lI1, sh_lI2, sh_sI0, sh_sI1, sh_sI2, sh_len0, sh_len1, sh_len2, sh_lZ0, sh_sZ0, sh_gJ0, sh_wJ0, sh_lR0, sh_lJ0, sh_sJ0, y_eo, y_eb, f4.2.1]
      · rw [if_neg x1, if_neg x1]
        simp (maxSteps := 1000000) (disch := omega) only [sh_is0, sh_gI0, sh_wI0, sh_wZ0, sh_gR0, sh_gR1, sh_gR2, sh_lI0, sh_lI1, sh_lI2, sh_sI0, sh_sI1, sh_sI2, sh_len0, sh_len1, sh_len2, sh_lZ0, sh_sZ0, sh_gJ0, sh_wJ0, sh_lR0, sh_lJ0, sh_sJ0, y_eo, y_eb, f2.2.1, y_all_1 T 1]
  | j + 1, r, T, I, J, hr, hT, h1, hM, hX => by
    have e0 : I 12 0 = nI (S 11 0) := hX.2.1.1
    have e8 := hox.2.1.1
    have hlt : ¬ nI (S 11 0) ≤ nI r := by rw [y_leI, nI_toInt (by omega), nI_toInt (by omega)]; omega
    obtain ⟨r1, r2⟩ := hX.2.1.2 r (by omega)
    have r1' : I 13 r = nI (S 12 r) := r1
    have r2' : I 14 r = nI (S 13 r) := r2
    have hv : y_evV T (S 12 r) (S 13 r) := by
      have := hox.2.1.2 r (by omega)
      have := hok.2.1
      unfold y_evV
      omega
    obtain ⟨I1, f1, f2, f3⟩ := y_Se_undergo (d + 7) hT hv J hM
    obtain ⟨ho1, ho2⟩ := y_ev_ok hT hv
    obtain ⟨I', J', g1, g2, g3⟩ := y_HR_after_l d hok hox x j (r + 1) (y_ev T (S 12 r) (S 13 r)) I1 J (by omega) ho1 (by rw [ho2, h1]) f2 (y_vX_of (fun q _ _ => f3 q (by omega)) hX)
    refine ⟨I', J', ?_, fun q hq => by rw [g2 q hq, f3 q (by omega)], g3⟩
    refine b_HR_after_l15 _ _ _ _ _ _ ?_
    simp (maxSteps := 1000000) (disch := omega) only [sh_is0, sh_gI0, sh_wI0, sh_wZ0, sh_gR0, sh_gR1, sh_gR2, sh_lI0, sh_lI1, sh_lI2, sh_sI0, sh_sI1, sh_sI2, sh_len0, sh_len1, sh_len2, sh_lZ0, sh_sZ0, sh_gJ0, sh_wJ0, sh_lR0, sh_lJ0, sh_sJ0, y_eo, y_eb, e0]
    rw [if_neg hlt]
    simp (maxSteps := 1000000) (disch := omega) only [sh_is0, sh_gI0, sh_wI0, sh_wZ0, sh_gR0, sh_gR1, sh_gR2, sh_lI0, sh_lI1, sh_lI2, sh_sI0, sh_sI1, sh_sI2, sh_len0, sh_len1, sh_len2, sh_lZ0, sh_sZ0, sh_gJ0, sh_wJ0, sh_lR0, sh_lJ0, sh_sJ0, y_eo, y_eb, y_in (show r < 8 by omega) (by decide), nI_clamp (show r < 2 ^ 31 by omega), cond_true, r1', r2', f1, y_eV, y_1]
    exact g1
/-! the reference -/
theorem y_ps_vR {T : y_S} {I : Nat → Nat → Int32} (hR : y_vR T I) (n : Nat) : y_vR (y_ps T 0 1 n) (xz_up I 92 7 (nI n)) ∧ y_vR (y_ps T 0 4 n) (xz_up I 92 10 (nI n)) := by
  obtain ⟨⟨c0, c1, c2, c3, c4⟩, h1, h2⟩ := hR
  refine ⟨⟨⟨?_, ?_, ?_, ?_, ?_⟩, ?_, fun m hm => ?_⟩, ⟨⟨?_, ?_, ?_, ?_, ?_⟩, ?_, fun m hm => ?_⟩⟩
  · simp (maxSteps := 1000000) (disch := omega) only [y_up_e, y_up_n, y_ps_e, y_ps_n, c0]
  · simp (maxSteps := 1000000) (disch := omega) only [y_up_e, y_up_n, y_ps_e, y_ps_n]
  · simp (maxSteps := 1000000) (disch := omega) only [y_up_e, y_up_n, y_ps_e, y_ps_n, c2]
  · simp (maxSteps := 1000000) (disch := omega) only [y_up_e, y_up_n, y_ps_e, y_ps_n, c3]
  · simp (maxSteps := 1000000) (disch := omega) only [y_up_e, y_up_n, y_ps_e, y_ps_n, c4]
  · simp (maxSteps := 1000000) (disch := omega) only [y_up_e, y_up_n, y_ps_e, y_ps_n, h1]
  · simp (disch := omega) only [y_ps_n] at hm
    simp (maxSteps := 1000000) (disch := omega) only [y_up_e, y_up_n, y_ps_e, y_ps_n]
    exact h2 m hm
  · simp (maxSteps := 1000000) (disch := omega) only [y_up_e, y_up_n, y_ps_e, y_ps_n, c0]
  · simp (maxSteps := 1000000) (disch := omega) only [y_up_e, y_up_n, y_ps_e, y_ps_n, c1]
  · simp (maxSteps := 1000000) (disch := omega) only [y_up_e, y_up_n, y_ps_e, y_ps_n, c2]
  · simp (maxSteps := 1000000) (disch := omega) only [y_up_e, y_up_n, y_ps_e, y_ps_n, c3]
  · simp (maxSteps := 1000000) (disch := omega) only [y_up_e, y_up_n, y_ps_e, y_ps_n]
  · simp (maxSteps := 1000000) (disch := omega) only [y_up_e, y_up_n, y_ps_e, y_ps_n, h1]
  · simp (disch := omega) only [y_ps_n] at hm
    simp (maxSteps := 1000000) (disch := omega) only [y_up_e, y_up_n, y_ps_e, y_ps_n]
    exact h2 m hm
/-- what happens may touch -/
def y_hf (I I' : Nat → Nat → Int32) : Prop := (∀ q, q ≠ 92 → q ≠ 93 → I' q = I q) ∧ (∀ x, 14 ≤ x → I' 93 x = I 93 x) ∧ ∀ j, j ≠ 7 → j ≠ 10 → I' 92 j = I 92 j
theorem y_Mo_hp_l (d : Nat) {n : Nat} (hn : n < 6) (J : Nat → Nat → Int64) : ∀ (j m : Nat) (T : y_S) (I : Nat → Nat → Int32), y_okM T → m + j = T 1 0 → y_vR T I → ∃ I', zL d q_Mo_happens 16 [(0, .ref 92), (1, .int (2 : Int32)), (2, .int (nI n)), (3, .int (nI m))] (xz_SH, I, J) = some (none, (xz_SH, I', J)) ∧ y_vR (y_dpl T n j m) I' ∧ y_hf I I'
  | 0, m, T, I, hok, hm, hR => by
    obtain ⟨k1, k2, k3, k4, k5, k6, k7, k8⟩ := id hok
    refine ⟨I, ?_, hR, fun _ _ _ => rfl, fun _ _ => rfl, fun _ _ _ => rfl⟩
    refine b_Mo_happens_l16 _ _ _ _ _ _ _ ?_
    rw [if_pos rfl]
    simp (maxSteps := 1000000) (disch := omega) only [sh_is0, sh_gI0, sh_wI0, sh_wZ0, sh_gR0, sh_gR1, sh_gR2, sh_lI0, sh_lI1, sh_lI2, sh_sI0, sh_sI1, sh_sI2, sh_len0, sh_len1, sh_len2, sh_lZ0, sh_sZ0, sh_gJ0, sh_wJ0, sh_lR0, sh_lJ0, sh_sJ0, y_eo, y_eb, hR.2.1]
    rw [if_pos (by rw [y_leI, nI_toInt (by omega), nI_toInt (by omega)]; omega), if_neg (by decide)]
  | j + 1, m, T, I, hok, hm, hR => by
    obtain ⟨k1, k2, k3, k4, k5, k6, k7, k8⟩ := id hok
    obtain ⟨m1, m2, m3, m4, m5⟩ := hR.2.2 m (by omega)
    obtain ⟨g2, g3, g4, _⟩ := k8 m (by omega)
    have hlt : ¬ nI (T 1 0) ≤ nI m := by rw [y_leI, nI_toInt (by omega), nI_toInt (by omega)]; omega
    unfold y_dpl
    by_cases e : T 3 m = n ∨ T 4 m = n
    · rw [if_pos e]
      obtain ⟨I', f1, f2, f3, f4, f5⟩ := y_Mo_hp_l d hn J j (m + 1) (y_dr T m) (xz_up I 93 m 0) (y_dr_ok hok m) (by rw [y_drn T m 1 0 (by omega)]; omega) (y_dr_vR hR m)
      refine ⟨I', ?_, f2, fun q h1 h2 => by rw [f3 q h1 h2, y_up_r h2], fun x hx => by rw [f4 x hx, y_up_n (by omega)], fun j h1 h2 => by rw [f5 j h1 h2, y_up_n (by omega)]⟩
      refine b_Mo_happens_l16 _ _ _ _ _ _ _ ?_
      rw [if_pos rfl]
      simp (maxSteps := 1000000) (disch := omega) only [sh_is0, sh_gI0, sh_wI0, sh_wZ0, sh_gR0, sh_gR1, sh_gR2, sh_lI0, sh_lI1, sh_lI2, sh_sI0, sh_sI1, sh_sI2, sh_len0, sh_len1, sh_len2, sh_lZ0, sh_sZ0, sh_gJ0, sh_wJ0, sh_lR0, sh_lJ0, sh_sJ0, y_eo, y_eb, hR.2.1]
      rw [if_neg hlt]
      simp (maxSteps := 1000000) (disch := omega) only [sh_is0, sh_gI0, sh_wI0, sh_wZ0, sh_gR0, sh_gR1, sh_gR2, sh_lI0, sh_lI1, sh_lI2, sh_sI0, sh_sI1, sh_sI2, sh_len0, sh_len1, sh_len2, sh_lZ0, sh_sZ0, sh_gJ0, sh_wJ0, sh_lR0, sh_lJ0, sh_sJ0, y_eo, y_eb, y_in (show m < 14 by omega) (by decide), nI_clamp (show m < 2 ^ 31 by omega), cond_true, m2, m3, y_an0, y_1]
      by_cases ea : T 3 m = n
      · rw [if_pos (by rw [ea])]
        exact f1
      · rw [if_neg (by rw [y_eqI, nI_toInt (by omega), nI_toInt (by omega)]; omega), if_pos (by rw [e.resolve_left ea])]
        exact f1
    · rw [if_neg e]
      obtain ⟨I', f1, f2, f3⟩ := y_Mo_hp_l d hn J j (m + 1) T I hok (by omega) hR
      refine ⟨I', ?_, f2, f3⟩
      refine b_Mo_happens_l16 _ _ _ _ _ _ _ ?_
      rw [if_pos rfl]
      simp (maxSteps := 1000000) (disch := omega) only [sh_is0, sh_gI0, sh_wI0, sh_wZ0, sh_gR0, sh_gR1, sh_gR2, sh_lI0, sh_lI1, sh_lI2, sh_sI0, sh_sI1, sh_sI2, sh_len0, sh_len1, sh_len2, sh_lZ0, sh_sZ0, sh_gJ0, sh_wJ0, sh_lR0, sh_lJ0, sh_sJ0, y_eo, y_eb, hR.2.1]
      rw [if_neg hlt]
      simp (maxSteps := 1000000) (disch := omega) only [sh_is0, sh_gI0, sh_wI0, sh_wZ0, sh_gR0, sh_gR1, sh_gR2, sh_lI0, sh_lI1, sh_lI2, sh_sI0, sh_sI1, sh_sI2, sh_len0, sh_len1, sh_len2, sh_lZ0, sh_sZ0, sh_gJ0, sh_wJ0, sh_lR0, sh_lJ0, sh_sJ0, y_eo, y_eb, y_in (show m < 14 by omega) (by decide), nI_clamp (show m < 2 ^ 31 by omega), cond_true, m2, m3, y_1]
      rw [if_neg (by rw [y_eqI, nI_toInt (by omega), nI_toInt (by omega)]; omega), if_neg (by rw [y_eqI, nI_toInt (by omega), nI_toInt (by omega)]; omega)]
      exact f1
theorem y_Mo_happens (d : Nat) {T : y_S} (hok : y_okM T) {w n : Nat} (h : y_evV T w n) {I : Nat → Nat → Int32} (J : Nat → Nat → Int64) (hR : y_vR T I) : ∃ I', zC (d + 1) q_Mo_happens [.ref 92, .int (nI w), .int (nI n)] (xz_SH, I, J) = some (none, (xz_SH, I', J)) ∧ y_vR (y_ev T w n) I' ∧ y_hf I I' := by
  obtain ⟨k1, k2, k3, k4, k5, k6, k7, k8⟩ := id hok
  unfold y_ev
  rcases h with ⟨rfl, h⟩ | ⟨rfl, h⟩ | ⟨rfl, h⟩ | ⟨rfl, h⟩
  · rw [if_pos rfl]
    refine ⟨xz_up I 93 n 0, ?_, y_dr_vR hR n, fun q h1 h2 => y_up_r h2, fun x hx => y_up_n (by omega), fun j h1 h2 => y_up_n (by omega)⟩
    refine b_Mo_happens _ _ _ _ _ _ ?_
    rw [if_pos (by decide)]
    simp (maxSteps := 1000000) (disch := omega) only [sh_is0, sh_gI0, sh_wI0, sh_wZ0, sh_gR0, sh_gR1, sh_gR2, sh_lI0, sh_lI1, sh_lI2, sh_sI0, sh_sI1, sh_sI2, sh_len0, sh_len1, sh_len2, sh_lZ0, sh_sZ0, sh_gJ0, sh_wJ0, sh_lR0, sh_lJ0, sh_sJ0, y_eo, y_eb, y_in (show n < 14 by omega) (by decide), nI_clamp (show n < 2 ^ 31 by omega), cond_true, y_an0]
    rw [if_neg (by decide)]
    refine b_Mo_happens_l16 _ _ _ _ _ _ _ ?_
    rw [if_neg (by decide), if_neg (by decide)]
  · rw [if_neg (by decide), if_pos rfl]
    refine ⟨xz_up I 92 7 (nI n), ?_, (y_ps_vR hR n).1, fun q h1 h2 => y_up_r h1, fun x hx => y_up_n (by omega), fun j h1 h2 => y_up_n (by omega)⟩
    refine b_Mo_happens _ _ _ _ _ _ ?_
    rw [if_neg (by decide), if_pos (by decide)]
    simp (maxSteps := 1000000) (disch := omega) only [sh_is0, sh_gI0, sh_wI0, sh_wZ0, sh_gR0, sh_gR1, sh_gR2, sh_lI0, sh_lI1, sh_lI2, sh_sI0, sh_sI1, sh_sI2, sh_len0, sh_len1, sh_len2, sh_lZ0, sh_sZ0, sh_gJ0, sh_wJ0, sh_lR0, sh_lJ0, sh_sJ0, y_eo, y_eb]
    refine b_Mo_happens_l16 _ _ _ _ _ _ _ ?_
    rw [if_neg (by decide), if_neg (by decide)]
  · rw [if_neg (by decide), if_neg (by decide), if_pos rfl]
    obtain ⟨I', f1, f2, f3⟩ := y_Mo_hp_l d h J (T 1 0) 0 T I hok (by omega) hR
    refine ⟨I', ?_, f2, f3⟩
    refine b_Mo_happens _ _ _ _ _ _ ?_
    rw [if_neg (by decide), if_neg (by decide)]
    exact f1
  · rw [if_neg (by decide), if_neg (by decide), if_neg (by decide)]
    refine ⟨xz_up I 92 10 (nI n), ?_, (y_ps_vR hR n).2, fun q h1 h2 => y_up_r h1, fun x hx => y_up_n (by omega), fun j h1 h2 => y_up_n (by omega)⟩
    refine b_Mo_happens _ _ _ _ _ _ ?_
    rw [if_neg (by decide), if_neg (by decide)]
    refine b_Mo_happens_l16 _ _ _ _ _ _ _ ?_
    rw [if_neg (by decide), if_pos (by decide)]
    simp (maxSteps := 1000000) (disch := omega) only [sh_is0, sh_gI0, sh_wI0, sh_wZ0, sh_gR0, sh_gR1, sh_gR2, sh_lI0, sh_lI1, sh_lI2, sh_sI0, sh_sI1, sh_sI2, sh_len0, sh_len1, sh_len2, sh_lZ0, sh_sZ0, sh_gJ0, sh_wJ0, sh_lR0, sh_lJ0, sh_sJ0, y_eo, y_eb]
theorem y_c111 (I : Nat → Nat → Int32) (J : Nat → Nat → Int64) : xz_copy (xz_SH, I, J) 111 (0 : Int32) 93 (0 : Int32) (14 : Int32) = some (xz_SH, xz_row I 93 (va_cpy (I 111) (I 93) 0 0 14), J) := y_cpI (sp := 0) (dp := 0) (n := 14) (L := 14) (L' := 14) (e := []) (e' := []) (kd := 1) (by rfl) (by rfl) (by decide) (by omega) (by omega) (by decide) (by decide)
theorem y_c93b (I : Nat → Nat → Int32) (J : Nat → Nat → Int64) : xz_copy (xz_SH, I, J) 93 (0 : Int32) 111 (0 : Int32) (14 : Int32) = some (xz_SH, xz_row I 111 (va_cpy (I 93) (I 111) 0 0 14), J) := y_cpI (sp := 0) (dp := 0) (n := 14) (L := 14) (L' := 14) (e := []) (e' := []) (kd := 1) (by rfl) (by rfl) (by decide) (by omega) (by omega) (by decide) (by decide)
theorem y_Mo_way1 (d : Nat) {T : y_S} (hok : y_okM T) {I : Nat → Nat → Int32} (J : Nat → Nat → Int64) (hR : y_vR T I) : ∃ I' J', zC (d + 12) q_Mo_way [.ref 92, .int (1 : Int32), .int (-1 : Int32)] (xz_SH, I, J) = some (some (.int (match (y_all T 1).2.1 with
  | none => -5
  | some q => nI q.length)), (xz_SH, I', J')) ∧ y_ff I I' J J' := by
  have f0 : T 0 3 < 6 := by have := hok.2.1; have := hok.2.2.2.2.1; omega
  obtain ⟨I', J', f1, f2, f3⟩ := y_Mo_find6 d hok (rule := 1) (g := T 0 3) (by decide) f0 J hR
  have f1' : zC (d + 11) q_Mo_finds [.ref 92, .int (nI (T 0 3)), .int (0 : Int32), .int (6 : Int32), .int (1 : Int32), .int (0 : Int32)] (xz_SH, I, J) = some (none, (xz_SH, I', J')) := f1
  refine ⟨I', J', ?_, f3⟩
  have f4 := f2.2
  rw [← (y_all_fnd hok 1).2] at f4
  have e3 := hR.1.2.2.2.1
  refine b_Mo_way _ _ _ _ _ _ ?_
  rw [y_Mo_isRule, show y_rg (1 : Int32) 0 2 = true by decide, y_eI, if_neg (by decide)]
  simp (maxSteps := 1000000) (disch := omega) only [sh_is0, sh_gI0, sh_wI0, sh_wZ0, sh_gR0, sh_gR1, sh_gR2, sh_lI0, sh_lI1, sh_lI2, sh_sI0, sh_sI1, sh_sI2, sh_len0, sh_len1, sh_len2, sh_lZ0, sh_sZ0, sh_gJ0, sh_wJ0, sh_lR0, sh_lJ0, sh_sJ0, y_eo, y_eb, e3, f1', y_eV]
  cases e : (y_all T 1).2.1 with
  | none =>
    rw [e] at f4
    have f4' : I' 92 37 = 0 := f4
    simp (maxSteps := 1000000) (disch := omega) only [sh_is0, sh_gI0, sh_wI0, sh_wZ0, sh_gR0, sh_gR1, sh_gR2, sh_lI0, sh_lI1, sh_lI2, sh_sI0, sh_sI1, sh_sI2, sh_len0, sh_len1, sh_len2, sh_lZ0, sh_sZ0, sh_gJ0, sh_wJ0, sh_lR0, sh_lJ0, sh_sJ0, y_eo, y_eb, f4']
    rw [if_pos trivial]
  | some q =>
    rw [e] at f4
    simp (maxSteps := 1000000) (disch := omega) only [sh_is0, sh_gI0, sh_wI0, sh_wZ0, sh_gR0, sh_gR1, sh_gR2, sh_lI0, sh_lI1, sh_lI2, sh_sI0, sh_sI1, sh_sI2, sh_len0, sh_len1, sh_len2, sh_lZ0, sh_sZ0, sh_gJ0, sh_wJ0, sh_lR0, sh_lJ0, sh_sJ0, y_eo, y_eb, f4.1, f4.2.2.1]
    rw [if_neg (by decide), if_pos trivial]
theorem y_Mo_after_l (d : Nat) {S : y_S} (hok : y_okM S) (hox : y_okX S) (x : Int32) (hx : 0 ≤ x.toInt ∧ x.toInt ≤ 2) (dl st : Int32) : ∀ (j r : Nat) (T : y_S) (I : Nat → Nat → Int32) (J : Nat → Nat → Int64), r + j = S 11 0 → y_okM T → T 1 0 = S 1 0 → y_vR T I → y_vY S I → ∃ I' J', zL (d + 12) q_Mo_after 25 [(0, .ref 92), (1, .int x), (2, .int dl), (3, .int st), (4, .int (nI r))] (xz_SH, I, J) = some (some (.int (y_afr x (y_evs S T j r))), (xz_SH, I', J')) ∧ (∀ q, q ≠ 92 → q ≠ 93 → q ≠ 108 → q ≠ 109 → I' q = I q) ∧ (∀ y, y < 14 → I' 93 y = I 111 y) ∧ (∀ y, 14 ≤ y → I' 93 y = I 93 y) ∧ (I' 92 7 = dl ∧ I' 92 10 = st) ∧ (∀ j, j < 28 ∨ 38 ≤ j → j ≠ 7 → j ≠ 10 → I' 92 j = I 92 j) ∧ ∀ q, q ≠ 92 → J' q = J q
  | 0, r, T, I, J, hr, hT, h1, hR, hY => by
    have e8 := hox.2.1.1
    have hle : nI (S 11 0) ≤ nI r := by rw [y_leI, nI_toInt (by omega), nI_toInt (by omega)]; omega
    have f0 : T 0 3 < 6 := by have := hT.2.1; have := hT.2.2.2.2.1; omega
    -- what the end is, whatever was asked
    have fin : ∀ (I1 : Nat → Nat → Int32) (J1 : Nat → Nat → Int64), y_ff I I1 J J1 → zL (d + 12) q_Mo_after 25 [(0, .ref 92), (1, .int x), (2, .int dl), (3, .int st), (4, .int (nI r))] (xz_SH, I, J) = some (some (.int (y_afr x T)), (xz_SH, xz_up (xz_up (xz_row I1 93 (va_cpy (I1 111) (I1 93) 0 0 14)) 92 7 dl) 92 10 st, J1)) → ∃ I' J', zL (d + 12) q_Mo_after 25 [(0, .ref 92), (1, .int x), (2, .int dl), (3, .int st), (4, .int (nI r))] (xz_SH, I, J) = some (some (.int (y_afr x (y_evs S T 0 r))), (xz_SH, I', J')) ∧ (∀ q, q ≠ 92 → q ≠ 93 → q ≠ 108 → q ≠ 109 → I' q = I q) ∧ (∀ y, y < 14 → I' 93 y = I 111 y) ∧ (∀ y, 14 ≤ y → I' 93 y = I 93 y) ∧ (I' 92 7 = dl ∧ I' 92 10 = st) ∧ (∀ j, j < 28 ∨ 38 ≤ j → j ≠ 7 → j ≠ 10 → I' 92 j = I 92 j) ∧ ∀ q, q ≠ 92 → J' q = J q := by
      intro I1 J1 hf h
      refine ⟨_, J1, h, fun q h1 h2 h3 h4 => ?_, fun y hy => ?_, fun y hy => ?_, ⟨?_, ?_⟩, fun j h1 h2 h3 => ?_, hf.2.2⟩
      · simp (disch := omega) only [y_up_r, y_row_n]
        exact hf.1 q h1 h3 h4
      · simp (disch := omega) only [y_up_r, y_row_e]
        rw [pk_cpy_in (by omega) (by omega), show 0 + (y - 0) = y by omega, hf.1 111 (by omega) (by omega) (by omega)]
      · simp (disch := omega) only [y_up_r, y_row_e]
        rw [pk_cpy_out (by omega), hf.1 93 (by omega) (by omega) (by omega)]
      · simp (maxSteps := 1000000) (disch := omega) only [y_up_e, y_up_n, y_ps_e, y_ps_n]
      · simp (maxSteps := 1000000) (disch := omega) only [y_up_e, y_up_n, y_ps_e, y_ps_n]
      · simp (disch := omega) only [y_up_n, y_row_n]
        exact hf.2.1 j h1
    by_cases x0 : x = 0
    · obtain ⟨I1, J1, f1, f2⟩ := y_Mo_reachOf d hT (p := T 0 3) f0 J hR
      refine fin I1 J1 f2 (b_Mo_after_l25 _ _ _ _ _ _ _ _ ?_)
      unfold y_afr
      rw [if_pos x0]
      simp (maxSteps := 1000000) (disch := omega) only [sh_is0, sh_gI0, sh_wI0, sh_wZ0, sh_gR0, sh_gR1, sh_gR2, sh_lI0, sh_lI1, sh_lI2, sh_sI0, sh_sI1, sh_sI2, sh_len0, sh_len1, sh_len2, sh_lZ0, sh_sZ0, sh_gJ0, sh_wJ0, sh_lR0, sh_lJ0, sh_sJ0, y_eo, y_eb, hY.2.1.1]
      rw [if_pos hle, if_pos x0]
      simp (maxSteps := 1000000) (disch := omega) only [sh_is0, sh_gI0, sh_wI0, sh_wZ0, sh_gR0, sh_gR1, sh_gR2, sh_lI0, sh_lI1, sh_lI2, sh_sI0, sh_sI1, sh_sI2, sh_len0, sh_len1, sh_len2, sh_lZ0, sh_sZ0, sh_gJ0, sh_wJ0, sh_lR0, sh_lJ0, sh_sJ0, y_eo, y_eb, hR.1.2.2.2.1, f1, y_eI]
      simp (maxSteps := 1000000) (disch := omega) only [sh_is0, sh_gI0, sh_wI0, sh_wZ0, sh_gR0, sh_gR1, sh_gR2, sh_lI0, sh_lI1, sh_lI2, sh_sI0, sh_sI1, sh_sI2, sh_len0, sh_len1, sh_len2, sh_lZ0, sh_sZ0, sh_gJ0, sh_wJ0, sh_lR0, sh_lJ0, sh_sJ0, y_eo, y_eb, y_c111]
    · by_cases x1 : x = 1
      · obtain ⟨I1, J1, f1, f2⟩ := y_Mo_way1 d hT J hR
        refine fin I1 J1 f2 (b_Mo_after_l25 _ _ _ _ _ _ _ _ ?_)
        unfold y_afr
        rw [if_neg x0, if_pos x1]
        simp (maxSteps := 1000000) (disch := omega) only [sh_is0, sh_gI0, sh_wI0, sh_wZ0, sh_gR0, sh_gR1, sh_gR2, sh_lI0, sh_lI1, sh_lI2, sh_sI0, sh_sI1, sh_sI2, sh_len0, sh_len1, sh_len2, sh_lZ0, sh_sZ0, sh_gJ0, sh_wJ0, sh_lR0, sh_lJ0, sh_sJ0, y_eo, y_eb, hY.2.1.1]
        rw [if_pos hle, if_neg x0, if_pos x1]
        simp (maxSteps := 1000000) (disch := omega) only [sh_is0, sh_gI0, sh_wI0, sh_wZ0, sh_gR0, sh_gR1, sh_gR2, sh_lI0, sh_lI1, sh_lI2, sh_sI0, sh_sI1, sh_sI2, sh_len0, sh_len1, sh_len2, sh_lZ0, sh_sZ0, sh_gJ0, sh_wJ0, sh_lR0, sh_lJ0, sh_sJ0, y_eo, y_eb, f1, y_eI]
        simp (maxSteps := 1000000) (disch := omega) only [sh_is0, sh_gI0, sh_wI0, sh_wZ0, sh_gR0, sh_gR1, sh_gR2, sh_lI0, sh_lI1, sh_lI2, sh_sI0, sh_sI1, sh_sI2, sh_len0, sh_len1, sh_len2, sh_lZ0, sh_sZ0, sh_gJ0, sh_wJ0, sh_lR0, sh_lJ0, sh_sJ0, y_eo, y_eb, y_c111]
      · obtain ⟨I1, J1, f1, f2⟩ := y_Mo_ways d hT J hR
        refine fin I1 J1 f2 (b_Mo_after_l25 _ _ _ _ _ _ _ _ ?_)
        unfold y_afr
        rw [if_neg x0, if_neg x1]
        simp (maxSteps := 1000000) (disch := omega) only [sh_is0, sh_gI0, sh_wI0, sh_wZ0, sh_gR0, sh_gR1, sh_gR2, sh_lI0, sh_lI1, sh_lI2, sh_sI0, sh_sI1, sh_sI2, sh_len0, sh_len1, sh_len2, sh_lZ0, sh_sZ0, sh_gJ0, sh_wJ0, sh_lR0, sh_lJ0, sh_sJ0, y_eo, y_eb, hY.2.1.1]
        rw [if_pos hle, if_neg x0, if_neg x1]
        simp (maxSteps := 1000000) (disch := omega) only [sh_is0, sh_gI0, sh_wI0, sh_wZ0, sh_gR0, sh_gR1, sh_gR2, sh_lI0, sh_lI1, sh_lI2, sh_sI0, sh_sI1, sh_sI2, sh_len0, sh_len1, sh_len2, sh_lZ0, sh_sZ0, sh_gJ0, sh_wJ0, sh_lR0, sh_lJ0, sh_sJ0, y_eo, y_eb, f1, y_eI]
        simp (maxSteps := 1000000) (disch := omega) only [sh_is0, sh_gI0, sh_wI0, sh_wZ0, sh_gR0, sh_gR1, sh_gR2, sh_lI0, sh_lI1, sh_lI2, sh_sI0, sh_sI1, sh_sI2, sh_len0, sh_len1, sh_len2, sh_lZ0, sh_sZ0, sh_gJ0, sh_wJ0, sh_lR0, sh_lJ0, sh_sJ0, y_eo, y_eb, y_c111]
  | j + 1, r, T, I, J, hr, hT, h1, hR, hY => by
    have e8 := hox.2.1.1
    have hlt : ¬ nI (S 11 0) ≤ nI r := by rw [y_leI, nI_toInt (by omega), nI_toInt (by omega)]; omega
    obtain ⟨r1, r2⟩ := hY.2.1.2 r (by omega)
    have hv : y_evV T (S 12 r) (S 13 r) := by
      have := hox.2.1.2 r (by omega)
      have := hok.2.1
      unfold y_evV
      omega
    obtain ⟨I1, f1, f2, f3, f4, f5⟩ := y_Mo_happens (d + 11) hT hv J hR
    obtain ⟨ho1, ho2⟩ := y_ev_ok hT hv
    obtain ⟨I', J', g1, g2, g3, g4, g5, g6, g7⟩ := y_Mo_after_l d hok hox x hx dl st j (r + 1) (y_ev T (S 12 r) (S 13 r)) I1 J (by omega) ho1 (by rw [ho2, h1]) f2 (y_vY_of (fun q _ _ => f3 q (by omega) (by omega)) (fun j _ _ => f5 j (by omega) (by omega)) hY)
    refine ⟨I', J', ?_, fun q h1 h2 h3 h4 => by rw [g2 q h1 h2 h3 h4, f3 q h1 h2], fun y hy => by rw [g3 y hy, f3 111 (by omega) (by omega)], fun y hy => by rw [g4 y hy, f4 y hy], g5, fun j h1 h2 h3 => by rw [g6 j h1 h2 h3, f5 j h2 h3], g7⟩
    refine b_Mo_after_l25 _ _ _ _ _ _ _ _ ?_
    simp (maxSteps := 1000000) (disch := omega) only [sh_is0, sh_gI0, sh_wI0, sh_wZ0, sh_gR0, sh_gR1, sh_gR2, sh_lI0, sh_lI1, sh_lI2, sh_sI0, sh_sI1, sh_sI2, sh_len0, sh_len1, sh_len2, sh_lZ0, sh_sZ0, sh_gJ0, sh_wJ0, sh_lR0, sh_lJ0, sh_sJ0, y_eo, y_eb, hY.2.1.1]
    rw [if_neg hlt]
    simp (maxSteps := 1000000) (disch := omega) only [sh_is0, sh_gI0, sh_wI0, sh_wZ0, sh_gR0, sh_gR1, sh_gR2, sh_lI0, sh_lI1, sh_lI2, sh_sI0, sh_sI1, sh_sI2, sh_len0, sh_len1, sh_len2, sh_lZ0, sh_sZ0, sh_gJ0, sh_wJ0, sh_lR0, sh_lJ0, sh_sJ0, y_eo, y_eb, y_in (show r < 8 by omega) (by decide), nI_clamp (show r < 2 ^ 31 by omega), cond_true, r1, r2, f1, y_eV, y_1]
    exact g1
theorem y_s_after (x : Int32) : zSI zR q_HR_after q_Mo_after [.int x] := by
  refine y_simI fun S hok hox => ?_
  cases h : y_rg x 0 2 with
  | false =>
    have h' := y_rgf.mp h
    refine ⟨-1, fun I J hZ => ⟨I, J, ?_, y_sm_r I J⟩, fun I J hZ => ⟨I, J, ?_, y_sm_r I J⟩⟩
    · refine b_HR_after _ _ _ _ _ ?_
      by_cases z : x.toInt < 0
      · rw [if_pos (by rw [y_ltI, y_lit.1]; exact z)]
      · rw [if_neg (by rw [y_ltI, y_lit.1]; exact z), if_neg (by rw [y_leI]; simp only [y_lit]; omega)]
    · refine b_Mo_after _ _ _ _ _ ?_
      rw [y_Mo_inI _ x 0 2 (l := 0) (h := 2) (by decide) (by decide), h, y_eI, if_pos (by decide)]
  | true =>
    have h' := y_rgt.mp h
    refine ⟨y_afr x (y_evs S S (S 11 0) 0), fun I J hZ => ?_, fun I J hZ => ?_⟩
    · obtain ⟨I1, f1, f2, f3, _, f5⟩ := y_Se_become 57 (b := 39) (b' := 1) (Or.inr (Or.inr rfl)) (Or.inl rfl) (by omega) hok hox J hZ.2.1.1 hZ.2.1.2
      obtain ⟨I', J', g1, g2, g3⟩ := y_HR_after_l 49 hok hox x (S 11 0) 0 S I1 J (by omega) hok rfl f2 (y_vX_of (fun q _ _ => f5 q (by omega)) hZ.2.1.2)
      refine ⟨I', J', ?_, fun q h1 h2 h3 => by rw [g2 q (by omega), f5 q (by omega)], fun j hj => by rw [g2 92 (by omega), f5 92 (by omega)], fun q h1 h2 => g3 q h1⟩
      refine b_HR_after _ _ _ _ _ ?_
      rw [if_neg (by rw [y_ltI, y_lit.1]; omega), if_pos (by rw [y_leI]; simp only [y_lit]; omega)]
      simp (maxSteps := 1000000) (disch := omega) only [sh_is0, sh_gI0, sh_wI0, sh_wZ0, sh_gR0, sh_gR1, sh_gR2, sh_lI0, sh_lI1, sh_lI2, sh_sI0, sh_sI1, sh_sI2, sh_len0, sh_len1, sh_len2, sh_lZ0, sh_sZ0, sh_gJ0, sh_wJ0, sh_lR0, sh_lJ0, sh_sJ0, y_eo, y_eb, f1, y_eV]
      exact g1
    · have hR := hZ.2.2.1.1
      have hR1 : y_vR S (xz_row I 111 (va_cpy (I 93) (I 111) 0 0 14)) := y_vR_of (fun q _ _ => y_row_n (by omega)) (fun j _ => by rw [y_row_n (by omega)]) hR
      have hY1 : y_vY S (xz_row I 111 (va_cpy (I 93) (I 111) 0 0 14)) := y_vY_of (fun q _ _ => y_row_n (by omega)) (fun j _ _ => by rw [y_row_n (by omega)]) hZ.2.2.1.2
      obtain ⟨I', J', g1, g2, g3, g4, ⟨g5, g5'⟩, g6, g7⟩ := y_Mo_after_l 47 hok hox x h' (nI (S 0 1)) (nI (S 0 4)) (S 11 0) 0 S _ J (by omega) hok rfl hR1 hY1
      have e93 : I' 93 = I 93 := by
        funext y
        by_cases hy : y < 14
        · rw [g3 y hy, y_row_e rfl, pk_cpy_in (by omega) (by omega), show 0 + (y - 0) = y by omega]
        · rw [g4 y (by omega), y_row_n (by omega)]
      refine ⟨I', J', ?_, fun q h1 h2 h3 => ?_, fun j hj => ?_, fun q h1 h2 => g7 q h2⟩
      · refine b_Mo_after _ _ _ _ _ ?_
        rw [y_Mo_inI _ x 0 2 (l := 0) (h := 2) (by decide) (by decide), h, y_eI, if_neg (by decide)]
        simp (maxSteps := 1000000) (disch := omega) only [sh_is0, sh_gI0, sh_wI0, sh_wZ0, sh_gR0, sh_gR1, sh_gR2, sh_lI0, sh_lI1, sh_lI2, sh_sI0, sh_sI1, sh_sI2, sh_len0, sh_len1, sh_len2, sh_lZ0, sh_sZ0, sh_gJ0, sh_wJ0, sh_lR0, sh_lJ0, sh_sJ0, y_eo, y_eb, hR.1.2.1, hR.1.2.2.2.2, y_c93b]
        exact g1
      · by_cases z : q = 93
        · rw [z]; exact e93
        · rw [g2 q h2 z (by omega) (by omega), y_row_n (by omega)]
      · by_cases z7 : j = 7
        · rw [z7, g5]; exact hR.1.2.1.symm
        · by_cases z10 : j = 10
          · rw [z10, g5']; exact hR.1.2.2.2.2.symm
          · rw [g6 j hj z7 z10, y_row_n (by omega)]
