/-! AGENDA, RANKS -/
theorem y_ct_add1 {P Q : Nat → Bool} {x : Nat} (hp : P x = false) (hq : Q x = true) : ∀ {j m : Nat}, (∀ i, m ≤ i → i < m + j → i ≠ x → P i = Q i) → m ≤ x → x < m + j → y_ct Q j m = y_ct P j m + 1
  | 0, m, h, h1, h2 => by omega
  | j + 1, m, h, h1, h2 => by
    unfold y_ct
    by_cases e : m = x
    · subst e
      rw [hp, hq, if_pos rfl, if_neg (by simp), y_ct_congr (P := P) (Q := Q) (j := j) (m := m + 1) fun i h3 h4 => h i (by omega) (by omega) (by omega)]
      omega
    · rw [h m (Nat.le_refl _) (by omega) e, y_ct_add1 hp hq (j := j) (m := m + 1) (fun i h3 h4 h5 => h i (by omega) (by omega) h5) (by omega) (by omega)]
      omega
theorem y_ct_mono {P Q : Nat → Bool} : ∀ {j m : Nat}, (∀ i, m ≤ i → i < m + j → P i = true → Q i = true) → y_ct P j m ≤ y_ct Q j m
  | 0, m, h => Nat.le_refl _
  | j + 1, m, h => by
    have ih := y_ct_mono (P := P) (Q := Q) (j := j) (m := m + 1) fun i h3 h4 => h i (by omega) (by omega)
    unfold y_ct
    by_cases e : P m = true
    · rw [if_pos e, if_pos (h m (Nat.le_refl _) (by omega) e)]
      omega
    · rw [if_neg e]
      omega
theorem y_ct_lt {P Q : Nat → Bool} {x : Nat} (hp : P x = false) (hq : Q x = true) : ∀ {j m : Nat}, (∀ i, m ≤ i → i < m + j → P i = true → Q i = true) → m ≤ x → x < m + j → y_ct P j m < y_ct Q j m
  | 0, m, h, h1, h2 => by omega
  | j + 1, m, h, h1, h2 => by
    unfold y_ct
    by_cases e : m = x
    · subst e
      have := y_ct_mono (P := P) (Q := Q) (j := j) (m := m + 1) fun i h3 h4 => h i (by omega) (by omega)
      rw [hp, hq, if_pos rfl, if_neg (by simp)]
      omega
    · have := y_ct_lt hp hq (j := j) (m := m + 1) (fun i h3 h4 => h i (by omega) (by omega)) (by omega) (by omega)
      by_cases e : P m = true
      · rw [if_pos e, if_pos (h m (Nat.le_refl _) (by omega) e)]
        omega
      · rw [if_neg e]
        omega
def y_cP (S : y_S) (t m o : Nat) : Bool := S 6 o == 0 && (decide (S 2 o < t) || (S 2 o == t && decide (o < m)))
/-- how many are ahead of a time and a number -/
def y_cn (S : y_S) (t m : Nat) : Nat := y_ct (y_cP S t m) (S 1 0) 0
theorem y_cPt {S : y_S} {t m o : Nat} : y_cP S t m o = true ↔ S 6 o = 0 ∧ (S 2 o < t ∨ (S 2 o = t ∧ o < m)) := by
  unfold y_cP
  simp
theorem y_cPf {S : y_S} {t m o : Nat} : y_cP S t m o = false ↔ ¬ (S 6 o = 0 ∧ (S 2 o < t ∨ (S 2 o = t ∧ o < m))) := by
  rw [← y_cPt]
  simp
theorem y_cn_next (S : y_S) (t : Nat) : y_cn S (t + 1) 0 = y_cn S t (S 1 0) := by
  unfold y_cn
  refine y_ct_congr fun i h1 h2 => ?_
  cases h : y_cP S t (S 1 0) i with
  | true =>
    have := y_cPt.mp h
    exact y_cPt.mpr (by omega)
  | false =>
    have := y_cPf.mp h
    exact y_cPf.mpr (by omega)
theorem y_cn_in {S : y_S} {t m : Nat} (hm : m < S 1 0) (h : S 6 m = 0 ∧ S 2 m = t) : y_cn S t (m + 1) = y_cn S t m + 1 := by
  unfold y_cn
  refine y_ct_add1 (x := m) (y_cPf.mpr (by omega)) (y_cPt.mpr (by omega)) (fun i h1 h2 h3 => ?_) (by omega) (by omega)
  cases h' : y_cP S t (m + 1) i with
  | true =>
    have := y_cPt.mp h'
    exact y_cPt.mpr (by omega)
  | false =>
    have := y_cPf.mp h'
    exact y_cPf.mpr (by omega)
theorem y_cn_out {S : y_S} {t m : Nat} (h : ¬ (S 6 m = 0 ∧ S 2 m = t)) : y_cn S t (m + 1) = y_cn S t m := by
  unfold y_cn
  refine y_ct_congr fun i h1 h2 => ?_
  cases h' : y_cP S t m i with
  | true =>
    have := y_cPt.mp h'
    exact y_cPt.mpr (by omega)
  | false =>
    have := y_cPf.mp h'
    by_cases e : i = m
    · subst e
      exact y_cPf.mpr (by omega)
    · exact y_cPf.mpr (by omega)
theorem y_cn_lt {S : y_S} {t m t' m' : Nat} (hm : m < S 1 0) (h6 : S 6 m = 0) (h2 : S 2 m = t) (h : t < t' ∨ (t = t' ∧ m < m')) : y_cn S t m < y_cn S t' m' := by
  unfold y_cn
  refine y_ct_lt (x := m) (y_cPf.mpr (by omega)) (y_cPt.mpr (by omega)) (fun i _ _ hi => ?_) (by omega) (by omega)
  have := y_cPt.mp hi
  exact y_cPt.mpr (by omega)
/-- the k-th of the agenda -/
def y_agP (S : y_S) (k : Nat) (o : Option Nat) : Prop := match o with
  | some m => m < S 1 0 ∧ S 6 m = 0 ∧ y_cn S (S 2 m) m = k
  | none => ∀ m, m < S 1 0 → S 6 m = 0 → y_cn S (S 2 m) m ≠ k
theorem y_agP_u {S : y_S} {k : Nat} {o o' : Option Nat} (h : y_agP S k o) (h' : y_agP S k o') : o = o' := by
  cases o with
  | none =>
    cases o' with
    | none => rfl
    | some m => exact absurd h'.2.2 (h m h'.1 h'.2.1)
  | some m =>
    cases o' with
    | none => exact absurd h.2.2 (h' m h.1 h.2.1)
    | some m' =>
      obtain ⟨a1, a2, a3⟩ := h
      obtain ⟨b1, b2, b3⟩ := h'
      by_cases e : m = m'
      · rw [e]
      · exfalso
        by_cases z : S 2 m < S 2 m' ∨ (S 2 m = S 2 m' ∧ m < m')
        · have := y_cn_lt a1 a2 rfl z
          omega
        · have := y_cn_lt (t' := S 2 m) (m' := m) b1 b2 rfl (by omega)
          omega
theorem y_Me_ahead_l (d : Nat) {b : Nat} (hb : y_b3 b) {S : y_S} {I : Nat → Nat → Int32} (J : Nat → Nat → Int64) (hS : y_vM b S I) (hok : y_okM S) {m : Nat} (hm : m < S 1 0) : ∀ (j o c : Nat), o + j = S 1 0 → zL d q_Me_howManyAhead 5 [(0, .ref (b + 1)), (1, .int (nI m)), (2, .int (nI c)), (3, .int (nI o))] (xz_SH, I, J) = some (some (.int (nI (c + y_ct (y_cP S (S 2 m) m) j o))), (xz_SH, I, J))
  | 0, o, c, ho => by
    obtain ⟨k1, k2, k3, k4, k5, k6, k7, k8⟩ := id hok
    refine b_Me_howManyAhead_l5 _ _ _ _ _ _ _ ?_
    simp (maxSteps := 1000000) (disch := omega) only [sh_is0, sh_gI0, sh_wI0, sh_wZ0, sh_gR0, sh_gR1, sh_gR2, sh_lI0, sh_lI1, sh_lI2, sh_sI0, sh_sI1, sh_sI2, sh_len0, sh_len1, sh_len2, sh_lZ0, sh_sZ0, sh_gJ0, sh_wJ0, sh_lR0, sh_lJ0, sh_sJ0, y_shb hb, y_eo, y_eb, y_eI, y_eJ, y_eR, y_eV, y_in, nI_clamp, cond_true, y_eqI, y_ltI, y_leI, y_lit, nI_toInt, if_true, if_false, if_pos, if_neg, y_bIt, y_bIf, y_band, hS.2.1]
    rfl
  | j + 1, o, c, ho => by
    obtain ⟨k1, k2, k3, k4, k5, k6, k7, k8⟩ := id hok
    have ih := fun c => y_Me_ahead_l d hb J hS hok hm j (o + 1) c (by omega)
    obtain ⟨m1, m2, m3, m4, m5⟩ := hS.2.2 m hm
    obtain ⟨o1, o2, o3, o4, o5⟩ := hS.2.2 o (by omega)
    have g1 := (k8 m hm).1
    have g2 := (k8 o (by omega)).1
    have g7 := (k8 o (by omega)).2.2.2.2.2.2
    show _ = some (some (Value.int (nI (c + ((if y_cP S (S 2 m) m o = true then 1 else 0) + y_ct (y_cP S (S 2 m) m) j (o + 1))))), ((xz_SH, I, J) : xz_M))
    refine b_Me_howManyAhead_l5 _ _ _ _ _ _ _ ?_
    by_cases e0 : S 6 o = 0
    · by_cases e1 : S 2 o < S 2 m
      · rw [if_pos (y_cPt.mpr ⟨e0, Or.inl e1⟩), ← Nat.add_assoc, ← ih]
        simp (maxSteps := 1000000) (disch := omega) only [sh_is0, sh_gI0, sh_wI0, sh_wZ0, sh_gR0, sh_gR1, sh_gR2, sh_lI0, sh_lI1, sh_lI2, sh_sI0, sh_sI1, sh_sI2, sh_len0, sh_len1, sh_len2, sh_lZ0, sh_sZ0, sh_gJ0, sh_wJ0, sh_lR0, sh_lJ0, sh_sJ0, y_shb hb, y_eo, y_eb, y_eI, y_eJ, y_eR, y_eV, y_in, nI_clamp, cond_true, y_eqI, y_ltI, y_leI, y_lit, nI_toInt, if_true, if_false, if_pos, if_neg, y_bIt, y_bIf, y_band, hS.2.1, o5, e0, o1, m1, y_1]
      · by_cases e2 : S 2 o = S 2 m
        · by_cases e3 : o < m
          · rw [if_pos (y_cPt.mpr ⟨e0, Or.inr ⟨e2, e3⟩⟩), ← Nat.add_assoc, ← ih]
            simp (maxSteps := 1000000) (disch := omega) only [sh_is0, sh_gI0, sh_wI0, sh_wZ0, sh_gR0, sh_gR1, sh_gR2, sh_lI0, sh_lI1, sh_lI2, sh_sI0, sh_sI1, sh_sI2, sh_len0, sh_len1, sh_len2, sh_lZ0, sh_sZ0, sh_gJ0, sh_wJ0, sh_lR0, sh_lJ0, sh_sJ0, y_shb hb, y_eo, y_eb, y_eI, y_eJ, y_eR, y_eV, y_in, nI_clamp, cond_true, y_eqI, y_ltI, y_leI, y_lit, nI_toInt, if_true, if_false, if_pos, if_neg, y_bIt, y_bIf, y_band, hS.2.1, o5, e0, o1, m1, y_1]
          · rw [show (if y_cP S (S 2 m) m o = true then 1 else 0 : Nat) = 0 from if_neg (by rw [y_cPt]; omega), Nat.zero_add, ← ih]
            simp (maxSteps := 1000000) (disch := omega) only [sh_is0, sh_gI0, sh_wI0, sh_wZ0, sh_gR0, sh_gR1, sh_gR2, sh_lI0, sh_lI1, sh_lI2, sh_sI0, sh_sI1, sh_sI2, sh_len0, sh_len1, sh_len2, sh_lZ0, sh_sZ0, sh_gJ0, sh_wJ0, sh_lR0, sh_lJ0, sh_sJ0, y_shb hb, y_eo, y_eb, y_eI, y_eJ, y_eR, y_eV, y_in, nI_clamp, cond_true, y_eqI, y_ltI, y_leI, y_lit, nI_toInt, if_true, if_false, if_pos, if_neg, y_bIt, y_bIf, y_band, hS.2.1, o5, e0, o1, m1, y_1]
        · rw [show (if y_cP S (S 2 m) m o = true then 1 else 0 : Nat) = 0 from if_neg (by rw [y_cPt]; omega), Nat.zero_add, ← ih]
          simp (maxSteps := 1000000) (disch := omega) only [sh_is0, sh_gI0, sh_wI0, sh_wZ0, sh_gR0, sh_gR1, sh_gR2, sh_lI0, sh_lI1, sh_lI2, sh_sI0, sh_sI1, sh_sI2, sh_len0, sh_len1, sh_len2, sh_lZ0, sh_sZ0, sh_gJ0, sh_wJ0, sh_lR0, sh_lJ0, sh_sJ0, y_shb hb, y_eo, y_eb, y_eI, y_eJ, y_eR, y_eV, y_in, nI_clamp, cond_true, y_eqI, y_ltI, y_leI, y_lit, nI_toInt, if_true, if_false, if_pos, if_neg, y_bIt, y_bIf, y_band, hS.2.1, o5, e0, o1, m1, y_1]
    · rw [show (if y_cP S (S 2 m) m o = true then 1 else 0 : Nat) = 0 from if_neg (by rw [y_cPt]; omega), Nat.zero_add, ← ih]
      simp (maxSteps := 1000000) (disch := omega) only [sh_is0, sh_gI0, sh_wI0, sh_wZ0, sh_gR0, sh_gR1, sh_gR2, sh_lI0, sh_lI1, sh_lI2, sh_sI0, sh_sI1, sh_sI2, sh_len0, sh_len1, sh_len2, sh_lZ0, sh_sZ0, sh_gJ0, sh_wJ0, sh_lR0, sh_lJ0, sh_sJ0, y_shb hb, y_eo, y_eb, y_eI, y_eJ, y_eR, y_eV, y_in, nI_clamp, cond_true, y_eqI, y_ltI, y_leI, y_lit, nI_toInt, if_true, if_false, if_pos, if_neg, y_bIt, y_bIf, y_band, hS.2.1, o5, y_1]
theorem y_HR_agenda_l (d : Nat) {S : y_S} (hok : y_okM S) {I : Nat → Nat → Int32} (J : Nat → Nat → Int64) (hM : y_vM 1 S I) {k : Nat} (hk : k < 2 ^ 31) : ∀ (j m : Nat), m + j = S 1 0 → (∀ i, i < m → S 6 i = 0 → y_cn S (S 2 i) i ≠ k) → ∃ o, zL (d + 1) q_HR_agenda 7 [(0, .ref 0), (1, .int (nI k)), (2, .int (nI m))] (xz_SH, I, J) = some (some (.int (y_o5 o)), (xz_SH, I, J)) ∧ y_agP S k o
  | 0, m, hm, hall => by
    obtain ⟨k1, k2, k3, k4, k5, k6, k7, k8⟩ := id hok
    refine ⟨none, ?_, fun i hi => hall i (by omega)⟩
    refine b_HR_agenda_l7 _ _ _ _ _ _ ?_
    have e1 := hM.2.1
    simp (maxSteps := 1000000) (disch := omega) only [sh_is0, sh_gI0, sh_wI0, sh_wZ0, sh_gR0, sh_gR1, sh_gR2, sh_lI0, sh_lI1, sh_lI2, sh_sI0, sh_sI1, sh_sI2, sh_len0, sh_len1, sh_len2, sh_lZ0, sh_sZ0, sh_gJ0, sh_wJ0, sh_lR0, sh_lJ0, sh_sJ0, y_eo, y_eb, y_eI, y_eJ, y_eR, y_eV, y_in, nI_clamp, cond_true, y_eqI, y_ltI, y_leI, y_lit, nI_toInt, if_true, if_false, if_pos, if_neg, y_bIt, y_bIf, y_band, e1]
    rfl
  | j + 1, m, hm, hall => by
    obtain ⟨k1, k2, k3, k4, k5, k6, k7, k8⟩ := id hok
    have e1 := hM.2.1
    have hT := y_Me_isThere d (Or.inl rfl) J hM hok (m := m) (by omega)
    have hA := b_Me_howManyAhead d 2 (nI m) _ _ (y_Me_ahead_l d (Or.inl rfl) J hM hok (m := m) (by omega) (S 1 0) 0 0 (by omega))
    have hle : y_ct (y_cP S (S 2 m) m) (S 1 0) 0 ≤ S 1 0 := y_ct_le _ _ _
    rw [Nat.zero_add] at hA
    by_cases e : S 6 m = 0
    · have e' : (S 6 m == 0) = true := by simpa using e
      rw [e'] at hT
      by_cases e2 : y_cn S (S 2 m) m = k
      · refine ⟨some m, ?_, by omega, e, e2⟩
        have e3 : y_ct (y_cP S (S 2 m) m) (S 1 0) 0 = k := e2
        rw [e3] at hA
        refine b_HR_agenda_l7 _ _ _ _ _ _ ?_
        simp (maxSteps := 1000000) (disch := omega) only [sh_is0, sh_gI0, sh_wI0, sh_wZ0, sh_gR0, sh_gR1, sh_gR2, sh_lI0, sh_lI1, sh_lI2, sh_sI0, sh_sI1, sh_sI2, sh_len0, sh_len1, sh_len2, sh_lZ0, sh_sZ0, sh_gJ0, sh_wJ0, sh_lR0, sh_lJ0, sh_sJ0, y_eo, y_eb, y_eI, y_eJ, y_eR, y_eV, y_in, nI_clamp, cond_true, y_eqI, y_ltI, y_leI, y_lit, nI_toInt, if_true, if_false, if_pos, if_neg, y_bIt, y_bIf, y_band, e1, hT, hA, y_o5s]
      · have e3 : ¬ y_ct (y_cP S (S 2 m) m) (S 1 0) 0 = k := e2
        obtain ⟨o, f1, f2⟩ := y_HR_agenda_l d hok J hM hk j (m + 1) (by omega) (fun i hi h => by
          by_cases z : i = m
          · rw [z]; exact e2
          · exact hall i (by omega) h)
        refine ⟨o, ?_, f2⟩
        refine b_HR_agenda_l7 _ _ _ _ _ _ ?_
        simp (maxSteps := 1000000) (disch := omega) only [sh_is0, sh_gI0, sh_wI0, sh_wZ0, sh_gR0, sh_gR1, sh_gR2, sh_lI0, sh_lI1, sh_lI2, sh_sI0, sh_sI1, sh_sI2, sh_len0, sh_len1, sh_len2, sh_lZ0, sh_sZ0, sh_gJ0, sh_wJ0, sh_lR0, sh_lJ0, sh_sJ0, y_eo, y_eb, y_eI, y_eJ, y_eR, y_eV, y_in, nI_clamp, cond_true, y_eqI, y_ltI, y_leI, y_lit, nI_toInt, if_true, if_false, if_pos, if_neg, y_bIt, y_bIf, y_band, e1, hT, hA, y_1]
        exact f1
    · have e' : (S 6 m == 0) = false := by simpa using e
      rw [e'] at hT
      obtain ⟨o, f1, f2⟩ := y_HR_agenda_l d hok J hM hk j (m + 1) (by omega) (fun i hi h => by
        by_cases z : i = m
        · rw [z] at h; exact absurd h e
        · exact hall i (by omega) h)
      refine ⟨o, ?_, f2⟩
      refine b_HR_agenda_l7 _ _ _ _ _ _ ?_
      simp (maxSteps := 1000000) (disch := omega) only [sh_is0, sh_gI0, sh_wI0, sh_wZ0, sh_gR0, sh_gR1, sh_gR2, sh_lI0, sh_lI1, sh_lI2, sh_sI0, sh_sI1, sh_sI2, sh_len0, sh_len1, sh_len2, sh_lZ0, sh_sZ0, sh_gJ0, sh_wJ0, sh_lR0, sh_lJ0, sh_sJ0, y_eo, y_eb, y_eI, y_eJ, y_eR, y_eV, y_in, nI_clamp, cond_true, y_eqI, y_ltI, y_leI, y_lit, nI_toInt, if_true, if_false, if_pos, if_neg, y_bIt, y_bIf, y_band, e1, hT, y_1]
      exact f1
theorem y_Mo_agenda_l (d : Nat) {S : y_S} (hok : y_okM S) {I : Nat → Nat → Int32} (J : Nat → Nat → Int64) (hR : y_vR S I) {k : Nat} (hk : k < 2 ^ 31) : ∀ (i t : Nat), t + i = 100 → ∀ (a : Nat), a + y_cn S t 0 = k → ∃ o, zL d q_Mo_agenda 9 [(0, .ref 92), (2, .int (nI a)), (3, .int (nI t))] (xz_SH, I, J) = some (some (.int (y_o5 o)), (xz_SH, I, J)) ∧ y_agP S k o := by
  obtain ⟨k1, k2, k3, k4, k5, k6, k7, k8⟩ := id hok
  intro i
  induction i with
  | zero =>
    intro t ht a ha
    refine ⟨none, ?_, fun m hm h6 => ?_⟩
    · refine b_Mo_agenda_l9 _ _ _ _ _ _ ?_
      rw [if_pos (by rw [y_ltI, nI_toInt (by omega)]; simp only [y_lit]; omega)]
      rfl
    · have := y_cn_lt (t' := t) (m' := 0) hm h6 rfl (by have := (k8 m hm).1; omega)
      omega
  | succ i ih =>
    intro t ht
    have loop : ∀ (j m a : Nat), m + j = S 1 0 → a + y_cn S t m = k → ∃ o, zL d q_Mo_agenda 15 [(0, .ref 92), (2, .int (nI a)), (3, .int (nI t)), (4, .int (nI m))] (xz_SH, I, J) = some (some (.int (y_o5 o)), (xz_SH, I, J)) ∧ y_agP S k o := by
      intro j
      induction j with
      | zero =>
        intro m a hm ha
        have hm' : m = S 1 0 := by omega
        subst hm'
        obtain ⟨o, f1, f2⟩ := ih (t + 1) (by omega) a (by rw [y_cn_next]; exact ha)
        refine ⟨o, ?_, f2⟩
        refine b_Mo_agenda_l15 _ _ _ _ _ _ _ ?_
        simp (maxSteps := 1000000) (disch := omega) only [sh_is0, sh_gI0, sh_wI0, sh_wZ0, sh_gR0, sh_gR1, sh_gR2, sh_lI0, sh_lI1, sh_lI2, sh_sI0, sh_sI1, sh_sI2, sh_len0, sh_len1, sh_len2, sh_lZ0, sh_sZ0, sh_gJ0, sh_wJ0, sh_lR0, sh_lJ0, sh_sJ0, y_eo, y_eb, y_eI, y_eJ, y_eR, y_eV, y_in, nI_clamp, cond_true, y_eqI, y_ltI, y_leI, y_lit, nI_toInt, if_true, if_false, if_pos, if_neg, y_bIt, y_bIf, y_band, hR.2.1, y_1]
        exact f1
      | succ j jh =>
        intro m a hm ha
        obtain ⟨m1, m2, m3, m4, m5⟩ := hR.2.2 m (by omega)
        have g1 := (k8 m (by omega)).1
        have g7 := (k8 m (by omega)).2.2.2.2.2.2
        by_cases e0 : S 6 m = 0
        · by_cases e1 : S 2 m = t
          · by_cases e2 : a = 0
            · refine ⟨some m, ?_, by omega, e0, by rw [e1]; omega⟩
              refine b_Mo_agenda_l15 _ _ _ _ _ _ _ ?_
              simp (maxSteps := 1000000) (disch := omega) only [sh_is0, sh_gI0, sh_wI0, sh_wZ0, sh_gR0, sh_gR1, sh_gR2, sh_lI0, sh_lI1, sh_lI2, sh_sI0, sh_sI1, sh_sI2, sh_len0, sh_len1, sh_len2, sh_lZ0, sh_sZ0, sh_gJ0, sh_wJ0, sh_lR0, sh_lJ0, sh_sJ0, y_eo, y_eb, y_eI, y_eJ, y_eR, y_eV, y_in, nI_clamp, cond_true, y_eqI, y_ltI, y_leI, y_lit, nI_toInt, if_true, if_false, if_pos, if_neg, y_bIt, y_bIf, y_band, hR.2.1, m5, e0, m1, e1, e2, y_o5s]
            · obtain ⟨o, f1, f2⟩ := jh (m + 1) (a - 1) (by omega) (by rw [y_cn_in (by omega) ⟨e0, e1⟩]; omega)
              refine ⟨o, ?_, f2⟩
              refine b_Mo_agenda_l15 _ _ _ _ _ _ _ ?_
              have ea : nI a + (-1 : Int32) = nI (a - 1) := by
                obtain ⟨c, rfl⟩ : ∃ c, a = c + 1 := ⟨a - 1, by omega⟩
                exact y_pd_s (c + 1)
              simp (maxSteps := 1000000) (disch := omega) only [sh_is0, sh_gI0, sh_wI0, sh_wZ0, sh_gR0, sh_gR1, sh_gR2, sh_lI0, sh_lI1, sh_lI2, sh_sI0, sh_sI1, sh_sI2, sh_len0, sh_len1, sh_len2, sh_lZ0, sh_sZ0, sh_gJ0, sh_wJ0, sh_lR0, sh_lJ0, sh_sJ0, y_eo, y_eb, y_eI, y_eJ, y_eR, y_eV, y_in, nI_clamp, cond_true, y_eqI, y_ltI, y_leI, y_lit, nI_toInt, if_true, if_false, if_pos, if_neg, y_bIt, y_bIf, y_band, hR.2.1, m5, e0, m1, e1, ea, y_1]
              exact f1
          · obtain ⟨o, f1, f2⟩ := jh (m + 1) a (by omega) (by rw [y_cn_out (by omega)]; exact ha)
            refine ⟨o, ?_, f2⟩
            refine b_Mo_agenda_l15 _ _ _ _ _ _ _ ?_
            simp (maxSteps := 1000000) (disch := omega) only [sh_is0, sh_gI0, sh_wI0, sh_wZ0, sh_gR0, sh_gR1, sh_gR2, sh_lI0, sh_lI1, sh_lI2, sh_sI0, sh_sI1, sh_sI2, sh_len0, sh_len1, sh_len2, sh_lZ0, sh_sZ0, sh_gJ0, sh_wJ0, sh_lR0, sh_lJ0, sh_sJ0, y_eo, y_eb, y_eI, y_eJ, y_eR, y_eV, y_in, nI_clamp, cond_true, y_eqI, y_ltI, y_leI, y_lit, nI_toInt, if_true, if_false, if_pos, if_neg, y_bIt, y_bIf, y_band, hR.2.1, m5, e0, m1, y_1]
            exact f1
        · have e0' : S 6 m = 1 := by omega
          obtain ⟨o, f1, f2⟩ := jh (m + 1) a (by omega) (by rw [y_cn_out (by omega)]; exact ha)
          refine ⟨o, ?_, f2⟩
          refine b_Mo_agenda_l15 _ _ _ _ _ _ _ ?_
          simp (maxSteps := 1000000) (disch := omega) only [sh_is0, sh_gI0, sh_wI0, sh_wZ0, sh_gR0, sh_gR1, sh_gR2, sh_lI0, sh_lI1, sh_lI2, sh_sI0, sh_sI1, sh_sI2, sh_len0, sh_len1, sh_len2, sh_lZ0, sh_sZ0, sh_gJ0, sh_wJ0, sh_lR0, sh_lJ0, sh_sJ0, y_eo, y_eb, y_eI, y_eJ, y_eR, y_eV, y_in, nI_clamp, cond_true, y_eqI, y_ltI, y_leI, y_lit, nI_toInt, if_true, if_false, if_pos, if_neg, y_bIt, y_bIf, y_band, hR.2.1, m5, e0', y_1]
          exact f1
    intro a ha
    obtain ⟨o, f1, f2⟩ := loop (S 1 0) 0 a (by omega) ha
    refine ⟨o, ?_, f2⟩
    refine b_Mo_agenda_l9 _ _ _ _ _ _ ?_
    rw [if_neg (by rw [y_ltI, nI_toInt (by omega)]; simp only [y_lit]; omega)]
    exact f1
theorem y_cn_00 (S : y_S) : y_cn S 0 0 = 0 := by
  unfold y_cn
  have : ∀ j m, y_ct (y_cP S 0 0) j m = 0 := by
    intro j
    induction j with
    | zero => intro m; rfl
    | succ j ih =>
      intro m
      unfold y_ct
      rw [ih, if_neg (by rw [y_cPt]; omega)]
  exact this _ _
theorem y_s_agenda (x : Int32) : zSI zR q_HR_agenda q_Mo_agenda [.int x] := by
  refine y_simI2 fun S I J hZ => ?_
  have hok := hZ.1.1
  by_cases hx : 0 ≤ x.toInt
  · obtain ⟨k, hk, rfl, hxk⟩ := y_of x hx
    obtain ⟨o, f1, f2⟩ := y_HR_agenda_l 58 hok J hZ.2.1.1 hk (S 1 0) 0 (by omega) (fun i hi => by omega)
    refine ⟨y_o5 o, I, J, ?_, y_sm_r I J, fun I J hZ => ?_⟩
    · refine b_HR_agenda _ _ _ _ _ ?_
      rw [if_pos (by rw [y_leI, hxk, y_lit.1]; omega)]
      exact f1
    · obtain ⟨o', g1, g2⟩ := y_Mo_agenda_l 59 hok J hZ.2.2.1.1 hk 100 0 (by omega) k (by rw [y_cn_00]; omega)
      refine ⟨I, J, ?_, y_sm_r I J⟩
      refine b_Mo_agenda _ _ _ _ _ ?_
      rw [if_pos (by rw [y_leI, hxk, y_lit.1]; omega), y_agP_u f2 g2]
      exact g1
  · refine ⟨-1, I, J, ?_, y_sm_r I J, fun I J hZ => ⟨I, J, ?_, y_sm_r I J⟩⟩
    · refine b_HR_agenda _ _ _ _ _ ?_
      rw [if_neg (by rw [y_leI, y_lit.1]; omega)]
    · refine b_Mo_agenda _ _ _ _ _ ?_
      rw [if_neg (by rw [y_leI, y_lit.1]; omega)]
/-! ranks -/
theorem y_run_n {S : y_S} (hok : y_okM S) {B : Nat} : ∀ {p : List Nat} {h r v g r' v' : Nat}, h < S 0 0 → y_run S B p h r v = some (g, r', v') → g < S 0 0
  | [], _, _, _, _, _, _, hh, e => by
    cases e
    exact hh
  | m :: p, h, r, v, g, r', v', hh, e => by
    obtain ⟨h1, x, hx, e1⟩ := y_run_ci e
    exact y_run_n hok (y_ot_lt hok h1 (y_tk_i hx).2.2.1).1 e1
theorem y_rc_n {S : y_S} (hok : y_okM S) {B st g t : Nat} (h : y_rc S B st g = some t) : g < S 0 0 := by
  unfold y_rc at h
  rw [List.min?_eq_some_iff'] at h
  obtain ⟨w, hw, _⟩ := List.mem_map.mp h.1
  obtain ⟨_, r', v', e⟩ := (y_wl_mem (y_one.mpr rfl)).mp hw
  exact y_run_n hok hok.2.2.2.1 e
def y_qP (a : y_A) (t p o : Nat) : Bool := match a o with
  | none => false
  | some u => decide (u < t) || (u == t && decide (p ≤ o))
def y_cq (a : y_A) (t p : Nat) : Nat := y_ct (y_qP a t p) 6 0
theorem y_qPt {a : y_A} {t p o : Nat} : y_qP a t p o = true ↔ ∃ u, a o = some u ∧ (u < t ∨ (u = t ∧ p ≤ o)) := by
  unfold y_qP
  cases e : a o with
  | none => simp
  | some u => simp
theorem y_qPf {a : y_A} {t p o : Nat} : y_qP a t p o = false ↔ ∀ u, a o = some u → ¬ (u < t ∨ (u = t ∧ p ≤ o)) := by
  unfold y_qP
  cases e : a o with
  | none => simp
  | some u => simp
theorem y_cq_next {a : y_A} {n : Nat} (ha : ∀ o u, a o = some u → o < n) (t : Nat) : y_cq a (t + 1) n = y_cq a t 0 := by
  unfold y_cq
  refine y_ct_congr fun i h1 h2 => ?_
  cases h : y_qP a t 0 i with
  | true =>
    obtain ⟨u, e, hu⟩ := y_qPt.mp h
    exact y_qPt.mpr ⟨u, e, by omega⟩
  | false =>
    refine y_qPf.mpr fun u e => ?_
    have := y_qPf.mp h u e
    have := ha i u e
    omega
theorem y_cq_in {a : y_A} {t p : Nat} (hp : p < 6) (h : a p = some t) : y_cq a t p = y_cq a t (p + 1) + 1 := by
  unfold y_cq
  refine y_ct_add1 (x := p) (y_qPf.mpr fun u e => ?_) (y_qPt.mpr ⟨t, h, by omega⟩) (fun i h1 h2 h3 => ?_) (by omega) (by omega)
  · rw [h] at e
    cases e
    omega
  · cases h' : y_qP a t p i with
    | true =>
      obtain ⟨u, e, hu⟩ := y_qPt.mp h'
      exact y_qPt.mpr ⟨u, e, by omega⟩
    | false =>
      refine y_qPf.mpr fun u e => ?_
      have := y_qPf.mp h' u e
      omega
theorem y_cq_out {a : y_A} {t p : Nat} (h : a p ≠ some t) : y_cq a t p = y_cq a t (p + 1) := by
  unfold y_cq
  refine y_ct_congr fun i h1 h2 => ?_
  cases h' : y_qP a t (p + 1) i with
  | true =>
    obtain ⟨u, e, hu⟩ := y_qPt.mp h'
    exact y_qPt.mpr ⟨u, e, by omega⟩
  | false =>
    refine y_qPf.mpr fun u e => ?_
    have := y_qPf.mp h' u e
    by_cases z : i = p
    · subst z
      rintro (z | ⟨z, _⟩)
      · omega
      · rw [z] at e
        exact h e
    · omega
theorem y_cq_lt {a : y_A} {t p t' p' : Nat} (hp : p < 6) (h : a p = some t) (hl : t < t' ∨ (t = t' ∧ p' ≤ p)) : y_cq a t (p + 1) < y_cq a t' p' := by
  unfold y_cq
  refine y_ct_lt (x := p) (y_qPf.mpr fun u e => ?_) (y_qPt.mpr ⟨t, h, by omega⟩) (fun i _ _ hi => ?_) (by omega) (by omega)
  · rw [h] at e
    cases e
    omega
  · obtain ⟨u, e, hu⟩ := y_qPt.mp hi
    exact y_qPt.mpr ⟨u, e, by omega⟩
def y_rkP (a : y_A) (n k : Nat) (o : Option Nat) : Prop := match o with
  | some p => p < n ∧ ∃ t, a p = some t ∧ y_cq a t (p + 1) = k
  | none => ∀ p t, p < n → a p = some t → y_cq a t (p + 1) ≠ k
theorem y_rkP_u {a : y_A} {n k : Nat} (hn : n ≤ 6) {o o' : Option Nat} (h : y_rkP a n k o) (h' : y_rkP a n k o') : o = o' := by
  cases o with
  | none =>
    cases o' with
    | none => rfl
    | some p =>
      obtain ⟨h1, t, h2, h3⟩ := h'
      exact absurd h3 (h p t h1 h2)
  | some p =>
    obtain ⟨a1, t, a2, a3⟩ := h
    cases o' with
    | none => exact absurd a3 (h' p t a1 a2)
    | some p' =>
      obtain ⟨b1, t', b2, b3⟩ := h'
      by_cases e : p = p'
      · rw [e]
      · exfalso
        by_cases z : t < t' ∨ (t = t' ∧ p' < p)
        · have := y_cq_lt (t' := t') (p' := p' + 1) (by omega) a2 (by omega)
          omega
        · have := y_cq_lt (t' := t) (p' := p + 1) (by omega) b2 (by omega)
          omega
theorem y_Re_ahead_l (d : Nat) {a : y_A} {I : Nat → Nat → Int32} (J : Nat → Nat → Int64) (hA : y_vA a I) {p t : Nat} (hp : p < 6) (ht : a p = some t) : ∀ (j o c : Nat), o + j = 6 → zL d q_Re_howManyAhead 5 [(0, .ref 58), (1, .int (nI p)), (2, .int (nI c)), (3, .int (nI o))] (xz_SH, I, J) = some (some (.int (nI (c + y_ct (y_qP a t (p + 1)) j o))), (xz_SH, I, J))
  | 0, o, c, ho => by
    refine b_Re_howManyAhead_l5 _ _ _ _ _ _ _ ?_
    simp (maxSteps := 1000000) (disch := omega) only [sh_is0, sh_gI0, sh_wI0, sh_wZ0, sh_gR0, sh_gR1, sh_gR2, sh_lI0, sh_lI1, sh_lI2, sh_sI0, sh_sI1, sh_sI2, sh_len0, sh_len1, sh_len2, sh_lZ0, sh_sZ0, sh_gJ0, sh_wJ0, sh_lR0, sh_lJ0, sh_sJ0, y_eo, y_eb, y_eI, y_eJ, y_eR, y_eV, y_in, nI_clamp, cond_true, y_eqI, y_ltI, y_leI, y_lit, nI_toInt, if_true, if_false, if_pos, if_neg, y_bIt, y_bIf, y_band]
    rfl
  | j + 1, o, c, ho => by
    have ih := fun c => y_Re_ahead_l d J hA hp ht j (o + 1) c (by omega)
    obtain ⟨p1, p2⟩ := hA p hp
    have p3 := p2 t ht
    rw [ht] at p1
    obtain ⟨o1, o2⟩ := hA o (by omega)
    show _ = some (some (Value.int (nI (c + ((if y_qP a t (p + 1) o = true then 1 else 0) + y_ct (y_qP a t (p + 1)) j (o + 1))))), ((xz_SH, I, J) : xz_M))
    refine b_Re_howManyAhead_l5 _ _ _ _ _ _ _ ?_
    cases e : a o with
    | none =>
      rw [e] at o1
      have hq : y_qP a t (p + 1) o = false := y_qPf.mpr (fun u e' => by rw [e] at e'; cases e')
      rw [show (if y_qP a t (p + 1) o = true then 1 else 0 : Nat) = 0 from if_neg (by rw [hq]; simp), Nat.zero_add, ← ih]
      simp (maxSteps := 1000000) (disch := omega) only [sh_is0, sh_gI0, sh_wI0, sh_wZ0, sh_gR0, sh_gR1, sh_gR2, sh_lI0, sh_lI1, sh_lI2, sh_sI0, sh_sI1, sh_sI2, sh_len0, sh_len1, sh_len2, sh_lZ0, sh_sZ0, sh_gJ0, sh_wJ0, sh_lR0, sh_lJ0, sh_sJ0, y_eo, y_eb, y_eI, y_eJ, y_eR, y_eV, y_in, nI_clamp, cond_true, y_eqI, y_ltI, y_leI, y_lit, nI_toInt, if_true, if_false, if_pos, if_neg, y_bIt, y_bIf, y_band, o1, y_o5n, y_1]
    | some u =>
      have u3 := o2 u e
      rw [e] at o1
      by_cases e1 : u < t
      · rw [if_pos (y_qPt.mpr ⟨u, e, Or.inl e1⟩), ← Nat.add_assoc, ← ih]
        simp (maxSteps := 1000000) (disch := omega) only [sh_is0, sh_gI0, sh_wI0, sh_wZ0, sh_gR0, sh_gR1, sh_gR2, sh_lI0, sh_lI1, sh_lI2, sh_sI0, sh_sI1, sh_sI2, sh_len0, sh_len1, sh_len2, sh_lZ0, sh_sZ0, sh_gJ0, sh_wJ0, sh_lR0, sh_lJ0, sh_sJ0, y_eo, y_eb, y_eI, y_eJ, y_eR, y_eV, y_in, nI_clamp, cond_true, y_eqI, y_ltI, y_leI, y_lit, nI_toInt, if_true, if_false, if_pos, if_neg, y_bIt, y_bIf, y_band, o1, p1, y_o5s, y_1]
      · by_cases e2 : u = t
        · by_cases e3 : p < o
          · rw [if_pos (y_qPt.mpr ⟨u, e, Or.inr ⟨e2, e3⟩⟩), ← Nat.add_assoc, ← ih]
            simp (maxSteps := 1000000) (disch := omega) only [sh_is0, sh_gI0, sh_wI0, sh_wZ0, sh_gR0, sh_gR1, sh_gR2, sh_lI0, sh_lI1, sh_lI2, sh_sI0, sh_sI1, sh_sI2, sh_len0, sh_len1, sh_len2, sh_lZ0, sh_sZ0, sh_gJ0, sh_wJ0, sh_lR0, sh_lJ0, sh_sJ0, y_eo, y_eb, y_eI, y_eJ, y_eR, y_eV, y_in, nI_clamp, cond_true, y_eqI, y_ltI, y_leI, y_lit, nI_toInt, if_true, if_false, if_pos, if_neg, y_bIt, y_bIf, y_band, o1, p1, y_o5s, y_1]
          · have hq : y_qP a t (p + 1) o = false := y_qPf.mpr (fun u' e' => by rw [e] at e'; cases e'; omega)
            rw [show (if y_qP a t (p + 1) o = true then 1 else 0 : Nat) = 0 from if_neg (by rw [hq]; simp), Nat.zero_add, ← ih]
            simp (maxSteps := 1000000) (disch := omega) only [sh_is0, sh_gI0, sh_wI0, sh_wZ0, sh_gR0, sh_gR1, sh_gR2, sh_lI0, sh_lI1, sh_lI2, sh_sI0, sh_sI1, sh_sI2, sh_len0, sh_len1, sh_len2, sh_lZ0, sh_sZ0, sh_gJ0, sh_wJ0, sh_lR0, sh_lJ0, sh_sJ0, y_eo, y_eb, y_eI, y_eJ, y_eR, y_eV, y_in, nI_clamp, cond_true, y_eqI, y_ltI, y_leI, y_lit, nI_toInt, if_true, if_false, if_pos, if_neg, y_bIt, y_bIf, y_band, o1, p1, y_o5s, y_1]
        · have hq : y_qP a t (p + 1) o = false := y_qPf.mpr (fun u' e' => by rw [e] at e'; cases e'; omega)
          rw [show (if y_qP a t (p + 1) o = true then 1 else 0 : Nat) = 0 from if_neg (by rw [hq]; simp), Nat.zero_add, ← ih]
          simp (maxSteps := 1000000) (disch := omega) only [sh_is0, sh_gI0, sh_wI0, sh_wZ0, sh_gR0, sh_gR1, sh_gR2, sh_lI0, sh_lI1, sh_lI2, sh_sI0, sh_sI1, sh_sI2, sh_len0, sh_len1, sh_len2, sh_lZ0, sh_sZ0, sh_gJ0, sh_wJ0, sh_lR0, sh_lJ0, sh_sJ0, y_eo, y_eb, y_eI, y_eJ, y_eR, y_eV, y_in, nI_clamp, cond_true, y_eqI, y_ltI, y_leI, y_lit, nI_toInt, if_true, if_false, if_pos, if_neg, y_bIt, y_bIf, y_band, o1, p1, y_o5s, y_1]
theorem y_HR_rank_l (d : Nat) {S : y_S} (hok : y_okM S) {a : y_A} {I : Nat → Nat → Int32} (J : Nat → Nat → Int64) (h0 : I 1 0 = nI (S 0 0)) (hA : y_vA a I) {k : Nat} (hk : k < 2 ^ 31) : ∀ (j p : Nat), p + j = S 0 0 → (∀ i t, i < p → a i = some t → y_cq a t (i + 1) ≠ k) → ∃ o, zL (d + 1) q_HR_rank 15 [(0, .ref 0), (1, .int (nI k)), (2, .int (nI p))] (xz_SH, I, J) = some (some (.int (y_o5 o)), (xz_SH, I, J)) ∧ y_rkP a (S 0 0) k o
  | 0, p, hp, hall => by
    obtain ⟨k1, k2, k3, k4, k5, k6, k7, k8⟩ := id hok
    refine ⟨none, ?_, fun i t hi => hall i t (by omega)⟩
    refine b_HR_rank_l15 _ _ _ _ _ _ ?_
    simp (maxSteps := 1000000) (disch := omega) only [sh_is0, sh_gI0, sh_wI0, sh_wZ0, sh_gR0, sh_gR1, sh_gR2, sh_lI0, sh_lI1, sh_lI2, sh_sI0, sh_sI1, sh_sI2, sh_len0, sh_len1, sh_len2, sh_lZ0, sh_sZ0, sh_gJ0, sh_wJ0, sh_lR0, sh_lJ0, sh_sJ0, y_eo, y_eb, y_eI, y_eJ, y_eR, y_eV, y_in, nI_clamp, cond_true, y_eqI, y_ltI, y_leI, y_lit, nI_toInt, if_true, if_false, if_pos, if_neg, y_bIt, y_bIf, y_band, h0]
    rfl
  | j + 1, p, hp, hall => by
    obtain ⟨k1, k2, k3, k4, k5, k6, k7, k8⟩ := id hok
    have hO := y_Re_of d J hA (show p < 6 by omega)
    cases e : a p with
    | none =>
      rw [e] at hO
      obtain ⟨o, f1, f2⟩ := y_HR_rank_l d hok J h0 hA hk j (p + 1) (by omega) (fun i t hi h => by
        by_cases z : i = p
        · rw [z, e] at h; cases h
        · exact hall i t (by omega) h)
      refine ⟨o, ?_, f2⟩
      refine b_HR_rank_l15 _ _ _ _ _ _ ?_
      simp (maxSteps := 1000000) (disch := omega) only [sh_is0, sh_gI0, sh_wI0, sh_wZ0, sh_gR0, sh_gR1, sh_gR2, sh_lI0, sh_lI1, sh_lI2, sh_sI0, sh_sI1, sh_sI2, sh_len0, sh_len1, sh_len2, sh_lZ0, sh_sZ0, sh_gJ0, sh_wJ0, sh_lR0, sh_lJ0, sh_sJ0, y_eo, y_eb, y_eI, y_eJ, y_eR, y_eV, y_in, nI_clamp, cond_true, y_eqI, y_ltI, y_leI, y_lit, nI_toInt, if_true, if_false, if_pos, if_neg, y_bIt, y_bIf, y_band, h0, hO, y_o5n, y_1]
      exact f1
    | some t =>
      have ht := (hA p (by omega)).2 t e
      rw [e] at hO
      have hH := b_Re_howManyAhead d 58 (nI p) _ _ (y_Re_ahead_l d J hA (show p < 6 by omega) e 6 0 0 rfl)
      have hle : y_ct (y_qP a t (p + 1)) 6 0 ≤ 6 := y_ct_le _ _ _
      rw [Nat.zero_add] at hH
      by_cases e2 : y_cq a t (p + 1) = k
      · refine ⟨some p, ?_, by omega, t, e, e2⟩
        have e3 : y_ct (y_qP a t (p + 1)) 6 0 = k := e2
        rw [e3] at hH
        refine b_HR_rank_l15 _ _ _ _ _ _ ?_
        simp (maxSteps := 1000000) (disch := omega) only [sh_is0, sh_gI0, sh_wI0, sh_wZ0, sh_gR0, sh_gR1, sh_gR2, sh_lI0, sh_lI1, sh_lI2, sh_sI0, sh_sI1, sh_sI2, sh_len0, sh_len1, sh_len2, sh_lZ0, sh_sZ0, sh_gJ0, sh_wJ0, sh_lR0, sh_lJ0, sh_sJ0, y_eo, y_eb, y_eI, y_eJ, y_eR, y_eV, y_in, nI_clamp, cond_true, y_eqI, y_ltI, y_leI, y_lit, nI_toInt, if_true, if_false, if_pos, if_neg, y_bIt, y_bIf, y_band, h0, hO, hH, y_o5s]
      · have e3 : ¬ y_ct (y_qP a t (p + 1)) 6 0 = k := e2
        obtain ⟨o, f1, f2⟩ := y_HR_rank_l d hok J h0 hA hk j (p + 1) (by omega) (fun i t' hi h => by
          by_cases z : i = p
          · rw [z, e] at h
            cases h
            rw [z]
            exact e2
          · exact hall i t' (by omega) h)
        refine ⟨o, ?_, f2⟩
        refine b_HR_rank_l15 _ _ _ _ _ _ ?_
        simp (maxSteps := 1000000) (disch := omega) only [sh_is0, sh_gI0, sh_wI0, sh_wZ0, sh_gR0, sh_gR1, sh_gR2, sh_lI0, sh_lI1, sh_lI2, sh_sI0, sh_sI1, sh_sI2, sh_len0, sh_len1, sh_len2, sh_lZ0, sh_sZ0, sh_gJ0, sh_wJ0, sh_lR0, sh_lJ0, sh_sJ0, y_eo, y_eb, y_eI, y_eJ, y_eR, y_eV, y_in, nI_clamp, cond_true, y_eqI, y_ltI, y_leI, y_lit, nI_toInt, if_true, if_false, if_pos, if_neg, y_bIt, y_bIf, y_band, h0, hO, hH, y_o5s, y_1]
        exact f1
theorem y_Mo_rank_l (d : Nat) {S : y_S} (hok : y_okM S) {a : y_A} {I : Nat → Nat → Int32} (J : Nat → Nat → Int64) (h0 : I 92 0 = nI (S 0 0)) (hA : ∀ p, p < S 0 0 → I 110 p = y_o5 (a p) ∧ ∀ t, a p = some t → t ≤ 99) (han : ∀ o u, a o = some u → o < S 0 0) {k : Nat} (hk : k < 2 ^ 31) : ∀ (i t : Nat), t + i = 100 → ∀ (c : Nat), c + y_cq a t (S 0 0) = k → ∃ o, zL d q_Mo_rank 11 [(0, .ref 92), (2, .int (nI c)), (3, .int (nI t))] (xz_SH, I, J) = some (some (.int (y_o5 o)), (xz_SH, I, J)) ∧ y_rkP a (S 0 0) k o := by
  obtain ⟨k1, k2, k3, k4, k5, k6, k7, k8⟩ := id hok
  intro i
  induction i with
  | zero =>
    intro t ht c hc
    refine ⟨none, ?_, fun p u hp hu => ?_⟩
    · refine b_Mo_rank_l11 _ _ _ _ _ _ ?_
      rw [if_pos (by rw [y_ltI, nI_toInt (by omega)]; simp only [y_lit]; omega)]
      rfl
    · have h1 := (hA p hp).2 u hu
      have := y_cq_lt (t' := t) (p' := S 0 0) (by omega) hu (by omega)
      omega
  | succ i ih =>
    intro t ht
    have loop : ∀ (j c : Nat), j ≤ S 0 0 → c + y_cq a t j = k → ∃ o, zL d q_Mo_rank 20 [(0, .ref 92), (2, .int (nI c)), (3, .int (nI t)), (4, .int (y_pd j))] (xz_SH, I, J) = some (some (.int (y_o5 o)), (xz_SH, I, J)) ∧ y_rkP a (S 0 0) k o := by
      intro j
      induction j with
      | zero =>
        intro c hj hc
        obtain ⟨o, f1, f2⟩ := ih (t + 1) (by omega) c (by rw [y_cq_next han]; exact hc)
        refine ⟨o, ?_, f2⟩
        refine b_Mo_rank_l20 _ _ _ _ _ _ _ ?_
        rw [if_pos (by decide), y_1]
        exact f1
      | succ p jh =>
        intro c hj hc
        obtain ⟨p1, p2⟩ := hA p (by omega)
        have hpd : y_pd (p + 1) = nI p := rfl
        rw [hpd]
        by_cases e : a p = some t
        · rw [e] at p1
          by_cases e2 : c = 0
          · refine ⟨some p, ?_, by omega, t, e, by omega⟩
            refine b_Mo_rank_l20 _ _ _ _ _ _ _ ?_
            simp (maxSteps := 1000000) (disch := omega) only [sh_is0, sh_gI0, sh_wI0, sh_wZ0, sh_gR0, sh_gR1, sh_gR2, sh_lI0, sh_lI1, sh_lI2, sh_sI0, sh_sI1, sh_sI2, sh_len0, sh_len1, sh_len2, sh_lZ0, sh_sZ0, sh_gJ0, sh_wJ0, sh_lR0, sh_lJ0, sh_sJ0, y_eo, y_eb, y_eI, y_eJ, y_eR, y_eV, y_in, nI_clamp, cond_true, y_eqI, y_ltI, y_leI, y_lit, nI_toInt, if_true, if_false, if_pos, if_neg, y_bIt, y_bIf, y_band, p1, y_o5s, e2]
          · obtain ⟨o, f1, f2⟩ := jh (c - 1) (by omega) (by rw [y_cq_in (by omega) e]; omega)
            refine ⟨o, ?_, f2⟩
            refine b_Mo_rank_l20 _ _ _ _ _ _ _ ?_
            have ea : nI c + (-1 : Int32) = nI (c - 1) := by
              obtain ⟨c', rfl⟩ : ∃ c', c = c' + 1 := ⟨c - 1, by omega⟩
              exact y_pd_s (c' + 1)
            have eb := y_pd_s p
            simp (maxSteps := 1000000) (disch := omega) only [sh_is0, sh_gI0, sh_wI0, sh_wZ0, sh_gR0, sh_gR1, sh_gR2, sh_lI0, sh_lI1, sh_lI2, sh_sI0, sh_sI1, sh_sI2, sh_len0, sh_len1, sh_len2, sh_lZ0, sh_sZ0, sh_gJ0, sh_wJ0, sh_lR0, sh_lJ0, sh_sJ0, y_eo, y_eb, y_eI, y_eJ, y_eR, y_eV, y_in, nI_clamp, cond_true, y_eqI, y_ltI, y_leI, y_lit, nI_toInt, if_true, if_false, if_pos, if_neg, y_bIt, y_bIf, y_band, p1, y_o5s]
            rw [ea, eb]
            exact f1
        · obtain ⟨o, f1, f2⟩ := jh c (by omega) (by rw [y_cq_out e]; exact hc)
          refine ⟨o, ?_, f2⟩
          refine b_Mo_rank_l20 _ _ _ _ _ _ _ ?_
          have eb := y_pd_s p
          cases e3 : a p with
          | none =>
            rw [e3] at p1
            simp (maxSteps := 1000000) (disch := omega) only [sh_is0, sh_gI0, sh_wI0, sh_wZ0, sh_gR0, sh_gR1, sh_gR2, sh_lI0, sh_lI1, sh_lI2, sh_sI0, sh_sI1, sh_sI2, sh_len0, sh_len1, sh_len2, sh_lZ0, sh_sZ0, sh_gJ0, sh_wJ0, sh_lR0, sh_lJ0, sh_sJ0, y_eo, y_eb, y_eI, y_eJ, y_eR, y_eV, y_in, nI_clamp, cond_true, y_eqI, y_ltI, y_leI, y_lit, nI_toInt, if_true, if_false, if_pos, if_neg, y_bIt, y_bIf, y_band, p1, y_o5n]
            rw [eb]
            exact f1
          | some u =>
            have hu := p2 u e3
            rw [e3] at p1
            have : u ≠ t := fun z => e (by rw [e3, z])
            simp (maxSteps := 1000000) (disch := omega) only [sh_is0, sh_gI0, sh_wI0, sh_wZ0, sh_gR0, sh_gR1, sh_gR2, sh_lI0, sh_lI1, sh_lI2, sh_sI0, sh_sI1, sh_sI2, sh_len0, sh_len1, sh_len2, sh_lZ0, sh_sZ0, sh_gJ0, sh_wJ0, sh_lR0, sh_lJ0, sh_sJ0, y_eo, y_eb, y_eI, y_eJ, y_eR, y_eV, y_in, nI_clamp, cond_true, y_eqI, y_ltI, y_leI, y_lit, nI_toInt, if_true, if_false, if_pos, if_neg, y_bIt, y_bIf, y_band, p1, y_o5s]
            rw [eb]
            exact f1
    intro c hc
    obtain ⟨o, f1, f2⟩ := loop (S 0 0) c (Nat.le_refl _) hc
    refine ⟨o, ?_, f2⟩
    refine b_Mo_rank_l11 _ _ _ _ _ _ ?_
    rw [if_neg (by rw [y_ltI, nI_toInt (by omega)]; simp only [y_lit]; omega)]
    have ep : nI (S 0 0) - (1 : Int32) = y_pd (S 0 0) := by
      rw [y_m1 (by omega)]
      obtain ⟨c', e⟩ : ∃ c', S 0 0 = c' + 1 := ⟨S 0 0 - 1, by omega⟩
      rw [e]
      rfl
    simp (maxSteps := 1000000) (disch := omega) only [sh_is0, sh_gI0, sh_wI0, sh_wZ0, sh_gR0, sh_gR1, sh_gR2, sh_lI0, sh_lI1, sh_lI2, sh_sI0, sh_sI1, sh_sI2, sh_len0, sh_len1, sh_len2, sh_lZ0, sh_sZ0, sh_gJ0, sh_wJ0, sh_lR0, sh_lJ0, sh_sJ0, y_eo, y_eb, h0]
    rw [ep]
    exact f1
theorem y_cq_0 {a : y_A} {n : Nat} (ha : ∀ o u, a o = some u → o < n) : y_cq a 0 n = 0 := by
  unfold y_cq
  have : ∀ j m, y_ct (y_qP a 0 n) j m = 0 := by
    intro j
    induction j with
    | zero => intro m; rfl
    | succ j ih =>
      intro m
      unfold y_ct
      have : y_qP a 0 n m = false := y_qPf.mpr (fun u e => by have := ha m u e; omega)
      rw [ih, this, if_neg (by simp)]
  exact this _ _
theorem y_s_rank (x : Int32) : zSI zR q_HR_rank q_Mo_rank [.int x] := by
  refine y_simI2 fun S I J hZ => ?_
  have hok := hZ.1.1
  obtain ⟨k1, k2, k3, k4, k5, k6, k7, k8⟩ := id hok
  by_cases hx : 0 ≤ x.toInt
  · obtain ⟨k, hk, rfl, hxk⟩ := y_of x hx
    obtain ⟨I', h1, h2, h3⟩ := y_Re_fill 55 (Or.inl rfl) hok k6 J hZ.2.1.1
    obtain ⟨o, f1, f2⟩ := y_HR_rank_l 58 hok J (by rw [h3 1 (by omega)]; exact hZ.2.1.1.1.1) h2 hk (S 0 0) 0 (by omega) (fun i t hi => by omega)
    refine ⟨y_o5 o, I', J, ?_, y_sm_59 J h3, fun I J hZ => ?_⟩
    · refine b_HR_rank _ _ _ _ _ ?_
      rw [if_pos (by rw [y_leI, hxk, y_lit.1]; omega)]
      simp (maxSteps := 1000000) (disch := omega) only [sh_is0, sh_gI0, sh_wI0, sh_wZ0, sh_gR0, sh_gR1, sh_gR2, sh_lI0, sh_lI1, sh_lI2, sh_sI0, sh_sI1, sh_sI2, sh_len0, sh_len1, sh_len2, sh_lZ0, sh_sZ0, sh_gJ0, sh_wJ0, sh_lR0, sh_lJ0, sh_sJ0, y_eo, y_eb, y_eI, y_eJ, y_eR, y_eV, y_in, nI_clamp, cond_true, y_eqI, y_ltI, y_leI, y_lit, nI_toInt, if_true, if_false, if_pos, if_neg, y_bIt, y_bIf, y_band, hZ.2.1.1.1.2.2.2.2, h1]
      exact f1
    · obtain ⟨I', J', g1, g2, g3⟩ := y_Mo_tell 46 hok J hZ.2.2.1.1
      have han : ∀ o u, y_rc S 0 (S 0 4) o = some u → o < S 0 0 := fun o u h => y_rc_n hok h
      obtain ⟨o', e1, e2⟩ := y_Mo_rank_l 59 hok J' (y_vR_tf g2 hZ.2.2.1.1).1.1 (fun p hp => ⟨g3 p hp, fun t ht => y_rc_le hok k6 ht⟩) han hk 100 0 (by omega) k (by rw [y_cq_0 han]; omega)
      refine ⟨I', J', ?_, y_tf_sm g2⟩
      refine b_Mo_rank _ _ _ _ _ ?_
      rw [if_pos (by rw [y_leI, hxk, y_lit.1]; omega), y_rkP_u k2 f2 e2]
      simp (maxSteps := 1000000) (disch := omega) only [sh_is0, sh_gI0, sh_wI0, sh_wZ0, sh_gR0, sh_gR1, sh_gR2, sh_lI0, sh_lI1, sh_lI2, sh_sI0, sh_sI1, sh_sI2, sh_len0, sh_len1, sh_len2, sh_lZ0, sh_sZ0, sh_gJ0, sh_wJ0, sh_lR0, sh_lJ0, sh_sJ0, y_eo, y_eb, y_eI, y_eJ, y_eR, y_eV, y_in, nI_clamp, cond_true, y_eqI, y_ltI, y_leI, y_lit, nI_toInt, if_true, if_false, if_pos, if_neg, y_bIt, y_bIf, y_band, g1]
      exact e1
  · refine ⟨-1, I, J, ?_, y_sm_r I J, fun I J hZ => ⟨I, J, ?_, y_sm_r I J⟩⟩
    · refine b_HR_rank _ _ _ _ _ ?_
      rw [if_neg (by rw [y_leI, y_lit.1]; omega)]
    · refine b_Mo_rank _ _ _ _ _ ?_
      rw [if_neg (by rw [y_leI, y_lit.1]; omega)]
