/-! THE CLASS'S WAYS: one way taken -/
theorem y_up_e {α : Type} {f : Nat → Nat → α} {r k r' k' : Nat} {v : α} (h : r' = r ∧ k' = k) : xz_up f r k v r' k' = v := by
  obtain ⟨rfl, rfl⟩ := h
  unfold xz_up
  simp
theorem y_up_n {α : Type} {f : Nat → Nat → α} {r k r' k' : Nat} {v : α} (h : r' ≠ r ∨ k' ≠ k) : xz_up f r k v r' k' = f r' k' := by
  unfold xz_up
  have : (r' == r && k' == k) = false := by
    rcases h with h | h
    · simp [h]
    · simp [h]
  rw [this]
  rfl
theorem y_up_r {α : Type} {f : Nat → Nat → α} {r k r' : Nat} {v : α} (h : r' ≠ r) : xz_up f r k v r' = f r' := by
  funext k'
  exact y_up_n (Or.inl h)
theorem y_row_e {α : Type} {f : Nat → Nat → α} {r r' : Nat} {g : Nat → α} (h : r' = r) : xz_row f r g r' = g := by
  subst h
  unfold xz_row
  simp
theorem y_row_n {α : Type} {f : Nat → Nat → α} {r r' : Nat} {g : Nat → α} (h : r' ≠ r) : xz_row f r g r' = f r' := by
  unfold xz_row
  have : (r' == r) = false := by simp [h]
  rw [this]
  rfl
theorem y_cpI {I : Nat → Nat → Int32} {J : Nat → Nat → Int64} {r r' kd L L' : Nat} {e e' : List (Option Nat)} (h : xz_SH[r]? = some (kd, L, e)) (h' : xz_SH[r']? = some (kd, L', e')) (hk : kd ≤ 1) {sp dp n : Nat} (h1 : sp + n ≤ L) (h2 : dp + n ≤ L') (h3 : L < 1000) (h4 : L' < 1000) : xz_copy (xz_SH, I, J) r (nI sp) r' (nI dp) (nI n) = some (xz_SH, xz_row I r' (va_cpy (I r) (I r') sp dp n), J) := by
  unfold xz_copy
  rw [h, h']
  have e1 : ∀ n : Nat, n < 2 ^ 31 → decide (¬ nI n < 0) = true := fun n hn => decide_eq_true (nI_pos hn)
  simp only [e1 sp (by omega), e1 dp (by omega), e1 n (by omega), nI_clamp (show sp < 2 ^ 31 by omega), nI_clamp (show dp < 2 ^ 31 by omega), nI_clamp (show n < 2 ^ 31 by omega), Nat.ble_eq_true_of_le h1, Nat.ble_eq_true_of_le h2, Nat.ble_eq_true_of_le (show kd ≤ 2 by omega), beq_self_eq_true, Bool.and_true, cond_true]
  have : (kd == 2) = false := by
    rw [beq_eq_false_iff_ne]
    omega
  rw [this]
  rfl
def y_pr (S : y_S) : List Nat → Nat
  | [] => 1
  | m :: p => S 5 m * y_pr S p
/-- SURENESS, in parts of a hundred to the fifth -/
def y_su (S : y_S) (p : List Nat) : Nat := y_pr S p * 100 ^ (5 - p.length)
def y_pth (S : y_S) (p : List Nat) : Prop := p.length ≤ 5 ∧ ∀ m, m ∈ p → m < S 1 0
theorem y_pr_le {S : y_S} (hok : y_okM S) : ∀ {p : List Nat}, (∀ m, m ∈ p → m < S 1 0) → y_pr S p ≤ 100 ^ p.length
  | [], _ => Nat.le_refl _
  | m :: p, h => by
    have h1 := y_pr_le hok (p := p) fun i hi => h i (List.mem_cons_of_mem _ hi)
    have h2 := (hok.2.2.2.2.2.2.2 m (h m List.mem_cons_self)).2.2.2.2.2.1
    show S 5 m * y_pr S p ≤ 100 ^ (p.length + 1)
    rw [Nat.pow_succ, Nat.mul_comm]
    exact Nat.mul_le_mul h1 h2
theorem y_su_le {S : y_S} (hok : y_okM S) {p : List Nat} (h : y_pth S p) : y_su S p ≤ 10000000000 := by
  have h1 := y_pr_le hok h.2
  have h2 : 100 ^ p.length * 100 ^ (5 - p.length) = 100 ^ 5 := by
    rw [← Nat.pow_add]
    congr 1
    have := h.1
    omega
  unfold y_su
  calc y_pr S p * 100 ^ (5 - p.length) ≤ 100 ^ p.length * 100 ^ (5 - p.length) := Nat.mul_le_mul_right _ h1
    _ = 10000000000 := by rw [h2]
theorem y_pr_app (S : y_S) (m : Nat) : ∀ p : List Nat, y_pr S (p ++ [m]) = y_pr S p * S 5 m
  | [] => by simp [y_pr]
  | i :: p => by
    show S 5 i * y_pr S (p ++ [m]) = S 5 i * y_pr S p * S 5 m
    rw [y_pr_app S m p, Nat.mul_assoc]
theorem y_su_app (S : y_S) (m : Nat) {p : List Nat} (h : p.length < 5) : y_su S (p ++ [m]) = y_su S p / 100 * S 5 m := by
  unfold y_su
  rw [y_pr_app, List.length_append, List.length_singleton, show 5 - p.length = 5 - (p.length + 1) + 1 by omega, Nat.pow_succ, ← Nat.mul_assoc, Nat.mul_div_cancel _ (by decide), Nat.mul_right_comm]
theorem y_ar_app (S : y_S) (m : Nat) : ∀ (p : List Nat) (st : Nat), y_ar S st (p ++ [m]) = S 2 m
  | [], _ => rfl
  | i :: p, st => y_ar_app S m p (S 2 i)
theorem y_ar_le {S : y_S} (hok : y_okM S) : ∀ {p : List Nat} {st : Nat}, (∀ m, m ∈ p → m < S 1 0) → st ≤ 99 → y_ar S st p ≤ 99
  | [], st, _, h => h
  | m :: p, st, h, _ => y_ar_le hok (p := p) (fun i hi => h i (List.mem_cons_of_mem _ hi)) (hok.2.2.2.2.2.2.2 m (h m List.mem_cons_self)).1
theorem y_pth_app {S : y_S} {p : List Nat} {m : Nat} (h : y_pth S p) (hl : p.length < 5) (hm : m < S 1 0) : y_pth S (p ++ [m]) := by
  refine ⟨by rw [List.length_append, List.length_singleton]; omega, fun i hi => ?_⟩
  rcases List.mem_append.mp hi with hi | hi
  · exact h.2 i hi
  · rw [List.mem_singleton.mp hi]
    exact hm
/-- p is better than q by the rule -/
def y_bet (S : y_S) (st rule : Nat) (p q : List Nat) : Bool :=
  if rule = 2 ∧ y_su S p ≠ y_su S q then decide (y_su S q < y_su S p)
  else if rule = 1 ∧ p.length ≠ q.length then decide (p.length < q.length)
  else if y_ar S st p ≠ y_ar S st q then decide (y_ar S st p < y_ar S st q) else decide (p.length < q.length)
def y_bst (S : y_S) (st rule : Nat) (o : Option (List Nat)) (p : List Nat) : Option (List Nat) := match o with
  | none => some p
  | some q => if y_bet S st rule p q = true then some p else some q
def y_bh (S : y_S) (st : Nat) (a : y_A) (p : List Nat) : y_A := fun h => if h = p.length then (match a h with
  | none => some (y_ar S st p)
  | some t => if y_ar S st p < t then some (y_ar S st p) else some t) else a h
abbrev y_R : Type := Nat × Option (List Nat) × y_A
def y_add (S : y_S) (st rule : Nat) (R : y_R) (p : List Nat) : y_R := (R.1 + 1, y_bst S st rule R.2.1 p, y_bh S st R.2.2 p)
/-- who holds it behind a row of meetings -/
def y_hd (S : y_S) : Nat → List Nat → Nat
  | h, [] => h
  | h, m :: p => y_hd S ((y_ot S m h).getD 0) p
theorem y_hd_app (S : y_S) (m : Nat) : ∀ (p : List Nat) (h : Nat), y_hd S h (p ++ [m]) = (y_ot S m (y_hd S h p)).getD 0
  | [], _ => rfl
  | i :: p, h => y_hd_app S m p ((y_ot S i h).getD 0)
theorem y_lg0 (a b : Nat) (ha : a < 2 ^ 63) (hb : b < 2 ^ 63) : (lg_cmp (lN a) (lN b)).toInt = if b < a then 1 else if a = b then 0 else -1 := by
  unfold lg_cmp
  have e1 : (lN a > lN b) = (b < a) := propext (pk_lLT hb ha)
  have e2 : (lN a = lN b) = (a = b) := propext (pk_lEQ ha hb)
  simp only [e1, e2]
  split
  · decide
  · split <;> decide
theorem y_Wa_isBetter (d : Nat) {S : y_S} (hok : y_okM S) {st rule : Nat} {I : Nat → Nat → Int32} {J : Nat → Nat → Int64} {p q : List Nat} (hr : rule ≤ 2) (hp : y_pth S p) (hq : y_pth S q) (hst : st ≤ 99) (h0 : I 60 0 = nI rule) (h2 : I 60 2 = nI q.length) (h3 : I 60 3 = nI (y_ar S st q)) (h4 : J 60 4 = lN (y_su S q)) : zC (d + 1) q_Wa_isBetter [.ref 60, .int (nI p.length), .int (nI (y_ar S st p)), .long (lN (y_su S p))] (xz_SH, I, J) = some (some (.int (y_bI (y_bet S st rule p q))), (xz_SH, I, J)) := by
  have a1 := y_su_le hok hp
  have a2 := y_su_le hok hq
  have a3 := y_ar_le hok hp.2 hst
  have a4 := y_ar_le hok hq.2 hst
  have a5 := hp.1
  have a6 := hq.1
  refine b_Wa_isBetter _ _ _ _ _ _ _ ?_
  unfold y_bet
  by_cases r2 : rule = 2
  · have r1 : ¬ rule = 1 := by omega
    by_cases e1 : y_su S p = y_su S q
    · by_cases e2 : y_ar S st p = y_ar S st q
      · by_cases e3 : p.length < q.length
        · simp (disch := omega) only [sh_is0, sh_gI0, sh_wI0, sh_wZ0, sh_gR0, sh_gR1, sh_gR2, sh_lI0, sh_lI1, sh_lI2, sh_sI0, sh_sI1, sh_sI2, sh_len0, sh_len1, sh_len2, sh_lZ0, sh_sZ0, sh_gJ0, sh_wJ0, sh_lR0, sh_lJ0, sh_sJ0, y_eo, y_eb, y_eI, y_eJ, y_eR, y_eV, y_in, nI_clamp, cond_true, y_eqI, y_ltI, y_leI, y_lit, nI_toInt, if_true, if_false, if_pos, if_neg, y_bIt, y_bIf, y_band, h0, h2, h3, h4, y_lg0, decide_eq_true e3]
        · simp (disch := omega) only [sh_is0, sh_gI0, sh_wI0, sh_wZ0, sh_gR0, sh_gR1, sh_gR2, sh_lI0, sh_lI1, sh_lI2, sh_sI0, sh_sI1, sh_sI2, sh_len0, sh_len1, sh_len2, sh_lZ0, sh_sZ0, sh_gJ0, sh_wJ0, sh_lR0, sh_lJ0, sh_sJ0, y_eo, y_eb, y_eI, y_eJ, y_eR, y_eV, y_in, nI_clamp, cond_true, y_eqI, y_ltI, y_leI, y_lit, nI_toInt, if_true, if_false, if_pos, if_neg, y_bIt, y_bIf, y_band, h0, h2, h3, h4, y_lg0, decide_eq_false e3]
      · by_cases e3 : y_ar S st p < y_ar S st q
        · simp (disch := omega) only [sh_is0, sh_gI0, sh_wI0, sh_wZ0, sh_gR0, sh_gR1, sh_gR2, sh_lI0, sh_lI1, sh_lI2, sh_sI0, sh_sI1, sh_sI2, sh_len0, sh_len1, sh_len2, sh_lZ0, sh_sZ0, sh_gJ0, sh_wJ0, sh_lR0, sh_lJ0, sh_sJ0, y_eo, y_eb, y_eI, y_eJ, y_eR, y_eV, y_in, nI_clamp, cond_true, y_eqI, y_ltI, y_leI, y_lit, nI_toInt, if_true, if_false, if_pos, if_neg, y_bIt, y_bIf, y_band, h0, h2, h3, h4, y_lg0, decide_eq_true e3]
        · simp (disch := omega) only [sh_is0, sh_gI0, sh_wI0, sh_wZ0, sh_gR0, sh_gR1, sh_gR2, sh_lI0, sh_lI1, sh_lI2, sh_sI0, sh_sI1, sh_sI2, sh_len0, sh_len1, sh_len2, sh_lZ0, sh_sZ0, sh_gJ0, sh_wJ0, sh_lR0, sh_lJ0, sh_sJ0, y_eo, y_eb, y_eI, y_eJ, y_eR, y_eV, y_in, nI_clamp, cond_true, y_eqI, y_ltI, y_leI, y_lit, nI_toInt, if_true, if_false, if_pos, if_neg, y_bIt, y_bIf, y_band, h0, h2, h3, h4, y_lg0, decide_eq_false e3]
    · by_cases e2 : y_su S q < y_su S p
      · simp (disch := omega) only [sh_is0, sh_gI0, sh_wI0, sh_wZ0, sh_gR0, sh_gR1, sh_gR2, sh_lI0, sh_lI1, sh_lI2, sh_sI0, sh_sI1, sh_sI2, sh_len0, sh_len1, sh_len2, sh_lZ0, sh_sZ0, sh_gJ0, sh_wJ0, sh_lR0, sh_lJ0, sh_sJ0, y_eo, y_eb, y_eI, y_eJ, y_eR, y_eV, y_in, nI_clamp, cond_true, y_eqI, y_ltI, y_leI, y_lit, nI_toInt, if_true, if_false, if_pos, if_neg, y_bIt, y_bIf, y_band, h0, h2, h3, h4, y_lg0, decide_eq_true e2]
      · simp (disch := omega) only [sh_is0, sh_gI0, sh_wI0, sh_wZ0, sh_gR0, sh_gR1, sh_gR2, sh_lI0, sh_lI1, sh_lI2, sh_sI0, sh_sI1, sh_sI2, sh_len0, sh_len1, sh_len2, sh_lZ0, sh_sZ0, sh_gJ0, sh_wJ0, sh_lR0, sh_lJ0, sh_sJ0, y_eo, y_eb, y_eI, y_eJ, y_eR, y_eV, y_in, nI_clamp, cond_true, y_eqI, y_ltI, y_leI, y_lit, nI_toInt, if_true, if_false, if_pos, if_neg, y_bIt, y_bIf, y_band, h0, h2, h3, h4, y_lg0, decide_eq_false e2]
  · by_cases r1 : rule = 1
    · by_cases e1 : p.length = q.length
      · by_cases e2 : y_ar S st p = y_ar S st q
        · have e3 : ¬ p.length < q.length := by omega
          simp (disch := omega) only [sh_is0, sh_gI0, sh_wI0, sh_wZ0, sh_gR0, sh_gR1, sh_gR2, sh_lI0, sh_lI1, sh_lI2, sh_sI0, sh_sI1, sh_sI2, sh_len0, sh_len1, sh_len2, sh_lZ0, sh_sZ0, sh_gJ0, sh_wJ0, sh_lR0, sh_lJ0, sh_sJ0, y_eo, y_eb, y_eI, y_eJ, y_eR, y_eV, y_in, nI_clamp, cond_true, y_eqI, y_ltI, y_leI, y_lit, nI_toInt, if_true, if_false, if_pos, if_neg, y_bIt, y_bIf, y_band, h0, h2, h3, h4, decide_eq_false e3]
        · by_cases e3 : y_ar S st p < y_ar S st q
          · simp (disch := omega) only [sh_is0, sh_gI0, sh_wI0, sh_wZ0, sh_gR0, sh_gR1, sh_gR2, sh_lI0, sh_lI1, sh_lI2, sh_sI0, sh_sI1, sh_sI2, sh_len0, sh_len1, sh_len2, sh_lZ0, sh_sZ0, sh_gJ0, sh_wJ0, sh_lR0, sh_lJ0, sh_sJ0, y_eo, y_eb, y_eI, y_eJ, y_eR, y_eV, y_in, nI_clamp, cond_true, y_eqI, y_ltI, y_leI, y_lit, nI_toInt, if_true, if_false, if_pos, if_neg, y_bIt, y_bIf, y_band, h0, h2, h3, h4, decide_eq_true e3]
          · simp (disch := omega) only [sh_is0, sh_gI0, sh_wI0, sh_wZ0, sh_gR0, sh_gR1, sh_gR2, sh_lI0, sh_lI1, sh_lI2, sh_sI0, sh_sI1, sh_sI2, sh_len0, sh_len1, sh_len2, sh_lZ0, sh_sZ0, sh_gJ0, sh_wJ0, sh_lR0, sh_lJ0, sh_sJ0, y_eo, y_eb, y_eI, y_eJ, y_eR, y_eV, y_in, nI_clamp, cond_true, y_eqI, y_ltI, y_leI, y_lit, nI_toInt, if_true, if_false, if_pos, if_neg, y_bIt, y_bIf, y_band, h0, h2, h3, h4, decide_eq_false e3]
      · by_cases e2 : p.length < q.length
        · simp (disch := omega) only [sh_is0, sh_gI0, sh_wI0, sh_wZ0, sh_gR0, sh_gR1, sh_gR2, sh_lI0, sh_lI1, sh_lI2, sh_sI0, sh_sI1, sh_sI2, sh_len0, sh_len1, sh_len2, sh_lZ0, sh_sZ0, sh_gJ0, sh_wJ0, sh_lR0, sh_lJ0, sh_sJ0, y_eo, y_eb, y_eI, y_eJ, y_eR, y_eV, y_in, nI_clamp, cond_true, y_eqI, y_ltI, y_leI, y_lit, nI_toInt, if_true, if_false, if_pos, if_neg, y_bIt, y_bIf, y_band, h0, h2, h3, h4, decide_eq_true e2]
        · simp (disch := omega) only [sh_is0, sh_gI0, sh_wI0, sh_wZ0, sh_gR0, sh_gR1, sh_gR2, sh_lI0, sh_lI1, sh_lI2, sh_sI0, sh_sI1, sh_sI2, sh_len0, sh_len1, sh_len2, sh_lZ0, sh_sZ0, sh_gJ0, sh_wJ0, sh_lR0, sh_lJ0, sh_sJ0, y_eo, y_eb, y_eI, y_eJ, y_eR, y_eV, y_in, nI_clamp, cond_true, y_eqI, y_ltI, y_leI, y_lit, nI_toInt, if_true, if_false, if_pos, if_neg, y_bIt, y_bIf, y_band, h0, h2, h3, h4, decide_eq_false e2]
    · by_cases e2 : y_ar S st p = y_ar S st q
      · by_cases e3 : p.length < q.length
        · simp (disch := omega) only [sh_is0, sh_gI0, sh_wI0, sh_wZ0, sh_gR0, sh_gR1, sh_gR2, sh_lI0, sh_lI1, sh_lI2, sh_sI0, sh_sI1, sh_sI2, sh_len0, sh_len1, sh_len2, sh_lZ0, sh_sZ0, sh_gJ0, sh_wJ0, sh_lR0, sh_lJ0, sh_sJ0, y_eo, y_eb, y_eI, y_eJ, y_eR, y_eV, y_in, nI_clamp, cond_true, y_eqI, y_ltI, y_leI, y_lit, nI_toInt, if_true, if_false, if_pos, if_neg, y_bIt, y_bIf, y_band, h0, h2, h3, h4, decide_eq_true e3]
        · simp (disch := omega) only [sh_is0, sh_gI0, sh_wI0, sh_wZ0, sh_gR0, sh_gR1, sh_gR2, sh_lI0, sh_lI1, sh_lI2, sh_sI0, sh_sI1, sh_sI2, sh_len0, sh_len1, sh_len2, sh_lZ0, sh_sZ0, sh_gJ0, sh_wJ0, sh_lR0, sh_lJ0, sh_sJ0, y_eo, y_eb, y_eI, y_eJ, y_eR, y_eV, y_in, nI_clamp, cond_true, y_eqI, y_ltI, y_leI, y_lit, nI_toInt, if_true, if_false, if_pos, if_neg, y_bIt, y_bIf, y_band, h0, h2, h3, h4, decide_eq_false e3]
      · by_cases e3 : y_ar S st p < y_ar S st q
        · simp (disch := omega) only [sh_is0, sh_gI0, sh_wI0, sh_wZ0, sh_gR0, sh_gR1, sh_gR2, sh_lI0, sh_lI1, sh_lI2, sh_sI0, sh_sI1, sh_sI2, sh_len0, sh_len1, sh_len2, sh_lZ0, sh_sZ0, sh_gJ0, sh_wJ0, sh_lR0, sh_lJ0, sh_sJ0, y_eo, y_eb, y_eI, y_eJ, y_eR, y_eV, y_in, nI_clamp, cond_true, y_eqI, y_ltI, y_leI, y_lit, nI_toInt, if_true, if_false, if_pos, if_neg, y_bIt, y_bIf, y_band, h0, h2, h3, h4, decide_eq_true e3]
        · simp (disch := omega) only [sh_is0, sh_gI0, sh_wI0, sh_wZ0, sh_gR0, sh_gR1, sh_gR2, sh_lI0, sh_lI1, sh_lI2, sh_sI0, sh_sI1, sh_sI2, sh_len0, sh_len1, sh_len2, sh_lZ0, sh_sZ0, sh_gJ0, sh_wJ0, sh_lR0, sh_lJ0, sh_sJ0, y_eo, y_eb, y_eI, y_eJ, y_eR, y_eV, y_in, nI_clamp, cond_true, y_eqI, y_ltI, y_leI, y_lit, nI_toInt, if_true, if_false, if_pos, if_neg, y_bIt, y_bIf, y_band, h0, h2, h3, h4, decide_eq_false e3]
/-- the best of the ways so far lies in the heap -/
def y_vB (S : y_S) (st f : Nat) (o : Option (List Nat)) (I : Nat → Nat → Int32) (J : Nat → Nat → Int64) : Prop := match o with
  | none => I 60 2 = -5
  | some q => y_pth S q ∧ I 60 2 = nI q.length ∧ I 60 3 = nI (y_ar S st q) ∧ J 60 4 = lN (y_su S q) ∧ (∀ i, i < q.length → I 61 i = nI (q.getD i 0)) ∧ ∀ i, i ≤ q.length → I 62 i = nI (y_hd S f (q.take i))
def y_vW (S : y_S) (st f rule : Nat) (R : y_R) (I : Nat → Nat → Int32) (J : Nat → Nat → Int64) : Prop := I 60 0 = nI rule ∧ I 60 1 = nI R.1 ∧ y_vB S st f R.2.1 I J ∧ ∀ h, h < 6 → I 63 h = y_o5 (R.2.2 h) ∧ ∀ t, R.2.2 h = some t → t ≤ 99
theorem y_o5n : (y_o5 none).toInt = -5 := by decide
theorem y_o5s (x : Nat) : y_o5 (some x) = nI x := rfl
theorem y_nI0 : (0 : Int32) = nI 0 := rfl
set_option maxHeartbeats 4000000 in
theorem y_Wa_take35 (d : Nat) {S : y_S} (hok : y_okM S) {st f rule : Nat} {R : y_R} {I : Nat → Nat → Int32} {J : Nat → Nat → Int64} {p : List Nat} (hp : y_pth S p) (h0 : I 60 0 = nI rule) (h1 : I 60 1 = nI R.1) (h63 : ∀ h, h < 6 → I 63 h = y_o5 (R.2.2 h) ∧ ∀ t, R.2.2 h = some t → t ≤ 99) (h64 : ∀ i, i < p.length → I 64 i = nI (p.getD i 0)) (h65 : ∀ i, i ≤ p.length → I 65 i = nI (y_hd S f (p.take i))) (hb : R.2.1 = some p) :
    ∃ I' J', zL d q_Wa_take 35 [(0, .ref 60), (1, .int (nI p.length)), (2, .int (nI (y_ar S st p))), (3, .long (lN (y_su S p)))] (xz_SH, I, J) = some (none, (xz_SH, I', J')) ∧ y_vW S st f rule R I' J' ∧ (∀ q, q < 60 ∨ 63 ≤ q → I' q = I q) ∧ ∀ q, q ≠ 60 → J' q = J q := by
  have a5 := hp.1
  refine ⟨xz_row (xz_row (xz_up (xz_up I 60 2 (nI p.length)) 60 3 (nI (y_ar S st p))) 61 (va_cpy (I 64) (I 61) 0 0 p.length)) 62 (va_cpy (I 65) (I 62) 0 0 (p.length + 1)), xz_up J 60 4 (lN (y_su S p)), ?_, ?_, ?_, ?_⟩
  · refine b_Wa_take_l35 _ _ _ _ _ _ _ ?_
    have c1 : ∀ (I : Nat → Nat → Int32) (J : Nat → Nat → Int64), xz_copy (xz_SH, I, J) 64 (0 : Int32) 61 (0 : Int32) (nI p.length) = some (xz_SH, xz_row I 61 (va_cpy (I 64) (I 61) 0 0 p.length), J) := fun I J => y_cpI (sp := 0) (dp := 0) (L := 5) (L' := 5) (e := []) (e' := []) (kd := 0) (by rfl) (by rfl) (by decide) (by omega) (by omega) (by decide) (by decide)
    have c2 : ∀ (I : Nat → Nat → Int32) (J : Nat → Nat → Int64), xz_copy (xz_SH, I, J) 65 (0 : Int32) 62 (0 : Int32) (nI (p.length + 1)) = some (xz_SH, xz_row I 62 (va_cpy (I 65) (I 62) 0 0 (p.length + 1)), J) := fun I J => y_cpI (sp := 0) (dp := 0) (L := 6) (L' := 6) (e := []) (e' := []) (kd := 0) (by rfl) (by rfl) (by decide) (by omega) (by omega) (by decide) (by decide)
    simp (disch := omega) only [sh_is0, sh_gI0, sh_wI0, sh_wZ0, sh_gR0, sh_gR1, sh_gR2, sh_lI0, sh_lI1, sh_lI2, sh_sI0, sh_sI1, sh_sI2, sh_len0, sh_len1, sh_len2, sh_lZ0, sh_sZ0, sh_gJ0, sh_wJ0, sh_lR0, sh_lJ0, sh_sJ0, y_eo, y_eb, y_eI, y_eJ, y_eR, y_eV, y_in, nI_clamp, cond_true, y_eqI, y_ltI, y_leI, y_lit, nI_toInt, if_true, if_false, if_pos, if_neg, y_bIt, y_bIf, y_band, c1, c2, y_1, y_up_e, y_up_n, y_up_r, y_row_n, y_row_e]
  · refine ⟨?_, ?_, ?_, ?_⟩
    · simp (disch := omega) only [y_row_n, y_up_n, h0]
    · simp (disch := omega) only [y_row_n, y_up_n, h1]
    · rw [hb]
      refine ⟨hp, ?_, ?_, ?_, fun i hi => ?_, fun i hi => ?_⟩
      · simp (disch := omega) only [y_row_n, y_up_n, y_up_e]
      · simp (disch := omega) only [y_row_n, y_up_n, y_up_e]
      · simp (disch := omega) only [y_up_e]
      · simp (disch := omega) only [y_row_n, y_row_e, pk_cpy_in, h64, Nat.zero_add, Nat.sub_zero]
      · simp (disch := omega) only [y_row_n, y_row_e, pk_cpy_in, h65, Nat.zero_add, Nat.sub_zero]
    · intro h hh
      simp (disch := omega) only [y_row_n, y_up_r]
      exact h63 h hh
  · intro q hq
    simp (disch := omega) only [y_row_n, y_up_r]
  · intro q hq
    simp (disch := omega) only [y_up_r]
set_option maxHeartbeats 4000000 in
theorem y_Wa_take24 (d : Nat) {S : y_S} (hok : y_okM S) {st f rule : Nat} {R : y_R} {I : Nat → Nat → Int32} {J : Nat → Nat → Int64} {p : List Nat} (hr : rule ≤ 2) (hst : st ≤ 99) (hp : y_pth S p) (hW : y_vW S st f rule R I J) (h64 : ∀ i, i < p.length → I 64 i = nI (p.getD i 0)) (h65 : ∀ i, i ≤ p.length → I 65 i = nI (y_hd S f (p.take i))) :
    ∃ I' J', zL (d + 1) q_Wa_take 24 [(0, .ref 60), (1, .int (nI p.length)), (2, .int (nI (y_ar S st p))), (3, .long (lN (y_su S p)))] (xz_SH, I, J) = some (none, (xz_SH, I', J')) ∧ y_vW S st f rule (R.1, y_bst S st rule R.2.1 p, R.2.2) I' J' ∧ (∀ q, q < 60 ∨ 63 ≤ q → I' q = I q) ∧ ∀ q, q ≠ 60 → J' q = J q := by
  obtain ⟨h0, h1, h2, h3⟩ := hW
  have a5 := hp.1
  cases e : R.2.1 with
  | none =>
    rw [e] at h2
    have h2' : I 60 2 = -5 := h2
    obtain ⟨I', J', g1, g2, g3, g4⟩ := y_Wa_take35 (d + 1) hok (st := st) (f := f) (rule := rule) (R := (R.1, some p, R.2.2)) hp h0 h1 h3 h64 h65 rfl
    refine ⟨I', J', ?_, g2, g3, g4⟩
    refine b_Wa_take_l24 _ _ _ _ _ _ _ ?_
    simp (disch := omega) only [sh_is0, sh_gI0, sh_wI0, sh_wZ0, sh_gR0, sh_gR1, sh_gR2, sh_lI0, sh_lI1, sh_lI2, sh_sI0, sh_sI1, sh_sI2, sh_len0, sh_len1, sh_len2, sh_lZ0, sh_sZ0, sh_gJ0, sh_wJ0, sh_lR0, sh_lJ0, sh_sJ0, y_eo, y_eb, y_eI, y_eJ, y_eR, y_eV, y_in, nI_clamp, cond_true, y_eqI, y_ltI, y_leI, y_lit, nI_toInt, if_true, if_false, if_pos, if_neg, y_bIt, y_bIf, y_band, h2', g1]
  | some q =>
    rw [e] at h2
    obtain ⟨k1, k2, k3, k4, k5, k6⟩ := h2
    have a6 := k1.1
    have hB := y_Wa_isBetter d hok (rule := rule) hr hp k1 hst h0 k2 k3 k4
    cases e2 : y_bet S st rule p q with
    | true =>
      rw [e2] at hB
      obtain ⟨I', J', g1, g2, g3, g4⟩ := y_Wa_take35 (d + 1) hok (st := st) (f := f) (rule := rule) (R := (R.1, some p, R.2.2)) hp h0 h1 h3 h64 h65 rfl
      refine ⟨I', J', ?_, ?_, g3, g4⟩
      · refine b_Wa_take_l24 _ _ _ _ _ _ _ ?_
        simp (disch := omega) only [sh_is0, sh_gI0, sh_wI0, sh_wZ0, sh_gR0, sh_gR1, sh_gR2, sh_lI0, sh_lI1, sh_lI2, sh_sI0, sh_sI1, sh_sI2, sh_len0, sh_len1, sh_len2, sh_lZ0, sh_sZ0, sh_gJ0, sh_wJ0, sh_lR0, sh_lJ0, sh_sJ0, y_eo, y_eb, y_eI, y_eJ, y_eR, y_eV, y_in, nI_clamp, cond_true, y_eqI, y_ltI, y_leI, y_lit, nI_toInt, if_true, if_false, if_pos, if_neg, y_bIt, y_bIf, y_band, k2, g1, hB]
      · unfold y_bst
        dsimp only
        rw [if_pos e2]
        exact g2
    | false =>
      rw [e2] at hB
      refine ⟨I, J, ?_, ?_, fun _ _ => rfl, fun _ _ => rfl⟩
      · refine b_Wa_take_l24 _ _ _ _ _ _ _ ?_
        simp (disch := omega) only [sh_is0, sh_gI0, sh_wI0, sh_wZ0, sh_gR0, sh_gR1, sh_gR2, sh_lI0, sh_lI1, sh_lI2, sh_sI0, sh_sI1, sh_sI2, sh_len0, sh_len1, sh_len2, sh_lZ0, sh_sZ0, sh_gJ0, sh_wJ0, sh_lR0, sh_lJ0, sh_sJ0, y_eo, y_eb, y_eI, y_eJ, y_eR, y_eV, y_in, nI_clamp, cond_true, y_eqI, y_ltI, y_leI, y_lit, nI_toInt, if_true, if_false, if_pos, if_neg, y_bIt, y_bIf, y_band, k2, hB]
      · unfold y_bst
        dsimp only
        rw [if_neg (by rw [e2]; simp)]
        exact ⟨h0, h1, ⟨k1, k2, k3, k4, k5, k6⟩, h3⟩
theorem y_vB_of {S : y_S} {st f : Nat} {o : Option (List Nat)} {I I' : Nat → Nat → Int32} {J J' : Nat → Nat → Int64} (h2 : I' 60 2 = I 60 2) (h3 : I' 60 3 = I 60 3) (h4 : J' 60 4 = J 60 4) (h61 : I' 61 = I 61) (h62 : I' 62 = I 62) (h : y_vB S st f o I J) : y_vB S st f o I' J' := by
  unfold y_vB at *
  split
  · rw [h2]; exact h
  · rw [h2, h3, h4, h61, h62]; exact h
set_option maxHeartbeats 4000000 in
theorem y_Wa_take (d : Nat) {S : y_S} (hok : y_okM S) {st f rule : Nat} {R : y_R} {I : Nat → Nat → Int32} {J : Nat → Nat → Int64} {p : List Nat} (hr : rule ≤ 2) (hst : st ≤ 99) (hp : y_pth S p) (hW : y_vW S st f rule R I J) (h64 : ∀ i, i < p.length → I 64 i = nI (p.getD i 0)) (h65 : ∀ i, i ≤ p.length → I 65 i = nI (y_hd S f (p.take i))) :
    ∃ I' J', zC (d + 2) q_Wa_take [.ref 60, .int (nI p.length), .int (nI (y_ar S st p)), .long (lN (y_su S p))] (xz_SH, I, J) = some (none, (xz_SH, I', J')) ∧ y_vW S st f rule (y_add S st rule R p) I' J' ∧ (∀ q, q < 60 ∨ 64 ≤ q → I' q = I q) ∧ ∀ q, q ≠ 60 → J' q = J q := by
  obtain ⟨h0, h1, h2, h3⟩ := hW
  have a5 := hp.1
  have a3 := y_ar_le hok hp.2 hst
  obtain ⟨k1, k2⟩ := h3 p.length (by omega)
  -- the step behind: 18, then 24
  have low : ∀ I1 : Nat → Nat → Int32, (∀ q, q ≠ 60 → q ≠ 63 → I1 q = I q) → I1 60 0 = I 60 0 → I1 60 1 = nI (R.1 + 1) → I1 60 2 = I 60 2 → I1 60 3 = I 60 3 → (∀ h, h < 6 → I1 63 h = y_o5 (y_bh S st R.2.2 p h)) → ∃ I' J', zL (d + 1) q_Wa_take 24 [(0, .ref 60), (1, .int (nI p.length)), (2, .int (nI (y_ar S st p))), (3, .long (lN (y_su S p)))] (xz_SH, I1, J) = some (none, (xz_SH, I', J')) ∧ y_vW S st f rule (y_add S st rule R p) I' J' ∧ (∀ q, q < 60 ∨ 64 ≤ q → I' q = I q) ∧ ∀ q, q ≠ 60 → J' q = J q := by
    intro I1 g1 g2 g3 g4 g5 g6
    have hz : ∀ h, h < 6 → ∀ t, y_bh S st R.2.2 p h = some t → t ≤ 99 := by
      intro h hh t ht
      unfold y_bh at ht
      have k3 := (h3 h hh).2
      by_cases e : h = p.length
      · rw [if_pos e] at ht
        cases e2 : R.2.2 h with
        | none => rw [e2] at ht; cases ht; exact a3
        | some u =>
          rw [e2] at ht
          have := k3 u e2
          dsimp only at ht
          split at ht
          · cases ht; exact a3
          · cases ht; exact this
      · rw [if_neg e] at ht
        exact k3 t ht
    obtain ⟨I', J', f1, f2, f3, f4⟩ := y_Wa_take24 d hok (st := st) (f := f) (rule := rule) (R := (R.1 + 1, R.2.1, y_bh S st R.2.2 p)) (I := I1) (J := J) hr hst hp ⟨by rw [g2, h0], g3, y_vB_of g4 g5 rfl (g1 61 (by decide) (by decide)) (g1 62 (by decide) (by decide)) h2, fun h hh => ⟨g6 h hh, hz h hh⟩⟩ (by rw [g1 64 (by decide) (by decide)]; exact h64) (by rw [g1 65 (by decide) (by decide)]; exact h65)
    refine ⟨I', J', f1, f2, fun q hq => ?_, f4⟩
    rw [f3 q (by omega), g1 q (by omega) (by omega)]
  have h3' : ∀ h, h < 6 → I 63 h = y_o5 (R.2.2 h) := fun h hh => (h3 h hh).1
  cases e : R.2.2 p.length with
  | none =>
    rw [e] at k1
    obtain ⟨I', J', f1, f2, f3, f4⟩ := low (xz_up (xz_up I 60 1 (nI (R.1 + 1))) 63 p.length (nI (y_ar S st p))) (fun q z1 z2 => by simp (disch := omega) only [y_up_r]) (by simp (disch := omega) only [y_up_n]) (by simp (disch := omega) only [y_up_n, y_up_e]) (by simp (disch := omega) only [y_up_n]) (by simp (disch := omega) only [y_up_n]) (fun h hh => by
      unfold y_bh
      by_cases z : h = p.length
      · rw [if_pos z, z, e]
        simp (disch := omega) only [y_up_e, y_o5s]
      · rw [if_neg z]
        simp (disch := omega) only [y_up_n, h3'])
    refine ⟨I', J', ?_, f2, f3, f4⟩
    refine b_Wa_take _ _ _ _ _ _ _ ?_
    simp (disch := omega) only [sh_is0, sh_gI0, sh_wI0, sh_wZ0, sh_gR0, sh_gR1, sh_gR2, sh_lI0, sh_lI1, sh_lI2, sh_sI0, sh_sI1, sh_sI2, sh_len0, sh_len1, sh_len2, sh_lZ0, sh_sZ0, sh_gJ0, sh_wJ0, sh_lR0, sh_lJ0, sh_sJ0, y_eo, y_eb, y_eI, y_eJ, y_eR, y_eV, y_in, nI_clamp, cond_true, y_eqI, y_ltI, y_leI, y_lit, nI_toInt, if_true, if_false, if_pos, if_neg, y_bIt, y_bIf, y_band, h1, y_1, y_up_n, y_up_e, y_up_r, k1, y_o5n]
    refine b_Wa_take_l18 _ _ _ _ _ _ _ ?_
    simp (disch := omega) only [sh_is0, sh_gI0, sh_wI0, sh_wZ0, sh_gR0, sh_gR1, sh_gR2, sh_lI0, sh_lI1, sh_lI2, sh_sI0, sh_sI1, sh_sI2, sh_len0, sh_len1, sh_len2, sh_lZ0, sh_sZ0, sh_gJ0, sh_wJ0, sh_lR0, sh_lJ0, sh_sJ0, y_eo, y_eb, y_eI, y_eJ, y_eR, y_eV, y_in, nI_clamp, cond_true, y_eqI, y_ltI, y_leI, y_lit, nI_toInt, if_true, if_false, if_pos, if_neg, y_bIt, y_bIf, y_band, f1]
  | some u =>
    rw [e] at k1
    have k3 := k2 u e
    by_cases e2 : y_ar S st p < u
    · obtain ⟨I', J', f1, f2, f3, f4⟩ := low (xz_up (xz_up I 60 1 (nI (R.1 + 1))) 63 p.length (nI (y_ar S st p))) (fun q z1 z2 => by simp (disch := omega) only [y_up_r]) (by simp (disch := omega) only [y_up_n]) (by simp (disch := omega) only [y_up_n, y_up_e]) (by simp (disch := omega) only [y_up_n]) (by simp (disch := omega) only [y_up_n]) (fun h hh => by
        unfold y_bh
        by_cases z : h = p.length
        · rw [if_pos z, z, e]
          dsimp only
          rw [if_pos e2]
          simp (disch := omega) only [y_up_e, y_o5s]
        · rw [if_neg z]
          simp (disch := omega) only [y_up_n, h3'])
      refine ⟨I', J', ?_, f2, f3, f4⟩
      refine b_Wa_take _ _ _ _ _ _ _ ?_
      simp (disch := omega) only [sh_is0, sh_gI0, sh_wI0, sh_wZ0, sh_gR0, sh_gR1, sh_gR2, sh_lI0, sh_lI1, sh_lI2, sh_sI0, sh_sI1, sh_sI2, sh_len0, sh_len1, sh_len2, sh_lZ0, sh_sZ0, sh_gJ0, sh_wJ0, sh_lR0, sh_lJ0, sh_sJ0, y_eo, y_eb, y_eI, y_eJ, y_eR, y_eV, y_in, nI_clamp, cond_true, y_eqI, y_ltI, y_leI, y_lit, nI_toInt, if_true, if_false, if_pos, if_neg, y_bIt, y_bIf, y_band, h1, y_1, y_up_n, y_up_e, y_up_r, k1, y_o5s]
      refine b_Wa_take_l18 _ _ _ _ _ _ _ ?_
      simp (disch := omega) only [sh_is0, sh_gI0, sh_wI0, sh_wZ0, sh_gR0, sh_gR1, sh_gR2, sh_lI0, sh_lI1, sh_lI2, sh_sI0, sh_sI1, sh_sI2, sh_len0, sh_len1, sh_len2, sh_lZ0, sh_sZ0, sh_gJ0, sh_wJ0, sh_lR0, sh_lJ0, sh_sJ0, y_eo, y_eb, y_eI, y_eJ, y_eR, y_eV, y_in, nI_clamp, cond_true, y_eqI, y_ltI, y_leI, y_lit, nI_toInt, if_true, if_false, if_pos, if_neg, y_bIt, y_bIf, y_band, f1]
    · obtain ⟨I', J', f1, f2, f3, f4⟩ := low (xz_up I 60 1 (nI (R.1 + 1))) (fun q z1 z2 => by simp (disch := omega) only [y_up_r]) (by simp (disch := omega) only [y_up_n]) (by simp (disch := omega) only [y_up_n, y_up_e]) (by simp (disch := omega) only [y_up_n]) (by simp (disch := omega) only [y_up_n]) (fun h hh => by
        unfold y_bh
        by_cases z : h = p.length
        · rw [if_pos z, z, e]
          dsimp only
          rw [if_neg e2]
          simp (disch := omega) only [y_up_n, k1]
        · rw [if_neg z]
          simp (disch := omega) only [y_up_n, h3'])
      refine ⟨I', J', ?_, f2, f3, f4⟩
      refine b_Wa_take _ _ _ _ _ _ _ ?_
      simp (disch := omega) only [sh_is0, sh_gI0, sh_wI0, sh_wZ0, sh_gR0, sh_gR1, sh_gR2, sh_lI0, sh_lI1, sh_lI2, sh_sI0, sh_sI1, sh_sI2, sh_len0, sh_len1, sh_len2, sh_lZ0, sh_sZ0, sh_gJ0, sh_wJ0, sh_lR0, sh_lJ0, sh_sJ0, y_eo, y_eb, y_eI, y_eJ, y_eR, y_eV, y_in, nI_clamp, cond_true, y_eqI, y_ltI, y_leI, y_lit, nI_toInt, if_true, if_false, if_pos, if_neg, y_bIt, y_bIf, y_band, h1, y_1, y_up_n, y_up_e, y_up_r, k1, y_o5s]
      exact f1
