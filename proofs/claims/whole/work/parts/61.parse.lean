/-! read: all clauses -/
theorem y_l12F {f : Nat} (hf : f ≤ 100) {I : Nat → Nat → Int32} (h : I 92 24 = nI f) (d : Nat) (J : Nat → Nat → Int64) : zL d q_Mo_read 12 [(0, .ref 92)] (xz_SH, I, J) = some (some (.int ((-10 : Int32) - nI f)), (xz_SH, xz_up I 92 22 0, J)) := by
  refine b_Mo_read_l12 _ _ _ _ ?_
  rw [show xz_gI (xz_SH, I, J) 92 8 24 = some (I 92 24) from rfl, h, y_eo, if_pos (by rw [y_leI, nI_toInt (by omega)]; simp only [y_lit]; omega), show xz_wI (xz_SH, I, J) 92 8 22 0 = some (xz_SH, xz_up I 92 22 0, J) from rfl, y_eo, show xz_gI (xz_SH, xz_up I 92 22 0, J) 92 8 24 = some (xz_up I 92 22 0 92 24) from rfl, y_up_n (by omega), h, y_eo, if_neg (by rw [y_ltI, nI_toInt (by omega)]; simp only [y_lit]; omega), y_eo]
def y_oC (n : Nat) (g : Nat → Nat) (p c : Nat) (o : Bool × Nat) (W : Nat → Nat) (X : Nat → Nat → Nat) : Prop := ∀ d I J, y_tc n g I → I 66 5 = nI p → ∃ I', zL (d + 7) q_Te_parse 9 [(0, .ref 66), (1, .int (nI c))] (xz_SH, I, J) = some (some (.int (if o.1 = true then -1 else nI o.2)), (xz_SH, I', J)) ∧ (o.1 = true → I' 66 1 = nI o.2 ∧ ∀ t, c ≤ t → t < o.2 → I' 68 t = nI (W t) ∧ ∀ k, k < y_K (W t) → I' (70 + t) k = nI (X t k)) ∧ ∀ q j, ¬ (q = 66 ∧ (j = 1 ∨ j = 5)) → ¬ (q = 68 ∧ c ≤ j) → ¬ (70 + c ≤ q ∧ q < 82) → I' q j = I q j
def y_oR (n : Nat) (g : Nat → Nat) (p c : Nat) (o : Bool × Nat) (W : Nat → Nat) (X : Nat → Nat → Nat) : Prop := ∀ d I J, y_tr n g I → I 92 23 = nI p → I 92 24 = -1 → I 92 25 = nI c → ∃ I1 I2, zC (d + 7) q_Mo_clauseRead [.ref 92] (xz_SH, I, J) = some (none, (xz_SH, I1, J)) ∧ (o.1 = false → zL (d + 7) q_Mo_read 12 [(0, .ref 92)] (xz_SH, I1, J) = some (some (.int ((-10 : Int32) - nI o.2)), (xz_SH, I2, J))) ∧ (o.1 = true → ∀ r, zL (d + 7) q_Mo_read 61 [(0, .ref 92), (1, .int 0), (2, .int 0)] (xz_SH, I2, J) = some r → zL (d + 7) q_Mo_read 12 [(0, .ref 92)] (xz_SH, I1, J) = some r) ∧ I2 92 22 = 0 ∧ (o.1 = true → I2 92 25 = nI o.2 ∧ ∀ t, c ≤ t → t < o.2 → I2 106 t = nI (W t) ∧ ∀ k, k < y_K (W t) → I2 107 (4 * t + k) = nI (X t k)) ∧ ∀ q j, ¬ (q = 92 ∧ 22 ≤ j ∧ j ≤ 25) → ¬ (q = 106 ∧ c ≤ j) → ¬ (q = 107 ∧ 4 * c ≤ j) → I2 q j = I q j
theorem y_K4 : ∀ i, y_K i ≤ 4 := by
  intro i
  unfold y_K
  split
  · omega
  · split <;> omega
/-- what the reference's loop does at a sign that ends nothing -/
theorem y_l12N {n : Nat} {g : Nat → Nat} {p m : Nat} {I : Nat → Nat → Int32} (hp : p < n) (ht : y_tr n g I) (h23 : I 92 23 = nI p) (h24 : I 92 24 = -1) (h25 : I 92 25 = nI m) (hm : m ≤ 12) (h : ¬ g p = 59 ∨ m = 12) (d : Nat) (J : Nat → Nat → Int64) : zL d q_Mo_read 12 [(0, .ref 92)] (xz_SH, I, J) = some (some (.int ((-10 : Int32) - nI p)), (xz_SH, xz_up (xz_up I 92 24 (nI p)) 92 22 0, J)) := by
  have hn := ht.1
  have hL := y_l12F (f := p) (by omega) (I := xz_up I 92 24 (nI p)) (y_up_e ⟨rfl, rfl⟩) d J
  refine b_Mo_read_l12 _ _ _ _ ?_
  rw [show xz_gI (xz_SH, I, J) 92 8 24 = some (I 92 24) from rfl, h24, y_eo, if_neg (by decide), show xz_gI (xz_SH, I, J) 92 8 23 = some (I 92 23) from rfl, h23, y_eo, show xz_gI (xz_SH, I, J) 92 8 22 = some (I 92 22) from rfl, ht.2.1, y_eo, if_neg (by rw [y_leI, nI_toInt (by omega), nI_toInt (by omega)]; omega)]
  have hq := ht.2.2 p hp
  by_cases e : g p = 59
  · have e12 : m = 12 := by omega
    subst e12
    simp (maxSteps := 1000000) (disch := omega) only [sh_is0, sh_gI0, sh_wI0, sh_wZ0, sh_gR0, sh_gR1, sh_gR2, sh_lI0, sh_lI1, sh_lI2, sh_sI0, sh_sI1, sh_sI2, sh_len0, sh_len1, sh_len2, sh_lZ0, sh_sZ0, sh_gJ0, sh_wJ0, sh_lR0, sh_lJ0, sh_sJ0, y_eo, y_eb, h23, h25, y_in (show p < 100 by omega) (by decide), nI_clamp (show p < 2 ^ 31 by omega), cond_true, hq.2]
    rw [if_pos (by rw [e]; rfl), if_pos (by decide)]
    exact hL
  · simp (maxSteps := 1000000) (disch := omega) only [sh_is0, sh_gI0, sh_wI0, sh_wZ0, sh_gR0, sh_gR1, sh_gR2, sh_lI0, sh_lI1, sh_lI2, sh_sI0, sh_sI1, sh_sI2, sh_len0, sh_len1, sh_len2, sh_lZ0, sh_sZ0, sh_gJ0, sh_wJ0, sh_lR0, sh_lJ0, sh_sJ0, y_eo, y_eb, h23, h25, y_in (show p < 100 by omega) (by decide), nI_clamp (show p < 2 ^ 31 by omega), cond_true, hq.2]
    rw [if_neg (by rw [y_eqI, nI_toInt (by omega)]; show ¬ (g p : Int) = 59; omega)]
    exact hL
