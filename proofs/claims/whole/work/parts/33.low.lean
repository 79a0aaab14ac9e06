/-! LOWEST TERMS -/
theorem y_gcd_step (x y : Nat) : Nat.gcd x y = Nat.gcd y (x % y) := by
  rw [Nat.gcd_comm x y, Nat.gcd_rec y x, Nat.gcd_comm]
theorem y_cz (y : Nat) (h : y < 2 ^ 63) : (lg_cmp (lN y) (0 : Int64) = 0) ↔ y = 0 := by
  rw [lg_cmp_eq, show (0 : Int64) = lN 0 from rfl, pk_lEQ h (by decide)]
theorem y_lz (y : Nat) (h : y < 2 ^ 63) : (lN y = 0) ↔ y = 0 := by
  rw [show (0 : Int64) = lN 0 from rfl, pk_lEQ h (by decide)]
theorem y_cD_step (d : Nat) {x y i : Nat} (hx : x < 2 ^ 63) (hy : y < 2 ^ 63) (h0 : 0 < y) (hi : i < 1000) (M : xz_M) (r : Option Value × xz_M) (h : zL d q_HR_commonDivisor 7 [(4, .long (lN y)), (6, .long (lN (x % y))), (8, .int (nI (i + 1)))] M = some r) : zL d q_HR_commonDivisor 7 [(4, .long (lN x)), (6, .long (lN y)), (8, .int (nI i))] M = some r := by
  refine b_HR_commonDivisor_l7 _ _ _ _ _ _ ?_
  rw [if_neg (by rw [y_leI, nI_toInt (by omega)]; simp only [y_lit]; omega), if_neg (by rw [y_cz y hy]; omega), if_neg (by rw [y_lz y hy]; omega), pk_lRem hx h0 hy, y_1]
  exact h
theorem y_cD_end (d : Nat) {x i : Nat} (hx : x < 2 ^ 63) (hi : i < 1000) (M : xz_M) : zL d q_HR_commonDivisor 7 [(4, .long (lN x)), (6, .long (lN 0)), (8, .int (nI i))] M = some (some (.long (lN (if x < 1 then 1 else x))), M) := by
  refine b_HR_commonDivisor_l7 _ _ _ _ _ _ ?_
  rw [if_neg (by rw [y_leI, nI_toInt (by omega)]; simp only [y_lit]; omega), if_pos (by rw [y_cz 0 (by decide)])]
  have e : (lN x < (1 : Int64)) ↔ x < 1 := by rw [show (1 : Int64) = lN 1 from rfl, pk_lLT hx (by decide)]
  by_cases h : x < 1
  · rw [if_pos (e.mpr h), if_pos h]
    rfl
  · rw [if_neg (fun z => h (e.mp z)), if_neg h]
theorem y_cD (d : Nat) (M : xz_M) : ∀ (n x y i : Nat), x < 2 ^ 63 → y < 2 ^ 63 → y < 2 ^ n → i + 2 * n < 1000 → zL d q_HR_commonDivisor 7 [(4, .long (lN x)), (6, .long (lN y)), (8, .int (nI i))] M = some (some (.long (lN (if Nat.gcd x y < 1 then 1 else Nat.gcd x y))), M)
  | 0, x, y, i, hx, hy, hn, hi => by
    have : y = 0 := by simpa using hn
    subst this
    rw [Nat.gcd_zero_right]
    exact y_cD_end d hx (by omega) M
  | n + 1, x, y, i, hx, hy, hn, hi => by
    rcases Nat.eq_zero_or_pos y with h0 | h0
    · subst h0
      rw [Nat.gcd_zero_right]
      exact y_cD_end d hx (by omega) M
    · refine y_cD_step d hx hy h0 (by omega) M _ ?_
      have hr : x % y < y := Nat.mod_lt _ h0
      rw [y_gcd_step x y]
      rcases Nat.eq_zero_or_pos (x % y) with h1 | h1
      · rw [h1, Nat.gcd_zero_right]
        exact y_cD_end d hy (by omega) M
      · refine y_cD_step d hy (by omega) h1 (by omega) M _ ?_
        rw [y_gcd_step y (x % y)]
        have h2 : y % (x % y) < x % y := Nat.mod_lt _ h1
        have h3 := Nat.div_add_mod y (x % y)
        have h4 : x % y * 1 ≤ x % y * (y / (x % y)) := Nat.mul_le_mul_left _ (Nat.div_pos (by omega) h1)
        have h5 : 2 ^ (n + 1) = 2 * 2 ^ n := by rw [Nat.pow_succ]; omega
        exact y_cD d M n (x % y) (y % (x % y)) (i + 1 + 1) (by omega) (by omega) (by omega) (by omega)
/-- a over c in lowest terms: above, below -/
def y_lo (a c : Nat) (part : Int32) : Nat := (if part = 0 then a else c) / Nat.gcd a c
theorem y_HR_lowest (d : Nat) {a c : Nat} (ha : a ≤ 10000000000) (hc : c ≤ 10000000000) (h0 : 0 < c) (part : Int32) (M : xz_M) : zC (d + 2) q_HR_lowest [.long (lN a), .long (lN c), .int part] M = some (some (.long (lN (y_lo a c part))), M) := by
  refine b_HR_lowest _ _ _ _ _ _ ?_
  have hg : 0 < Nat.gcd a c := Nat.gcd_pos_of_pos_right _ h0
  have hgl : Nat.gcd a c ≤ c := Nat.le_of_dvd h0 (Nat.gcd_dvd_right a c)
  have e : zC (d + 1) q_HR_commonDivisor [.long (lN a), .long (lN c)] M = some (some (.long (lN (Nat.gcd a c))), M) := by
    refine b_HR_commonDivisor _ _ _ _ _ ?_
    have := y_cD d M 34 a c 0 (by omega) (by omega) (by omega) (by omega)
    rw [if_neg (by omega)] at this
    exact this
  rw [e, y_eJ]
  have e2 : ¬ (lN (Nat.gcd a c) = 0) := by rw [y_lz _ (by omega)]; omega
  unfold y_lo
  by_cases hp : part = 0
  · rw [if_pos hp, if_pos hp, if_neg e2, pk_lDiv (by omega) hg (by omega)]
  · rw [if_neg hp, if_neg hp, if_neg e2, pk_lDiv (by omega) hg (by omega)]
theorem y_Mo_lowest_l (d : Nat) {a c : Nat} (ha : a ≤ 10000000000) (hc : c ≤ 10000000000) (h0 : 0 < c) (part : Int32) (M : xz_M) : ∀ (n x y : Nat), y ≤ n → x ≤ 10000000000 → y ≤ 10000000000 → Nat.gcd x y = Nat.gcd a c → zL d q_Mo_lowest 5 [(0, .long (lN a)), (2, .long (lN c)), (4, .int part), (5, .long (lN x)), (7, .long (lN y))] M = some (some (.long (lN (y_lo a c part))), M) := by
  have hg : 0 < Nat.gcd a c := Nat.gcd_pos_of_pos_right _ h0
  have hz : ∀ x, x ≤ 10000000000 → Nat.gcd x 0 = Nat.gcd a c → zL d q_Mo_lowest 5 [(0, .long (lN a)), (2, .long (lN c)), (4, .int part), (5, .long (lN x)), (7, .long (lN 0))] M = some (some (.long (lN (y_lo a c part))), M) := by
    intro x hx he
    rw [Nat.gcd_zero_right] at he
    refine b_Mo_lowest_l5 _ _ _ _ _ _ _ _ ?_
    have e2 : ¬ (lN x = 0) := by rw [y_lz _ (by omega)]; omega
    rw [if_pos (by rw [y_cz 0 (by decide)])]
    unfold y_lo
    rw [← he]
    by_cases hp : part = 0
    · rw [if_pos hp, if_pos hp, if_neg e2, pk_lDiv (by omega) (by omega) (by omega)]
    · rw [if_neg hp, if_neg hp, if_neg e2, pk_lDiv (by omega) (by omega) (by omega)]
  intro n
  induction n with
  | zero =>
    intro x y hn hx hy he
    have : y = 0 := by omega
    subst this
    exact hz x hx he
  | succ n ih =>
    intro x y hn hx hy he
    rcases Nat.eq_zero_or_pos y with h1 | h1
    · subst h1
      exact hz x hx he
    · refine b_Mo_lowest_l5 _ _ _ _ _ _ _ _ ?_
      have hr : x % y < y := Nat.mod_lt _ h1
      rw [if_neg (by rw [y_cz y (by omega)]; omega), if_neg (by rw [y_lz y (by omega)]; omega), pk_lRem (by omega) h1 (by omega)]
      exact ih y (x % y) (by omega) hy (by omega) (by rw [← y_gcd_step]; exact he)
theorem y_Mo_lowest (d : Nat) {a c : Nat} (ha : a ≤ 10000000000) (hc : c ≤ 10000000000) (h0 : 0 < c) (part : Int32) (M : xz_M) : zC (d + 1) q_Mo_lowest [.long (lN a), .long (lN c), .int part] M = some (some (.long (lN (y_lo a c part))), M) := by
  refine b_Mo_lowest _ _ _ _ _ _ ?_
  exact y_Mo_lowest_l d ha hc h0 part M c a c (Nat.le_refl _) ha hc rfl
theorem y_lo_mul (a c k : Nat) (hk : 0 < k) (part : Int32) : y_lo (a * k) (c * k) part = y_lo a c part := by
  unfold y_lo
  rw [Nat.gcd_mul_right]
  by_cases hp : part = 0
  · rw [if_pos hp, if_pos hp, Nat.mul_div_mul_right _ _ hk]
  · rw [if_neg hp, if_neg hp, Nat.mul_div_mul_right _ _ hk]
