/-! SPECS: what the methods answer -/
theorem s_HR_hasBit (d : Nat) (x b : Int32) (M : xz_M) : zC (d + 1) q_HR_hasBit [.int x, .int b] M = some (some (.int (if (x >>> (b &&& 31)) &&& 1 = 0 then 0 else 1)), M) := by
  refine b_HR_hasBit _ _ _ _ _ ?_
  split <;> rfl
theorem s_Me_isThere_2 (d : Nat) (m : Int32) (I : Nat → Nat → Int32) (J : Nat → Nat → Int64) (hc : I 2 0 ≤ 14) : zC (d + 1) q_Me_isThere [.ref 2, .int m] (xz_SH, I, J) = some (some (.int (if 0 ≤ m ∧ m < I 2 0 ∧ I 7 m.toNatClampNeg = 0 then 1 else 0)), (xz_SH, I, J)) := by
  refine b_Me_isThere _ _ _ _ _ ?_
  simp only [sh_gI0, sh_gR0, sh_lZ0, xz_o]
  sorry
