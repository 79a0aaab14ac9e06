/-! shift, judge -/
theorem y_cpJ {I : Nat → Nat → Int32} {J : Nat → Nat → Int64} {r r' : Nat} (h : xz_SH[r]? = some (2, 60, [])) (h' : xz_SH[r']? = some (2, 60, [])) {sp dp n : Nat} (h1 : sp + n ≤ 60) (h2 : dp + n ≤ 60) : xz_copy (xz_SH, I, J) r (nI sp) r' (nI dp) (nI n) = some (xz_SH, I, xz_row J r' (va_cpy (J r) (J r') sp dp n)) := by
  unfold xz_copy
  rw [h, h']
  have e1 : ∀ n : Nat, n < 2 ^ 31 → decide (¬ nI n < 0) = true := fun n hn => decide_eq_true (nI_pos hn)
  simp only [e1 sp (by omega), e1 dp (by omega), e1 n (by omega), nI_clamp (show sp < 2 ^ 31 by omega), nI_clamp (show dp < 2 ^ 31 by omega), nI_clamp (show n < 2 ^ 31 by omega), Nat.ble_eq_true_of_le h1, Nat.ble_eq_true_of_le h2, Nat.ble_eq_true_of_le (show 2 ≤ 2 by omega), beq_self_eq_true, Bool.and_true, cond_true]
theorem y_Ta_hasRun (d : Nat) {t m : Nat} (ht : t < 6) {I : Nat → Nat → Int32} (J : Nat → Nat → Int64) (h : I 84 t = nI m) (hm : m ≤ 60) (i n : Int32) : zC (d + 1) q_Ta_hasRun [.ref 82, .int (nI t), .int i, .int n] (xz_SH, I, J) = some (some (.int (y_bI (decide (0 ≤ n.toInt ∧ 0 ≤ i.toInt ∧ i.toInt + n.toInt ≤ m)))), (xz_SH, I, J)) := by
  refine b_Ta_hasRun _ _ _ _ _ _ _ ?_
  by_cases e1 : n.toInt < 0
  · rw [if_pos (by rw [y_ltI, y_lit.1]; exact e1), decide_eq_false (by omega)]
    rfl
  · rw [if_neg (by rw [y_ltI, y_lit.1]; exact e1)]
    by_cases e2 : i.toInt < 0
    · rw [if_pos (by rw [y_ltI, y_lit.1]; exact e2), decide_eq_false (by omega)]
      rfl
    · rw [if_neg (by rw [y_ltI, y_lit.1]; exact e2)]
      simp (maxSteps := 1000000) (disch := omega) only [sh_is0, sh_gI0, sh_wI0, sh_wZ0, sh_gR0, sh_gR1, sh_gR2, sh_lI0, sh_lI1, sh_lI2, sh_sI0, sh_sI1, sh_sI2, sh_len0, sh_len1, sh_len2, sh_lZ0, sh_sZ0, sh_gJ0, sh_wJ0, sh_lR0, sh_lJ0, sh_sJ0, y_eo, y_eb, y_in ht (by decide), nI_clamp (show t < 2 ^ 31 by omega), cond_true, h]
      have hs : (0 < lg_cmp (Int32.toInt64 i + Int32.toInt64 n) (Int32.toInt64 (nI m))) ↔ (m : Int) < i.toInt + n.toInt := by
        rw [lg_cmp_gt, Int64.lt_iff_toInt_lt, lg_i2l_add, Int32.toInt_toInt64, nI_toInt (by omega)]
      by_cases e3 : (m : Int) < i.toInt + n.toInt
      · rw [if_pos (hs.mpr e3), decide_eq_false (by omega)]
        rfl
      · rw [if_neg (fun z => e3 (hs.mp z)), decide_eq_true (by omega)]
        rfl
theorem y_subI {m : Nat} (hm : m ≤ 60) {n : Int32} (hn : 0 ≤ n.toInt) : (nI m - n).toInt = (m : Int) - n.toInt := by
  have hx := Int32.toInt_lt n
  rw [Int32.toInt_sub, nI_toInt (by omega)]
  exact Int.bmod_eq_of_le (by omega) (by omega)
theorem y_s_shift (x i o j n : Int32) : zSI zR q_HR_shift q_Mo_shift [.int x, .int i, .int o, .int j, .int n] := by
  rintro M ⟨S, I, J, rfl, hZ⟩
  have hZ' := hZ
  obtain ⟨z1, z2, z4, z6, z7, z8, z9⟩ := hZ
  have no : ∀ w : Int32, zC 60 q_HR_shift [.ref 0, .int x, .int i, .int o, .int j, .int n] (xz_SH, I, J) = some (some (.int w), (xz_SH, I, J)) → zC 60 q_Mo_shift [.ref 92, .int x, .int i, .int o, .int j, .int n] (xz_SH, I, J) = some (some (.int w), (xz_SH, I, J)) → ∃ (w : Int32) (M1 M2 : xz_M), zC 60 q_HR_shift (.ref 0 :: [.int x, .int i, .int o, .int j, .int n]) (xz_SH, I, J) = some (some (.int w), M1) ∧ xz_is M1 92 8 = true ∧ zC 60 q_Mo_shift (.ref 92 :: [.int x, .int i, .int o, .int j, .int n]) M1 = some (some (.int w), M2) ∧ zR M2 := fun w a b => ⟨w, _, _, a, rfl, b, S, I, J, rfl, hZ'⟩
  cases h : y_rg x 0 5 with
  | false =>
    refine no (-1) (b_HR_shift _ _ _ _ _ _ _ _ _ ?_) (b_Mo_shift _ _ _ _ _ _ _ _ _ ?_)
    · simp (maxSteps := 1000000) (disch := omega) only [sh_is0, sh_gI0, sh_wI0, sh_wZ0, sh_gR0, sh_gR1, sh_gR2, sh_lI0, sh_lI1, sh_lI2, sh_sI0, sh_sI1, sh_sI2, sh_len0, sh_len1, sh_len2, sh_lZ0, sh_sZ0, sh_gJ0, sh_wJ0, sh_lR0, sh_lJ0, sh_sJ0, y_eo, y_eb, y_Ta_isTape, h, y_eI]
      rw [if_pos (by decide)]
    · rw [y_Mo_isTape, h, y_eI, if_pos (by decide)]
  | true =>
    cases h2 : y_rg o 0 5 with
    | false =>
      refine no (-1) (b_HR_shift _ _ _ _ _ _ _ _ _ ?_) (b_Mo_shift _ _ _ _ _ _ _ _ _ ?_)
      · simp (maxSteps := 1000000) (disch := omega) only [sh_is0, sh_gI0, sh_wI0, sh_wZ0, sh_gR0, sh_gR1, sh_gR2, sh_lI0, sh_lI1, sh_lI2, sh_sI0, sh_sI1, sh_sI2, sh_len0, sh_len1, sh_len2, sh_lZ0, sh_sZ0, sh_gJ0, sh_wJ0, sh_lR0, sh_lJ0, sh_sJ0, y_eo, y_eb, y_Ta_isTape, h, h2, y_eI]
        rw [if_neg (by decide), if_pos (by decide)]
      · rw [y_Mo_isTape, h, y_eI, if_neg (by decide), y_Mo_isTape, h2, y_eI, if_pos (by decide)]
    | true =>
      have h' := y_rgt.mp h
      have h2' := y_rgt.mp h2
      obtain ⟨t, _, rfl, hx⟩ := y_of x h'.1
      obtain ⟨u, _, rfl, hu⟩ := y_of o h2'.1
      have ht : t < 6 := by omega
      have hu6 : u < 6 := by omega
      obtain ⟨p1, p2, ⟨mt, p3, p4, p5, p6⟩, p7, p8⟩ := z8 t ht
      obtain ⟨q1, q2, ⟨mu, q3, q4, q5, q6⟩, q7, q8⟩ := z8 u hu6
      have hHt := y_Ta_holds 57 ht I J
      have hHu := y_Ta_holds 57 hu6 I J
      -- the reference as far as its sorts
      have ref0 : ∀ r, (if (I 83 t) < 0 then some (some (Value.int (-11)), ((xz_SH, I, J) : xz_M)) else if 0 ≤ I 83 u then (if I 83 t = I 83 u then (if n < 0 then some (some (Value.int (-13)), ((xz_SH, I, J) : xz_M)) else if i < 0 then some (some (Value.int (-13)), ((xz_SH, I, J) : xz_M)) else if j < 0 then some (some (Value.int (-13)), ((xz_SH, I, J) : xz_M)) else if nI mt - n < i then some (some (Value.int (-13)), ((xz_SH, I, J) : xz_M)) else if j ≤ nI mu - n then (xz_o (xz_copy (xz_SH, I, J) (129 + t) i 135 (0 : Int32) n) fun M3 => xz_o (xz_gR M3 92 8 50) fun x18 => xz_o (xz_gR M3 92 8 49) fun x19 => xz_o (xz_lR0 M3 x19 (nI u)) fun x20 => xz_o (xz_copy M3 x18 (0 : Int32) x20 j n) fun M4 => some (some (.int n), M4)) else some (some (Value.int (-13)), ((xz_SH, I, J) : xz_M))) else some (some (Value.int (-12)), ((xz_SH, I, J) : xz_M))) else some (some (Value.int (-11)), ((xz_SH, I, J) : xz_M))) = some r → zC 60 q_Mo_shift [.ref 92, .int (nI t), .int i, .int (nI u), .int j, .int n] (xz_SH, I, J) = some r := by
        intro r hr
        refine b_Mo_shift _ _ _ _ _ _ _ _ _ ?_
        rw [y_Mo_isTape, h, y_eI, if_neg (by decide), y_Mo_isTape, h2, y_eI, if_neg (by decide)]
        simp (maxSteps := 1000000) (disch := omega) only [sh_is0, sh_gI0, sh_wI0, sh_wZ0, sh_gR0, sh_gR1, sh_gR2, sh_lI0, sh_lI1, sh_lI2, sh_sI0, sh_sI1, sh_sI2, sh_len0, sh_len1, sh_len2, sh_lZ0, sh_sZ0, sh_gJ0, sh_wJ0, sh_lR0, sh_lJ0, sh_sJ0, y_eo, y_eb, y_in ht (by decide), y_in hu6 (by decide), nI_clamp (show t < 2 ^ 31 by omega), nI_clamp (show u < 2 ^ 31 by omega), cond_true, p1, q1, p5, q5, y_gd ht]
        exact hr
      by_cases a1 : (I 83 t).toInt = -1
      · rw [decide_eq_false (not_not_intro a1)] at hHt
        refine no (-11) (b_HR_shift _ _ _ _ _ _ _ _ _ ?_) (ref0 _ ?_)
        · simp (maxSteps := 1000000) (disch := omega) only [sh_is0, sh_gI0, sh_wI0, sh_wZ0, sh_gR0, sh_gR1, sh_gR2, sh_lI0, sh_lI1, sh_lI2, sh_sI0, sh_sI1, sh_sI2, sh_len0, sh_len1, sh_len2, sh_lZ0, sh_sZ0, sh_gJ0, sh_wJ0, sh_lR0, sh_lJ0, sh_sJ0, y_eo, y_eb, y_Ta_isTape, h, h2, y_eI]
          rw [if_neg (by decide), if_neg (by decide), hHt, y_eI, if_pos (by decide)]
        · rw [if_pos (by rw [y_ltI, y_lit.1]; omega)]
      · rw [decide_eq_true a1] at hHt
        have a1' : ¬ (I 83 t) < 0 := by rw [y_ltI, y_lit.1]; omega
        by_cases a2 : (I 83 u).toInt = -1
        · rw [decide_eq_false (not_not_intro a2)] at hHu
          refine no (-11) (b_HR_shift _ _ _ _ _ _ _ _ _ ?_) (ref0 _ ?_)
          · simp (maxSteps := 1000000) (disch := omega) only [sh_is0, sh_gI0, sh_wI0, sh_wZ0, sh_gR0, sh_gR1, sh_gR2, sh_lI0, sh_lI1, sh_lI2, sh_sI0, sh_sI1, sh_sI2, sh_len0, sh_len1, sh_len2, sh_lZ0, sh_sZ0, sh_gJ0, sh_wJ0, sh_lR0, sh_lJ0, sh_sJ0, y_eo, y_eb, y_Ta_isTape, h, h2, y_eI]
            rw [if_neg (by decide), if_neg (by decide), hHt, y_eI, if_neg (by decide)]
            simp (maxSteps := 1000000) (disch := omega) only [sh_is0, sh_gI0, sh_wI0, sh_wZ0, sh_gR0, sh_gR1, sh_gR2, sh_lI0, sh_lI1, sh_lI2, sh_sI0, sh_sI1, sh_sI2, sh_len0, sh_len1, sh_len2, sh_lZ0, sh_sZ0, sh_gJ0, sh_wJ0, sh_lR0, sh_lJ0, sh_sJ0, y_eo, y_eb, hHu, y_eI]
            rw [if_pos (by decide)]
          · rw [if_neg a1', if_neg (by rw [y_leI, y_lit.1]; omega)]
        · rw [decide_eq_true a2] at hHu
          have a2' : 0 ≤ I 83 u := by rw [y_leI, y_lit.1]; omega
          have cls : ∀ r, (if I 83 t = I 83 u then (xz_bI (zC 59 q_Ta_hasRun [.ref 82, .int (nI t), .int i, .int n] (xz_SH, I, J)) fun x16 M5 => (if x16 = 0 then some (some (.int (-13 : Int32)), M5) else xz_o (xz_gR M5 0 7 6) fun x17 => xz_b (xz_is M5 x17 4) (xz_bI (zC 59 q_Ta_hasRun [.ref x17, .int (nI u), .int j, .int n] M5) fun x18 M6 => (if x18 = 0 then some (some (.int (-13 : Int32)), M6) else xz_o (xz_gR M6 0 7 6) fun x19 => xz_o (xz_gR M6 x19 4 2) fun x20 => xz_o (xz_lR0 M6 x20 (nI t)) fun x21 => xz_o (xz_gR M6 0 7 6) fun x22 => xz_o (xz_gR M6 x22 4 2) fun x23 => xz_o (xz_lR0 M6 x23 (nI u)) fun x24 => xz_o (xz_copy M6 x21 i x24 j n) fun M7 => some (some (.int n), M7))))) else some (some (.int (-12 : Int32)), ((xz_SH, I, J) : xz_M))) = some r → zC 60 q_HR_shift [.ref 0, .int (nI t), .int i, .int (nI u), .int j, .int n] (xz_SH, I, J) = some r := by
            intro r hr
            refine b_HR_shift _ _ _ _ _ _ _ _ _ ?_
            simp (maxSteps := 1000000) (disch := omega) only [sh_is0, sh_gI0, sh_wI0, sh_wZ0, sh_gR0, sh_gR1, sh_gR2, sh_lI0, sh_lI1, sh_lI2, sh_sI0, sh_sI1, sh_sI2, sh_len0, sh_len1, sh_len2, sh_lZ0, sh_sZ0, sh_gJ0, sh_wJ0, sh_lR0, sh_lJ0, sh_sJ0, y_eo, y_eb, y_Ta_isTape, h, h2, y_eI]
            rw [if_neg (by decide), if_neg (by decide), hHt, y_eI, if_neg (by decide)]
            simp (maxSteps := 1000000) (disch := omega) only [sh_is0, sh_gI0, sh_wI0, sh_wZ0, sh_gR0, sh_gR1, sh_gR2, sh_lI0, sh_lI1, sh_lI2, sh_sI0, sh_sI1, sh_sI2, sh_len0, sh_len1, sh_len2, sh_lZ0, sh_sZ0, sh_gJ0, sh_wJ0, sh_lR0, sh_lJ0, sh_sJ0, y_eo, y_eb, hHu, y_eI]
            rw [if_neg (by decide)]
            simp (maxSteps := 1000000) (disch := omega) only [sh_is0, sh_gI0, sh_wI0, sh_wZ0, sh_gR0, sh_gR1, sh_gR2, sh_lI0, sh_lI1, sh_lI2, sh_sI0, sh_sI1, sh_sI2, sh_len0, sh_len1, sh_len2, sh_lZ0, sh_sZ0, sh_gJ0, sh_wJ0, sh_lR0, sh_lJ0, sh_sJ0, y_eo, y_eb, y_in ht (by decide), y_in hu6 (by decide), nI_clamp (show t < 2 ^ 31 by omega), nI_clamp (show u < 2 ^ 31 by omega), cond_true]
            exact hr
          by_cases a3 : I 83 t = I 83 u
          · have hRt := y_Ta_hasRun 58 ht J p4 p3 i n
            have hRu := y_Ta_hasRun 58 hu6 J q4 q3 j n
            by_cases b1 : 0 ≤ n.toInt ∧ 0 ≤ i.toInt ∧ i.toInt + n.toInt ≤ mt
            · rw [decide_eq_true b1] at hRt
              by_cases b2 : 0 ≤ n.toInt ∧ 0 ≤ j.toInt ∧ j.toInt + n.toInt ≤ mu
              · rw [decide_eq_true b2] at hRu
                obtain ⟨nn, _, rfl, hnn⟩ := y_of n b1.1
                obtain ⟨ii, _, rfl, hii⟩ := y_of i b1.2.1
                obtain ⟨jj, _, rfl, hjj⟩ := y_of j b2.2.1
                have s1 := (y_shT ht I J).2.2.2.2
                have s2 := (y_shT hu6 I J).2.2.2.2
                have c1 := fun (J : Nat → Nat → Int64) => y_cpJ (I := I) (J := J) s1.1 s2.1 (sp := ii) (dp := jj) (n := nn) (by omega) (by omega)
                have c2 := fun (J : Nat → Nat → Int64) => y_cpJ (I := I) (J := J) s1.2 (r' := 135) rfl (sp := ii) (dp := 0) (n := nn) (by omega) (by omega)
                have c3 := fun (J : Nat → Nat → Int64) => y_cpJ (I := I) (J := J) (r := 135) rfl s2.2 (sp := 0) (dp := jj) (n := nn) (by omega) (by omega)
                have c2' : ∀ J : Nat → Nat → Int64, xz_copy (xz_SH, I, J) (129 + t) (nI ii) 135 (0 : Int32) (nI nn) = some (xz_SH, I, xz_row J 135 (va_cpy (J (129 + t)) (J 135) ii 0 nn)) := c2
                have c3' : ∀ J : Nat → Nat → Int64, xz_copy (xz_SH, I, J) 135 (0 : Int32) (129 + u) (nI jj) (nI nn) = some (xz_SH, I, xz_row J (129 + u) (va_cpy (J 135) (J (129 + u)) 0 jj nn)) := c3
                have ref1 : ∀ (J : Nat → Nat → Int64) r, some (some (Value.int (nI nn)), ((xz_SH, I, xz_row (xz_row J 135 (va_cpy (J (129 + t)) (J 135) ii 0 nn)) (129 + u) (va_cpy (xz_row J 135 (va_cpy (J (129 + t)) (J 135) ii 0 nn) 135) (xz_row J 135 (va_cpy (J (129 + t)) (J 135) ii 0 nn) (129 + u)) 0 jj nn)) : xz_M)) = some r → zC 60 q_Mo_shift [.ref 92, .int (nI t), .int (nI ii), .int (nI u), .int (nI jj), .int (nI nn)] (xz_SH, I, J) = some r := by
                  intro J r hr
                  refine b_Mo_shift _ _ _ _ _ _ _ _ _ ?_
                  rw [y_Mo_isTape, h, y_eI, if_neg (by decide), y_Mo_isTape, h2, y_eI, if_neg (by decide)]
                  simp (maxSteps := 1000000) (disch := omega) only [sh_is0, sh_gI0, sh_wI0, sh_wZ0, sh_gR0, sh_gR1, sh_gR2, sh_lI0, sh_lI1, sh_lI2, sh_sI0, sh_sI1, sh_sI2, sh_len0, sh_len1, sh_len2, sh_lZ0, sh_sZ0, sh_gJ0, sh_wJ0, sh_lR0, sh_lJ0, sh_sJ0, y_eo, y_eb, y_in ht (by decide), y_in hu6 (by decide), nI_clamp (show t < 2 ^ 31 by omega), nI_clamp (show u < 2 ^ 31 by omega), cond_true, p1, q1, p5, q5, y_gd ht, y_gd hu6, c2', c3']
                  rw [if_neg a1', if_pos a2', if_pos a3, if_neg (by rw [y_ltI, y_lit.1]; omega), if_neg (by rw [y_ltI, y_lit.1]; omega), if_neg (by rw [y_ltI, y_lit.1]; omega), if_neg (by rw [y_ltI, y_subI p3 b1.1]; omega), if_pos (by rw [y_leI, y_subI q3 b1.1]; omega)]
                  exact hr
                refine ⟨nI nn, (xz_SH, I, xz_row J (86 + u) (va_cpy (J (86 + t)) (J (86 + u)) ii jj nn)), _, cls _ ?_, rfl, ref1 _ _ rfl, S, I, _, rfl, y_Z_tt (fun _ _ => rfl) (fun _ _ => rfl) z7 ?_ hZ'⟩
                · rw [if_pos a3, hRt, y_eI, if_neg (by decide)]
                  simp (maxSteps := 1000000) (disch := omega) only [sh_is0, sh_gI0, sh_wI0, sh_wZ0, sh_gR0, sh_gR1, sh_gR2, sh_lI0, sh_lI1, sh_lI2, sh_sI0, sh_sI1, sh_sI2, sh_len0, sh_len1, sh_len2, sh_lZ0, sh_sZ0, sh_gJ0, sh_wJ0, sh_lR0, sh_lJ0, sh_sJ0, y_eo, y_eb, hRu, y_eI]
                  rw [if_neg (by decide)]
                  simp (maxSteps := 1000000) (disch := omega) only [sh_is0, sh_gI0, sh_wI0, sh_wZ0, sh_gR0, sh_gR1, sh_gR2, sh_lI0, sh_lI1, sh_lI2, sh_sI0, sh_sI1, sh_sI2, sh_len0, sh_len1, sh_len2, sh_lZ0, sh_sZ0, sh_gJ0, sh_wJ0, sh_lR0, sh_lJ0, sh_sJ0, y_eo, y_eb, y_in ht (by decide), y_in hu6 (by decide), nI_clamp (show t < 2 ^ 31 by omega), nI_clamp (show u < 2 ^ 31 by omega), cond_true, y_gd ht, y_gd hu6, c1]
                · intro t' ht'
                  obtain ⟨r1, r2, ⟨n', r3, r4, r5, r6⟩, r7, r8⟩ := z8 t' ht'
                  by_cases e : t' = u
                  · subst e
                    have key : ∀ k, k < 60 → va_cpy (J (86 + t)) (J (86 + t')) ii jj nn k = if jj ≤ k ∧ k < jj + nn then J (86 + t) (ii + (k - jj)) else J (86 + t') k := fun k _ => rfl
                    refine ⟨r1, r2, ⟨n', r3, r4, r5, r6⟩, fun k hk => ?_, fun hz k hk => ?_⟩
                    · simp (disch := omega) only [y_row_n, y_row_e]
                      rw [key k hk]
                      by_cases ek : jj ≤ k ∧ k < jj + nn
                      · rw [if_pos ek, pk_cpy_in ek.1 ek.2, pk_cpy_in (by omega) (by omega), ← p7 _ (by omega)]
                        congr 1
                        omega
                      · rw [if_neg ek, pk_cpy_out (by omega)]
                        exact r7 k hk
                    · simp (disch := omega) only [y_row_n, y_row_e]
                      rw [key k hk]
                      by_cases ek : jj ≤ k ∧ k < jj + nn
                      · rw [if_pos ek]
                        exact p8 (by rw [a3]; exact hz) _ (by omega)
                      · rw [if_neg ek]
                        exact r8 hz k hk
                  · simp (disch := omega) only [y_row_n]
                    exact ⟨r1, r2, ⟨n', r3, r4, r5, r6⟩, r7, r8⟩
              · rw [decide_eq_false b2] at hRu
                refine no (-13) (cls _ ?_) (ref0 _ ?_)
                · rw [if_pos a3, hRt, y_eI, if_neg (by decide)]
                  simp (maxSteps := 1000000) (disch := omega) only [sh_is0, sh_gI0, sh_wI0, sh_wZ0, sh_gR0, sh_gR1, sh_gR2, sh_lI0, sh_lI1, sh_lI2, sh_sI0, sh_sI1, sh_sI2, sh_len0, sh_len1, sh_len2, sh_lZ0, sh_sZ0, sh_gJ0, sh_wJ0, sh_lR0, sh_lJ0, sh_sJ0, y_eo, y_eb, hRu, y_eI]
                  rw [if_pos (by decide)]
                · rw [if_neg a1', if_pos a2', if_pos a3, if_neg (by rw [y_ltI, y_lit.1]; omega), if_neg (by rw [y_ltI, y_lit.1]; omega)]
                  by_cases b3 : j.toInt < 0
                  · rw [if_pos (by rw [y_ltI, y_lit.1]; exact b3)]
                  · rw [if_neg (by rw [y_ltI, y_lit.1]; exact b3), if_neg (by rw [y_ltI, y_subI p3 b1.1]; omega), if_neg (by rw [y_leI, y_subI q3 b1.1]; omega)]
            · rw [decide_eq_false b1] at hRt
              refine no (-13) (cls _ ?_) (ref0 _ ?_)
              · rw [if_pos a3, hRt, y_eI, if_pos (by decide)]
              · rw [if_neg a1', if_pos a2', if_pos a3]
                by_cases c1 : n.toInt < 0
                · rw [if_pos (by rw [y_ltI, y_lit.1]; exact c1)]
                · rw [if_neg (by rw [y_ltI, y_lit.1]; exact c1)]
                  by_cases c2 : i.toInt < 0
                  · rw [if_pos (by rw [y_ltI, y_lit.1]; exact c2)]
                  · rw [if_neg (by rw [y_ltI, y_lit.1]; exact c2)]
                    by_cases c3 : j.toInt < 0
                    · rw [if_pos (by rw [y_ltI, y_lit.1]; exact c3)]
                    · rw [if_neg (by rw [y_ltI, y_lit.1]; exact c3), if_pos (by rw [y_ltI, y_subI p3 (by omega)]; omega)]
          · refine no (-12) (cls _ ?_) (ref0 _ ?_)
            · rw [if_neg a3]
            · rw [if_neg a1', if_pos a2', if_neg a3]
