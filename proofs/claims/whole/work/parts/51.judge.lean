/-! judge -/
theorem y_w32 {w : Int64} (h : -128 ≤ w.toInt ∧ w.toInt ≤ 127) : (Int64.toInt32 w).toInt = w.toInt := by
  have := lg_i2l_l2i (x := w) (by omega) (by omega)
  rw [← Int32.toInt_toInt64, this]
/-- who takes it by a told number -/
def y_tk32 (S : y_S) (w : Int64) (h r v : Nat) : Option Nat := if 0 ≤ w.toInt ∧ w.toInt < S 1 0 then y_tk S 0 w.toInt.toNat h r v else none
theorem y_Me_taker32 (d : Nat) {S : y_S} {I : Nat → Nat → Int32} (J : Nat → Nat → Int64) (hS : y_vM 1 S I) (hok : y_okM S) {w : Int64} (hw : -128 ≤ w.toInt ∧ w.toInt ≤ 127) {h r v : Nat} (hh : h < 6) (hr : r < 1000) (hv : v < 64) : zC (d + 2) q_Me_taker [.ref 2, .int (Int64.toInt32 w), .int (nI h), .int (nI r), .int (nI v)] (xz_SH, I, J) = some (some (.int (y_o1 (y_tk32 S w h r v))), (xz_SH, I, J)) := by
  obtain ⟨k1, k2, k3, k4, k5, k6, k7, k8⟩ := id hok
  unfold y_tk32
  have e := y_w32 hw
  by_cases hc : 0 ≤ w.toInt ∧ w.toInt < S 1 0
  · rw [if_pos hc]
    obtain ⟨m, _, hm, hm2⟩ := y_of (Int64.toInt32 w) (by omega)
    rw [hm, show w.toInt.toNat = m by omega]
    exact y_Me_taker d (Or.inl rfl) J hS hok (by omega) hh hr hv
  · rw [if_neg hc]
    have hT : zC (d + 1) q_Me_isThere [.ref 2, .int (Int64.toInt32 w)] (xz_SH, I, J) = some (some (.int 0), (xz_SH, I, J)) := by
      refine b_Me_isThere _ _ _ _ _ ?_
      have h1 : I 2 0 = nI (S 1 0) := hS.2.1
      by_cases z : w.toInt < 0
      · rw [if_pos (by rw [y_ltI, y_lit.1]; omega)]
      · rw [if_neg (by rw [y_ltI, y_lit.1]; omega)]
        simp (maxSteps := 1000000) (disch := omega) only [sh_is0, sh_gI0, sh_wI0, sh_wZ0, sh_gR0, sh_gR1, sh_gR2, sh_lI0, sh_lI1, sh_lI2, sh_sI0, sh_sI1, sh_sI2, sh_len0, sh_len1, sh_len2, sh_lZ0, sh_sZ0, sh_gJ0, sh_wJ0, sh_lR0, sh_lJ0, sh_sJ0, y_eo, y_eb, h1]
        rw [if_pos (by rw [y_leI, nI_toInt (by omega)]; omega)]
    refine b_Me_taker _ _ _ _ _ _ _ _ ?_
    simp (maxSteps := 1000000) (disch := omega) only [sh_is0, sh_gI0, sh_wI0, sh_wZ0, sh_gR0, sh_gR1, sh_gR2, sh_lI0, sh_lI1, sh_lI2, sh_sI0, sh_sI1, sh_sI2, sh_len0, sh_len1, sh_len2, sh_lZ0, sh_sZ0, sh_gJ0, sh_wJ0, sh_lR0, sh_lJ0, sh_sJ0, y_eo, y_eb, hT, y_eI]
    rw [if_pos trivial]
    rfl
/-- judged: from place k on, j places -/
def y_jd (S : y_S) (R : Nat → Int64) : Nat → Nat → Nat → Nat → Nat → Nat → Int32
  | 0, _, _, _, _, c => nI (100 + c)
  | j + 1, k, h, r, v, c => match y_tk32 S (R k) h r v with
    | none => nI c
    | some x => if x = S 0 3 then -5 else y_jd S R j (k + 1) x (S 2 (R k).toInt.toNat + S 0 1) (v ||| 1 <<< x) (c + 1)
theorem y_tk32_i {S : y_S} {w : Int64} {h r v x : Nat} (e : y_tk32 S w h r v = some x) : (0 ≤ w.toInt ∧ w.toInt < S 1 0) ∧ y_tk S 0 w.toInt.toNat h r v = some x := by
  unfold y_tk32 at e
  by_cases hc : 0 ≤ w.toInt ∧ w.toInt < S 1 0
  · rw [if_pos hc] at e
    exact ⟨hc, e⟩
  · rw [if_neg hc] at e
    cases e
theorem y_HR_jd_l (d : Nat) {S : y_S} (hok : y_okM S) {t n : Nat} (ht : t < 6) (hn : n ≤ 60) {I : Nat → Nat → Int32} {J : Nat → Nat → Int64} (hM : y_vM 1 S I) (h84 : I 84 t = nI n) (hw : ∀ k, k < 60 → -128 ≤ (J (86 + t) k).toInt ∧ (J (86 + t) k).toInt ≤ 127) : ∀ (j k h r v c : Nat), (k + j = n ∨ (j = 0 ∧ n ≤ k)) → k < 2 ^ 31 → h < 6 → r < 1000 → v < 64 → zL (d + 2) q_HR_judgeFrom 17 [(0, .ref 0), (1, .int (nI t)), (3, .int (nI h)), (4, .int (nI r)), (5, .int (nI v)), (6, .int (nI c)), (7, .int (nI k))] (xz_SH, I, J) = some (some (.int (y_jd S (J (86 + t)) j k h r v c)), (xz_SH, I, J))
  | 0, k, h, r, v, c, hk, hk31, hh, hr, hv => by
    refine b_HR_judgeFrom_l17 _ _ _ _ _ _ _ _ _ _ ?_
    simp (maxSteps := 1000000) (disch := omega) only [sh_is0, sh_gI0, sh_wI0, sh_wZ0, sh_gR0, sh_gR1, sh_gR2, sh_lI0, sh_lI1, sh_lI2, sh_sI0, sh_sI1, sh_sI2, sh_len0, sh_len1, sh_len2, sh_lZ0, sh_sZ0, sh_gJ0, sh_wJ0, sh_lR0, sh_lJ0, sh_sJ0, y_eo, y_eb, y_in ht (by decide), nI_clamp (show t < 2 ^ 31 by omega), cond_true, h84]
    rw [if_pos (by rw [y_leI, nI_toInt (by omega), nI_toInt (by omega)]; omega)]
    show some (some (Value.int (nI 100 + nI c)), _) = _
    rw [nI_add]
    rfl
  | j + 1, k, h, r, v, c, hk, hk31, hh, hr, hv => by
    obtain ⟨k1, k2, k3, k4, k5, k6, k7, k8⟩ := id hok
    have hk60 : k < 60 := by omega
    have hT := y_Me_taker32 d J hM hok (hw k hk60) hh hr hv
    refine b_HR_judgeFrom_l17 _ _ _ _ _ _ _ _ _ _ ?_
    simp (maxSteps := 1000000) (disch := omega) only [sh_is0, sh_gI0, sh_wI0, sh_wZ0, sh_gR0, sh_gR1, sh_gR2, sh_lI0, sh_lI1, sh_lI2, sh_sI0, sh_sI1, sh_sI2, sh_len0, sh_len1, sh_len2, sh_lZ0, sh_sZ0, sh_gJ0, sh_wJ0, sh_lR0, sh_lJ0, sh_sJ0, y_eo, y_eb, y_in ht (by decide), nI_clamp (show t < 2 ^ 31 by omega), cond_true, h84, y_gd ht, y_shT ht, y_in hk60 (by decide), nI_clamp (show k < 2 ^ 31 by omega)]
    rw [if_neg (by rw [y_leI, nI_toInt (by omega), nI_toInt (by omega)]; omega), hT, y_eI]
    show _ = some (some (Value.int (match y_tk32 S (J (86 + t) k) h r v with
      | none => nI c
      | some x => if x = S 0 3 then -5 else y_jd S (J (86 + t)) j (k + 1) x (S 2 (J (86 + t) k).toInt.toNat + S 0 1) (v ||| 1 <<< x) (c + 1))), ((xz_SH, I, J) : xz_M))
    cases e : y_tk32 S (J (86 + t) k) h r v with
    | none =>
      rw [if_pos (by decide)]
    | some x =>
      obtain ⟨hc, e2⟩ := y_tk32_i e
      obtain ⟨t1, t2, t3, t4, t5⟩ := y_tk_i e2
      obtain ⟨m, hm, hmw⟩ : ∃ m : Nat, m < S 1 0 ∧ (J (86 + t) k).toInt = m := ⟨(J (86 + t) k).toInt.toNat, by omega, by omega⟩
      rw [hmw, Int.toNat_natCast] at t1 t2 t3
      have hx := y_ot_lt hok hm t3
      have h32 : Int64.toInt32 (J (86 + t) k) = nI m := Int32.toInt_inj.mp (by rw [y_w32 (hw k hk60), hmw, nI_toInt (by omega)])
      rw [y_o1s, if_neg (by rw [y_eqI, nI_toInt (by omega)]; simp only [y_lit]; omega)]
      have e3 : I 1 3 = nI (S 0 3) := hM.1.2.2.2.1
      have e4 : I 1 1 = nI (S 0 1) := hM.1.2.1
      have e5 : I 3 m = nI (S 2 m) := (hM.2.2 m hm).1
      have g2 := (k8 m hm).1
      simp (maxSteps := 1000000) (disch := omega) only [sh_is0, sh_gI0, sh_wI0, sh_wZ0, sh_gR0, sh_gR1, sh_gR2, sh_lI0, sh_lI1, sh_lI2, sh_sI0, sh_sI1, sh_sI2, sh_len0, sh_len1, sh_len2, sh_lZ0, sh_sZ0, sh_gJ0, sh_wJ0, sh_lR0, sh_lJ0, sh_sJ0, y_eo, y_eb, e3]
      by_cases ex : x = S 0 3
      · rw [if_pos ex, if_pos (by rw [ex])]
      · rw [if_neg ex, if_neg (by rw [y_eqI, nI_toInt (by omega), nI_toInt (by omega)]; omega)]
        simp (maxSteps := 1000000) (disch := omega) only [sh_is0, sh_gI0, sh_wI0, sh_wZ0, sh_gR0, sh_gR1, sh_gR2, sh_lI0, sh_lI1, sh_lI2, sh_sI0, sh_sI1, sh_sI2, sh_len0, sh_len1, sh_len2, sh_lZ0, sh_sZ0, sh_gJ0, sh_wJ0, sh_lR0, sh_lJ0, sh_sJ0, y_eo, y_eb, h32, y_in (show m < 14 by omega) (by decide), nI_clamp (show m < 2 ^ 31 by omega), cond_true, e5, e4, nI_add, y_bit1 x (by omega), y_bit2 v hv x hx.2, y_1]
        rw [hmw, Int.toNat_natCast]
        exact y_HR_jd_l d hok ht hn hM h84 hw j (k + 1) x _ _ (c + 1) (by omega) (by omega) hx.2 (by omega) (y_pc_or v hv x hx.2 t4).1
theorem y_Mo_jd_l (d : Nat) {S : y_S} (hok : y_okM S) {t n : Nat} (ht : t < 6) (hn : n ≤ 60) {I : Nat → Nat → Int32} {J : Nat → Nat → Int64} (hR : y_vR S I) (h84 : I 127 t = nI n) (hw : ∀ k, k < 60 → -128 ≤ (J (129 + t) k).toInt ∧ (J (129 + t) k).toInt ≤ 127) : ∀ (j k h r v c : Nat), (k + j = n ∨ (j = 0 ∧ n ≤ k)) → k < 2 ^ 31 → h < 6 → r < 1000 → v < 64 → zL (d + 2) q_Mo_judge 44 [(0, .ref 92), (1, .int (nI t)), (3, .int (nI h)), (4, .int (nI v)), (5, .int (nI r)), (6, .int (nI c)), (7, .int (nI k))] (xz_SH, I, J) = some (some (.int (y_jd S (J (129 + t)) j k h r v c)), (xz_SH, I, J))
  | 0, k, h, r, v, c, hk, hk31, hh, hr, hv => by
    refine b_Mo_judge_l44 _ _ _ _ _ _ _ _ _ _ ?_
    simp (maxSteps := 1000000) (disch := omega) only [sh_is0, sh_gI0, sh_wI0, sh_wZ0, sh_gR0, sh_gR1, sh_gR2, sh_lI0, sh_lI1, sh_lI2, sh_sI0, sh_sI1, sh_sI2, sh_len0, sh_len1, sh_len2, sh_lZ0, sh_sZ0, sh_gJ0, sh_wJ0, sh_lR0, sh_lJ0, sh_sJ0, y_eo, y_eb, y_in ht (by decide), nI_clamp (show t < 2 ^ 31 by omega), cond_true, h84]
    rw [if_pos (by rw [y_leI, nI_toInt (by omega), nI_toInt (by omega)]; omega)]
    show some (some (Value.int (nI 100 + nI c)), _) = _
    rw [nI_add]
    rfl
  | j + 1, k, h, r, v, c, hk, hk31, hh, hr, hv => by
    obtain ⟨k1, k2, k3, k4, k5, k6, k7, k8⟩ := id hok
    have hk60 : k < 60 := by omega
    have hwk := hw k hk60
    have hin : ∀ M, zC (d + 2) q_Mo_in [.long (J (129 + t) k), .long (0 : Int64), .long (Int32.toInt64 (nI (S 1 0) - (1 : Int32)))] M = some (some (.int (y_bI (decide (0 ≤ (J (129 + t) k).toInt ∧ (J (129 + t) k).toInt < S 1 0)))), M) := by
      intro M
      have e0 : (Int32.toInt64 (nI (S 1 0) - (1 : Int32))).toInt = (S 1 0 : Int) - 1 := by
        rw [Int32.toInt_toInt64]
        rcases Nat.eq_zero_or_pos (S 1 0) with z | z
        · rw [z]; decide
        · rw [y_m1 (by omega), nI_toInt (by omega)]; omega
      rw [y_Mo_in, e0, show ((0 : Int64).toInt) = 0 by decide]
      have e1 : decide ((0 : Int) ≤ (J (129 + t) k).toInt ∧ (J (129 + t) k).toInt ≤ (S 1 0 : Int) - 1) = decide (0 ≤ (J (129 + t) k).toInt ∧ (J (129 + t) k).toInt < S 1 0) := decide_eq_decide.mpr (by omega)
      rw [e1]
    refine b_Mo_judge_l44 _ _ _ _ _ _ _ _ _ _ ?_
    simp (maxSteps := 1000000) (disch := omega) only [sh_is0, sh_gI0, sh_wI0, sh_wZ0, sh_gR0, sh_gR1, sh_gR2, sh_lI0, sh_lI1, sh_lI2, sh_sI0, sh_sI1, sh_sI2, sh_len0, sh_len1, sh_len2, sh_lZ0, sh_sZ0, sh_gJ0, sh_wJ0, sh_lR0, sh_lJ0, sh_sJ0, y_eo, y_eb, y_in ht (by decide), nI_clamp (show t < 2 ^ 31 by omega), cond_true, h84, y_gd ht, y_shT ht, y_in hk60 (by decide), nI_clamp (show k < 2 ^ 31 by omega), hR.2.1]
    rw [if_neg (by rw [y_leI, nI_toInt (by omega), nI_toInt (by omega)]; omega), hin, y_eI]
    show _ = some (some (Value.int (match y_tk32 S (J (129 + t) k) h r v with
      | none => nI c
      | some x => if x = S 0 3 then -5 else y_jd S (J (129 + t)) j (k + 1) x (S 2 (J (129 + t) k).toInt.toNat + S 0 1) (v ||| 1 <<< x) (c + 1))), ((xz_SH, I, J) : xz_M))
    by_cases hc : 0 ≤ (J (129 + t) k).toInt ∧ (J (129 + t) k).toInt < S 1 0
    · rw [decide_eq_true hc, if_neg (by decide)]
      obtain ⟨m, hm, hmw⟩ : ∃ m : Nat, m < S 1 0 ∧ (J (129 + t) k).toInt = m := ⟨(J (129 + t) k).toInt.toNat, by omega, by omega⟩
      have h32 : Int64.toInt32 (J (129 + t) k) = nI m := Int32.toInt_inj.mp (by rw [y_w32 hwk, hmw, nI_toInt (by omega)])
      have ek : y_tk32 S (J (129 + t) k) h r v = y_tk S 0 m h r v := by
        unfold y_tk32
        rw [if_pos hc, hmw, Int.toNat_natCast]
      rw [ek]
      obtain ⟨m1, m2, m3, m4, m5⟩ := hR.2.2 m hm
      obtain ⟨g2, g3, g4, g5, g6, g7, g8⟩ := k8 m hm
      have e3 : I 92 9 = nI (S 0 3) := hR.1.2.2.2.1
      have e4 : I 92 7 = nI (S 0 1) := hR.1.2.1
      have hO := y_Mo_otherBy (d + 1) J hR hok hm (h := h) (by omega)
      simp (maxSteps := 1000000) (disch := omega) only [sh_is0, sh_gI0, sh_wI0, sh_wZ0, sh_gR0, sh_gR1, sh_gR2, sh_lI0, sh_lI1, sh_lI2, sh_sI0, sh_sI1, sh_sI2, sh_len0, sh_len1, sh_len2, sh_lZ0, sh_sZ0, sh_gJ0, sh_wJ0, sh_lR0, sh_lJ0, sh_sJ0, y_eo, y_eb, h32, y_in (show m < 14 by omega) (by decide), nI_clamp (show m < 2 ^ 31 by omega), cond_true, m5]
      unfold y_tk
      by_cases a0 : S 6 m = 0
      · rw [a0, if_neg (by decide), hO, y_eI]
        cases a1 : y_ot S m h with
        | none =>
          rw [if_pos (by decide)]
          by_cases z : 0 = 0 ∧ r ≤ S 2 m
          · rw [if_pos z]
          · rw [if_neg z]
        | some x =>
          have hx := y_ot_lt hok hm a1
          rw [y_o1s, if_neg (by rw [y_eqI, nI_toInt (by omega)]; simp only [y_lit]; omega)]
          simp (maxSteps := 1000000) (disch := omega) only [sh_is0, sh_gI0, sh_wI0, sh_wZ0, sh_gR0, sh_gR1, sh_gR2, sh_lI0, sh_lI1, sh_lI2, sh_sI0, sh_sI1, sh_sI2, sh_len0, sh_len1, sh_len2, sh_lZ0, sh_sZ0, sh_gJ0, sh_wJ0, sh_lR0, sh_lJ0, sh_sJ0, y_eo, y_eb, y_in (show m < 14 by omega) (by decide), nI_clamp (show m < 2 ^ 31 by omega), cond_true, m1]
          by_cases a2 : r ≤ S 2 m
          · rw [if_neg (by rw [y_ltI, nI_toInt (by omega), nI_toInt (by omega)]; omega), if_pos ⟨trivial, a2⟩]
            rw [y_Mo_has _ hv hx.2, y_eI]
            cases a3 : v.testBit x with
            | true =>
              rw [if_neg (by decide), if_pos (Or.inl rfl)]
            | false =>
              rw [if_pos (by decide), if_neg (by simp)]
              simp (maxSteps := 1000000) (disch := omega) only [sh_is0, sh_gI0, sh_wI0, sh_wZ0, sh_gR0, sh_gR1, sh_gR2, sh_lI0, sh_lI1, sh_lI2, sh_sI0, sh_sI1, sh_sI2, sh_len0, sh_len1, sh_len2, sh_lZ0, sh_sZ0, sh_gJ0, sh_wJ0, sh_lR0, sh_lJ0, sh_sJ0, y_eo, y_eb, e3]
              by_cases ex : x = S 0 3
              · rw [if_pos ex, if_pos (by rw [ex])]
              · rw [if_neg ex, if_neg (by rw [y_eqI, nI_toInt (by omega), nI_toInt (by omega)]; omega)]
                simp (maxSteps := 1000000) (disch := omega) only [sh_is0, sh_gI0, sh_wI0, sh_wZ0, sh_gR0, sh_gR1, sh_gR2, sh_lI0, sh_lI1, sh_lI2, sh_sI0, sh_sI1, sh_sI2, sh_len0, sh_len1, sh_len2, sh_lZ0, sh_sZ0, sh_gJ0, sh_wJ0, sh_lR0, sh_lJ0, sh_sJ0, y_eo, y_eb, y_in (show m < 14 by omega) (by decide), nI_clamp (show m < 2 ^ 31 by omega), cond_true, m1, e4, nI_add, y_bit1 x (by omega), y_bit2 v hv x hx.2, y_1]
                rw [hmw, Int.toNat_natCast]
                exact y_Mo_jd_l d hok ht hn hR h84 hw j (k + 1) x _ _ (c + 1) (by omega) (by omega) hx.2 (by omega) (y_pc_or v hv x hx.2 a3).1
          · rw [if_pos (by rw [y_ltI, nI_toInt (by omega), nI_toInt (by omega)]; omega), if_neg (fun z => a2 z.2)]
      · have a0' : S 6 m = 1 := by omega
        rw [a0', if_pos (by decide), if_pos trivial, if_neg (by omega)]
    · rw [decide_eq_false hc, if_pos (by decide)]
      unfold y_tk32
      rw [if_neg hc]
theorem y_jd_congr {S : y_S} {R R' : Nat → Int64} : ∀ (j k h r v c : Nat), (∀ i, k ≤ i → i < k + j → R i = R' i) → y_jd S R j k h r v c = y_jd S R' j k h r v c
  | 0, _, _, _, _, _, _ => rfl
  | j + 1, k, h, r, v, c, hR => by
    unfold y_jd
    rw [hR k (by omega) (by omega)]
    cases y_tk32 S (R' k) h r v with
    | none => rfl
    | some x =>
      dsimp only
      rw [y_jd_congr j (k + 1) x _ _ (c + 1) fun i h1 h2 => hR i (by omega) (by omega)]
theorem y_s_judge (x i : Int32) : zSI zR q_HR_judge q_Mo_judge [.int x, .int i] := by
  rintro M ⟨S, I, J, rfl, hZ⟩
  have hZ' := hZ
  obtain ⟨z1, z2, z4, z6, z7, z8, z9⟩ := hZ
  have hok := z1.1
  obtain ⟨k1, k2, k3, k4, k5, k6, k7, k8⟩ := id hok
  have no : ∀ w : Int32, zC 60 q_HR_judge [.ref 0, .int x, .int i] (xz_SH, I, J) = some (some (.int w), (xz_SH, I, J)) → zC 60 q_Mo_judge [.ref 92, .int x, .int i] (xz_SH, I, J) = some (some (.int w), (xz_SH, I, J)) → ∃ (w : Int32) (M1 M2 : xz_M), zC 60 q_HR_judge (.ref 0 :: [.int x, .int i]) (xz_SH, I, J) = some (some (.int w), M1) ∧ xz_is M1 92 8 = true ∧ zC 60 q_Mo_judge (.ref 92 :: [.int x, .int i]) M1 = some (some (.int w), M2) ∧ zR M2 := fun w a b => ⟨w, _, _, a, rfl, b, S, I, J, rfl, hZ'⟩
  cases h : y_rg x 0 5 with
  | false =>
    refine no (-1) (b_HR_judge _ _ _ _ _ _ ?_) (b_Mo_judge _ _ _ _ _ _ ?_)
    · simp (maxSteps := 1000000) (disch := omega) only [sh_is0, sh_gI0, sh_wI0, sh_wZ0, sh_gR0, sh_gR1, sh_gR2, sh_lI0, sh_lI1, sh_lI2, sh_sI0, sh_sI1, sh_sI2, sh_len0, sh_len1, sh_len2, sh_lZ0, sh_sZ0, sh_gJ0, sh_wJ0, sh_lR0, sh_lJ0, sh_sJ0, y_eo, y_eb, y_Ta_isTape, h, y_eI]
      rw [if_pos (by decide)]
    · rw [y_Mo_isTape, h, y_eI, if_pos (by decide)]
  | true =>
    have h' := y_rgt.mp h
    obtain ⟨t, _, rfl, hx⟩ := y_of x h'.1
    have ht : t < 6 := by omega
    obtain ⟨p1, p2, ⟨n, p3, p4, p5, p6⟩, p7, p8⟩ := z8 t ht
    have hH := y_Ta_holds 57 ht I J
    obtain ⟨c0, c1, c2, c3, c4⟩ := z2.1.1
    obtain ⟨d0, d1, d2, d3, d4⟩ := z4.1.1
    -- both, as far as the sort
    have hcl : ∀ r, (if 0 < (I 83 t).toInt then some (some (Value.int (-12)), ((xz_SH, I, J) : xz_M)) else if nI (S 0 2) = nI (S 0 3) then some (some (Value.int (-5)), ((xz_SH, I, J) : xz_M)) else if 0 ≤ i then (xz_bI (zC 59 q_HR_judgeFrom [.ref 0, .int (nI t), .int i] (xz_SH, I, J)) fun x9 M3 => some (some (.int x9), M3)) else some (some (Value.int 100), ((xz_SH, I, J) : xz_M))) = some r → zC 60 q_HR_judge [.ref 0, .int (nI t), .int i] (xz_SH, I, J) = some r := by
      intro r hr
      refine b_HR_judge _ _ _ _ _ _ ?_
      simp (maxSteps := 1000000) (disch := omega) only [sh_is0, sh_gI0, sh_wI0, sh_wZ0, sh_gR0, sh_gR1, sh_gR2, sh_lI0, sh_lI1, sh_lI2, sh_sI0, sh_sI1, sh_sI2, sh_len0, sh_len1, sh_len2, sh_lZ0, sh_sZ0, sh_gJ0, sh_wJ0, sh_lR0, sh_lJ0, sh_sJ0, y_eo, y_eb, y_Ta_isTape, h, y_eI]
      rw [if_neg (by decide), hH, y_eI]
      simp (maxSteps := 1000000) (disch := omega) only [sh_is0, sh_gI0, sh_wI0, sh_wZ0, sh_gR0, sh_gR1, sh_gR2, sh_lI0, sh_lI1, sh_lI2, sh_sI0, sh_sI1, sh_sI2, sh_len0, sh_len1, sh_len2, sh_lZ0, sh_sZ0, sh_gJ0, sh_wJ0, sh_lR0, sh_lJ0, sh_sJ0, y_eo, y_eb, y_in ht (by decide), nI_clamp (show t < 2 ^ 31 by omega), cond_true, c2, c3]
      by_cases a1 : (I 83 t).toInt = -1
      · rw [decide_eq_false (not_not_intro a1), if_pos (by decide)]
        rw [if_neg (by omega)] at hr
        exact hr
      · rw [decide_eq_true a1, if_neg (by decide)]
        by_cases a2 : I 83 t = 0
        · rw [if_pos a2]
          rw [if_neg (by rw [a2]; decide)] at hr
          exact hr
        · rw [if_neg a2]
          rw [if_pos (by simp only [y_eqI, y_lit] at a2; omega)] at hr
          exact hr
    have hrf : ∀ r, (if 0 < (I 83 t).toInt then some (some (Value.int (-12)), ((xz_SH, I, J) : xz_M)) else if nI (S 0 2) = nI (S 0 3) then some (some (Value.int (-5)), ((xz_SH, I, J) : xz_M)) else if (I 83 t) < 0 then some (some (Value.int 100), ((xz_SH, I, J) : xz_M)) else if 0 ≤ i then zL 59 q_Mo_judge 44 [(0, .ref 92), (1, .int (nI t)), (3, .int (nI (S 0 2))), (4, .int ((1 : Int32) <<< (nI (S 0 2) &&& 31))), (5, .int (nI (S 0 4))), (6, .int (0 : Int32)), (7, .int i)] (xz_SH, I, J) else some (some (Value.int 100), ((xz_SH, I, J) : xz_M))) = some r → zC 60 q_Mo_judge [.ref 92, .int (nI t), .int i] (xz_SH, I, J) = some r := by
      intro r hr
      refine b_Mo_judge _ _ _ _ _ _ ?_
      rw [y_Mo_isTape, h, y_eI, if_neg (by decide)]
      simp (maxSteps := 1000000) (disch := omega) only [sh_is0, sh_gI0, sh_wI0, sh_wZ0, sh_gR0, sh_gR1, sh_gR2, sh_lI0, sh_lI1, sh_lI2, sh_sI0, sh_sI1, sh_sI2, sh_len0, sh_len1, sh_len2, sh_lZ0, sh_sZ0, sh_gJ0, sh_wJ0, sh_lR0, sh_lJ0, sh_sJ0, y_eo, y_eb, y_in ht (by decide), nI_clamp (show t < 2 ^ 31 by omega), cond_true, p1, d2, d3, d4]
      by_cases a1 : 0 < (I 83 t).toInt
      · rw [if_pos a1] at hr
        rw [if_neg (by rw [y_leI, y_lit.1]; omega)]
        exact hr
      · rw [if_neg a1] at hr
        rw [if_pos (by rw [y_leI, y_lit.1]; omega)]
        exact hr
    by_cases a1 : 0 < (I 83 t).toInt
    · exact no (-12) (hcl _ (by rw [if_pos a1])) (hrf _ (by rw [if_pos a1]))
    · by_cases a2 : nI (S 0 2) = nI (S 0 3)
      · exact no (-5) (hcl _ (by rw [if_neg a1, if_pos a2])) (hrf _ (by rw [if_neg a1, if_pos a2]))
      · by_cases a3 : 0 ≤ i
        · have a3' : 0 ≤ i.toInt := by rw [y_leI, y_lit.1] at a3; exact a3
          obtain ⟨k, hk31, rfl, hk⟩ := y_of i a3'
          have h64 := (y_pc_1 (S 0 2) (by omega)).1
          by_cases a4 : (I 83 t) < 0
          · have hs : I 83 t = -1 := by
              rw [y_ltI, y_lit.1] at a4
              rw [y_m1I]
              omega
            have hn0 := p6 hs
            refine no 100 (hcl _ ?_) (hrf _ ?_)
            · rw [if_neg a1, if_neg a2, if_pos a3]
              have hj : zC 59 q_HR_judgeFrom [.ref 0, .int (nI t), .int (nI k)] (xz_SH, I, J) = some (some (.int 100), (xz_SH, I, J)) := by
                refine b_HR_judgeFrom _ _ _ _ _ _ ?_
                simp (maxSteps := 1000000) (disch := omega) only [sh_is0, sh_gI0, sh_wI0, sh_wZ0, sh_gR0, sh_gR1, sh_gR2, sh_lI0, sh_lI1, sh_lI2, sh_sI0, sh_sI1, sh_sI2, sh_len0, sh_len1, sh_len2, sh_lZ0, sh_sZ0, sh_gJ0, sh_wJ0, sh_lR0, sh_lJ0, sh_sJ0, y_eo, y_eb, c2, c4]
                refine b_HR_judgeFrom_l17 _ _ _ _ _ _ _ _ _ _ ?_
                simp (maxSteps := 1000000) (disch := omega) only [sh_is0, sh_gI0, sh_wI0, sh_wZ0, sh_gR0, sh_gR1, sh_gR2, sh_lI0, sh_lI1, sh_lI2, sh_sI0, sh_sI1, sh_sI2, sh_len0, sh_len1, sh_len2, sh_lZ0, sh_sZ0, sh_gJ0, sh_wJ0, sh_lR0, sh_lJ0, sh_sJ0, y_eo, y_eb, y_in ht (by decide), nI_clamp (show t < 2 ^ 31 by omega), cond_true, p4]
                rw [if_pos (by rw [y_leI, nI_toInt (by omega), nI_toInt (by omega)]; omega)]
                rfl
              rw [hj, y_eI]
            · rw [if_neg a1, if_neg a2, if_pos a4]
          · have hs : I 83 t = 0 := by
              rw [y_ltI, y_lit.1] at a4
              rw [y_eqI, y_lit.1]
              omega
            have hw := p8 hs
            have hw' : ∀ k, k < 60 → -128 ≤ (J (129 + t) k).toInt ∧ (J (129 + t) k).toInt ≤ 127 := fun k hk => by rw [p7 k hk]; exact hw k hk
            have hj1 := y_HR_jd_l 56 hok ht p3 z2.1 p4 hw (n - k) k (S 0 2) (S 0 4) (1 <<< S 0 2) 0 (by omega) hk31 (by omega) (by omega) h64
            have hj2 := y_Mo_jd_l 57 hok ht p3 z4.1 p5 hw' (n - k) k (S 0 2) (S 0 4) (1 <<< S 0 2) 0 (by omega) hk31 (by omega) (by omega) h64
            rw [y_jd_congr (R' := J (86 + t)) _ _ _ _ _ _ (fun i' h1 h2 => p7 i' (by omega))] at hj2
            refine no (y_jd S (J (86 + t)) (n - k) k (S 0 2) (S 0 4) (1 <<< S 0 2) 0) (hcl _ ?_) (hrf _ ?_)
            · rw [if_neg a1, if_neg a2, if_pos a3]
              have hj : zC 59 q_HR_judgeFrom [.ref 0, .int (nI t), .int (nI k)] (xz_SH, I, J) = some (some (.int (y_jd S (J (86 + t)) (n - k) k (S 0 2) (S 0 4) (1 <<< S 0 2) 0)), (xz_SH, I, J)) := by
                refine b_HR_judgeFrom _ _ _ _ _ _ ?_
                simp (maxSteps := 1000000) (disch := omega) only [sh_is0, sh_gI0, sh_wI0, sh_wZ0, sh_gR0, sh_gR1, sh_gR2, sh_lI0, sh_lI1, sh_lI2, sh_sI0, sh_sI1, sh_sI2, sh_len0, sh_len1, sh_len2, sh_lZ0, sh_sZ0, sh_gJ0, sh_wJ0, sh_lR0, sh_lJ0, sh_sJ0, y_eo, y_eb, c2, c4, y_bit1 (S 0 2) (by omega)]
                exact hj1
              rw [hj, y_eI]
            · rw [if_neg a1, if_neg a2, if_neg a4, if_pos a3, y_bit1 (S 0 2) (by omega)]
              exact hj2
        · refine no 100 (hcl _ ?_) (hrf _ ?_)
          · rw [if_neg a1, if_neg a2, if_neg a3]
          · rw [if_neg a1, if_neg a2]
            by_cases a4 : (I 83 t) < 0
            · rw [if_pos a4]
            · rw [if_neg a4, if_neg a3]
