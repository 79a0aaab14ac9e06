/-! read: the parse, both -/
theorem y_svn {n : Nat} {g : Nat → Nat} {p : Nat} (h : p < n) : y_sv n g p = nI (g p) := if_pos h
theorem y_parse {n : Nat} {g : Nat → Nat} (hn : n ≤ 100) (hg : ∀ k, k < n → g k ≤ 127) : ∀ j c p, c + j = 12 → 1 ≤ j → p ≤ n → ∃ (o : Bool × Nat) (W : Nat → Nat) (X : Nat → Nat → Nat), (o.1 = false → o.2 ≤ n) ∧ (o.1 = true → c < o.2 ∧ o.2 ≤ 12) ∧ (∀ t, W t < 5) ∧ y_oC n g p c o W X ∧ y_oR n g p c o W X
  | 0, c, p, hc, h1, hp => by omega
  | j + 1, c, p, hc, h1, hp => by
    obtain ⟨i, xs, ⟨b, p'⟩, hi, hF, hC, hR⟩ := y_clause hn hg hp (show c < 12 by omega)
    have hF' : p' ≤ n := hF
    cases b with
    | false =>
      refine ⟨(false, p'), fun _ => i, fun _ => xs, fun _ => hF', fun h => (by cases h), fun _ => hi, fun d I J ht hI => ?_, fun d I J ht hI hf h25 => ?_⟩
      · obtain ⟨I', k1, k2x, k3, k4⟩ := hC d I J ht hI
        have k2 : I' 66 5 = nI p' := k2x
        refine ⟨I', b_Te_parse_l9 _ _ _ _ _ ?_, fun h => (by cases h), fun q t e1 e2 e3 => k4 q t (by omega) (by omega) (by omega)⟩
        rw [if_neg (by rw [y_leI, nI_toInt (by omega)]; simp only [y_lit]; omega), show xz_is (xz_SH, I, J) 66 5 = true from rfl, y_eb, k1, y_eI, if_pos (by show y_bI false = 0; decide), show xz_gI (xz_SH, I', J) 66 5 5 = some (I' 66 5) from rfl, k2, y_eo]
        rfl
      · obtain ⟨I1, k1, k2, k3, k4⟩ := hR d I J ht hI hf h25
        refine ⟨I1, xz_up I1 92 22 0, k1, fun _ => y_l12F (by omega) (k2.2 rfl) _ J, fun h => (by cases h), y_up_e ⟨rfl, rfl⟩, fun h => (by cases h), fun q t e1 e2 e3 => ?_⟩
        rw [y_up_n (by omega), k4 q t (by omega) (by omega) (by omega)]
    | true =>
      by_cases hpn : p' < n
      · have hgp := hg p' hpn
        by_cases hg9 : g p' = 59 ∧ c < 11
        · obtain ⟨hg9, hc11⟩ := hg9
          obtain ⟨o, W, X, o1, o2, o3, oC, oR⟩ := y_parse hn hg j (c + 1) (p' + 1) (by omega) (by omega) (by omega)
          refine ⟨o, fun t => if t = c then i else W t, fun t => if t = c then xs else X t, o1, fun h => ⟨by have := o2 h; omega, (o2 h).2⟩, fun t => ?_, fun d I J ht hI => ?_, fun d I J ht hI hf h25 => ?_⟩
          · dsimp only
            split
            · exact hi
            · exact o3 t
          · obtain ⟨I', k1, k2x, k3, k4⟩ := hC d I J ht hI
            have k2 : I' 66 5 = nI p' := k2x
            have ht' : y_tc n g I' := y_tc_w (k4 _ _ (by omega) (by omega) (by omega)) (fun k => k4 _ _ (by omega) (by omega) (by omega)) ht
            obtain ⟨I2, l1, l2, l3⟩ := oC d (xz_up I' 66 5 (nI (p' + 1))) J (y_tc_w (y_up_n (by omega)) (fun k => y_up_n (by omega)) ht') (y_up_e ⟨rfl, rfl⟩)
            refine ⟨I2, b_Te_parse_l9 _ _ _ _ _ ?_, fun h => ⟨(l2 h).1, fun t t1 t2 => ?_⟩, fun q t e1 e2 e3 => ?_⟩
            · rw [if_neg (by rw [y_leI, nI_toInt (by omega)]; simp only [y_lit]; omega), show xz_is (xz_SH, I, J) 66 5 = true from rfl, y_eb, k1, y_eI, if_neg (by show ¬ y_bI true = 0; decide)]
              simp (maxSteps := 1000000) (disch := omega) only [sh_is0, sh_gI0, sh_wI0, sh_wZ0, sh_gR0, sh_gR1, sh_gR2, sh_lI0, sh_lI1, sh_lI2, sh_sI0, sh_sI1, sh_sI2, sh_len0, sh_len1, sh_len2, sh_lZ0, sh_sZ0, sh_gJ0, sh_wJ0, sh_lR0, sh_lJ0, sh_sJ0, y_eo, y_eb, k2, y_Te_sign (d + 6) J ht' (show p' < 1000 by omega), y_eI]
              rw [y_svn hpn, if_neg (by rw [y_eqI, nI_toInt (by omega)]; show ¬ (g p' : Int) = -1; omega), if_neg (by rw [y_eqI, nI_toInt (by omega)]; simp only [y_lit]; omega)]
              simp (maxSteps := 1000000) (disch := omega) only [sh_is0, sh_gI0, sh_wI0, sh_wZ0, sh_gR0, sh_gR1, sh_gR2, sh_lI0, sh_lI1, sh_lI2, sh_sI0, sh_sI1, sh_sI2, sh_len0, sh_len1, sh_len2, sh_lZ0, sh_sZ0, sh_gJ0, sh_wJ0, sh_lR0, sh_lJ0, sh_sJ0, y_eo, y_eb, if_true, y_1]
              rw [if_pos (by rw [hg9]; rfl)]
              exact l1
            · by_cases e : t = c
              · subst e
                simp only [if_true]
                obtain ⟨m1, m2⟩ := k3 rfl
                refine ⟨?_, fun k hk => ?_⟩
                · rw [l3 _ _ (by omega) (by omega) (by omega), y_up_n (by omega), m1]
                · rw [l3 _ _ (by omega) (by omega) (by omega), y_up_n (by omega), m2 k hk]
              · simp only [if_neg e]
                exact (l2 h).2 t (by omega) t2
            · rw [l3 q t e1 (by omega) (by omega), y_up_n (by omega), k4 q t (by omega) (by omega) (by omega)]
          · obtain ⟨I1, k1, k2, k3, k4⟩ := hR d I J ht hI hf h25
            obtain ⟨q1, q2⟩ := k2.1 rfl
            have q1' : I1 92 23 = nI p' := q1
            obtain ⟨q3, q4, q5⟩ := k3 rfl
            have ht' : y_tr n g I1 := y_tr_w (k4 _ _ (by omega) (by omega) (by omega)) (fun k => k4 _ _ (by omega) (by omega) (by omega)) ht
            obtain ⟨I2, I3, l1, l2, l3, l4, l5, l6⟩ := oR d (xz_up I1 92 23 (nI (p' + 1))) J (y_tr_w (y_up_n (by omega)) (fun k => y_up_n (by omega)) ht') (y_up_e ⟨rfl, rfl⟩) (by rw [y_up_n (by omega), q2]) (by rw [y_up_n (by omega), q3])
            have go : ∀ r, zL (d + 7) q_Mo_read 12 [(0, .ref 92)] (xz_SH, I2, J) = some r → zL (d + 7) q_Mo_read 12 [(0, .ref 92)] (xz_SH, I1, J) = some r := by
              intro r hr
              have hq := ht'.2.2 p' hpn
              refine b_Mo_read_l12 _ _ _ _ ?_
              rw [show xz_gI (xz_SH, I1, J) 92 8 24 = some (I1 92 24) from rfl, q2, y_eo, if_neg (by decide), show xz_gI (xz_SH, I1, J) 92 8 23 = some (I1 92 23) from rfl, q1', y_eo, show xz_gI (xz_SH, I1, J) 92 8 22 = some (I1 92 22) from rfl, ht'.2.1, y_eo, if_neg (by rw [y_leI, nI_toInt (by omega), nI_toInt (by omega)]; omega)]
              simp (maxSteps := 1000000) (disch := omega) only [sh_is0, sh_gI0, sh_wI0, sh_wZ0, sh_gR0, sh_gR1, sh_gR2, sh_lI0, sh_lI1, sh_lI2, sh_sI0, sh_sI1, sh_sI2, sh_len0, sh_len1, sh_len2, sh_lZ0, sh_sZ0, sh_gJ0, sh_wJ0, sh_lR0, sh_lJ0, sh_sJ0, y_eo, y_eb, q1', q3, y_in (show p' < 100 by omega) (by decide), nI_clamp (show p' < 2 ^ 31 by omega), cond_true, hq.2]
              rw [if_pos (by rw [hg9]; rfl), if_neg (by rw [y_eqI, nI_toInt (by omega)]; simp only [y_lit]; omega), y_1, l1, y_eV]
              exact hr
            refine ⟨I1, I3, k1, fun h => go _ (l2 h), fun h r hr => go _ (l3 h r hr), l4, fun h => ⟨(l5 h).1, fun t t1 t2 => ?_⟩, fun q t e1 e2 e3 => ?_⟩
            · by_cases e : t = c
              · subst e
                have kk := y_K4 i
                simp only [if_true]
                refine ⟨?_, fun k hk => ?_⟩
                · rw [l6 _ _ (by omega) (by omega) (by omega), y_up_n (by omega), q4]
                · rw [l6 _ _ (by omega) (by omega) (by omega), y_up_n (by omega), q5 k hk]
              · simp only [if_neg e]
                exact (l5 h).2 t (by omega) t2
            · rw [l6 q t e1 (by omega) (by omega), y_up_n (by omega), k4 q t (by omega) (by omega) (by omega)]
        · refine ⟨(false, p'), fun _ => i, fun _ => xs, fun _ => hF', fun h => (by cases h), fun _ => hi, fun d I J ht hI => ?_, fun d I J ht hI hf h25 => ?_⟩
          · obtain ⟨I', k1, k2x, k3, k4⟩ := hC d I J ht hI
            have k2 : I' 66 5 = nI p' := k2x
            have ht' : y_tc n g I' := y_tc_w (k4 _ _ (by omega) (by omega) (by omega)) (fun k => k4 _ _ (by omega) (by omega) (by omega)) ht
            refine ⟨I', b_Te_parse_l9 _ _ _ _ _ ?_, fun h => (by cases h), fun q t e1 e2 e3 => k4 q t (by omega) (by omega) (by omega)⟩
            rw [if_neg (by rw [y_leI, nI_toInt (by omega)]; simp only [y_lit]; omega), show xz_is (xz_SH, I, J) 66 5 = true from rfl, y_eb, k1, y_eI, if_neg (by show ¬ y_bI true = 0; decide)]
            simp (maxSteps := 1000000) (disch := omega) only [sh_is0, sh_gI0, sh_wI0, sh_wZ0, sh_gR0, sh_gR1, sh_gR2, sh_lI0, sh_lI1, sh_lI2, sh_sI0, sh_sI1, sh_sI2, sh_len0, sh_len1, sh_len2, sh_lZ0, sh_sZ0, sh_gJ0, sh_wJ0, sh_lR0, sh_lJ0, sh_sJ0, y_eo, y_eb, k2, y_Te_sign (d + 6) J ht' (show p' < 1000 by omega), y_eI]
            rw [y_svn hpn, if_neg (by rw [y_eqI, nI_toInt (by omega)]; show ¬ (g p' : Int) = -1; omega)]
            by_cases e : c = 11
            · rw [if_pos (by rw [e]; rfl), if_neg (by decide)]
              rfl
            · rw [if_neg (by rw [y_eqI, nI_toInt (by omega)]; simp only [y_lit]; omega)]
              simp (maxSteps := 1000000) (disch := omega) only [sh_is0, sh_gI0, sh_wI0, sh_wZ0, sh_gR0, sh_gR1, sh_gR2, sh_lI0, sh_lI1, sh_lI2, sh_sI0, sh_sI1, sh_sI2, sh_len0, sh_len1, sh_len2, sh_lZ0, sh_sZ0, sh_gJ0, sh_wJ0, sh_lR0, sh_lJ0, sh_sJ0, y_eo, y_eb, if_true]
              rw [if_neg (by rw [y_eqI, nI_toInt (by omega)]; show ¬ (g p' : Int) = 59; omega)]
              rfl
          · obtain ⟨I1, k1, k2, k3, k4⟩ := hR d I J ht hI hf h25
            obtain ⟨q1, q2⟩ := k2.1 rfl
            obtain ⟨q3, q4, q5⟩ := k3 rfl
            have ht' : y_tr n g I1 := y_tr_w (k4 _ _ (by omega) (by omega) (by omega)) (fun k => k4 _ _ (by omega) (by omega) (by omega)) ht
            refine ⟨I1, xz_up (xz_up I1 92 24 (nI p')) 92 22 0, k1, fun _ => y_l12N hpn ht' q1 q2 q3 (by omega) (by omega) _ J, fun h => (by cases h), y_up_e ⟨rfl, rfl⟩, fun h => (by cases h), fun q t e1 e2 e3 => ?_⟩
            rw [y_up_n (by omega), y_up_n (by omega), k4 q t (by omega) (by omega) (by omega)]
      · refine ⟨(true, c + 1), fun _ => i, fun _ => xs, fun h => (by cases h), fun _ => ⟨Nat.lt_succ_self _, (by show c + 1 ≤ 12; omega)⟩, fun _ => hi, fun d I J ht hI => ?_, fun d I J ht hI hf h25 => ?_⟩
        · obtain ⟨I', k1, k2x, k3, k4⟩ := hC d I J ht hI
          have k2 : I' 66 5 = nI p' := k2x
          have ht' : y_tc n g I' := y_tc_w (k4 _ _ (by omega) (by omega) (by omega)) (fun k => k4 _ _ (by omega) (by omega) (by omega)) ht
          refine ⟨xz_up I' 66 1 (nI (c + 1)), b_Te_parse_l9 _ _ _ _ _ ?_, fun _ => ⟨y_up_e ⟨rfl, rfl⟩, fun t t1 t2 => ?_⟩, fun q t e1 e2 e3 => ?_⟩
          · rw [if_neg (by rw [y_leI, nI_toInt (by omega)]; simp only [y_lit]; omega), show xz_is (xz_SH, I, J) 66 5 = true from rfl, y_eb, k1, y_eI, if_neg (by show ¬ y_bI true = 0; decide)]
            simp (maxSteps := 1000000) (disch := omega) only [sh_is0, sh_gI0, sh_wI0, sh_wZ0, sh_gR0, sh_gR1, sh_gR2, sh_lI0, sh_lI1, sh_lI2, sh_sI0, sh_sI1, sh_sI2, sh_len0, sh_len1, sh_len2, sh_lZ0, sh_sZ0, sh_gJ0, sh_wJ0, sh_lR0, sh_lJ0, sh_sJ0, y_eo, y_eb, k2, y_Te_sign (d + 6) J ht' (show p' < 1000 by omega), y_eI]
            rw [show y_sv n g p' = -1 from if_neg hpn, if_pos rfl, y_1]
            rfl
          · have e : t = c := by have : t < c + 1 := t2; omega
            subst e
            obtain ⟨m1, m2⟩ := k3 rfl
            refine ⟨?_, fun k hk => ?_⟩
            · rw [y_up_n (by omega), m1]
            · rw [y_up_n (by omega), m2 k hk]
          · rw [y_up_n (by omega), k4 q t (by omega) (by omega) (by omega)]
        · obtain ⟨I1, k1, k2, k3, k4⟩ := hR d I J ht hI hf h25
          obtain ⟨q1, q2⟩ := k2.1 rfl
          have q1' : I1 92 23 = nI p' := q1
          obtain ⟨q3, q4, q5⟩ := k3 rfl
          have ht' : y_tr n g I1 := y_tr_w (k4 _ _ (by omega) (by omega) (by omega)) (fun k => k4 _ _ (by omega) (by omega) (by omega)) ht
          refine ⟨I1, xz_up I1 92 22 0, k1, fun h => (by cases h), fun _ r hr => ?_, y_up_e ⟨rfl, rfl⟩, fun _ => ⟨?_, fun t t1 t2 => ?_⟩, fun q t e1 e2 e3 => ?_⟩
          · refine b_Mo_read_l12 _ _ _ _ ?_
            rw [show xz_gI (xz_SH, I1, J) 92 8 24 = some (I1 92 24) from rfl, q2, y_eo, if_neg (by decide), show xz_gI (xz_SH, I1, J) 92 8 23 = some (I1 92 23) from rfl, q1', y_eo, show xz_gI (xz_SH, I1, J) 92 8 22 = some (I1 92 22) from rfl, ht'.2.1, y_eo, if_pos (by rw [y_leI, nI_toInt (by omega), nI_toInt (by omega)]; omega), show xz_wI (xz_SH, I1, J) 92 8 22 0 = some (xz_SH, xz_up I1 92 22 0, J) from rfl, y_eo, show xz_gI (xz_SH, xz_up I1 92 22 0, J) 92 8 24 = some (xz_up I1 92 22 0 92 24) from rfl, y_up_n (by omega), q2, y_eo, if_pos (by decide)]
            exact hr
          · rw [y_up_n (by omega), q3]
          · have e : t = c := by have : t < c + 1 := t2; omega
            subst e
            refine ⟨?_, fun k hk => ?_⟩
            · rw [y_up_n (by omega), q4]
            · rw [y_up_n (by omega), q5 k hk]
          · rw [y_up_n (by omega), k4 q t (by omega) (by omega) (by omega)]
