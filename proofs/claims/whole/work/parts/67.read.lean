/-! READ -/
theorem y_s_read : zSI zR q_HR_read q_Mo_read [] := by
  rintro M ⟨S, I, J, rfl, hZ⟩
  have hZ' := hZ
  obtain ⟨z1, ⟨z2, z3⟩, ⟨z4, z5⟩, z6, ⟨n, g, t1, t2, t3, t4⟩, z8, z9⟩ := hZ
  obtain ⟨⟨b, m⟩, W, X, o1, o2, o3, oC, oR⟩ := y_parse t1 (fun k hk => (t4 k hk).1) 12 0 0 (by omega) (by omega) (by omega)
  obtain ⟨Ib, k1, k2, k3⟩ := oC 51 (xz_up (xz_up I 66 5 0) 66 1 0) J ⟨t1, by rw [y_up_n (by omega), y_up_n (by omega), t2], fun k hk => ⟨(t4 k hk).1, by rw [y_up_n (by omega), y_up_n (by omega), (t4 k hk).2.1]⟩⟩ (by rw [y_up_n (by omega), y_up_e ⟨rfl, rfl⟩]; rfl)
  have hp : zC 59 q_Te_parse [.ref 66] (xz_SH, I, J) = some (some (.int (if b = true then -1 else nI m)), (xz_SH, Ib, J)) := by
    refine b_Te_parse _ _ _ _ ?_
    rw [show xz_wI (xz_SH, I, J) 66 5 5 0 = some (xz_SH, xz_up I 66 5 0, J) from rfl, y_eo, show xz_wI (xz_SH, xz_up I 66 5 0, J) 66 5 1 0 = some (xz_SH, xz_up (xz_up I 66 5 0) 66 1 0, J) from rfl, y_eo]
    exact k1
  have he : zC 59 q_Te_empty [.ref 66] (xz_SH, Ib, J) = some (none, (xz_SH, xz_up Ib 66 0 0, J)) := by
    refine b_Te_empty _ _ _ _ ?_
    rw [show xz_wI (xz_SH, Ib, J) 66 5 0 0 = some (xz_SH, xz_up Ib 66 0 0, J) from rfl, y_eo]
  have fI : ∀ q, q < 66 ∨ 82 ≤ q → (xz_up Ib 66 0 0) q = I q := by
    intro q hq
    funext t
    rw [y_up_n (by omega), k3 q t (by omega) (by omega) (by omega), y_up_n (by omega), y_up_n (by omega)]
  have zc : y_ZC S (xz_up Ib 66 0 0) := y_ZC_of (fun q hq => fI q (by omega)) ⟨z1.1, z1.2, z2, z3, z9⟩
  -- the reference from a heap behind the class's call
  have ref : ∀ Id Jd, (∀ q, 82 ≤ q → Id q = I q) → ∃ I1 I2, zC 59 q_Mo_clauseRead [.ref 92] (xz_SH, xz_up (xz_up (xz_up Id 92 23 0) 92 24 (-1)) 92 25 0, Jd) = some (none, (xz_SH, I1, Jd)) ∧ (b = false → zL 59 q_Mo_read 12 [(0, .ref 92)] (xz_SH, I1, Jd) = some (some (.int ((-10 : Int32) - nI m)), (xz_SH, I2, Jd))) ∧ (b = true → ∀ r, zL 59 q_Mo_read 61 [(0, .ref 92), (1, .int 0), (2, .int 0)] (xz_SH, I2, Jd) = some r → zL 59 q_Mo_read 12 [(0, .ref 92)] (xz_SH, I1, Jd) = some r) ∧ I2 92 22 = 0 ∧ (b = true → I2 92 25 = nI m ∧ ∀ t, 0 ≤ t → t < m → I2 106 t = nI (W t) ∧ ∀ k, k < y_K (W t) → I2 107 (4 * t + k) = nI (X t k)) ∧ (∀ q j, ¬ (q = 92 ∧ 22 ≤ j ∧ j ≤ 25) → q ≠ 106 → q ≠ 107 → I2 q j = Id q j) := by
    intro Id Jd h
    obtain ⟨I1, I2, l1, l2, l3, l4, l5, l6⟩ := oR 52 (xz_up (xz_up (xz_up Id 92 23 0) 92 24 (-1)) 92 25 0) Jd ⟨t1, by rw [y_up_n (by omega), y_up_n (by omega), y_up_n (by omega), h 92 (by omega), t3], fun k hk => ⟨(t4 k hk).1, by rw [y_up_n (by omega), y_up_n (by omega), y_up_n (by omega), h 105 (by omega), (t4 k hk).2.2]⟩⟩ (by rw [y_up_n (by omega), y_up_n (by omega), y_up_e ⟨rfl, rfl⟩]; rfl) (by rw [y_up_n (by omega), y_up_e ⟨rfl, rfl⟩]) (by rw [y_up_e ⟨rfl, rfl⟩]; rfl)
    refine ⟨I1, I2, l1, l2, l3, l4, l5, fun q j e1 e2 e3 => ?_⟩
    rw [l6 q j e1 (by omega) (by omega), y_up_n (by omega), y_up_n (by omega), y_up_n (by omega)]
  have body : ∀ Id Jd I1 r, zC 59 q_Mo_clauseRead [.ref 92] (xz_SH, xz_up (xz_up (xz_up Id 92 23 0) 92 24 (-1)) 92 25 0, Jd) = some (none, (xz_SH, I1, Jd)) → zL 59 q_Mo_read 12 [(0, .ref 92)] (xz_SH, I1, Jd) = some r → zC 60 q_Mo_read [.ref 92] (xz_SH, Id, Jd) = some r := by
    intro Id Jd I1 r l1 l2
    refine b_Mo_read _ _ _ _ ?_
    simp (maxSteps := 1000000) (disch := omega) only [sh_is0, sh_gI0, sh_wI0, sh_wZ0, sh_gR0, sh_gR1, sh_gR2, sh_lI0, sh_lI1, sh_lI2, sh_sI0, sh_sI1, sh_sI2, sh_len0, sh_len1, sh_len2, sh_lZ0, sh_sZ0, sh_gJ0, sh_wJ0, sh_lR0, sh_lJ0, sh_sJ0, y_eo, y_eb]
    rw [l1, y_eV]
    exact l2
  cases b with
  | false =>
    have hm : m ≤ n := o1 rfl
    obtain ⟨I1, I2, l1, l2, l3, l4, l5, l6⟩ := ref (xz_up Ib 66 0 0) J (fun q hq => fI q (by omega))
    refine ⟨(-10 : Int32) - nI m, (xz_SH, xz_up Ib 66 0 0, J), (xz_SH, I2, J), b_HR_read _ _ _ _ ?_, rfl, body _ _ I1 _ l1 (l2 rfl), S, I2, J, rfl, ?_⟩
    · rw [show xz_gR (xz_SH, I, J) 0 7 5 = some 66 from rfl, y_eo, show xz_is (xz_SH, I, J) 66 5 = true from rfl, y_eb, hp, y_eI, show xz_gR (xz_SH, Ib, J) 0 7 5 = some 66 from rfl, y_eo, show xz_is (xz_SH, Ib, J) 66 5 = true from rfl, y_eb, he, y_eV, if_neg (show ¬ (false = true) by decide), if_neg (by rw [y_eqI, nI_toInt (by omega)]; show ¬ (m : Int) = -1; omega)]
    · exact y_readZ hZ' zc (fun q hq => fI q (by omega)) (fun _ _ => rfl) (y_up_e ⟨rfl, rfl⟩) (y_ZD_of (fun q h1 h2 => by funext t; rw [l6 q t (by omega) (by omega) (by omega), fI q (by omega)]) (fun j hj => by rw [l6 92 j (by omega) (by omega) (by omega), fI 92 (by omega)]) ⟨z1.1, z1.2, z4, z5⟩) (fun q hq => by funext t; exact l6 q t (by omega) (by omega) (by omega)) (fun j hj => l6 92 j (by omega) (by omega) (by omega)) (fun _ _ => rfl) l4
  | true =>
    have hm : 0 < m ∧ m ≤ 12 := o2 rfl
    obtain ⟨v, S', f1, f2⟩ := y_loops hm.2 (X := X) o3 m 0 S 0 (by omega) z1.1 z1.2
    obtain ⟨Id, Jd, g1, g2, g3⟩ := f1 28 (xz_up Ib 66 0 0) J zc (by rw [y_up_n (by omega)]; exact (k2 rfl).1) (fun t h1 h2 => ⟨by rw [y_up_n (by omega)]; exact ((k2 rfl).2 t h1 h2).1, fun k hk => by rw [y_up_n (by omega)]; exact ((k2 rfl).2 t h1 h2).2 k hk⟩)
    obtain ⟨I1, I2, l1, l2, l3, l4, l5, l6⟩ := ref Id Jd (fun q hq => by rw [g3.1 q (by omega), fI q (by omega)])
    obtain ⟨Ig, Jg, p1, p2, p3⟩ := f2 28 I2 Jd (y_ZD_of (I := I) (fun q h1 h2 => by funext t; rw [l6 q t (by omega) (by omega) (by omega), g3.1 q (by omega), fI q (by omega)]) (fun j hj => by rw [l6 92 j (by omega) (by omega) (by omega), g3.1 92 (by omega), fI 92 (by omega)]) ⟨z1.1, z1.2, z4, z5⟩) (l5 rfl).1 (l5 rfl).2
    refine ⟨v, (xz_SH, Id, Jd), (xz_SH, Ig, Jg), b_HR_read _ _ _ _ ?_, rfl, body _ _ I1 _ l1 (l3 rfl _ p1), S', Ig, Jg, rfl, ?_⟩
    · rw [show xz_gR (xz_SH, I, J) 0 7 5 = some 66 from rfl, y_eo, show xz_is (xz_SH, I, J) 66 5 = true from rfl, y_eb, hp, y_eI, show xz_gR (xz_SH, Ib, J) 0 7 5 = some 66 from rfl, y_eo, show xz_is (xz_SH, Ib, J) 66 5 = true from rfl, y_eb, he, y_eV, if_pos (show true = true from rfl), if_pos rfl]
      exact g1
    · exact y_readZ hZ' g2 (fun q hq => by rw [g3.1 q (by omega), fI q (by omega)]) g3.2 (by rw [g3.1 66 (by omega), y_up_e ⟨rfl, rfl⟩]) p2 (fun q hq => by rw [p3.1 q (by omega) (by omega) (by omega)]; funext t; exact l6 q t (by omega) (by omega) (by omega)) (fun j hj => by rw [p3.2.1 j (by omega), l6 92 j (by omega) (by omega) (by omega)]) p3.2.2 (by rw [p3.2.1 22 (by omega), l4])
