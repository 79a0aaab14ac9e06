/-! A SETUP BECOMES ANOTHER; image, undo -/
def y_rw (r L : Nat) : Prop := (L = 6 ∧ (r = 8 ∨ r = 27 ∨ r = 46)) ∨ (L = 8 ∧ (r = 12 ∨ r = 16 ∨ r = 31 ∨ r = 35 ∨ r = 50 ∨ r = 54))
theorem y_rw_sh {r L : Nat} (h : y_rw r L) (I : Nat → Nat → Int32) (J : Nat → Nat → Int64) :
    (∀ k, xz_gI (xz_SH, I, J) r 2 k = some (I r k)) ∧ (∀ k v, xz_wI (xz_SH, I, J) r 2 k v = some (xz_SH, xz_up I r k v, J)) ∧
    (xz_gR (xz_SH, I, J) r 2 2 = some (r + 1) ∧ xz_gR (xz_SH, I, J) r 2 3 = some (r + 2) ∧ xz_gR (xz_SH, I, J) r 2 4 = some (r + 3)) ∧
    ((∀ i, xz_lI0 (xz_SH, I, J) 0 (r + 1) i = bif xz_in i L then some (I (r + 1) i.toNatClampNeg) else none) ∧ (∀ i, xz_lI0 (xz_SH, I, J) 0 (r + 2) i = bif xz_in i L then some (I (r + 2) i.toNatClampNeg) else none) ∧ (∀ i, xz_lI0 (xz_SH, I, J) 0 (r + 3) i = bif xz_in i L then some (I (r + 3) i.toNatClampNeg) else none)) ∧
    ((∀ i v, xz_sI0 (xz_SH, I, J) (r + 1) i v = bif xz_in i L then some (xz_SH, xz_up I (r + 1) i.toNatClampNeg v, J) else none) ∧ (∀ i v, xz_sI0 (xz_SH, I, J) (r + 2) i v = bif xz_in i L then some (xz_SH, xz_up I (r + 2) i.toNatClampNeg v, J) else none) ∧ (∀ i v, xz_sI0 (xz_SH, I, J) (r + 3) i v = bif xz_in i L then some (xz_SH, xz_up I (r + 3) i.toNatClampNeg v, J) else none)) := by
  rcases h with ⟨rfl, rfl | rfl | rfl⟩ | ⟨rfl, rfl | rfl | rfl | rfl | rfl | rfl⟩ <;> exact ⟨fun _ => rfl, fun _ _ => rfl, ⟨rfl, rfl, rfl⟩, ⟨fun _ => rfl, fun _ => rfl, fun _ => rfl⟩, ⟨fun _ _ => rfl, fun _ _ => rfl, fun _ _ => rfl⟩⟩
theorem y_Ro_become_l (d : Nat) {r r' L : Nat} (h : y_rw r L) (h' : y_rw r' L) (hne : r' + 4 ≤ r ∨ r + 4 ≤ r') (hL : L ≤ 8) (J : Nat → Nat → Int64) {c : Nat} (hc : c ≤ L) : ∀ (j k : Nat) (I : Nat → Nat → Int32), k + j = c → I r 0 = nI c → ∃ I', zL d q_Ro_become 7 [(0, .ref r), (1, .ref r'), (2, .int (nI k))] (xz_SH, I, J) = some (none, (xz_SH, I', J)) ∧ (∀ i, k ≤ i → i < c → I' (r + 1) i = I (r' + 1) i ∧ I' (r + 2) i = I (r' + 2) i ∧ I' (r + 3) i = I (r' + 3) i) ∧ (∀ i, i < k → I' (r + 1) i = I (r + 1) i ∧ I' (r + 2) i = I (r + 2) i ∧ I' (r + 3) i = I (r + 3) i) ∧ ∀ q, q < r + 1 ∨ r + 4 ≤ q → I' q = I q
  | 0, k, I, hk, h0 => by
    refine ⟨I, ?_, fun i h1 h2 => by omega, fun _ _ => ⟨rfl, rfl, rfl⟩, fun _ _ => rfl⟩
    refine b_Ro_become_l7 _ _ _ _ _ _ ?_
    simp (maxSteps := 1000000) (disch := omega) only [y_rw_sh h, y_rw_sh h', y_eo, y_eb, y_eI, y_eJ, y_eR, y_eV, y_in, nI_clamp, cond_true, y_eqI, y_ltI, y_leI, y_lit, nI_toInt, if_true, if_false, if_pos, if_neg, y_bIt, y_bIf, y_band, h0]
  | j + 1, k, I, hk, h0 => by
    obtain ⟨I', f1, f2, f3, f4⟩ := y_Ro_become_l d h h' hne hL J hc j (k + 1) (xz_up (xz_up (xz_up I (r + 1) k (I (r' + 1) k)) (r + 2) k (I (r' + 2) k)) (r + 3) k (I (r' + 3) k)) (by omega) (by simp (disch := omega) only [y_up_n, h0])
    refine ⟨I', ?_, fun i h1 h2 => ?_, fun i hi => ?_, fun q hq => ?_⟩
    · refine b_Ro_become_l7 _ _ _ _ _ _ ?_
      simp (maxSteps := 1000000) (disch := omega) only [y_rw_sh h, y_rw_sh h', y_eo, y_eb, y_eI, y_eJ, y_eR, y_eV, y_in, nI_clamp, cond_true, y_eqI, y_ltI, y_leI, y_lit, nI_toInt, if_true, if_false, if_pos, if_neg, y_bIt, y_bIf, y_band, h0, y_up_n, y_1, f1]
    · by_cases e : i = k
      · subst e
        obtain ⟨g1, g2, g3⟩ := f3 i (by omega)
        rw [g1, g2, g3]
        simp (disch := omega) only [y_up_n, y_up_e]
        exact ⟨trivial, trivial, trivial⟩
      · have := f2 i (by omega) h2
        simp (disch := omega) only [y_up_n] at this
        exact this
    · have := f3 i (by omega)
      simp (disch := omega) only [y_up_n] at this
      exact this
    · rw [f4 q hq]
      simp (disch := omega) only [y_up_r]
theorem y_Ro_become (d : Nat) {r r' L : Nat} (h : y_rw r L) (h' : y_rw r' L) (hne : r' + 4 ≤ r ∨ r + 4 ≤ r') (hL : L ≤ 8) (I : Nat → Nat → Int32) (J : Nat → Nat → Int64) {c : Nat} (hc : c ≤ L) (h0 : I r' 0 = nI c) : ∃ I', zC (d + 1) q_Ro_become [.ref r, .ref r'] (xz_SH, I, J) = some (none, (xz_SH, I', J)) ∧ (I' r 0 = nI c ∧ I' r 1 = I r 1) ∧ (∀ i, i < c → I' (r + 1) i = I (r' + 1) i ∧ I' (r + 2) i = I (r' + 2) i ∧ I' (r + 3) i = I (r' + 3) i) ∧ ∀ q, q < r ∨ r + 4 ≤ q → I' q = I q := by
  obtain ⟨I', f1, f2, f3, f4⟩ := y_Ro_become_l d h h' hne hL J hc c 0 (xz_up I r 0 (nI c)) (by omega) (y_up_e ⟨rfl, rfl⟩)
  refine ⟨I', ?_, ⟨?_, ?_⟩, fun i hi => ?_, fun q hq => ?_⟩
  · refine b_Ro_become _ _ _ _ _ ?_
    simp (maxSteps := 1000000) (disch := omega) only [y_rw_sh h, y_rw_sh h', y_eo, y_eb, y_eI, y_eJ, y_eR, y_eV, y_in, nI_clamp, cond_true, y_eqI, y_ltI, y_leI, y_lit, nI_toInt, if_true, if_false, if_pos, if_neg, y_bIt, y_bIf, y_band, h0]
    exact f1
  · rw [f4 r (by omega), y_up_e ⟨rfl, rfl⟩]
  · rw [f4 r (by omega), y_up_n (by omega)]
  · have := f2 i (by omega) hi
    simp (disch := omega) only [y_up_r] at this
    exact this
  · rw [f4 q (by omega), y_up_r (by omega)]
theorem y_Me_become_l (d : Nat) {b b' : Nat} (hb : y_b3 b) (hb' : y_b3 b') (hne : b' + 19 ≤ b ∨ b + 19 ≤ b') (J : Nat → Nat → Int64) : ∀ (j m : Nat) (I : Nat → Nat → Int32), m + j = 14 → ∃ I', zL d q_Me_become 7 [(0, .ref (b + 1)), (1, .ref (b' + 1)), (2, .int (nI m))] (xz_SH, I, J) = some (none, (xz_SH, I', J)) ∧ (∀ i, m ≤ i → i < 14 → I' (b + 2) i = I (b' + 2) i ∧ I' (b + 3) i = I (b' + 3) i ∧ I' (b + 4) i = I (b' + 4) i ∧ I' (b + 5) i = I (b' + 5) i ∧ I' (b + 6) i = (I (b' + 6) i &&& 1)) ∧ (∀ i, i < m → I' (b + 2) i = I (b + 2) i ∧ I' (b + 3) i = I (b + 3) i ∧ I' (b + 4) i = I (b + 4) i ∧ I' (b + 5) i = I (b + 5) i ∧ I' (b + 6) i = I (b + 6) i) ∧ ∀ q, q < b + 2 ∨ b + 7 ≤ q → I' q = I q
  | 0, m, I, hm => by
    refine ⟨I, ?_, fun i h1 h2 => by omega, fun _ _ => ⟨rfl, rfl, rfl, rfl, rfl⟩, fun _ _ => rfl⟩
    refine b_Me_become_l7 _ _ _ _ _ _ ?_
    rw [if_pos (by rw [y_leI, nI_toInt (by omega)]; simp only [y_lit]; omega)]
  | j + 1, m, I, hm => by
    obtain ⟨I', f1, f2, f3, f4⟩ := y_Me_become_l d hb hb' hne J j (m + 1) (xz_up (xz_up (xz_up (xz_up (xz_up I (b + 2) m (I (b' + 2) m)) (b + 3) m (I (b' + 3) m)) (b + 4) m (I (b' + 4) m)) (b + 5) m (I (b' + 5) m)) (b + 6) m (I (b' + 6) m &&& 1)) (by omega)
    refine ⟨I', ?_, fun i h1 h2 => ?_, fun i hi => ?_, fun q hq => ?_⟩
    · refine b_Me_become_l7 _ _ _ _ _ _ ?_
      rw [if_neg (by rw [y_leI, nI_toInt (by omega)]; simp only [y_lit]; omega)]
      simp (maxSteps := 1000000) (disch := omega) only [y_shb hb, y_shb hb', y_eo, y_eb, y_eI, y_eJ, y_eR, y_eV, y_in, nI_clamp, cond_true, y_eqI, y_ltI, y_leI, y_lit, nI_toInt, if_true, if_false, if_pos, if_neg, y_bIt, y_bIf, y_band, y_up_n, y_1, f1]
    · by_cases e : i = m
      · subst e
        obtain ⟨g1, g2, g3, g4, g5⟩ := f3 i (by omega)
        rw [g1, g2, g3, g4, g5]
        simp (disch := omega) only [y_up_n, y_up_e]
        exact ⟨trivial, trivial, trivial, trivial, trivial⟩
      · have := f2 i (by omega) h2
        simp (disch := omega) only [y_up_n] at this
        exact this
    · have := f3 i (by omega)
      simp (disch := omega) only [y_up_n] at this
      exact this
    · rw [f4 q hq]
      simp (disch := omega) only [y_up_r]
theorem y_Me_become (d : Nat) {b b' : Nat} (hb : y_b3 b) (hb' : y_b3 b') (hne : b' + 19 ≤ b ∨ b + 19 ≤ b') (I : Nat → Nat → Int32) (J : Nat → Nat → Int64) {c : Nat} (h0 : I (b' + 1) 0 = nI c) : ∃ I', zC (d + 1) q_Me_become [.ref (b + 1), .ref (b' + 1)] (xz_SH, I, J) = some (none, (xz_SH, I', J)) ∧ I' (b + 1) 0 = nI c ∧ (∀ i, i < 14 → I' (b + 2) i = I (b' + 2) i ∧ I' (b + 3) i = I (b' + 3) i ∧ I' (b + 4) i = I (b' + 4) i ∧ I' (b + 5) i = I (b' + 5) i ∧ I' (b + 6) i = (I (b' + 6) i &&& 1)) ∧ ∀ q, q < b + 1 ∨ b + 7 ≤ q → I' q = I q := by
  obtain ⟨I', f1, f2, f3, f4⟩ := y_Me_become_l d hb hb' hne J 14 0 (xz_up I (b + 1) 0 (nI c)) rfl
  refine ⟨I', ?_, ?_, fun i hi => ?_, fun q hq => ?_⟩
  · refine b_Me_become _ _ _ _ _ ?_
    simp (maxSteps := 1000000) (disch := omega) only [y_shb hb, y_shb hb', y_eo, y_eb, y_eI, y_eJ, y_eR, y_eV, y_in, nI_clamp, cond_true, y_eqI, y_ltI, y_leI, y_lit, nI_toInt, if_true, if_false, if_pos, if_neg, y_bIt, y_bIf, y_band, h0]
    exact f1
  · rw [f4 (b + 1) (by omega), y_up_e ⟨rfl, rfl⟩]
  · have := f2 i (by omega) hi
    simp (disch := omega) only [y_up_r] at this
    exact this
  · rw [f4 q (by omega), y_up_r (by omega)]
theorem y_and1 : ∀ v, v < 2 → (nI v &&& 1) = nI v := by decide
theorem y_rwb {b : Nat} (hb : y_b3 b) : y_rw (b + 7) 6 ∧ y_rw (b + 11) 8 ∧ y_rw (b + 15) 8 := by
  rcases hb with rfl | rfl | rfl <;> (unfold y_rw; omega)
set_option maxHeartbeats 4000000 in
theorem y_Se_become (d : Nat) {b b' : Nat} (hb : y_b3 b) (hb' : y_b3 b') (hne : b' + 19 ≤ b ∨ b + 19 ≤ b') {S : y_S} (hok : y_okM S) (hox : y_okX S) {I : Nat → Nat → Int32} (J : Nat → Nat → Int64) (hM : y_vM b' S I) (hX : y_vX b' S I) : ∃ I', zC (d + 2) q_Se_become [.ref b, .ref b'] (xz_SH, I, J) = some (none, (xz_SH, I', J)) ∧ y_vM b S I' ∧ y_vX b S I' ∧ (I' (b + 7) 1 = I (b + 7) 1 ∧ I' (b + 11) 1 = I (b + 11) 1 ∧ I' (b + 15) 1 = I (b + 15) 1) ∧ ∀ q, q < b ∨ b + 19 ≤ q → I' q = I q := by
  obtain ⟨k1, k2, k3, k4, k5, k6, k7, k8⟩ := id hok
  obtain ⟨⟨c0, c1, c2, c3, c4⟩, h1, h2⟩ := hM
  obtain ⟨⟨x1, x2⟩, ⟨x3, x4⟩, ⟨x5, x6⟩⟩ := hX
  obtain ⟨w1, w2, w3⟩ := y_rwb hb
  obtain ⟨v1, v2, v3⟩ := y_rwb hb'
  obtain ⟨I1, f1, f2, f3, f4⟩ := y_Me_become d hb hb' hne (xz_up (xz_up (xz_up (xz_up (xz_up I b 0 (nI (S 0 0))) b 1 (nI (S 0 1))) b 2 (nI (S 0 2))) b 3 (nI (S 0 3))) b 4 (nI (S 0 4))) J (c := S 1 0) (by simp (disch := omega) only [y_up_n, h1])
  have o1 : ∀ q, q < b ∨ b + 7 ≤ q → I1 q = I q := fun q hq => by rw [f4 q (by omega)]; simp (disch := omega) only [y_up_r]
  obtain ⟨I2, g1, ⟨g2, g5⟩, g3, g4⟩ := y_Ro_become d w1 v1 (by omega) (by decide) I1 J (c := S 7 0) hox.1.1 (by rw [o1 (b' + 7) (by omega)]; exact x1)
  have o2 : ∀ q, q < b ∨ b + 11 ≤ q → I2 q = I q := fun q hq => by rw [g4 q (by omega), o1 q (by omega)]
  obtain ⟨I3, e1, ⟨e2, e5⟩, e3, e4⟩ := y_Ro_become d w2 v2 (by omega) (by decide) I2 J (c := S 11 0) hox.2.1.1 (by rw [o2 (b' + 11) (by omega)]; exact x3)
  have o3 : ∀ q, q < b ∨ b + 15 ≤ q → I3 q = I q := fun q hq => by rw [e4 q (by omega), o2 q (by omega)]
  obtain ⟨I4, t1, ⟨t2, t5⟩, t3, t4⟩ := y_Ro_become d w3 v3 (by omega) (by decide) I3 J (c := S 15 0) hox.2.2.1 (by rw [o3 (b' + 15) (by omega)]; exact x5)
  have p4 : ∀ q, q < b + 15 → I4 q = I3 q := fun q hq => t4 q (by omega)
  have p3 : ∀ q, q < b + 11 → I4 q = I2 q := fun q hq => by rw [p4 q (by omega), e4 q (by omega)]
  have p2 : ∀ q, q < b + 7 → I4 q = I1 q := fun q hq => by rw [p3 q (by omega), g4 q (by omega)]
  have bf : ∀ k, I4 b k = xz_up (xz_up (xz_up (xz_up (xz_up I b 0 (nI (S 0 0))) b 1 (nI (S 0 1))) b 2 (nI (S 0 2))) b 3 (nI (S 0 3))) b 4 (nI (S 0 4)) b k := fun k => by rw [p2 b (by omega), f4 b (by omega)]
  refine ⟨I4, ?_, ⟨⟨?_, ?_, ?_, ?_, ?_⟩, ?_, fun m hm => ?_⟩, ⟨⟨?_, fun r hr => ?_⟩, ⟨?_, fun r hr => ?_⟩, ⟨?_, fun r hr => ?_⟩⟩, ⟨?_, ?_, ?_⟩, fun q hq => ?_⟩
  · refine b_Se_become _ _ _ _ _ ?_
    simp (maxSteps := 1000000) (disch := omega) only [y_shb hb, y_shb hb', y_eo, y_eb, y_eI, y_eJ, y_eR, y_eV, y_in, nI_clamp, cond_true, y_eqI, y_ltI, y_leI, y_lit, nI_toInt, if_true, if_false, if_pos, if_neg, y_bIt, y_bIf, y_band, y_up_n, c0, c1, c2, c3, c4]
    rw [f1]
    simp (maxSteps := 1000000) (disch := omega) only [y_shb hb, y_shb hb', y_eo, y_eb, y_eI, y_eJ, y_eR, y_eV, y_in, nI_clamp, cond_true, y_eqI, y_ltI, y_leI, y_lit, nI_toInt, if_true, if_false, if_pos, if_neg, y_bIt, y_bIf, y_band]
    rw [g1]
    simp (maxSteps := 1000000) (disch := omega) only [y_shb hb, y_shb hb', y_eo, y_eb, y_eI, y_eJ, y_eR, y_eV, y_in, nI_clamp, cond_true, y_eqI, y_ltI, y_leI, y_lit, nI_toInt, if_true, if_false, if_pos, if_neg, y_bIt, y_bIf, y_band]
    rw [e1]
    simp (maxSteps := 1000000) (disch := omega) only [y_shb hb, y_shb hb', y_eo, y_eb, y_eI, y_eJ, y_eR, y_eV, y_in, nI_clamp, cond_true, y_eqI, y_ltI, y_leI, y_lit, nI_toInt, if_true, if_false, if_pos, if_neg, y_bIt, y_bIf, y_band]
    rw [t1, y_eV]
  · rw [bf]; simp (maxSteps := 1000000) (disch := omega) only [y_up_e, y_up_n, y_ps_e, y_ps_n]
  · rw [bf]; simp (maxSteps := 1000000) (disch := omega) only [y_up_e, y_up_n, y_ps_e, y_ps_n]
  · rw [bf]; simp (maxSteps := 1000000) (disch := omega) only [y_up_e, y_up_n, y_ps_e, y_ps_n]
  · rw [bf]; simp (maxSteps := 1000000) (disch := omega) only [y_up_e, y_up_n, y_ps_e, y_ps_n]
  · rw [bf]; simp (maxSteps := 1000000) (disch := omega) only [y_up_e, y_up_n, y_ps_e, y_ps_n]
  · rw [p2 (b + 1) (by omega)]; exact f2
  · obtain ⟨n1, n2, n3, n4, n5⟩ := f3 m (by omega)
    obtain ⟨m1, m2, m3, m4, m5⟩ := h2 m hm
    have g7 := (k8 m hm).2.2.2.2.2.2
    rw [p2 (b + 2) (by omega), p2 (b + 3) (by omega), p2 (b + 4) (by omega), p2 (b + 5) (by omega), p2 (b + 6) (by omega), n1, n2, n3, n4, n5]
    simp (disch := omega) only [y_up_r, m1, m2, m3, m4, m5, y_and1]
    exact ⟨trivial, trivial, trivial, trivial, trivial⟩
  · rw [p3 (b + 7) (by omega)]; exact g2
  · obtain ⟨n1, n2, n3⟩ := g3 r hr
    rw [p3 (b + 8) (by omega), p3 (b + 9) (by omega), p3 (b + 10) (by omega)]
    rw [show b + 7 + 1 = b + 8 by omega, show b' + 7 + 1 = b' + 8 by omega, o1 (b' + 8) (by omega)] at n1
    rw [show b + 7 + 2 = b + 9 by omega, show b' + 7 + 2 = b' + 9 by omega, o1 (b' + 9) (by omega)] at n2
    rw [show b + 7 + 3 = b + 10 by omega, show b' + 7 + 3 = b' + 10 by omega, o1 (b' + 10) (by omega)] at n3
    rw [n1, n2, n3]
    exact x2 r hr
  · rw [p4 (b + 11) (by omega)]; exact e2
  · obtain ⟨n1, n2, n3⟩ := e3 r hr
    rw [p4 (b + 12) (by omega), p4 (b + 13) (by omega)]
    rw [show b + 11 + 1 = b + 12 by omega, show b' + 11 + 1 = b' + 12 by omega, o2 (b' + 12) (by omega)] at n1
    rw [show b + 11 + 2 = b + 13 by omega, show b' + 11 + 2 = b' + 13 by omega, o2 (b' + 13) (by omega)] at n2
    rw [n1, n2]
    exact x4 r hr
  · exact t2
  · obtain ⟨n1, n2, n3⟩ := t3 r hr
    rw [show b + 15 + 1 = b + 16 by omega, show b' + 15 + 1 = b' + 16 by omega, o3 (b' + 16) (by omega)] at n1
    rw [show b + 15 + 2 = b + 17 by omega, show b' + 15 + 2 = b' + 17 by omega, o3 (b' + 17) (by omega)] at n2
    rw [n1, n2]
    exact x6 r hr
  · rw [p3 (b + 7) (by omega), g5, o1 (b + 7) (by omega)]
  · rw [p4 (b + 11) (by omega), e5, o2 (b + 11) (by omega)]
  · rw [t5, o3 (b + 15) (by omega)]
  · rw [t4 q (by omega), o3 q (by omega)]
/-! the reference's image -/
def y_ln (k : Nat) : Nat := if k < 4 then 14 else if k < 6 then 6 else 8
theorem y_k10 : ∀ k, k < 10 → xz_SH[94 + k]? = some (0, y_ln k, []) ∧ xz_SH[116 + k]? = some (0, 14, []) ∧ ([some 116, some 117, some 118, some 119, some 120, some 121, some 122, some 123, some 124, some 125] : List (Option Nat)).getD k none = some (116 + k) ∧ y_ln k ≤ 14 := by
  intro k hk
  have hc : k = 0 ∨ k = 1 ∨ k = 2 ∨ k = 3 ∨ k = 4 ∨ k = 5 ∨ k = 6 ∨ k = 7 ∨ k = 8 ∨ k = 9 := by omega
  rcases hc with rfl | rfl | rfl | rfl | rfl | rfl | rfl | rfl | rfl | rfl <;> exact ⟨rfl, rfl, rfl, by decide⟩
theorem y_Mo_row (d : Nat) (I : Nat → Nat → Int32) (J : Nat → Nat → Int64) {k : Nat} (hk : k < 10) : zC (d + 1) q_Mo_row [.ref 92, .int (nI k)] (xz_SH, I, J) = some (some (.ref (94 + k)), (xz_SH, I, J)) := by
  have hc : k = 0 ∨ k = 1 ∨ k = 2 ∨ k = 3 ∨ k = 4 ∨ k = 5 ∨ k = 6 ∨ k = 7 ∨ k = 8 ∨ k = 9 := by omega
  refine b_Mo_row _ _ _ _ _ ?_
  rcases hc with rfl | rfl | rfl | rfl | rfl | rfl | rfl | rfl | rfl | rfl
  · rw [if_pos (by decide)]; rfl
  · rw [if_neg (by decide), if_pos (by decide)]; rfl
  · rw [if_neg (by decide), if_neg (by decide), if_pos (by decide)]; rfl
  · rw [if_neg (by decide), if_neg (by decide), if_neg (by decide), if_pos (by decide)]; rfl
  · rw [if_neg (by decide), if_neg (by decide), if_neg (by decide), if_neg (by decide), if_pos (by decide)]; rfl
  · rw [if_neg (by decide), if_neg (by decide), if_neg (by decide), if_neg (by decide), if_neg (by decide), if_pos (by decide)]; rfl
  · rw [if_neg (by decide), if_neg (by decide), if_neg (by decide), if_neg (by decide), if_neg (by decide), if_neg (by decide), if_pos (by decide)]; rfl
  · rw [if_neg (by decide), if_neg (by decide), if_neg (by decide), if_neg (by decide), if_neg (by decide), if_neg (by decide), if_neg (by decide), if_pos (by decide)]; rfl
  · rw [if_neg (by decide), if_neg (by decide), if_neg (by decide), if_neg (by decide), if_neg (by decide), if_neg (by decide), if_neg (by decide), if_neg (by decide), if_pos (by decide)]; rfl
  · rw [if_neg (by decide), if_neg (by decide), if_neg (by decide), if_neg (by decide), if_neg (by decide), if_neg (by decide), if_neg (by decide), if_neg (by decide), if_neg (by decide)]; rfl
theorem y_len10 (I : Nat → Nat → Int32) (J : Nat → Nat → Int64) {k : Nat} (hk : k < 10) : xz_len (xz_SH, I, J) (94 + k) = some (nI (y_ln k)) := by
  unfold xz_len
  dsimp only
  rw [(y_k10 k hk).1]
  rfl
theorem y_Mo_image_l (d : Nat) {S : y_S} (hok : y_okM S) (J : Nat → Nat → Int64) : ∀ (j k : Nat) (I : Nat → Nat → Int32), k + j = 10 → y_vR S I → ∃ I', zL (d + 2) q_Mo_image 76 [(0, .ref 92), (1, .int (nI k))] (xz_SH, I, J) = some (some (.int (nI (y_lf S))), (xz_SH, I', J)) ∧ (∀ i x, k ≤ i → i < 10 → x < y_ln i → I' (116 + i) x = I (94 + i) x) ∧ ∀ q, q < 116 + k ∨ 126 ≤ q → I' q = I q
  | 0, k, I, hk, hR => by
    refine ⟨I, ?_, fun i x h1 h2 => by omega, fun _ _ => rfl⟩
    refine b_Mo_image_l76 _ _ _ _ _ ?_
    rw [if_pos (by rw [y_leI, nI_toInt (by omega)]; simp only [y_lit]; omega)]
    simp (maxSteps := 1000000) (disch := omega) only [sh_is0, sh_gI0, sh_wI0, sh_wZ0, sh_gR0, sh_gR1, sh_gR2, sh_lI0, sh_lI1, sh_lI2, sh_sI0, sh_sI1, sh_sI2, sh_len0, sh_len1, sh_len2, sh_lZ0, sh_sZ0, sh_gJ0, sh_wJ0, sh_lR0, sh_lJ0, sh_sJ0, y_eo, y_eb, y_Mo_left _ J hR hok, y_eI]
  | j + 1, k, I, hk, hR => by
    obtain ⟨t1, t2, t3, t4⟩ := y_k10 k (by omega)
    have cp : ∀ (I : Nat → Nat → Int32) (J : Nat → Nat → Int64), xz_copy (xz_SH, I, J) (94 + k) (0 : Int32) (116 + k) (0 : Int32) (nI (y_ln k)) = some (xz_SH, xz_row I (116 + k) (va_cpy (I (94 + k)) (I (116 + k)) 0 0 (y_ln k)), J) := fun I J => y_cpI (sp := 0) (dp := 0) t1 t2 (by decide) (by omega) (by omega) (by omega) (by decide)
    obtain ⟨I', f1, f2, f3⟩ := y_Mo_image_l d hok J j (k + 1) (xz_row I (116 + k) (va_cpy (I (94 + k)) (I (116 + k)) 0 0 (y_ln k))) (by omega) (y_vR_of (fun q _ _ => y_row_n (by omega)) (fun j _ => by rw [y_row_n (by omega)]) hR)
    refine ⟨I', ?_, fun i x h1 h2 h3 => ?_, fun q hq => ?_⟩
    · refine b_Mo_image_l76 _ _ _ _ _ ?_
      rw [if_neg (by rw [y_leI, nI_toInt (by omega)]; simp only [y_lit]; omega)]
      simp (maxSteps := 1000000) (disch := omega) only [sh_is0, sh_gI0, sh_wI0, sh_wZ0, sh_gR0, sh_gR1, sh_gR2, sh_lI0, sh_lI1, sh_lI2, sh_sI0, sh_sI1, sh_sI2, sh_len0, sh_len1, sh_len2, sh_lZ0, sh_sZ0, sh_gJ0, sh_wJ0, sh_lR0, sh_lJ0, sh_sJ0, y_eo, y_eb, y_Mo_row _ I J (show k < 10 by omega), y_eR, y_in (show k < 10 by omega) (by decide), cond_true, nI_clamp (show k < 2 ^ 31 by omega), t3, y_len10 I J (show k < 10 by omega), cp, y_1]
      exact f1
    · by_cases e : i = k
      · subst e
        rw [f3 (116 + i) (by omega), y_row_e rfl, pk_cpy_in (by omega) (by omega)]
        rw [show 0 + (x - 0) = x by omega]
      · rw [f2 i x (by omega) h2 h3, y_row_n (by omega)]
    · rw [f3 q (by omega), y_row_n (by omega)]
theorem y_Mo_undo_l (d : Nat) {K : y_S} (hok : y_okM K) (J : Nat → Nat → Int64) (Q : (Nat → Nat → Int32) → Prop) : ∀ (j k : Nat) (I : Nat → Nat → Int32), k + j = 10 → (∀ I', (∀ q, q < 94 ∨ 104 ≤ q → I' q = I q) → (∀ i x, i < k → x < y_ln i → I' (94 + i) x = I (94 + i) x) → (∀ i x, k ≤ i → i < 10 → x < y_ln i → I' (94 + i) x = I (116 + i) x) → y_vR K I') → ∃ I', zL (d + 2) q_Mo_undo 78 [(0, .ref 92), (1, .int (nI k))] (xz_SH, I, J) = some (some (.int (nI (y_lf K))), (xz_SH, I', J)) ∧ (∀ i x, k ≤ i → i < 10 → x < y_ln i → I' (94 + i) x = I (116 + i) x) ∧ (∀ i x, i < k → x < y_ln i → I' (94 + i) x = I (94 + i) x) ∧ ∀ q, q < 94 ∨ 104 ≤ q → I' q = I q
  | 0, k, I, hk, hR => by
    have hR0 := hR I (fun _ _ => rfl) (fun _ _ _ _ => rfl) (fun i x h1 h2 => by omega)
    refine ⟨I, ?_, fun i x h1 h2 => by omega, fun _ _ _ _ => rfl, fun _ _ => rfl⟩
    refine b_Mo_undo_l78 _ _ _ _ _ ?_
    rw [if_pos (by rw [y_leI, nI_toInt (by omega)]; simp only [y_lit]; omega)]
    simp (maxSteps := 1000000) (disch := omega) only [sh_is0, sh_gI0, sh_wI0, sh_wZ0, sh_gR0, sh_gR1, sh_gR2, sh_lI0, sh_lI1, sh_lI2, sh_sI0, sh_sI1, sh_sI2, sh_len0, sh_len1, sh_len2, sh_lZ0, sh_sZ0, sh_gJ0, sh_wJ0, sh_lR0, sh_lJ0, sh_sJ0, y_eo, y_eb, y_Mo_left _ J hR0 hok, y_eI]
  | j + 1, k, I, hk, hR => by
    obtain ⟨t1, t2, t3, t4⟩ := y_k10 k (by omega)
    have cp : ∀ (I : Nat → Nat → Int32) (J : Nat → Nat → Int64), xz_copy (xz_SH, I, J) (116 + k) (0 : Int32) (94 + k) (0 : Int32) (nI (y_ln k)) = some (xz_SH, xz_row I (94 + k) (va_cpy (I (116 + k)) (I (94 + k)) 0 0 (y_ln k)), J) := fun I J => y_cpI (sp := 0) (dp := 0) t2 t1 (by decide) (by omega) (by omega) (by decide) (by omega)
    have hrow : ∀ x, x < y_ln k → xz_row I (94 + k) (va_cpy (I (116 + k)) (I (94 + k)) 0 0 (y_ln k)) (94 + k) x = I (116 + k) x := fun x hx => by
      rw [y_row_e rfl, pk_cpy_in (by omega) (by omega), show 0 + (x - 0) = x by omega]
    obtain ⟨I', f1, f2, f4, f3⟩ := y_Mo_undo_l d hok J Q j (k + 1) (xz_row I (94 + k) (va_cpy (I (116 + k)) (I (94 + k)) 0 0 (y_ln k))) (by omega) (fun I' h1 h2 h3 => hR I' (fun q hq => by rw [h1 q hq, y_row_n (by omega)]) (fun i x hi hx => by rw [h2 i x (by omega) hx, y_row_n (by omega)]) (fun i x hi hi10 hx => by
      by_cases e : i = k
      · rw [e] at hx ⊢
        rw [h2 k x (by omega) hx, hrow x hx]
      · rw [h3 i x (by omega) hi10 hx, y_row_n (by omega)]))
    refine ⟨I', ?_, fun i x h1 h2 h3 => ?_, fun i x hi hx => ?_, fun q hq => ?_⟩
    · refine b_Mo_undo_l78 _ _ _ _ _ ?_
      rw [if_neg (by rw [y_leI, nI_toInt (by omega)]; simp only [y_lit]; omega)]
      simp (maxSteps := 1000000) (disch := omega) only [sh_is0, sh_gI0, sh_wI0, sh_wZ0, sh_gR0, sh_gR1, sh_gR2, sh_lI0, sh_lI1, sh_lI2, sh_sI0, sh_sI1, sh_sI2, sh_len0, sh_len1, sh_len2, sh_lZ0, sh_sZ0, sh_gJ0, sh_wJ0, sh_lR0, sh_lJ0, sh_sJ0, y_eo, y_eb, y_Mo_row _ I J (show k < 10 by omega), y_eR, y_in (show k < 10 by omega) (by decide), cond_true, nI_clamp (show k < 2 ^ 31 by omega), t3, y_len10 I J (show k < 10 by omega), cp, y_1]
      exact f1
    · by_cases e : i = k
      · rw [e] at h3 ⊢
        rw [f4 k x (by omega) h3, hrow x h3]
      · rw [f2 i x (by omega) h2 h3, y_row_n (by omega)]
    · rw [f4 i x (by omega) hx, y_row_n (by omega)]
    · rw [f3 q hq, y_row_n (by omega)]
