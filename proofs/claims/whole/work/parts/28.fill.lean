/-! THE CLASS: REACH of all PEOPLE -/
/-- S1 is S without the meeting x -/
def y_mis (S : y_S) (x : Int32) (S1 : y_S) : Prop := (∀ k j, k ≠ 6 → S1 k j = S k j) ∧ ∀ m, m < S 1 0 → (S1 6 m = 0 ↔ S 6 m = 0 ∧ x.toInt ≠ m)
theorem y_mis_no (S : y_S) : y_mis S (-1) S := ⟨fun _ _ _ => rfl, fun m _ => by
  have : (-1 : Int32).toInt = -1 := by decide
  rw [this]
  constructor
  · intro h
    exact ⟨h, by omega⟩
  · intro h
    exact h.1⟩
theorem y_ho_eq {S S1 : y_S} (h : ∀ k j, k ≠ 6 → S1 k j = S k j) (B : Nat) (a : y_A) (m : Nat) : y_ho S1 B a m = y_ho S B a m := by
  have e1 : ∀ a m g x, y_gv S1 a m g x = y_gv S a m g x := by
    intro a m g x
    unfold y_gv y_rdy
    simp only [h 2 _ (by decide), h 0 _ (by decide)]
  unfold y_ho y_gvd
  simp only [e1, h 3 _ (by decide), h 4 _ (by decide)]
set_option maxHeartbeats 4000000 in
theorem y_Re_l25 (d : Nat) {b : Nat} (hb : y_b3 b) {S S1 : y_S} (hok : y_okM S) {x : Int32} (hx : y_mis S x S1) {B : Nat} (hB : B < 64) (z : Int32) (J : Nat → Nat → Int64) : ∀ (j m : Nat) (a : y_A) (c : Bool) (I : Nat → Nat → Int32), m + j = S 1 0 → y_vM b S I → y_vA a I →
    ∃ I', (∀ r, zL (d + 2) q_Re_fillWithout 15 [(0, .ref 58), (1, .ref b), (3, .int (nI B)), (4, .int x), (5, .int (y_bI (y_sw S1 B j m a c).2)), (6, .int (z + (1 : Int32)))] (xz_SH, I', J) = some r → zL (d + 2) q_Re_fillWithout 25 [(0, .ref 58), (1, .ref b), (3, .int (nI B)), (4, .int x), (5, .int (y_bI c)), (6, .int z), (7, .int (nI m))] (xz_SH, I, J) = some r) ∧ y_vA (y_sw S1 B j m a c).1 I' ∧ ∀ q, q ≠ 59 → I' q = I q
  | 0, m, a, c, I, hm, hM, hA => by
    obtain ⟨k1, k2, k3, k4, k5, k6, k7, k8⟩ := hok
    obtain ⟨⟨c0, c1, c2, c3, c4⟩, h1, h2⟩ := id hM
    refine ⟨I, fun r hr => ?_, hA, fun _ _ => rfl⟩
    refine b_Re_fillWithout_l25 _ _ _ _ _ _ _ _ _ _ ?_
    simp (disch := omega) only [sh_is0, sh_gI0, sh_wI0, sh_wZ0, sh_gR0, sh_gR1, sh_gR2, sh_lI0, sh_lI1, sh_lI2, sh_sI0, sh_sI1, sh_sI2, sh_len0, sh_len1, sh_len2, sh_lZ0, sh_sZ0, sh_gJ0, sh_wJ0, sh_lR0, sh_lJ0, sh_sJ0, y_shb hb, y_eo, y_eb, y_eI, y_eJ, y_eR, y_eV, y_in, nI_clamp, cond_true, y_eqI, y_ltI, y_leI, y_lit, nI_toInt, if_true, if_false, if_pos, if_neg, y_bIt, y_bIf, y_band, h1]
    exact hr
  | j + 1, m, a, c, I, hm, hM, hA => by
    have hb39 : b ≤ 39 := by rcases hb with rfl | rfl | rfl <;> omega
    have ih := fun a c I hM hA => y_Re_l25 d hb hok hx hB z J j (m + 1) a c I (by omega) hM hA
    have hT := y_Me_isThere (d + 1) hb J hM hok (m := m) (by omega)
    have hok' := hok
    obtain ⟨k1, k2, k3, k4, k5, k6, k7, k8⟩ := hok
    obtain ⟨⟨c0, c1, c2, c3, c4⟩, h1, h2⟩ := id hM
    have hm6 := hx.2 m (by omega)
    have hxm : (nI m).toInt = m := nI_toInt (by omega)
    by_cases e : S1 6 m = 0
    · obtain ⟨e1, e2⟩ := hm6.mp e
      have e1' : (S 6 m == 0) = true := by simpa using e1
      rw [e1'] at hT
      obtain ⟨I1, f1, f2, f3⟩ := y_Re_handOn d hb hok' J hM hA hB (m := m) (by omega)
      have hsw : y_sw S1 B (j + 1) m a c = y_sw S1 B j (m + 1) (y_ho S B a m).1 (c || (y_ho S B a m).2) := by
        show (if S1 6 m = 0 then _ else _) = _
        rw [if_pos e, y_ho_eq hx.1]
      rw [hsw]
      obtain ⟨I', g1, g2, g3⟩ := ih (y_ho S B a m).1 (c || (y_ho S B a m).2) I1 (y_vM_of (fun q _ _ => f3 q (by omega)) hM) f2
      refine ⟨I', fun r hr => ?_, g2, fun q hq => (g3 q hq).trans (f3 q hq)⟩
      have g1' := g1 r hr
      refine b_Re_fillWithout_l25 _ _ _ _ _ _ _ _ _ _ ?_
      cases e3 : (y_ho S B a m).2 with
      | true =>
        rw [e3] at f1 g1'
        rw [Bool.or_true] at g1'
        simp (disch := omega) only [sh_is0, sh_gI0, sh_wI0, sh_wZ0, sh_gR0, sh_gR1, sh_gR2, sh_lI0, sh_lI1, sh_lI2, sh_sI0, sh_sI1, sh_sI2, sh_len0, sh_len1, sh_len2, sh_lZ0, sh_sZ0, sh_gJ0, sh_wJ0, sh_lR0, sh_lJ0, sh_sJ0, y_shb hb, y_eo, y_eb, y_eI, y_eJ, y_eR, y_eV, y_in, nI_clamp, cond_true, y_eqI, y_ltI, y_leI, y_lit, nI_toInt, if_true, if_false, if_pos, if_neg, y_bIt, y_bIf, y_band, h1, hT, f1, y_1]
        exact g1'
      | false =>
        rw [e3] at f1 g1'
        rw [Bool.or_false] at g1'
        simp (disch := omega) only [sh_is0, sh_gI0, sh_wI0, sh_wZ0, sh_gR0, sh_gR1, sh_gR2, sh_lI0, sh_lI1, sh_lI2, sh_sI0, sh_sI1, sh_sI2, sh_len0, sh_len1, sh_len2, sh_lZ0, sh_sZ0, sh_gJ0, sh_wJ0, sh_lR0, sh_lJ0, sh_sJ0, y_shb hb, y_eo, y_eb, y_eI, y_eJ, y_eR, y_eV, y_in, nI_clamp, cond_true, y_eqI, y_ltI, y_leI, y_lit, nI_toInt, if_true, if_false, if_pos, if_neg, y_bIt, y_bIf, y_band, h1, hT, f1, y_1]
        exact g1'
    · have hsw : y_sw S1 B (j + 1) m a c = y_sw S1 B j (m + 1) a c := by
        show (if S1 6 m = 0 then _ else _) = _
        rw [if_neg e]
      rw [hsw]
      obtain ⟨I', g1, g2, g3⟩ := ih a c I hM hA
      refine ⟨I', fun r hr => ?_, g2, g3⟩
      have g1' := g1 r hr
      refine b_Re_fillWithout_l25 _ _ _ _ _ _ _ _ _ _ ?_
      by_cases e2 : x.toInt = m
      · simp (disch := omega) only [sh_is0, sh_gI0, sh_wI0, sh_wZ0, sh_gR0, sh_gR1, sh_gR2, sh_lI0, sh_lI1, sh_lI2, sh_sI0, sh_sI1, sh_sI2, sh_len0, sh_len1, sh_len2, sh_lZ0, sh_sZ0, sh_gJ0, sh_wJ0, sh_lR0, sh_lJ0, sh_sJ0, y_shb hb, y_eo, y_eb, y_eI, y_eJ, y_eR, y_eV, y_in, nI_clamp, cond_true, y_eqI, y_ltI, y_leI, y_lit, nI_toInt, if_true, if_false, if_pos, if_neg, y_bIt, y_bIf, y_band, h1, y_1]
        exact g1'
      · have e1' : (S 6 m == 0) = false := by
          rw [beq_eq_false_iff_ne]
          intro e3
          exact e (hm6.mpr ⟨e3, e2⟩)
        rw [e1'] at hT
        simp (disch := omega) only [sh_is0, sh_gI0, sh_wI0, sh_wZ0, sh_gR0, sh_gR1, sh_gR2, sh_lI0, sh_lI1, sh_lI2, sh_sI0, sh_sI1, sh_sI2, sh_len0, sh_len1, sh_len2, sh_lZ0, sh_sZ0, sh_gJ0, sh_wJ0, sh_lR0, sh_lJ0, sh_sJ0, y_shb hb, y_eo, y_eb, y_eI, y_eJ, y_eR, y_eV, y_in, nI_clamp, cond_true, y_eqI, y_ltI, y_leI, y_lit, nI_toInt, if_true, if_false, if_pos, if_neg, y_bIt, y_bIf, y_band, h1, hT, y_1]
        exact g1'
set_option maxHeartbeats 4000000 in
theorem y_Re_l15 (d : Nat) {b : Nat} (hb : y_b3 b) {S S1 : y_S} (hok : y_okM S) {x : Int32} (hx : y_mis S x S1) {B : Nat} (hB : B < 64) (J : Nat → Nat → Int64) : ∀ (n k : Nat) (a : y_A) (c : Bool) (I : Nat → Nat → Int32), k + n = 6 → y_vM b S I → y_vA a I →
    ∃ I', zL (d + 2) q_Re_fillWithout 15 [(0, .ref 58), (1, .ref b), (3, .int (nI B)), (4, .int x), (5, .int (y_bI c)), (6, .int (nI k))] (xz_SH, I, J) = some (none, (xz_SH, I', J)) ∧ y_vA (if c = true then y_rd S1 B n a else a) I' ∧ ∀ q, q ≠ 59 → I' q = I q
  | 0, k, a, c, I, hk, hM, hA => by
    refine ⟨I, ?_, ?_, fun _ _ => rfl⟩
    · refine b_Re_fillWithout_l15 _ _ _ _ _ _ _ _ _ ?_
      simp (disch := omega) only [y_eo, y_eb, y_eI, y_eJ, y_eR, y_eV, y_in, nI_clamp, cond_true, y_eqI, y_ltI, y_leI, y_lit, nI_toInt, if_true, if_false, if_pos, if_neg, y_bIt, y_bIf, y_band]
    · cases c <;> exact hA
  | n + 1, k, a, c, I, hk, hM, hA => by
    have hb39 : b ≤ 39 := by rcases hb with rfl | rfl | rfl <;> omega
    cases c with
    | false =>
      refine ⟨I, ?_, hA, fun _ _ => rfl⟩
      refine b_Re_fillWithout_l15 _ _ _ _ _ _ _ _ _ ?_
      simp (disch := omega) only [y_eo, y_eb, y_eI, y_eJ, y_eR, y_eV, y_in, nI_clamp, cond_true, y_eqI, y_ltI, y_leI, y_lit, nI_toInt, if_true, if_false, if_pos, if_neg, y_bIt, y_bIf, y_band]
    | true =>
      obtain ⟨I1, f1, f2, f3⟩ := y_Re_l25 d hb hok hx hB (nI k) J (S 1 0) 0 a false I (by omega) hM hA
      obtain ⟨I', g1, g2, g3⟩ := y_Re_l15 d hb hok hx hB J n (k + 1) _ (y_sw S1 B (S 1 0) 0 a false).2 I1 (by omega) (y_vM_of (fun q _ _ => f3 q (by omega)) hM) f2
      rw [y_1] at f1
      refine ⟨I', ?_, ?_, fun q hq => (g3 q hq).trans (f3 q hq)⟩
      · refine b_Re_fillWithout_l15 _ _ _ _ _ _ _ _ _ ?_
        simp (disch := omega) only [y_eo, y_eb, y_eI, y_eJ, y_eR, y_eV, y_in, nI_clamp, cond_true, y_eqI, y_ltI, y_leI, y_lit, nI_toInt, if_true, if_false, if_pos, if_neg, y_bIt, y_bIf, y_band]
        exact f1 _ g1
      · have : S1 1 0 = S 1 0 := hx.1 1 0 (by decide)
        show y_vA (if (y_sw S1 B (S1 1 0) 0 a false).2 = true then y_rd S1 B n (y_sw S1 B (S1 1 0) 0 a false).1 else (y_sw S1 B (S1 1 0) 0 a false).1) I'
        rw [this]
        exact g2
theorem y_mis_ok {S S1 : y_S} (hok : y_okM S) {x : Int32} (hx : y_mis S x S1) : y_six S1 ∧ S1 0 2 < 6 ∧ (∀ m, m < S1 1 0 → S1 3 m ≠ S1 4 m) ∧ S1 0 2 = S 0 2 := by
  obtain ⟨k1, k2, k3, k4, k5, k6, k7, k8⟩ := hok
  have h := hx.1
  refine ⟨fun m hm => ?_, ?_, fun m hm => ?_, h 0 2 (by decide)⟩
  · rw [h 1 0 (by decide)] at hm
    rw [h 3 m (by decide), h 4 m (by decide)]
    obtain ⟨g2, g3, g4, g5, g6, g7, g8⟩ := k8 m hm
    omega
  · rw [h 0 2 (by decide)]
    omega
  · rw [h 1 0 (by decide)] at hm
    rw [h 3 m (by decide), h 4 m (by decide)]
    exact (k8 m hm).2.2.2.1
set_option maxHeartbeats 4000000 in
/-- the heap behind fillWithout holds REACH of all -/
theorem y_Re_fillWithout (d : Nat) {b : Nat} (hb : y_b3 b) {S S1 : y_S} (hok : y_okM S) {x : Int32} (hx : y_mis S x S1) {B : Nat} (hB : B < 64) (hBf : B.testBit (S 0 2) = false) {st : Nat} (hst : st ≤ 99) {I : Nat → Nat → Int32} (J : Nat → Nat → Int64) (hM : y_vM b S I) : ∃ I', zC (d + 3) q_Re_fillWithout [.ref 58, .ref b, .int (nI st), .int (nI B), .int x] (xz_SH, I, J) = some (none, (xz_SH, I', J)) ∧ y_vA (y_rc S1 B st) I' ∧ ∀ q, q ≠ 59 → I' q = I q := by
  have hb39 : b ≤ 39 := by rcases hb with rfl | rfl | rfl <;> omega
  obtain ⟨o1, o2, o3, o4⟩ := y_mis_ok hok hx
  have hok' := hok
  obtain ⟨k1, k2, k3, k4, k5, k6, k7, k8⟩ := hok
  obtain ⟨I1, f1, f2, f3⟩ := y_fillI (d + 1) 59 6 (-5) (by decide) (fun I J i v => by simp only [sh_sI0, sh_sI1, sh_sI2]) (fun I J => by rfl) I J
  have hM1 : y_vM b S I1 := y_vM_of (fun q _ _ => f2 q (by omega)) hM
  obtain ⟨⟨c0, c1, c2, c3, c4⟩, h1, h2⟩ := id hM1
  have hA : y_vA (y_a0 S1 st) (xz_up I1 59 (S 0 2) (nI st)) := by
    unfold y_a0
    rw [o4]
    exact y_vA_set (fun p hp => ⟨f3 p hp, fun t ht => by cases ht⟩) hst
  obtain ⟨I', g1, g2, g3⟩ := y_Re_l15 d hb hok' hx hB J 6 0 _ true _ rfl (y_vM_of (fun q _ _ => y_up_r (by omega)) hM1) hA
  refine ⟨I', ?_, ?_, fun q hq => by rw [g3 q hq, y_up_r hq, f2 q hq]⟩
  · refine b_Re_fillWithout _ _ _ _ _ _ _ _ ?_
    simp (disch := omega) only [sh_is0, sh_gI0, sh_wI0, sh_wZ0, sh_gR0, sh_gR1, sh_gR2, sh_lI0, sh_lI1, sh_lI2, sh_sI0, sh_sI1, sh_sI2, sh_len0, sh_len1, sh_len2, sh_lZ0, sh_sZ0, sh_gJ0, sh_wJ0, sh_lR0, sh_lJ0, sh_sJ0, y_shb hb, y_eo, y_eb, y_eI, y_eJ, y_eR, y_eV, y_in, nI_clamp, cond_true, y_eqI, y_ltI, y_leI, y_lit, nI_toInt, if_true, if_false, if_pos, if_neg, y_bIt, y_bIf, y_band, f1, c2]
    exact g1
  · have e : (if true = true then y_rd S1 B 6 (y_a0 S1 st) else y_a0 S1 st) = y_rc S1 B st := by
      rw [if_pos rfl]
      funext p
      exact y_rd_rc o1 o2 o3 (by rw [o4]; exact hBf) st p
    rw [← e]
    exact g2
theorem y_Re_fill (d : Nat) {b : Nat} (hb : y_b3 b) {S : y_S} (hok : y_okM S) {st : Nat} (hst : st ≤ 99) {I : Nat → Nat → Int32} (J : Nat → Nat → Int64) (hM : y_vM b S I) : ∃ I', zC (d + 4) q_Re_fill [.ref 58, .ref b, .int (nI st)] (xz_SH, I, J) = some (none, (xz_SH, I', J)) ∧ y_vA (y_rc S 0 st) I' ∧ ∀ q, q ≠ 59 → I' q = I q := by
  obtain ⟨I', f1, f2, f3⟩ := y_Re_fillWithout d hb hok (y_mis_no S) (B := 0) (by decide) (by simp) hst J hM
  refine ⟨I', ?_, f2, f3⟩
  refine b_Re_fill _ _ _ _ _ _ ?_
  have f1' : zC (d + 3) q_Re_fillWithout [.ref 58, .ref b, .int (nI st), .int (0 : Int32), .int (-1 : Int32)] (xz_SH, I, J) = some (none, (xz_SH, I', J)) := f1
  simp (disch := omega) only [sh_is0, sh_gI0, sh_wI0, sh_wZ0, sh_gR0, sh_gR1, sh_gR2, sh_lI0, sh_lI1, sh_lI2, sh_sI0, sh_sI1, sh_sI2, sh_len0, sh_len1, sh_len2, sh_lZ0, sh_sZ0, sh_gJ0, sh_wJ0, sh_lR0, sh_lJ0, sh_sJ0, y_eo, y_eb, y_eI, y_eJ, y_eR, y_eV, y_in, nI_clamp, cond_true, y_eqI, y_ltI, y_leI, y_lit, nI_toInt, if_true, if_false, if_pos, if_neg, y_bIt, y_bIf, y_band, f1']
theorem y_Re_of (d : Nat) {a : y_A} {I : Nat → Nat → Int32} (J : Nat → Nat → Int64) (hA : y_vA a I) {p : Nat} (hp : p < 6) : zC (d + 1) q_Re_of [.ref 58, .int (nI p)] (xz_SH, I, J) = some (some (.int (y_o5 (a p))), (xz_SH, I, J)) := by
  refine b_Re_of _ _ _ _ _ ?_
  simp (disch := omega) only [sh_is0, sh_gI0, sh_wI0, sh_wZ0, sh_gR0, sh_gR1, sh_gR2, sh_lI0, sh_lI1, sh_lI2, sh_sI0, sh_sI1, sh_sI2, sh_len0, sh_len1, sh_len2, sh_lZ0, sh_sZ0, sh_gJ0, sh_wJ0, sh_lR0, sh_lJ0, sh_sJ0, y_eo, y_eb, y_eI, y_eJ, y_eR, y_eV, y_in, nI_clamp, cond_true, y_eqI, y_ltI, y_leI, y_lit, nI_toInt, if_true, if_false, if_pos, if_neg, y_bIt, y_bIf, y_band, (hA p hp).1]
