/-! undo -/
def y_unN (S : y_S) (I : Nat → Nat → Int32) : Nat → Nat → Int32 := xz_up (xz_up (xz_up (xz_up (xz_up (xz_up (xz_up (xz_up (xz_up I 92 0 (nI (S 0 0))) 92 1 (nI (S 1 0))) 92 7 (nI (S 0 1))) 92 8 (nI (S 0 2))) 92 9 (nI (S 0 3))) 92 10 (nI (S 0 4))) 92 11 (nI (S 7 0))) 92 12 (nI (S 11 0))) 92 13 (nI (S 15 0))
def y_unC (I : Nat → Nat → Int32) : Nat → Nat → Int32 := xz_row (xz_row I 93 (va_cpy (I 113) (I 93) 0 0 14)) 104 (va_cpy (I 114) (I 104) 0 0 6)
theorem y_stU (I : Nat → Nat → Int32) (J : Nat → Nat → Int64) (k f : Nat) (kl v : Int32) (hk : xz_in kl 9 = true) (hk2 : kl.toNatClampNeg = k) (hv : I 112 k = v) (K : xz_M → xz_Res) : (xz_o (xz_gR (xz_SH, I, J) 92 8 43) fun x => xz_o (xz_lI0 (xz_SH, I, J) 0 x kl) fun y => xz_o (xz_wI (xz_SH, I, J) 92 8 f y) fun M => K M) = K (xz_SH, xz_up I 92 f v, J) := by
  have e : xz_lI0 (xz_SH, I, J) 0 112 kl = some v := by
    have e0 : xz_lI0 (xz_SH, I, J) 0 112 kl = bif xz_in kl 9 then some (I 112 kl.toNatClampNeg) else none := rfl
    rw [e0, hk, hk2, hv]
    rfl
  show (xz_o (xz_lI0 (xz_SH, I, J) 0 112 kl) fun y => xz_o (xz_wI (xz_SH, I, J) 92 8 f y) fun M => K M) = _
  rw [e]
  rfl
theorem y_stV (I : Nat → Nat → Int32) (J : Nat → Nat → Int64) (K : xz_M → xz_Res) : (xz_o (xz_gR (xz_SH, I, J) 92 8 44) fun x => xz_o (xz_gR (xz_SH, I, J) 92 8 2) fun y => xz_o (xz_copy (xz_SH, I, J) x (0 : Int32) y (0 : Int32) (14 : Int32)) fun M => K M) = K (xz_SH, xz_row I 93 (va_cpy (I 113) (I 93) 0 0 14), J) := by
  show (xz_o (xz_copy (xz_SH, I, J) 113 (0 : Int32) 93 (0 : Int32) (14 : Int32)) fun M => K M) = _
  rw [y_c113]
  rfl
theorem y_stW (I : Nat → Nat → Int32) (J : Nat → Nat → Int64) (K : xz_M → xz_Res) : (xz_o (xz_gR (xz_SH, I, J) 92 8 45) fun x => xz_o (xz_gR (xz_SH, I, J) 92 8 20) fun y => xz_o (xz_copy (xz_SH, I, J) x (0 : Int32) y (0 : Int32) (6 : Int32)) fun M => K M) = K (xz_SH, xz_row I 104 (va_cpy (I 114) (I 104) 0 0 6), J) := by
  show (xz_o (xz_copy (xz_SH, I, J) 114 (0 : Int32) 104 (0 : Int32) (6 : Int32)) fun M => K M) = _
  rw [y_c114]
  rfl
theorem y_Mo_undo_b (d : Nat) {K : y_S} {I : Nat → Nat → Int32} (J : Nat → Nat → Int64) (h42 : I 92 42 = 1) (i0 : I 112 0 = nI (K 0 0)) (i1 : I 112 1 = nI (K 1 0)) (i2 : I 112 2 = nI (K 0 1)) (i3 : I 112 3 = nI (K 0 2)) (i4 : I 112 4 = nI (K 0 3)) (i5 : I 112 5 = nI (K 0 4)) (i6 : I 112 6 = nI (K 7 0)) (i7 : I 112 7 = nI (K 11 0)) (i8 : I 112 8 = nI (K 15 0)) (r : Option Value × xz_M) (h : zL (d + 2) q_Mo_undo 78 [(0, .ref 92), (1, .int (0 : Int32))] (xz_SH, y_unC (y_unN K I), J) = some r) : zC (d + 3) q_Mo_undo [.ref 92] (xz_SH, I, J) = some r := by
  have hi : ∀ k, y_unN K I 112 k = I 112 k := fun k => by unfold y_unN; simp (disch := omega) only [y_up_n]
  refine b_Mo_undo _ _ _ _ ?_
  have e0 : xz_gI (xz_SH, I, J) 92 8 42 = some 1 := by
    have e1 : xz_gI (xz_SH, I, J) 92 8 42 = some (I 92 42) := rfl
    rw [e1, h42]
  rw [e0, y_eo, if_neg (by decide)]
  refine (y_stU _ J 0 0 0 (nI (K 0 0)) (by decide) (by decide) (by simp (disch := omega) only [y_up_n, i0]) _).trans ?_
  refine (y_stU _ J 1 1 1 (nI (K 1 0)) (by decide) (by decide) (by simp (disch := omega) only [y_up_n, i1]) _).trans ?_
  refine (y_stU _ J 2 7 2 (nI (K 0 1)) (by decide) (by decide) (by simp (disch := omega) only [y_up_n, i2]) _).trans ?_
  refine (y_stU _ J 3 8 3 (nI (K 0 2)) (by decide) (by decide) (by simp (disch := omega) only [y_up_n, i3]) _).trans ?_
  refine (y_stU _ J 4 9 4 (nI (K 0 3)) (by decide) (by decide) (by simp (disch := omega) only [y_up_n, i4]) _).trans ?_
  refine (y_stU _ J 5 10 5 (nI (K 0 4)) (by decide) (by decide) (by simp (disch := omega) only [y_up_n, i5]) _).trans ?_
  refine (y_stU _ J 6 11 6 (nI (K 7 0)) (by decide) (by decide) (by simp (disch := omega) only [y_up_n, i6]) _).trans ?_
  refine (y_stU _ J 7 12 7 (nI (K 11 0)) (by decide) (by decide) (by simp (disch := omega) only [y_up_n, i7]) _).trans ?_
  refine (y_stU _ J 8 13 8 (nI (K 15 0)) (by decide) (by decide) (by simp (disch := omega) only [y_up_n, i8]) _).trans ?_
  refine (y_stV _ J _).trans ?_
  refine (y_stW _ J _).trans ?_
  have e : y_unC (y_unN K I) = xz_row (xz_row (y_unN K I) 93 (va_cpy (y_unN K I 113) (y_unN K I 93) 0 0 14)) 104 (va_cpy (xz_row (y_unN K I) 93 (va_cpy (y_unN K I 113) (y_unN K I 93) 0 0 14) 114) (xz_row (y_unN K I) 93 (va_cpy (y_unN K I 113) (y_unN K I 93) 0 0 14) 104) 0 0 6) := by
    rw [y_row_n (r' := 114) (by omega), y_row_n (r' := 104) (by omega)]
    rfl
  rw [e] at h
  unfold y_unN at h
  exact h
theorem y_unF (K : y_S) (I : Nat → Nat → Int32) : (y_unN K I 92 0 = nI (K 0 0) ∧ y_unN K I 92 7 = nI (K 0 1) ∧ y_unN K I 92 8 = nI (K 0 2) ∧ y_unN K I 92 9 = nI (K 0 3) ∧ y_unN K I 92 10 = nI (K 0 4)) ∧ y_unN K I 92 1 = nI (K 1 0) ∧ y_unN K I 92 11 = nI (K 7 0) ∧ y_unN K I 92 12 = nI (K 11 0) ∧ y_unN K I 92 13 = nI (K 15 0) := by
  unfold y_unN
  refine ⟨⟨?_, ?_, ?_, ?_, ?_⟩, ?_, ?_, ?_, ?_⟩
  · rw [y_up_n (Or.inr (by decide)), y_up_n (Or.inr (by decide)), y_up_n (Or.inr (by decide)), y_up_n (Or.inr (by decide)), y_up_n (Or.inr (by decide)), y_up_n (Or.inr (by decide)), y_up_n (Or.inr (by decide)), y_up_n (Or.inr (by decide)), y_up_e ⟨rfl, rfl⟩]
  · rw [y_up_n (Or.inr (by decide)), y_up_n (Or.inr (by decide)), y_up_n (Or.inr (by decide)), y_up_n (Or.inr (by decide)), y_up_n (Or.inr (by decide)), y_up_n (Or.inr (by decide)), y_up_e ⟨rfl, rfl⟩]
  · rw [y_up_n (Or.inr (by decide)), y_up_n (Or.inr (by decide)), y_up_n (Or.inr (by decide)), y_up_n (Or.inr (by decide)), y_up_n (Or.inr (by decide)), y_up_e ⟨rfl, rfl⟩]
  · rw [y_up_n (Or.inr (by decide)), y_up_n (Or.inr (by decide)), y_up_n (Or.inr (by decide)), y_up_n (Or.inr (by decide)), y_up_e ⟨rfl, rfl⟩]
  · rw [y_up_n (Or.inr (by decide)), y_up_n (Or.inr (by decide)), y_up_n (Or.inr (by decide)), y_up_e ⟨rfl, rfl⟩]
  · rw [y_up_n (Or.inr (by decide)), y_up_n (Or.inr (by decide)), y_up_n (Or.inr (by decide)), y_up_n (Or.inr (by decide)), y_up_n (Or.inr (by decide)), y_up_n (Or.inr (by decide)), y_up_n (Or.inr (by decide)), y_up_e ⟨rfl, rfl⟩]
  · rw [y_up_n (Or.inr (by decide)), y_up_n (Or.inr (by decide)), y_up_e ⟨rfl, rfl⟩]
  · rw [y_up_n (Or.inr (by decide)), y_up_e ⟨rfl, rfl⟩]
  · rw [y_up_e ⟨rfl, rfl⟩]
set_option maxHeartbeats 8000000 in
theorem y_Mo_undo (d : Nat) {K : y_S} (hok : y_okM K) (hox : y_okX K) {I : Nat → Nat → Int32} (J : Nat → Nat → Int64) (hI : y_vI K I) (h42 : I 92 42 = 1) : ∃ I', zC (d + 3) q_Mo_undo [.ref 92] (xz_SH, I, J) = some (some (.int (nI (y_lf K))), (xz_SH, I', J)) ∧ y_vR K I' ∧ y_vY K I' ∧ (∀ q, q < 92 ∨ 105 ≤ q → I' q = I q) ∧ ∀ j, 14 ≤ j → I' 92 j = I 92 j := by
  obtain ⟨k1, k2, k3, k4, k5, k6, k7, k8⟩ := id hok
  obtain ⟨⟨i0, i1, i2, i3, i4, i5, i6, i7, i8⟩, j1, j2, j3, j4⟩ := hI
  have n1 : ∀ q, q ≠ 92 → y_unN K I q = I q := fun q g1 => by
    unfold y_unN
    simp (disch := omega) only [y_up_r]
  have n2 : ∀ j, 14 ≤ j → y_unN K I 92 j = I 92 j := fun j g1 => by
    unfold y_unN
    simp (disch := omega) only [y_up_n]
  have m1 : ∀ q, q ≠ 93 → q ≠ 104 → y_unC (y_unN K I) q = y_unN K I q := fun q g1 g2 => by
    unfold y_unC
    simp (disch := omega) only [y_row_n]
  have h93 : ∀ m, m < K 1 0 → y_unC (y_unN K I) 93 m = nI (1 - K 6 m) := fun m hm => by
    unfold y_unC
    rw [y_row_n (by omega), y_row_e rfl, pk_cpy_in (by omega) (by omega), show 0 + (m - 0) = m by omega, n1 113 (by omega)]
    exact (j1 m hm).2.2.2.2
  have fld : ∀ I' : Nat → Nat → Int32, (∀ q, q < 94 ∨ 104 ≤ q → I' q = y_unC (y_unN K I) q) → (∀ i x, 0 ≤ i → i < 10 → x < y_ln i → I' (94 + i) x = y_unC (y_unN K I) (116 + i) x) → y_vR K I' ∧ y_vY K I' := by
    intro I' h1 h2
    have f92 : ∀ j, I' 92 j = y_unN K I 92 j := fun j => by rw [h1 92 (by omega), m1 92 (by omega) (by omega)]
    have rr : ∀ i x, i < 10 → x < y_ln i → I' (94 + i) x = I (116 + i) x := fun i x hi hx => by rw [h2 i x (by omega) hi hx, m1 (116 + i) (by omega) (by omega), n1 (116 + i) (by omega)]
    refine ⟨⟨⟨?_, ?_, ?_, ?_, ?_⟩, ?_, fun m hm => ?_⟩, ⟨?_, fun r hr => ?_⟩, ⟨?_, fun r hr => ?_⟩, ⟨?_, fun r hr => ?_⟩⟩
    · exact (f92 _).trans (y_unF K I).1.1
    · exact (f92 _).trans (y_unF K I).1.2.1
    · exact (f92 _).trans (y_unF K I).1.2.2.1
    · exact (f92 _).trans (y_unF K I).1.2.2.2.1
    · exact (f92 _).trans (y_unF K I).1.2.2.2.2
    · exact (f92 _).trans (y_unF K I).2.1
    · obtain ⟨t1, t2, t3, t4, t5⟩ := j1 m hm
      have l4 : ∀ i, i < 4 → m < y_ln i := fun i hi => by unfold y_ln; rw [if_pos hi]; omega
      refine ⟨(rr 0 m (by omega) (l4 0 (by omega))).trans t1, (rr 1 m (by omega) (l4 1 (by omega))).trans t2, (rr 2 m (by omega) (l4 2 (by omega))).trans t3, (rr 3 m (by omega) (l4 3 (by omega))).trans t4, ?_⟩
      rw [h1 93 (by omega)]
      exact h93 m hm
    · exact (f92 _).trans (y_unF K I).2.2.1
    · obtain ⟨t1, t2, t3⟩ := j2 r hr
      have h6 := hox.1.1
      have l4 : ∀ i, 4 ≤ i → i < 6 → r < y_ln i := fun i hi hi' => by unfold y_ln; rw [if_neg (by omega), if_pos hi']; omega
      refine ⟨(rr 4 r (by omega) (l4 4 (by omega) (by omega))).trans t1, (rr 5 r (by omega) (l4 5 (by omega) (by omega))).trans t2, ?_⟩
      rw [h1 104 (by omega)]
      unfold y_unC
      rw [y_row_e rfl, pk_cpy_in (by omega) (by omega), show 0 + (r - 0) = r by omega, n1 114 (by omega)]
      exact t3
    · exact (f92 _).trans (y_unF K I).2.2.2.1
    · obtain ⟨t1, t2⟩ := j3 r hr
      have h6 := hox.2.1.1
      have l4 : ∀ i, 6 ≤ i → r < y_ln i := fun i hi => by unfold y_ln; rw [if_neg (by omega), if_neg (by omega)]; omega
      exact ⟨(rr 6 r (by omega) (l4 6 (by omega))).trans t1, (rr 7 r (by omega) (l4 7 (by omega))).trans t2⟩
    · exact (f92 _).trans (y_unF K I).2.2.2.2
    · obtain ⟨t1, t2⟩ := j4 r hr
      have h6 := hox.2.2.1
      have l4 : ∀ i, 6 ≤ i → r < y_ln i := fun i hi => by unfold y_ln; rw [if_neg (by omega), if_neg (by omega)]; omega
      exact ⟨(rr 8 r (by omega) (l4 8 (by omega))).trans t1, (rr 9 r (by omega) (l4 9 (by omega))).trans t2⟩
  obtain ⟨I', f1, f2, _, f3⟩ := y_Mo_undo_l d hok J (fun _ => True) 10 0 (y_unC (y_unN K I)) rfl (fun I' h1 _ h3 => (fld I' h1 h3).1)
  have hf := fld I' f3 f2
  refine ⟨I', ?_, hf.1, hf.2, fun q hq => ?_, fun j hj => ?_⟩
  · exact y_Mo_undo_b d J h42 i0 i1 i2 i3 i4 i5 i6 i7 i8 _ f1
  · rw [f3 q (by omega), m1 q (by omega) (by omega), n1 q (by omega)]
  · rw [f3 92 (by omega), m1 92 (by omega) (by omega), n2 j hj]
