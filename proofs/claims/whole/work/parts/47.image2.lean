/-! image, undo -/
theorem y_li : (xz_in (0 : Int32) 9 = true ∧ xz_in (1 : Int32) 9 = true ∧ xz_in (2 : Int32) 9 = true ∧ xz_in (3 : Int32) 9 = true ∧ xz_in (4 : Int32) 9 = true ∧ xz_in (5 : Int32) 9 = true ∧ xz_in (6 : Int32) 9 = true ∧ xz_in (7 : Int32) 9 = true ∧ xz_in (8 : Int32) 9 = true) ∧ ((0 : Int32).toNatClampNeg = 0 ∧ (1 : Int32).toNatClampNeg = 1 ∧ (2 : Int32).toNatClampNeg = 2 ∧ (3 : Int32).toNatClampNeg = 3 ∧ (4 : Int32).toNatClampNeg = 4 ∧ (5 : Int32).toNatClampNeg = 5 ∧ (6 : Int32).toNatClampNeg = 6 ∧ (7 : Int32).toNatClampNeg = 7 ∧ (8 : Int32).toNatClampNeg = 8) := by decide +kernel
def y_imN (S : y_S) (I : Nat → Nat → Int32) : Nat → Nat → Int32 := xz_up (xz_up (xz_up (xz_up (xz_up (xz_up (xz_up (xz_up (xz_up (xz_up I 92 42 1) 112 0 (nI (S 0 0))) 112 1 (nI (S 1 0))) 112 2 (nI (S 0 1))) 112 3 (nI (S 0 2))) 112 4 (nI (S 0 3))) 112 5 (nI (S 0 4))) 112 6 (nI (S 7 0))) 112 7 (nI (S 11 0))) 112 8 (nI (S 15 0))
def y_imC (I : Nat → Nat → Int32) : Nat → Nat → Int32 := xz_row (xz_row I 113 (va_cpy (I 93) (I 113) 0 0 14)) 114 (va_cpy (I 104) (I 114) 0 0 6)
theorem y_c93 (I : Nat → Nat → Int32) (J : Nat → Nat → Int64) : xz_copy (xz_SH, I, J) 93 (0 : Int32) 113 (0 : Int32) (14 : Int32) = some (xz_SH, xz_row I 113 (va_cpy (I 93) (I 113) 0 0 14), J) := y_cpI (sp := 0) (dp := 0) (n := 14) (L := 14) (L' := 14) (e := []) (e' := []) (kd := 1) (by rfl) (by rfl) (by decide) (by omega) (by omega) (by decide) (by decide)
theorem y_c104 (I : Nat → Nat → Int32) (J : Nat → Nat → Int64) : xz_copy (xz_SH, I, J) 104 (0 : Int32) 114 (0 : Int32) (6 : Int32) = some (xz_SH, xz_row I 114 (va_cpy (I 104) (I 114) 0 0 6), J) := y_cpI (sp := 0) (dp := 0) (n := 6) (L := 6) (L' := 6) (e := []) (e' := []) (kd := 1) (by rfl) (by rfl) (by decide) (by omega) (by omega) (by decide) (by decide)
theorem y_c113 (I : Nat → Nat → Int32) (J : Nat → Nat → Int64) : xz_copy (xz_SH, I, J) 113 (0 : Int32) 93 (0 : Int32) (14 : Int32) = some (xz_SH, xz_row I 93 (va_cpy (I 113) (I 93) 0 0 14), J) := y_cpI (sp := 0) (dp := 0) (n := 14) (L := 14) (L' := 14) (e := []) (e' := []) (kd := 1) (by rfl) (by rfl) (by decide) (by omega) (by omega) (by decide) (by decide)
theorem y_c114 (I : Nat → Nat → Int32) (J : Nat → Nat → Int64) : xz_copy (xz_SH, I, J) 114 (0 : Int32) 104 (0 : Int32) (6 : Int32) = some (xz_SH, xz_row I 104 (va_cpy (I 114) (I 104) 0 0 6), J) := y_cpI (sp := 0) (dp := 0) (n := 6) (L := 6) (L' := 6) (e := []) (e' := []) (kd := 1) (by rfl) (by rfl) (by decide) (by omega) (by omega) (by decide) (by decide)
set_option maxHeartbeats 8000000 in
theorem y_Mo_image (d : Nat) {S : y_S} (hok : y_okM S) (hox : y_okX S) {I : Nat → Nat → Int32} (J : Nat → Nat → Int64) (hR : y_vR S I) (hY : y_vY S I) : ∃ I', zC (d + 3) q_Mo_image [.ref 92] (xz_SH, I, J) = some (some (.int (nI (y_lf S))), (xz_SH, I', J)) ∧ y_vI S I' ∧ I' 92 42 = 1 ∧ (∀ q, q < 92 ∨ (93 ≤ q ∧ q < 112) ∨ 126 ≤ q → I' q = I q) ∧ ∀ j, j ≠ 42 → I' 92 j = I 92 j := by
  obtain ⟨k1, k2, k3, k4, k5, k6, k7, k8⟩ := id hok
  obtain ⟨⟨c0, c1, c2, c3, c4⟩, h1, h2⟩ := id hR
  obtain ⟨⟨x1, x2⟩, ⟨x3, x4⟩, ⟨x5, x6⟩⟩ := id hY
  have n1 : ∀ q, q ≠ 92 → q ≠ 112 → y_imN S I q = I q := fun q g1 g2 => by
    unfold y_imN
    simp (disch := omega) only [y_up_r]
  have n2 : ∀ j, j ≠ 42 → y_imN S I 92 j = I 92 j := fun j g1 => by
    unfold y_imN
    simp (disch := omega) only [y_up_n]
  have n3 : y_imN S I 92 42 = 1 := by
    unfold y_imN
    simp (maxSteps := 1000000) (disch := omega) only [y_up_e, y_up_n, y_ps_e, y_ps_n]
  have m1 : ∀ q, q ≠ 113 → q ≠ 114 → y_imC (y_imN S I) q = y_imN S I q := fun q g1 g2 => by
    unfold y_imC
    simp (disch := omega) only [y_row_n]
  have hR1 : y_vR S (y_imC (y_imN S I)) := y_vR_of (fun q _ _ => by rw [m1 q (by omega) (by omega), n1 q (by omega) (by omega)]) (fun j _ => by rw [m1 92 (by omega) (by omega), n2 j (by omega)]) hR
  obtain ⟨I', f1, f2, f3⟩ := y_Mo_image_l d hok J 10 0 (y_imC (y_imN S I)) rfl hR1
  have o1 : ∀ q, q < 116 ∨ 126 ≤ q → I' q = y_imC (y_imN S I) q := fun q hq => f3 q (by omega)
  refine ⟨I', ?_, ⟨⟨?_, ?_, ?_, ?_, ?_, ?_, ?_, ?_, ?_⟩, fun m hm => ?_, fun r hr => ?_, fun r hr => ?_, fun r hr => ?_⟩, ?_, fun q hq => ?_, fun j hj => ?_⟩
  · refine b_Mo_image _ _ _ _ ?_
    simp (maxSteps := 1000000) (disch := omega) only [sh_gI0, sh_wI0, sh_wZ0, sh_gR0, sh_gR1, sh_gR2, sh_sI0, sh_sI1, sh_sI2, y_eo, y_z1, cond_true, y_li, y_up_n, c0, c1, c2, c3, c4, h1, x1, x3, x5, y_c93, y_c104, y_row_n]
    have e : xz_row (xz_row (y_imN S I) 113 (va_cpy (y_imN S I 93) (y_imN S I 113) 0 0 14)) 114 (va_cpy (y_imN S I 104) (y_imN S I 114) 0 0 6) = y_imC (y_imN S I) := rfl
    have f1' := f1
    rw [← e] at f1'
    unfold y_imN at f1'
    exact f1'
  · rw [o1 112 (by omega), m1 112 (by omega) (by omega)]; unfold y_imN; simp (maxSteps := 1000000) (disch := omega) only [y_up_e, y_up_n, y_ps_e, y_ps_n]
  · rw [o1 112 (by omega), m1 112 (by omega) (by omega)]; unfold y_imN; simp (maxSteps := 1000000) (disch := omega) only [y_up_e, y_up_n, y_ps_e, y_ps_n]
  · rw [o1 112 (by omega), m1 112 (by omega) (by omega)]; unfold y_imN; simp (maxSteps := 1000000) (disch := omega) only [y_up_e, y_up_n, y_ps_e, y_ps_n]
  · rw [o1 112 (by omega), m1 112 (by omega) (by omega)]; unfold y_imN; simp (maxSteps := 1000000) (disch := omega) only [y_up_e, y_up_n, y_ps_e, y_ps_n]
  · rw [o1 112 (by omega), m1 112 (by omega) (by omega)]; unfold y_imN; simp (maxSteps := 1000000) (disch := omega) only [y_up_e, y_up_n, y_ps_e, y_ps_n]
  · rw [o1 112 (by omega), m1 112 (by omega) (by omega)]; unfold y_imN; simp (maxSteps := 1000000) (disch := omega) only [y_up_e, y_up_n, y_ps_e, y_ps_n]
  · rw [o1 112 (by omega), m1 112 (by omega) (by omega)]; unfold y_imN; simp (maxSteps := 1000000) (disch := omega) only [y_up_e, y_up_n, y_ps_e, y_ps_n]
  · rw [o1 112 (by omega), m1 112 (by omega) (by omega)]; unfold y_imN; simp (maxSteps := 1000000) (disch := omega) only [y_up_e, y_up_n, y_ps_e, y_ps_n]
  · rw [o1 112 (by omega), m1 112 (by omega) (by omega)]; unfold y_imN; simp (maxSteps := 1000000) (disch := omega) only [y_up_e, y_up_n, y_ps_e, y_ps_n]
  · obtain ⟨t1, t2, t3, t4, t5⟩ := h2 m hm
    have rr : ∀ i, i < 4 → I' (116 + i) m = I (94 + i) m := fun i hi => by
      rw [f2 i m (by omega) (by omega) (by unfold y_ln; rw [if_pos hi]; omega), m1 (94 + i) (by omega) (by omega), n1 (94 + i) (by omega) (by omega)]
    refine ⟨(rr 0 (by omega)).trans t1, (rr 1 (by omega)).trans t2, (rr 2 (by omega)).trans t3, (rr 3 (by omega)).trans t4, ?_⟩
    rw [o1 113 (by omega)]
    unfold y_imC
    rw [y_row_n (by omega), y_row_e rfl, pk_cpy_in (by omega) (by omega), show 0 + (m - 0) = m by omega, n1 93 (by omega) (by omega)]
    exact t5
  · obtain ⟨t1, t2, t3⟩ := x2 r hr
    have h6 := hox.1.1
    have rr : ∀ i, 4 ≤ i → i < 6 → I' (116 + i) r = I (94 + i) r := fun i hi hi' => by
      rw [f2 i r (by omega) (by omega) (by unfold y_ln; rw [if_neg (by omega), if_pos hi']; omega), m1 (94 + i) (by omega) (by omega), n1 (94 + i) (by omega) (by omega)]
    refine ⟨(rr 4 (by omega) (by omega)).trans t1, (rr 5 (by omega) (by omega)).trans t2, ?_⟩
    rw [o1 114 (by omega)]
    unfold y_imC
    rw [y_row_e rfl, pk_cpy_in (by omega) (by omega), show 0 + (r - 0) = r by omega, n1 104 (by omega) (by omega)]
    exact t3
  · obtain ⟨t1, t2⟩ := x4 r hr
    have h6 := hox.2.1.1
    have rr : ∀ i, 6 ≤ i → i < 10 → I' (116 + i) r = I (94 + i) r := fun i hi hi' => by
      rw [f2 i r (by omega) (by omega) (by unfold y_ln; rw [if_neg (by omega), if_neg (by omega)]; omega), m1 (94 + i) (by omega) (by omega), n1 (94 + i) (by omega) (by omega)]
    exact ⟨(rr 6 (by omega) (by omega)).trans t1, (rr 7 (by omega) (by omega)).trans t2⟩
  · obtain ⟨t1, t2⟩ := x6 r hr
    have h6 := hox.2.2.1
    have rr : ∀ i, 6 ≤ i → i < 10 → I' (116 + i) r = I (94 + i) r := fun i hi hi' => by
      rw [f2 i r (by omega) (by omega) (by unfold y_ln; rw [if_neg (by omega), if_neg (by omega)]; omega), m1 (94 + i) (by omega) (by omega), n1 (94 + i) (by omega) (by omega)]
    exact ⟨(rr 8 (by omega) (by omega)).trans t1, (rr 9 (by omega) (by omega)).trans t2⟩
  · rw [o1 92 (by omega), m1 92 (by omega) (by omega)]; exact n3
  · rw [o1 q (by omega), m1 q (by omega) (by omega), n1 q (by omega) (by omega)]
  · rw [o1 92 (by omega), m1 92 (by omega) (by omega), n2 j hj]
theorem y_s_image : zSI zR q_HR_image q_Mo_image [] := by
  rintro M ⟨S, I, J, rfl, z1, ⟨z2, z3⟩, ⟨z4, z5⟩, z6, z7, z8, z9⟩
  obtain ⟨I1, f1, f2, f3, _, f5⟩ := y_Se_become 57 (b := 20) (b' := 1) (Or.inr (Or.inl rfl)) (Or.inl rfl) (by omega) z1.1 z1.2 J z2 z3
  have a1 : ∀ q, q ≠ 0 → (q < 20 ∨ 39 ≤ q) → xz_up I1 0 7 1 q = I q := fun q h1 h2 => by rw [y_up_r h1, f5 q (by omega)]
  have hM2 : y_vM 1 S (xz_up I1 0 7 1) := y_vM_of (fun q _ _ => a1 q (by omega) (by omega)) z2
  have hlf := y_Me_left 58 (Or.inl rfl) J hM2 z1.1
  have hcl : zC 60 q_HR_image [.ref 0] (xz_SH, I, J) = some (some (.int (nI (y_lf S))), (xz_SH, xz_up I1 0 7 1, J)) := by
    refine b_HR_image _ _ _ _ ?_
    simp (maxSteps := 1000000) (disch := omega) only [sh_is0, sh_gI0, sh_wI0, sh_wZ0, sh_gR0, sh_gR1, sh_gR2, sh_lI0, sh_lI1, sh_lI2, sh_sI0, sh_sI1, sh_sI2, sh_len0, sh_len1, sh_len2, sh_lZ0, sh_sZ0, sh_gJ0, sh_wJ0, sh_lR0, sh_lJ0, sh_sJ0, y_eo, y_eb, y_eI, y_eJ, y_eR, y_eV, y_in, nI_clamp, cond_true, y_eqI, y_ltI, y_leI, y_lit, nI_toInt, if_true, if_false, if_pos, if_neg, y_bIt, y_bIf, y_band, f1, y_z1, hlf]
  obtain ⟨I2, g1, g2, g3, g4, g5⟩ := y_Mo_image 57 z1.1 z1.2 J (y_vR_of (fun q _ _ => a1 q (by omega) (by omega)) (fun j _ => by rw [a1 92 (by omega) (by omega)]) z4) (y_vY_of (fun q _ _ => a1 q (by omega) (by omega)) (fun j _ _ => by rw [a1 92 (by omega) (by omega)]) z5)
  have b1 : ∀ q, q ≠ 0 → (q < 20 ∨ (39 ≤ q ∧ q < 92) ∨ (93 ≤ q ∧ q < 112) ∨ 126 ≤ q) → I2 q = I q := fun q h1 h2 => by rw [g4 q (by omega), a1 q h1 (by omega)]
  have b2 : ∀ q, 20 ≤ q → q < 39 → I2 q = I1 q := fun q h1 h2 => by rw [g4 q (by omega), y_up_r (by omega)]
  have b3 : ∀ j, j ≠ 42 → I2 92 j = I 92 j := fun j hj => by rw [g5 j hj, a1 92 (by omega) (by omega)]
  refine ⟨_, _, _, hcl, rfl, g1, S, I2, J, rfl, z1, ⟨y_vM_of (fun q _ _ => b1 q (by omega) (by omega)) z2, y_vX_of (fun q _ _ => b1 q (by omega) (by omega)) z3⟩, ⟨y_vR_of (fun q _ _ => b1 q (by omega) (by omega)) (fun j _ => b3 j (by omega)) z4, y_vY_of (fun q _ _ => b1 q (by omega) (by omega)) (fun j _ _ => b3 j (by omega)) z5⟩, ⟨true, ?_, g3, fun _ => ⟨S, z1.1, z1.2, y_vM_of (fun q _ _ => b2 q (by omega) (by omega)) f2, y_vX_of (fun q _ _ => b2 q (by omega) (by omega)) f3, g2⟩⟩, y_text_of ?_ ?_ ?_ ?_ z7, y_tape_of (fun q _ => b1 q (by omega) (by omega)) (fun _ _ => rfl) z8, y_cst_of ?_ ?_ ?_ z9⟩
  · rw [g4 0 (by omega), y_up_e ⟨rfl, rfl⟩]
    rfl
  · rw [b1 66 (by omega) (by omega)]
  · exact b3 22 (by omega)
  · exact b1 67 (by omega) (by omega)
  · exact b1 105 (by omega) (by omega)
  · rw [b1 8 (by omega) (by omega)]
  · rw [b1 12 (by omega) (by omega)]
  · rw [b1 16 (by omega) (by omega)]
