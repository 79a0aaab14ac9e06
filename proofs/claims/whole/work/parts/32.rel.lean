/-! THE RELATION of the class's heap and the reference's: both hold the numbers S; what each call may touch. S: 7 (seen), 8 who, 9 time, 10 so; 11 (events), 12 what, 13 n; 15 (booked), 16 who, 17 time -/
def y_okX (S : y_S) : Prop := (S 7 0 ≤ 6 ∧ ∀ r, r < S 7 0 → S 8 r < S 0 0 ∧ S 9 r ≤ 99 ∧ S 10 r ≤ 1) ∧ (S 11 0 ≤ 8 ∧ ∀ r, r < S 11 0 → (S 12 r = 0 ∧ S 13 r < S 1 0) ∨ (S 12 r = 1 ∧ S 13 r ≤ 9) ∨ (S 12 r = 2 ∧ S 13 r < S 0 0) ∨ (S 12 r = 3 ∧ S 13 r ≤ 99)) ∧ (S 15 0 ≤ 8 ∧ ∀ r, r < S 15 0 → S 16 r < S 0 0 ∧ S 17 r ≤ 99)
def y_vX (b : Nat) (S : y_S) (I : Nat → Nat → Int32) : Prop := (I (b + 7) 0 = nI (S 7 0) ∧ ∀ r, r < S 7 0 → I (b + 8) r = nI (S 8 r) ∧ I (b + 9) r = nI (S 9 r) ∧ I (b + 10) r = nI (S 10 r)) ∧ (I (b + 11) 0 = nI (S 11 0) ∧ ∀ r, r < S 11 0 → I (b + 12) r = nI (S 12 r) ∧ I (b + 13) r = nI (S 13 r)) ∧ (I (b + 15) 0 = nI (S 15 0) ∧ ∀ r, r < S 15 0 → I (b + 16) r = nI (S 16 r) ∧ I (b + 17) r = nI (S 17 r))
def y_vY (S : y_S) (I : Nat → Nat → Int32) : Prop := (I 92 11 = nI (S 7 0) ∧ ∀ r, r < S 7 0 → I 98 r = nI (S 8 r) ∧ I 99 r = nI (S 9 r) ∧ I 104 r = nI (S 10 r)) ∧ (I 92 12 = nI (S 11 0) ∧ ∀ r, r < S 11 0 → I 100 r = nI (S 12 r) ∧ I 101 r = nI (S 13 r)) ∧ (I 92 13 = nI (S 15 0) ∧ ∀ r, r < S 15 0 → I 102 r = nI (S 16 r) ∧ I 103 r = nI (S 17 r))
/-- the reference's image -/
def y_vI (K : y_S) (I : Nat → Nat → Int32) : Prop := (I 112 0 = nI (K 0 0) ∧ I 112 1 = nI (K 1 0) ∧ I 112 2 = nI (K 0 1) ∧ I 112 3 = nI (K 0 2) ∧ I 112 4 = nI (K 0 3) ∧ I 112 5 = nI (K 0 4) ∧ I 112 6 = nI (K 7 0) ∧ I 112 7 = nI (K 11 0) ∧ I 112 8 = nI (K 15 0)) ∧ (∀ m, m < K 1 0 → I 116 m = nI (K 2 m) ∧ I 117 m = nI (K 3 m) ∧ I 118 m = nI (K 4 m) ∧ I 119 m = nI (K 5 m) ∧ I 113 m = nI (1 - K 6 m)) ∧ (∀ r, r < K 7 0 → I 120 r = nI (K 8 r) ∧ I 121 r = nI (K 9 r) ∧ I 114 r = nI (K 10 r)) ∧ (∀ r, r < K 11 0 → I 122 r = nI (K 12 r) ∧ I 123 r = nI (K 13 r)) ∧ ∀ r, r < K 15 0 → I 124 r = nI (K 16 r) ∧ I 125 r = nI (K 17 r)
def y_kept (I : Nat → Nat → Int32) : Prop := ∃ e : Bool, I 0 7 = y_bI e ∧ I 92 42 = y_bI e ∧ (e = true → ∃ K, y_okM K ∧ y_okX K ∧ y_vM 20 K I ∧ y_vX 20 K I ∧ y_vI K I)
def y_text (I : Nat → Nat → Int32) : Prop := ∃ (n : Nat) (g : Nat → Nat), n ≤ 100 ∧ I 66 0 = nI n ∧ I 92 22 = nI n ∧ ∀ k, k < n → g k ≤ 127 ∧ I 67 k = nI (g k) ∧ I 105 k = nI (g k)
def y_tape (I : Nat → Nat → Int32) (J : Nat → Nat → Int64) : Prop := ∀ t, t < 6 → I 126 t = I 83 t ∧ (-1 ≤ (I 83 t).toInt ∧ (I 83 t).toInt ≤ 4) ∧ (∃ n, n ≤ 60 ∧ I 84 t = nI n ∧ I 127 t = nI n ∧ (I 83 t = -1 → n = 0)) ∧ (∀ k, k < 60 → J (129 + t) k = J (86 + t) k) ∧ (I 83 t = 0 → ∀ k, k < 60 → -128 ≤ (J (86 + t) k).toInt ∧ (J (86 + t) k).toInt ≤ 127)
def y_cst (I : Nat → Nat → Int32) : Prop := I 8 1 = 6 ∧ I 12 1 = 8 ∧ I 16 1 = 8
def y_Z (S : y_S) (I : Nat → Nat → Int32) (J : Nat → Nat → Int64) : Prop := (y_okM S ∧ y_okX S) ∧ (y_vM 1 S I ∧ y_vX 1 S I) ∧ (y_vR S I ∧ y_vY S I) ∧ y_kept I ∧ y_text I ∧ y_tape I J ∧ y_cst I
theorem y_vX_of {b : Nat} {S : y_S} {I I' : Nat → Nat → Int32} (h : ∀ q, b + 7 ≤ q → q < b + 18 → I' q = I q) (hS : y_vX b S I) : y_vX b S I' := by
  unfold y_vX at *
  rw [h (b + 7) (by omega) (by omega), h (b + 8) (by omega) (by omega), h (b + 9) (by omega) (by omega), h (b + 10) (by omega) (by omega), h (b + 11) (by omega) (by omega), h (b + 12) (by omega) (by omega), h (b + 13) (by omega) (by omega), h (b + 15) (by omega) (by omega), h (b + 16) (by omega) (by omega), h (b + 17) (by omega) (by omega)]
  exact hS
theorem y_vR_of {S : y_S} {I I' : Nat → Nat → Int32} (h : ∀ q, 93 ≤ q → q < 98 → I' q = I q) (h9 : ∀ j, j < 11 → I' 92 j = I 92 j) (hS : y_vR S I) : y_vR S I' := by
  unfold y_vR at *
  rw [h9 0 (by omega), h9 7 (by omega), h9 8 (by omega), h9 9 (by omega), h9 10 (by omega), h9 1 (by omega), h 93 (by omega) (by omega), h 94 (by omega) (by omega), h 95 (by omega) (by omega), h 96 (by omega) (by omega), h 97 (by omega) (by omega)]
  exact hS
theorem y_vY_of {S : y_S} {I I' : Nat → Nat → Int32} (h : ∀ q, 98 ≤ q → q < 105 → I' q = I q) (h9 : ∀ j, 11 ≤ j → j < 14 → I' 92 j = I 92 j) (hS : y_vY S I) : y_vY S I' := by
  unfold y_vY at *
  rw [h9 11 (by omega) (by omega), h9 12 (by omega) (by omega), h9 13 (by omega) (by omega), h 98 (by omega) (by omega), h 99 (by omega) (by omega), h 100 (by omega) (by omega), h 101 (by omega) (by omega), h 102 (by omega) (by omega), h 103 (by omega) (by omega), h 104 (by omega) (by omega)]
  exact hS
theorem y_vI_of {S : y_S} {I I' : Nat → Nat → Int32} (h : ∀ q, 112 ≤ q → q < 126 → I' q = I q) (hS : y_vI S I) : y_vI S I' := by
  unfold y_vI at *
  rw [h 112 (by omega) (by omega), h 113 (by omega) (by omega), h 114 (by omega) (by omega), h 116 (by omega) (by omega), h 117 (by omega) (by omega), h 118 (by omega) (by omega), h 119 (by omega) (by omega), h 120 (by omega) (by omega), h 121 (by omega) (by omega), h 122 (by omega) (by omega), h 123 (by omega) (by omega), h 124 (by omega) (by omega), h 125 (by omega) (by omega)]
  exact hS
theorem y_kept_of {I I' : Nat → Nat → Int32} (h : ∀ q, (20 ≤ q ∧ q < 39) ∨ (112 ≤ q ∧ q < 126) → I' q = I q) (h0 : I' 0 7 = I 0 7) (h9 : I' 92 42 = I 92 42) (hS : y_kept I) : y_kept I' := by
  obtain ⟨e, h1, h2, h3⟩ := hS
  refine ⟨e, by rw [h0]; exact h1, by rw [h9]; exact h2, fun he => ?_⟩
  obtain ⟨K, k1, k2, k3, k4, k5⟩ := h3 he
  exact ⟨K, k1, k2, y_vM_of (fun q _ _ => h q (by omega)) k3, y_vX_of (fun q _ _ => h q (by omega)) k4, y_vI_of (fun q _ _ => h q (by omega)) k5⟩
theorem y_text_of {I I' : Nat → Nat → Int32} (h66 : I' 66 0 = I 66 0) (h92 : I' 92 22 = I 92 22) (h67 : I' 67 = I 67) (h105 : I' 105 = I 105) (hS : y_text I) : y_text I' := by
  unfold y_text at *
  rw [h66, h92, h67, h105]
  exact hS
theorem y_tape_of {I I' : Nat → Nat → Int32} {J J' : Nat → Nat → Int64} (h : ∀ q, q = 83 ∨ q = 84 ∨ q = 126 ∨ q = 127 → I' q = I q) (hJ : ∀ q, (86 ≤ q ∧ q < 92) ∨ (129 ≤ q ∧ q < 135) → J' q = J q) (hS : y_tape I J) : y_tape I' J' := by
  intro t ht
  have := hS t ht
  rw [h 83 (by omega), h 84 (by omega), h 126 (by omega), h 127 (by omega), hJ (129 + t) (by omega), hJ (86 + t) (by omega)]
  exact this
theorem y_cst_of {I I' : Nat → Nat → Int32} (h8 : I' 8 1 = I 8 1) (h12 : I' 12 1 = I 12 1) (h16 : I' 16 1 = I 16 1) (hS : y_cst I) : y_cst I' := by
  unfold y_cst at *
  rw [h8, h12, h16]
  exact hS
/-- only what serves a call was touched -/
def y_sm (I I' : Nat → Nat → Int32) (J J' : Nat → Nat → Int64) : Prop := (∀ q, (q < 39 ∨ 66 ≤ q) → q ≠ 92 → (q < 108 ∨ 112 ≤ q) → I' q = I q) ∧ (∀ j, j < 28 ∨ 38 ≤ j → I' 92 j = I 92 j) ∧ ∀ q, q ≠ 60 → q ≠ 92 → J' q = J q
theorem y_sm_r (I : Nat → Nat → Int32) (J : Nat → Nat → Int64) : y_sm I I J J := ⟨fun _ _ _ _ => rfl, fun _ _ => rfl, fun _ _ _ => rfl⟩
theorem y_sm_t {I I' I'' : Nat → Nat → Int32} {J J' J'' : Nat → Nat → Int64} (h : y_sm I I' J J') (h' : y_sm I' I'' J' J'') : y_sm I I'' J J'' := ⟨fun q h1 h2 h3 => (h'.1 q h1 h2 h3).trans (h.1 q h1 h2 h3), fun j hj => (h'.2.1 j hj).trans (h.2.1 j hj), fun q h1 h2 => (h'.2.2 q h1 h2).trans (h.2.2 q h1 h2)⟩
theorem y_Z_sm {S : y_S} {I I' : Nat → Nat → Int32} {J J' : Nat → Nat → Int64} (h : y_sm I I' J J') (hZ : y_Z S I J) : y_Z S I' J' := by
  obtain ⟨z1, ⟨z2, z3⟩, ⟨z4, z5⟩, z6, z7, z8, z9⟩ := hZ
  obtain ⟨h1, h2, h3⟩ := h
  refine ⟨z1, ⟨y_vM_of (fun q _ _ => h1 q (by omega) (by omega) (by omega)) z2, y_vX_of (fun q _ _ => h1 q (by omega) (by omega) (by omega)) z3⟩, ⟨y_vR_of (fun q _ _ => h1 q (by omega) (by omega) (by omega)) (fun j _ => h2 j (by omega)) z4, y_vY_of (fun q _ _ => h1 q (by omega) (by omega) (by omega)) (fun j _ _ => h2 j (by omega)) z5⟩, y_kept_of (fun q _ => h1 q (by omega) (by omega) (by omega)) (by rw [h1 0 (by omega) (by omega) (by omega)]) (h2 42 (by omega)) z6, y_text_of (by rw [h1 66 (by omega) (by omega) (by omega)]) (h2 22 (by omega)) (h1 67 (by omega) (by omega) (by omega)) (h1 105 (by omega) (by omega) (by omega)) z7, y_tape_of (fun q _ => h1 q (by omega) (by omega) (by omega)) (fun q _ => h3 q (by omega) (by omega)) z8, y_cst_of (by rw [h1 8 (by omega) (by omega) (by omega)]) (by rw [h1 12 (by omega) (by omega) (by omega)]) (by rw [h1 16 (by omega) (by omega) (by omega)]) z9⟩
def zR (M : xz_M) : Prop := ∃ (S : y_S) (I : Nat → Nat → Int32) (J : Nat → Nat → Int64), M = (xz_SH, I, J) ∧ y_Z S I J
/-- a call that only asks: int, long -/
def y_qI (q r : Nat) (as : List Value) (S : y_S) (v : Int32) : Prop := ∀ I J, y_Z S I J → ∃ I' J', zC 60 q (.ref r :: as) (xz_SH, I, J) = some (some (.int v), (xz_SH, I', J')) ∧ y_sm I I' J J'
def y_qJ (q r : Nat) (as : List Value) (S : y_S) (v : Int64) : Prop := ∀ I J, y_Z S I J → ∃ I' J', zC 60 q (.ref r :: as) (xz_SH, I, J) = some (some (.long v), (xz_SH, I', J')) ∧ y_sm I I' J J'
theorem y_simI {q q' : Nat} {as : List Value} (h : ∀ S, y_okM S → y_okX S → ∃ v, y_qI q 0 as S v ∧ y_qI q' 92 as S v) : zSI zR q q' as := by
  rintro M ⟨S, I, J, rfl, hZ⟩
  obtain ⟨v, h1, h2⟩ := h S hZ.1.1 hZ.1.2
  obtain ⟨I1, J1, f1, f2⟩ := h1 I J hZ
  have hZ1 := y_Z_sm f2 hZ
  obtain ⟨I2, J2, g1, g2⟩ := h2 I1 J1 hZ1
  exact ⟨v, _, _, f1, rfl, g1, S, I2, J2, rfl, y_Z_sm g2 hZ1⟩
theorem y_simJ {q q' : Nat} {as : List Value} (h : ∀ S, y_okM S → y_okX S → ∃ v, y_qJ q 0 as S v ∧ y_qJ q' 92 as S v) : zSJ zR q q' as := by
  rintro M ⟨S, I, J, rfl, hZ⟩
  obtain ⟨v, h1, h2⟩ := h S hZ.1.1 hZ.1.2
  obtain ⟨I1, J1, f1, f2⟩ := h1 I J hZ
  have hZ1 := y_Z_sm f2 hZ
  obtain ⟨I2, J2, g1, g2⟩ := h2 I1 J1 hZ1
  exact ⟨v, _, _, f1, rfl, g1, S, I2, J2, rfl, y_Z_sm g2 hZ1⟩
theorem y_sm_fw {I I' : Nat → Nat → Int32} {J J' : Nat → Nat → Int64} (h : y_fw I I' J J') : y_sm I I' J J' := ⟨fun q h1 h2 h3 => h.1 q (by omega), fun j _ => by rw [h.1 92 (by omega)], fun q h1 h2 => h.2 q h1⟩
theorem y_sm_59 {I I' : Nat → Nat → Int32} (J : Nat → Nat → Int64) (h : ∀ q, q ≠ 59 → I' q = I q) : y_sm I I' J J := ⟨fun q h1 h2 h3 => h q (by omega), fun j _ => by rw [h 92 (by omega)], fun q h1 h2 => rfl⟩
theorem y_sm_fd {I I' : Nat → Nat → Int32} {J J' : Nat → Nat → Int64} (h1 : ∀ q, q ≠ 92 → q ≠ 108 → q ≠ 109 → I' q = I q) (h2 : ∀ j, j < 28 ∨ 38 ≤ j → I' 92 j = I 92 j) (h3 : ∀ q, q ≠ 92 → J' q = J q) : y_sm I I' J J' := ⟨fun q g1 g2 g3 => h1 q (by omega) (by omega) (by omega), h2, fun q _ g => h3 q g⟩
