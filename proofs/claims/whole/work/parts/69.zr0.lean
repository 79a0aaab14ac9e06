def y_S0 : y_S := fun a b => if a = 0 ∧ b = 0 then 3 else if a = 0 ∧ b = 1 then 1 else if a = 0 ∧ b = 3 then 1 else 0
theorem y_Z0 {I : Nat → Nat → Int32} {J : Nat → Nat → Int64} (h : ∀ q j m, (q, m) ∈ xz_pts → j < m → I q j = xz_i0 q j) (hJ : ∀ q j, q ∈ ([86, 87, 88, 89, 90, 91] : List Nat) → j < 60 → J q j = 0) (hJ' : ∀ q j, q ∈ ([129, 130, 131, 132, 133, 134] : List Nat) → j < 60 → J q j = 0) : y_Z y_S0 I J := by
  have no : ∀ {P : Nat → Prop}, ∀ m, m < 0 → P m := fun m hm => absurd hm (Nat.not_lt_zero _)
  refine ⟨⟨⟨by decide, by decide, by decide, by decide, by decide, by decide, by decide, no⟩, ⟨by decide, no⟩, ⟨by decide, no⟩, ⟨by decide, no⟩⟩, ⟨⟨⟨?_, ?_, ?_, ?_, ?_⟩, ?_, no⟩, ⟨?_, no⟩, ⟨?_, no⟩, ⟨?_, no⟩⟩, ⟨⟨⟨?_, ?_, ?_, ?_, ?_⟩, ?_, no⟩, ⟨?_, no⟩, ⟨?_, no⟩, ⟨?_, no⟩⟩, ⟨false, ?_, ?_, fun h => (by cases h)⟩, ⟨0, fun _ => 0, by omega, ?_, ?_, no⟩, fun t ht => ?_, ?_, ?_, ?_⟩
  · exact (h 1 0 9 (by decide) (by decide)).trans (by decide)
  · exact (h 1 1 9 (by decide) (by decide)).trans (by decide)
  · exact (h 1 2 9 (by decide) (by decide)).trans (by decide)
  · exact (h 1 3 9 (by decide) (by decide)).trans (by decide)
  · exact (h 1 4 9 (by decide) (by decide)).trans (by decide)
  · exact (h 2 0 6 (by decide) (by decide)).trans (by decide)
  · exact (h 8 0 5 (by decide) (by decide)).trans (by decide)
  · exact (h 12 0 5 (by decide) (by decide)).trans (by decide)
  · exact (h 16 0 5 (by decide) (by decide)).trans (by decide)
  · exact (h 92 0 51 (by decide) (by decide)).trans (by decide)
  · exact (h 92 7 51 (by decide) (by decide)).trans (by decide)
  · exact (h 92 8 51 (by decide) (by decide)).trans (by decide)
  · exact (h 92 9 51 (by decide) (by decide)).trans (by decide)
  · exact (h 92 10 51 (by decide) (by decide)).trans (by decide)
  · exact (h 92 1 51 (by decide) (by decide)).trans (by decide)
  · exact (h 92 11 51 (by decide) (by decide)).trans (by decide)
  · exact (h 92 12 51 (by decide) (by decide)).trans (by decide)
  · exact (h 92 13 51 (by decide) (by decide)).trans (by decide)
  · exact (h 0 7 8 (by decide) (by decide)).trans (by decide)
  · exact (h 92 42 51 (by decide) (by decide)).trans (by decide)
  · exact (h 66 0 6 (by decide) (by decide)).trans (by decide)
  · exact (h 92 22 51 (by decide) (by decide)).trans (by decide)
  · have hd : t = 0 ∨ t = 1 ∨ t = 2 ∨ t = 3 ∨ t = 4 ∨ t = 5 := by omega
    have h1 := h 83 t 6 (by decide) ht
    have h2 := h 84 t 6 (by decide) ht
    have h3 := h 126 t 6 (by decide) ht
    have h4 := h 127 t 6 (by decide) ht
    have e1 : xz_i0 83 t = -1 ∧ xz_i0 84 t = 0 ∧ xz_i0 126 t = -1 ∧ xz_i0 127 t = 0 := by
      rcases hd with rfl | rfl | rfl | rfl | rfl | rfl <;> decide
    rw [e1.1] at h1
    rw [e1.2.1] at h2
    rw [e1.2.2.1] at h3
    rw [e1.2.2.2] at h4
    refine ⟨by rw [h1, h3], by rw [h1]; decide, ⟨0, by omega, by rw [h2]; rfl, by rw [h4]; rfl, fun _ => rfl⟩, fun k hk => ?_, fun h0 => ?_⟩
    · rw [hJ' (129 + t) k (by rcases hd with rfl | rfl | rfl | rfl | rfl | rfl <;> decide) hk, hJ (86 + t) k (by rcases hd with rfl | rfl | rfl | rfl | rfl | rfl <;> decide) hk]
    · rw [h1] at h0
      exact absurd h0 (by decide)
  · exact (h 8 1 5 (by decide) (by decide)).trans (by decide)
  · exact (h 12 1 5 (by decide) (by decide)).trans (by decide)
  · exact (h 16 1 5 (by decide) (by decide)).trans (by decide)
