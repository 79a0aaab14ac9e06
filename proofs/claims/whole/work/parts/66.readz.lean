/-! read: the relation behind it -/
theorem y_ZC_of {S : y_S} {I I' : Nat → Nat → Int32} (h : ∀ q, q < 66 → I' q = I q) (hZ : y_ZC S I) : y_ZC S I' := by
  obtain ⟨a, b, c, d, e⟩ := hZ
  exact ⟨a, b, y_vM_of (fun q _ _ => h q (by omega)) c, y_vX_of (fun q _ _ => h q (by omega)) d, y_cst_of (by rw [h 8 (by omega)]) (by rw [h 12 (by omega)]) (by rw [h 16 (by omega)]) e⟩
theorem y_ZD_of {S : y_S} {I I' : Nat → Nat → Int32} (h : ∀ q, 93 ≤ q → q < 105 → I' q = I q) (h9 : ∀ j, j < 14 → I' 92 j = I 92 j) (hZ : y_ZD S I) : y_ZD S I' := by
  obtain ⟨a, b, c, d⟩ := hZ
  exact ⟨a, b, y_vR_of (fun q _ _ => h q (by omega) (by omega)) (fun j _ => h9 j (by omega)) c, y_vY_of (fun q _ _ => h q (by omega) (by omega)) (fun j _ _ => h9 j (by omega)) d⟩
theorem y_readZ {S S' : y_S} {I Id Ig : Nat → Nat → Int32} {J Jd Jg : Nat → Nat → Int64} (hZ : y_Z S I J) (c1 : y_ZC S' Id) (c2 : ∀ q, q = 0 ∨ (20 ≤ q ∧ q < 39) ∨ 82 ≤ q → Id q = I q) (c3 : ∀ q, q ≠ 60 → Jd q = J q) (c4 : Id 66 0 = 0) (d1 : y_ZD S' Ig) (d2 : ∀ q, q < 92 ∨ 110 ≤ q → Ig q = Id q) (d3 : ∀ j, 38 ≤ j → Ig 92 j = Id 92 j) (d4 : ∀ q, q ≠ 92 → Jg q = Jd q) (d5 : Ig 92 22 = 0) : y_Z S' Ig Jg := by
  obtain ⟨z1, z2, z4, z6, z7, z8, z9⟩ := hZ
  have c1' : y_ZC S' Ig := y_ZC_of (fun q hq => d2 q (by omega)) c1
  obtain ⟨f1, f2, f3, f4, f5⟩ := c1'
  obtain ⟨g1, g2, g3, g4⟩ := d1
  refine ⟨⟨f1, f2⟩, ⟨f3, f4⟩, ⟨g3, g4⟩, y_kept_of (fun q hq => ?_) ?_ ?_ z6, ⟨0, fun _ => 0, by omega, ?_, d5, fun k hk => by omega⟩, y_tape_of (fun q hq => ?_) (fun q hq => ?_) z8, f5⟩
  · rw [d2 q (by omega), c2 q (by omega)]
  · rw [d2 0 (by omega), c2 0 (by omega)]
  · rw [d3 42 (by omega), c2 92 (by omega)]
  · rw [d2 66 (by omega), c4]
    rfl
  · rw [d2 q (by omega), c2 q (by omega)]
  · rw [d4 q (by omega), c3 q (by omega)]
