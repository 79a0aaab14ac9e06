/-! read: all clauses obeyed, both -/
theorem y_loops {m : Nat} (hm : m ≤ 12) {W : Nat → Nat} {X : Nat → Nat → Nat} (hW : ∀ t, W t < 5) : ∀ j t (S : y_S) (a : Int32), t + j = m → y_okM S → y_okX S → ∃ v S', (∀ d I J, y_ZC S I → I 66 1 = nI m → (∀ t', t ≤ t' → t' < m → I 68 t' = nI (W t') ∧ ∀ k, k < y_K (W t') → I (70 + t') k = nI (X t' k)) → ∃ I' J', zL (d + 31) q_HR_read 19 [(0, .ref 0), (2, .int a), (3, .int (nI t))] (xz_SH, I, J) = some (some (.int v), (xz_SH, I', J')) ∧ y_ZC S' I' ∧ y_fC I I' J J') ∧ ∀ d I J, y_ZD S I → I 92 25 = nI m → (∀ t', t ≤ t' → t' < m → I 106 t' = nI (W t') ∧ ∀ k, k < y_K (W t') → I 107 (4 * t' + k) = nI (X t' k)) → ∃ I' J', zL (d + 31) q_Mo_read 61 [(0, .ref 92), (1, .int a), (2, .int (nI t))] (xz_SH, I, J) = some (some (.int v), (xz_SH, I', J')) ∧ y_ZD S' I' ∧ y_fD I I' J J'
  | 0, t, S, a, ht, hok, hox => by
    refine ⟨a, S, fun d I J hZ h1 h2 => ⟨I, J, b_HR_read_l19 _ _ _ _ _ _ ?_, hZ, y_fC_r _ _⟩, fun d I J hZ h1 h2 => ⟨I, J, b_Mo_read_l61 _ _ _ _ _ _ ?_, hZ, y_fD_r _ _⟩⟩
    · rw [show xz_gR (xz_SH, I, J) 0 7 5 = some 66 from rfl, y_eo, show xz_gI (xz_SH, I, J) 66 5 1 = some (I 66 1) from rfl, h1, y_eo, if_pos (by rw [y_leI, nI_toInt (by omega), nI_toInt (by omega)]; omega)]
    · rw [show xz_gI (xz_SH, I, J) 92 8 25 = some (I 92 25) from rfl, h1, y_eo, if_pos (by rw [y_leI, nI_toInt (by omega), nI_toInt (by omega)]; omega)]
  | j + 1, t, S, a, ht, hok, hox => by
    obtain ⟨v, S1, f1, f2⟩ := y_obey S hok hox (hW t) (X t)
    by_cases hS : y_okM S1 ∧ y_okX S1
    · obtain ⟨v', S2, g1, g2⟩ := y_loops hm hW j (t + 1) S1 (if v < 0 then a else a + 1) (by omega) hS.1 hS.2
      refine ⟨v', S2, fun d I J hZ h1 h2 => ?_, fun d I J hZ h1 h2 => ?_⟩
      · obtain ⟨I1, J1, k1, k2, k3⟩ := f1 d I J m t hm (by omega) hZ h1 (h2 t (by omega) (by omega)).1 (h2 t (by omega) (by omega)).2
        obtain ⟨I2, J2, l1, l2, l3⟩ := g1 d I1 J1 k2 (by rw [k3.1 66 (by omega), h1]) (fun t' t1 t2 => ⟨by rw [k3.1 68 (by omega)]; exact (h2 t' (by omega) t2).1, fun k hk => by rw [k3.1 (70 + t') (by omega)]; exact (h2 t' (by omega) t2).2 k hk⟩)
        refine ⟨I2, J2, b_HR_read_l19 _ _ _ _ _ _ ?_, l2, y_fC_t k3 l3⟩
        rw [show xz_gR (xz_SH, I, J) 0 7 5 = some 66 from rfl, y_eo, show xz_gI (xz_SH, I, J) 66 5 1 = some (I 66 1) from rfl, h1, y_eo, if_neg (by rw [y_leI, nI_toInt (by omega), nI_toInt (by omega)]; omega), show xz_is (xz_SH, I, J) 0 7 = true from rfl, y_eb, k1, y_eI, y_1]
        by_cases e : v < 0
        · rw [if_pos e] at l1 ⊢
          exact l1
        · rw [if_neg e] at l1 ⊢
          exact l1
      · obtain ⟨I1, J1, k1, k2, k3⟩ := f2 d I J t (by omega) hZ (h2 t (by omega) (by omega)).1 (h2 t (by omega) (by omega)).2
        obtain ⟨I2, J2, l1, l2, l3⟩ := g2 d I1 J1 k2 (by rw [k3.2.1 25 (by omega), h1]) (fun t' t1 t2 => ⟨by rw [k3.1 106 (by omega) (by omega) (by omega)]; exact (h2 t' (by omega) t2).1, fun k hk => by rw [k3.1 107 (by omega) (by omega) (by omega)]; exact (h2 t' (by omega) t2).2 k hk⟩)
        refine ⟨I2, J2, b_Mo_read_l61 _ _ _ _ _ _ ?_, l2, y_fD_t k3 l3⟩
        rw [show xz_gI (xz_SH, I, J) 92 8 25 = some (I 92 25) from rfl, h1, y_eo, if_neg (by rw [y_leI, nI_toInt (by omega), nI_toInt (by omega)]; omega), show xz_is (xz_SH, I, J) 92 8 = true from rfl, y_eb, k1, y_eI, y_1]
        by_cases e : v < 0
        · rw [if_pos e] at l1 ⊢
          exact l1
        · rw [if_neg e] at l1 ⊢
          exact l1
    · refine ⟨0, S1, fun d I J hZ h1 h2 => ?_, fun d I J hZ h1 h2 => ?_⟩
      · obtain ⟨I1, J1, k1, k2, k3⟩ := f1 d I J m t hm (by omega) hZ h1 (h2 t (by omega) (by omega)).1 (h2 t (by omega) (by omega)).2
        exact absurd ⟨k2.1, k2.2.1⟩ hS
      · obtain ⟨I1, J1, k1, k2, k3⟩ := f2 d I J t (by omega) hZ (h2 t (by omega) (by omega)).1 (h2 t (by omega) (by omega)).2
        exact absurd ⟨k2.1, k2.2.1⟩ hS
