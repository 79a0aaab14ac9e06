/-! read: the status after a number: (true, place) or (false, fault) -/
def y_stat (s : Bool × Nat) (I : Nat → Nat → Int32) : Prop := (s.1 = true → I 92 23 = nI s.2 ∧ I 92 24 = -1) ∧ (s.1 = false → I 92 24 = nI s.2)
def y_f2 (I I' : Nat → Nat → Int32) : Prop := ∀ q j, ¬ (q = 92 ∧ (j = 23 ∨ j = 24)) → I' q j = I q j
def y_stp (n : Nat) (g : Nat → Nat) (w v : Nat) (s s' : Bool × Nat) : Prop := s.1 = false ∧ s' = s ∨ s.1 = true ∧ (s'.1 = false ∧ y_nsF n g s.2 w s'.2 ∨ s'.1 = true ∧ y_nsG n g s.2 w v s'.2)
def y_stR (n : Nat) (g : Nat → Nat) (w v : Nat) (s s' : Bool × Nat) : Prop := ∀ d I J, y_tr n g I → y_stat s I → ∃ I', zC (d + 2) q_Mo_numberRead [.ref 92, .int (nI w)] (xz_SH, I, J) = some (some (.int (nI v)), (xz_SH, I', J)) ∧ y_stat s' I' ∧ y_f2 I I'
theorem y_st_step {n : Nat} {g : Nat → Nat} (hn : n ≤ 100) (hg : ∀ k, k < n → g k ≤ 127) (s : Bool × Nat) (hs : s.2 ≤ n) {w : Nat} (w1 : 1 ≤ w) (w3 : w ≤ 3) : ∃ v s', s'.2 ≤ n ∧ y_stp n g w v s s' ∧ y_stR n g w v s s' := by
  obtain ⟨b, p⟩ := s
  cases b with
  | false =>
    refine ⟨0, (false, p), hs, Or.inl ⟨rfl, rfl⟩, fun d I J ht hI => ⟨I, ?_, hI, fun _ _ _ => rfl⟩⟩
    have h := hI.2 rfl
    have hs' : p ≤ n := hs
    refine b_Mo_numberRead _ _ _ _ _ ?_
    simp (maxSteps := 1000000) (disch := omega) only [sh_is0, sh_gI0, sh_wI0, sh_wZ0, sh_gR0, sh_gR1, sh_gR2, sh_lI0, sh_lI1, sh_lI2, sh_sI0, sh_sI1, sh_sI2, sh_len0, sh_len1, sh_len2, sh_lZ0, sh_sZ0, sh_gJ0, sh_wJ0, sh_lR0, sh_lJ0, sh_sJ0, y_eo, y_eb, h]
    rw [if_neg (by rw [y_ltI, nI_toInt (by omega)]; simp only [y_lit]; omega)]
    rfl
  | true =>
    rcases y_ns hn hg (p := p) hs w1 w3 with ⟨f, h⟩ | ⟨v, p', h⟩
    · refine ⟨0, (false, f), h.1, Or.inr ⟨rfl, Or.inl ⟨rfl, h⟩⟩, fun d I J ht hI => ?_⟩
      obtain ⟨h1, h2⟩ := hI.1 rfl
      obtain ⟨I', k1, k2⟩ := h.2.2 d I J ht h1 h2
      refine ⟨_, k1, ⟨fun h => (by cases h), fun _ => y_up_e ⟨rfl, rfl⟩⟩, fun q j hq => ?_⟩
      rw [y_up_n (by omega), k2.2 q j (by omega)]
    · refine ⟨v, (true, p'), h.1, Or.inr ⟨rfl, Or.inr ⟨rfl, h⟩⟩, fun d I J ht hI => ?_⟩
      obtain ⟨h1, h2⟩ := hI.1 rfl
      obtain ⟨I', k1, k2⟩ := h.2.2 d I J ht h1 h2
      refine ⟨_, k1, ⟨fun _ => ⟨k2.1, (k2.2 92 24 (by omega)).trans h2⟩, fun h => (by cases h)⟩, fun q j hq => k2.2 q j (by omega)⟩
def y_cl (n : Nat) (g : Nat → Nat) (c i k : Nat) (s F : Bool × Nat) (xs : Nat → Nat) : Prop := s.1 = true → ∀ d I J, y_tc n g I → I 66 5 = nI s.2 → ∃ I', zL (d + 5) q_Te_takeClause 27 [(0, .ref 66), (1, .int (nI c)), (3, .ref (2000 + i)), (4, .int (nI k))] (xz_SH, I, J) = some (some (.int (y_bI F.1)), (xz_SH, I', J)) ∧ I' 66 5 = nI F.2 ∧ (F.1 = true → ∀ j, k ≤ j → j < (y_st i).length → I' (70 + c) j = nI (xs j)) ∧ ∀ q j, ¬ (q = 66 ∧ j = 5) → ¬ (q = 70 + c ∧ k ≤ j) → I' q j = I q j
theorem y_cl_e {n : Nat} {g : Nat → Nat} {c i k : Nat} (hi : i < 9) (hk : k = (y_st i).length) (s : Bool × Nat) (xs : Nat → Nat) : y_cl n g c i k s s xs := by
  intro h d I J ht hI
  have hl := (y_st_all i hi).1
  refine ⟨I, ?_, hI, fun _ j h1 h2 => by omega, fun _ _ _ _ => rfl⟩
  refine b_Te_takeClause_l27 _ _ _ _ _ _ _ ?_
  rw [y_st_is hi, y_eb, y_sLen _ hi, y_eI, if_pos (by rw [y_leI, nI_toInt (by omega), nI_toInt (by omega)]; omega), h]
  rfl
theorem y_cl_s {n : Nat} {g : Nat → Nat} {c i k w v : Nat} {s s' F : Bool × Nat} {xs : Nat → Nat} (hc : c < 12) (hi : i < 9) (hk : k < (y_st i).length) (hk4 : k < 4) (hw : (y_st i).getD k 0 = 48 + w) (hv : xs k = v) (h : y_stp n g w v s s') (hF : s'.1 = false → F = s') (hN : y_cl n g c i (k + 1) s' F xs) : y_cl n g c i k s F xs := by
  intro hs d I J ht hI
  rcases h with ⟨h, _⟩ | ⟨_, h⟩
  · rw [h] at hs
    cases hs
  · rcases h with ⟨h1, h2⟩ | ⟨h1, h2⟩
    · obtain ⟨I', k1, k2⟩ := h2.2.1 d I J c i k hc hi hk hk4 hw ht hI
      rw [hF h1]
      refine ⟨I', ?_, k2.1, fun h => ?_, fun q j h3 h4 => k2.2 q j h3⟩
      · rw [h1]
        exact k1
      · rw [h1] at h
        cases h
    · obtain ⟨I', k1, k2⟩ := h2.2.1 d I J c i k hc hi hk hk4 hw ht hI
      obtain ⟨I'', k3, k4, k5, k6⟩ := hN h1 d (xz_up I' (70 + c) k (nI v)) J (y_tc_w (by rw [y_up_n (by omega), k1.2 66 0 (by omega)]) (fun j => by rw [y_up_n (by omega), k1.2 67 j (by omega)]) ht) (by rw [y_up_n (by omega), k1.1])
      refine ⟨I'', k2 _ k3, k4, fun hf j h3 h4 => ?_, fun q j h3 h4 => ?_⟩
      · by_cases e : j = k
        · subst e
          rw [k6 _ _ (by omega) (by omega), y_up_e ⟨rfl, rfl⟩, hv]
        · exact k5 hf j (by omega) h4
      · rw [k6 q j h3 (by omega), y_up_n (by omega), k1.2 q j h3]
theorem y_stp_f {n : Nat} {g : Nat → Nat} {w v : Nat} {s s' : Bool × Nat} (h : y_stp n g w v s s') (hs : s.1 = false) : s' = s := by
  rcases h with ⟨_, h⟩ | ⟨h, _⟩
  · exact h
  · rw [hs] at h
    cases h
theorem y_4 (a : Nat) : (4 : Int32) * nI a = nI (4 * a) := (Int32.ofNat_mul 4 a).symm
theorem y_2' (a : Nat) : nI a + (2 : Int32) = nI (a + 2) := nI_add a 2
theorem y_3' (a : Nat) : nI a + (3 : Int32) = nI (a + 3) := nI_add a 3
/-- how many numbers stand behind a word -/
def y_K (i : Nat) : Nat := if i = 1 then 4 else if i = 4 then 3 else 1
/-- the text constant of a word's widths -/
def y_W (i : Nat) : Nat := if i = 1 then 5 else if i = 2 then 6 else if i = 4 then 7 else 8
theorem y_K_W : ∀ i, i < 5 → y_W i < 9 ∧ (y_st (y_W i)).length = y_K i := by decide +kernel
theorem y_Te_widths (d : Nat) {i : Nat} (hi : i < 5) (M : xz_M) : zC (d + 1) q_Te_widths [.int (nI i)] M = some (some (.ref (2000 + y_W i)), M) := by
  have hc : i = 0 ∨ i = 1 ∨ i = 2 ∨ i = 3 ∨ i = 4 := by omega
  rcases hc with rfl | rfl | rfl | rfl | rfl
  · refine b_Te_widths _ _ _ _ ?_
    rw [if_neg (by decide), if_neg (by decide), if_neg (by decide), if_neg (by decide)]
    rfl
  · exact b_Te_widths _ _ _ _ (if_pos (by decide))
  · refine b_Te_widths _ _ _ _ ?_
    rw [if_neg (by decide), if_pos (by decide)]
    rfl
  · refine b_Te_widths _ _ _ _ ?_
    rw [if_neg (by decide), if_neg (by decide), if_pos (by decide)]
    rfl
  · refine b_Te_widths _ _ _ _ ?_
    rw [if_neg (by decide), if_neg (by decide), if_neg (by decide), if_pos (by decide)]
    rfl
