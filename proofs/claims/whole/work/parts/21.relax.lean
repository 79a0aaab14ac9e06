/-! RELAXATION: what the class's Reaches does, over numbers; it ends in REACH -/
def y_set (a : y_A) (x t : Nat) : y_A := fun p => if p = x then some t else a p
def y_gv (S : y_S) (a : y_A) (m g x : Nat) : Option y_A :=
  match a g with
  | none => none
  | some t => if y_rdy S g t ≤ S 2 m then
      match a x with
      | some u => if u ≤ S 2 m then none else some (y_set a x (S 2 m))
      | none => some (y_set a x (S 2 m))
    else none
def y_gvd (S : y_S) (a : y_A) (m g x : Nat) : y_A := (y_gv S a m g x).getD a
def y_ho (S : y_S) (B : Nat) (a : y_A) (m : Nat) : y_A × Bool :=
  if B.testBit (S 3 m) = true ∨ B.testBit (S 4 m) = true then (a, false)
  else (y_gvd S (y_gvd S a m (S 3 m) (S 4 m)) m (S 4 m) (S 3 m), (y_gv S a m (S 3 m) (S 4 m)).isSome || (y_gv S (y_gvd S a m (S 3 m) (S 4 m)) m (S 4 m) (S 3 m)).isSome)
def y_sw (S : y_S) (B : Nat) : Nat → Nat → y_A → Bool → y_A × Bool
  | 0, _, a, c => (a, c)
  | j + 1, m, a, c => if S 6 m = 0 then y_sw S B j (m + 1) (y_ho S B a m).1 (c || (y_ho S B a m).2) else y_sw S B j (m + 1) a c
def y_rd (S : y_S) (B : Nat) : Nat → y_A → y_A
  | 0, a => a
  | j + 1, a => if (y_sw S B (S 1 0) 0 a false).2 = true then y_rd S B j (y_sw S B (S 1 0) 0 a false).1 else (y_sw S B (S 1 0) 0 a false).1
def y_a0 (S : y_S) (st : Nat) : y_A := y_set (fun _ => none) (S 0 2) st
def y_le (a a' : y_A) : Prop := ∀ p t, a p = some t → ∃ t', a' p = some t' ∧ t' ≤ t
theorem y_le_refl (a : y_A) : y_le a a := fun _ t h => ⟨t, h, Nat.le_refl _⟩
theorem y_le_trans {a b c : y_A} (h : y_le a b) (h' : y_le b c) : y_le a c := fun p t e => by
  obtain ⟨t1, h1, h2⟩ := h p t e
  obtain ⟨t2, h3, h4⟩ := h' p t1 h1
  exact ⟨t2, h3, by omega⟩
theorem y_gv_i {S : y_S} {a a' : y_A} {m g x : Nat} (e : y_gv S a m g x = some a') : a' = y_set a x (S 2 m) ∧ (∃ t, a g = some t ∧ y_rdy S g t ≤ S 2 m) ∧ ∀ u, a x = some u → S 2 m < u := by
  unfold y_gv at e
  cases hg : a g with
  | none => rw [hg] at e; cases e
  | some t =>
    rw [hg] at e
    dsimp only at e
    by_cases h1 : y_rdy S g t ≤ S 2 m
    · rw [if_pos h1] at e
      cases hx : a x with
      | none =>
        rw [hx] at e
        cases e
        exact ⟨rfl, ⟨t, rfl, h1⟩, fun u hu => by cases hu⟩
      | some u =>
        rw [hx] at e
        dsimp only at e
        by_cases h2 : u ≤ S 2 m
        · rw [if_pos h2] at e; cases e
        · rw [if_neg h2] at e
          cases e
          exact ⟨rfl, ⟨t, rfl, h1⟩, fun u' hu => by cases hu; omega⟩
    · rw [if_neg h1] at e; cases e
theorem y_gvd_le (S : y_S) (a : y_A) (m g x : Nat) : y_le a (y_gvd S a m g x) := by
  unfold y_gvd
  cases e : y_gv S a m g x with
  | none => exact y_le_refl a
  | some a' =>
    obtain ⟨rfl, _, h2⟩ := y_gv_i e
    intro p t h
    show ∃ t', y_set a x (S 2 m) p = some t' ∧ t' ≤ t
    unfold y_set
    by_cases hp : p = x
    · rw [if_pos hp]
      subst hp
      have := h2 t h
      exact ⟨_, rfl, by omega⟩
    · rw [if_neg hp]
      exact ⟨t, h, Nat.le_refl _⟩
theorem y_gvd_pass {S : y_S} {a : y_A} {m g x t : Nat} (hg : a g = some t) (hr : y_rdy S g t ≤ S 2 m) : ∃ u, y_gvd S a m g x x = some u ∧ u ≤ S 2 m := by
  unfold y_gvd y_gv
  rw [hg]
  dsimp only
  rw [if_pos hr]
  cases hx : a x with
  | none =>
    dsimp only
    refine ⟨S 2 m, ?_, Nat.le_refl _⟩
    show y_set a x (S 2 m) x = _
    unfold y_set
    rw [if_pos rfl]
  | some u =>
    dsimp only
    by_cases h2 : u ≤ S 2 m
    · rw [if_pos h2]
      exact ⟨u, hx, h2⟩
    · rw [if_neg h2]
      refine ⟨S 2 m, ?_, Nat.le_refl _⟩
      show y_set a x (S 2 m) x = _
      unfold y_set
      rw [if_pos rfl]
theorem y_ho_le (S : y_S) (B : Nat) (a : y_A) (m : Nat) : y_le a (y_ho S B a m).1 := by
  unfold y_ho
  split
  · exact y_le_refl a
  · exact y_le_trans (y_gvd_le S a m (S 3 m) (S 4 m)) (y_gvd_le _ _ _ _ _)
theorem y_ho_pass {S : y_S} {B : Nat} {a : y_A} {m g x t : Nat} (hg : a g = some t) (hr : y_rdy S g t ≤ S 2 m) (hx : y_ot S m g = some x) (bg : B.testBit g = false) (bx : B.testBit x = false) : ∃ u, (y_ho S B a m).1 x = some u ∧ u ≤ S 2 m := by
  have hcase : (S 3 m = g ∧ S 4 m = x) ∨ (S 4 m = g ∧ S 3 m = x) := by
    unfold y_ot at hx
    split at hx
    · rename_i h; cases hx; exact Or.inl ⟨h, rfl⟩
    · split at hx
      · rename_i h; cases hx; exact Or.inr ⟨h, rfl⟩
      · cases hx
  unfold y_ho
  rcases hcase with ⟨h3, h4⟩ | ⟨h4, h3⟩
  · rw [h3, h4, if_neg (by rw [bg, bx]; simp)]
    obtain ⟨u, h1, h2⟩ := y_gvd_pass (x := x) hg hr
    obtain ⟨u', h5, h6⟩ := y_gvd_le S (y_gvd S a m g x) m x g x u h1
    exact ⟨u', h5, by omega⟩
  · rw [h3, h4, if_neg (by rw [bg, bx]; simp)]
    obtain ⟨t', h1, h2⟩ := y_gvd_le S a m x g g t hg
    exact y_gvd_pass h1 (Nat.le_trans (y_rdy_le S g h2) hr)
theorem y_gv_none {S : y_S} {a : y_A} {m g x : Nat} (h : (y_gv S a m g x).isSome = false) : y_gvd S a m g x = a := by
  unfold y_gvd
  cases e : y_gv S a m g x with
  | none => rfl
  | some a' => rw [e] at h; cases h
theorem y_ho_same {S : y_S} {B : Nat} {a : y_A} {m : Nat} (h : (y_ho S B a m).2 = false) : (y_ho S B a m).1 = a := by
  unfold y_ho at h ⊢
  split
  · rfl
  · rename_i hb
    rw [if_neg hb] at h
    simp only [Bool.or_eq_false_iff] at h
    dsimp only
    rw [y_gv_none h.2, y_gv_none h.1]
theorem y_sw_le (S : y_S) (B : Nat) : ∀ (j m : Nat) (a : y_A) (c : Bool), y_le a (y_sw S B j m a c).1
  | 0, _, a, _ => y_le_refl a
  | j + 1, m, a, c => by
    unfold y_sw
    split
    · exact y_le_trans (y_ho_le S B a m) (y_sw_le S B j (m + 1) _ _)
    · exact y_sw_le S B j (m + 1) _ _
theorem y_sw_pass {S : y_S} {B : Nat} {i g x : Nat} (h6 : S 6 i = 0) (hx : y_ot S i g = some x) (bg : B.testBit g = false) (bx : B.testBit x = false) : ∀ (j m : Nat) (a : y_A) (c : Bool) (t : Nat), m ≤ i → i < m + j → a g = some t → y_rdy S g t ≤ S 2 i → ∃ u, (y_sw S B j m a c).1 x = some u ∧ u ≤ S 2 i
  | 0, m, a, c, t, h1, h2, _, _ => by omega
  | j + 1, m, a, c, t, h1, h2, hg, hr => by
    unfold y_sw
    by_cases hi : i = m
    · subst hi
      rw [if_pos h6]
      obtain ⟨u, h3, h4⟩ := y_ho_pass (S := S) hg hr hx bg bx
      obtain ⟨u', h5, h7⟩ := y_sw_le S B j (i + 1) (y_ho S B a i).1 (c || (y_ho S B a i).2) x u h3
      exact ⟨u', h5, by omega⟩
    · split
      · obtain ⟨t', h3, h4⟩ := y_ho_le S B a m g t hg
        exact y_sw_pass h6 hx bg bx j (m + 1) _ _ t' (by omega) (by omega) h3 (Nat.le_trans (y_rdy_le S g h4) hr)
      · exact y_sw_pass h6 hx bg bx j (m + 1) _ _ t (by omega) (by omega) hg hr
theorem y_sw_same {S : y_S} {B : Nat} : ∀ (j m : Nat) (a : y_A) (c : Bool), (y_sw S B j m a c).2 = false → c = false ∧ (y_sw S B j m a c).1 = a
  | 0, _, a, c, h => ⟨h, rfl⟩
  | j + 1, m, a, c, h => by
    unfold y_sw at h ⊢
    by_cases h6 : S 6 m = 0
    · rw [if_pos h6] at h ⊢
      obtain ⟨h1, h2⟩ := y_sw_same j (m + 1) _ _ h
      simp only [Bool.or_eq_false_iff] at h1
      refine ⟨h1.1, ?_⟩
      rw [h2, y_ho_same h1.2]
    · rw [if_neg h6] at h ⊢
      exact y_sw_same j (m + 1) _ _ h
theorem y_sat_le {S : y_S} {B st : Nat} {a a' : y_A} {j : Nat} (h : y_sat S B st a j) (hl : y_le a a') : y_sat S B st a' j := by
  intro w p r' v' hw e
  obtain ⟨t, h1, h2⟩ := h w p r' v' hw e
  obtain ⟨t', h3, h4⟩ := hl p t h1
  exact ⟨t', h3, Nat.le_trans (y_rdy_le S p h4) h2⟩
theorem y_sat_step {S : y_S} {B st : Nat} {a : y_A} {j : Nat} (hb : B.testBit (S 0 2) = false) (h : y_sat S B st a j) : y_sat S B st (y_sw S B (S 1 0) 0 a false).1 (j + 1) := by
  have hle := y_sw_le S B (S 1 0) 0 a false
  intro w p r' v' hw e
  by_cases h0 : w = []
  · subst h0
    exact y_sat_le h hle [] p r' v' (Nat.zero_le _) e
  · obtain ⟨w0, m, rfl⟩ : ∃ w0 m, w = w0 ++ [m] := ⟨w.dropLast, w.getLast h0, (List.dropLast_concat_getLast h0).symm⟩
    rw [y_run_app] at e
    cases e0 : y_run S B w0 (S 0 2) st (1 <<< S 0 2) with
    | none => rw [e0] at e; cases e
    | some q =>
      rw [e0] at e
      obtain ⟨g, r1, v1⟩ := q
      dsimp only [Option.bind_some] at e
      obtain ⟨hm, x, hx, e2⟩ := y_run_ci e
      cases e2
      obtain ⟨g1, g2, g3, g4, g5⟩ := y_tk_i hx
      have hl : w0.length ≤ j := by
        rw [List.length_append, List.length_singleton] at hw
        omega
      obtain ⟨t, h1, h2⟩ := h w0 g r1 v1 hl e0
      obtain ⟨u, h3, h4⟩ := y_sw_pass (B := B) g1 g3 (y_run_bar e0 hb) g5 (S 1 0) 0 a false t (Nat.zero_le _) (by omega) h1 (Nat.le_trans h2 g2)
      refine ⟨u, h3, ?_⟩
      unfold y_rdy
      split <;> omega
theorem y_snd_gv {S : y_S} {B st : Nat} {a : y_A} {m g x : Nat} (h : y_snd S B st a) (hm : m < S 1 0) (h6 : S 6 m = 0) (hx : y_ot S m g = some x) (bx : B.testBit x = false) : y_snd S B st (y_gvd S a m g x) := by
  unfold y_gvd
  cases e : y_gv S a m g x with
  | none => exact h
  | some a' =>
    obtain ⟨rfl, ⟨t, h1, h2⟩, _⟩ := y_gv_i e
    intro p u hu
    have hu' : y_set a x (S 2 m) p = some u := hu
    unfold y_set at hu'
    by_cases hp : p = x
    · subst hp
      rw [if_pos rfl] at hu'
      cases hu'
      obtain ⟨w, r', v', e1, h3⟩ := h g t h1
      cases hv : v'.testBit p with
      | false =>
        refine ⟨w ++ [m], S 2 m + S 0 1, v' ||| 1 <<< p, ?_, ?_⟩
        · rw [y_run_app, e1]
          dsimp only [Option.bind_some]
          rw [y_run_c [] hm (y_tk_o h6 (by omega) hx hv bx)]
          rfl
        · have hne : p ≠ S 0 2 := by
            rintro rfl
            have : ∀ {q : List Nat} {h r v g r' v' : Nat}, y_run S B q h r v = some (g, r', v') → ∀ y, v.testBit y = true → v'.testBit y = true := by
              intro q
              induction q with
              | nil => intro h r v g r' v' e y hy; cases e; exact hy
              | cons i q ih =>
                intro h r v g r' v' e y hy
                obtain ⟨_, z, _, e2⟩ := y_run_ci e
                exact ih e2 y (y_orB.mpr (Or.inl hy))
            have := this e1 (S 0 2) (y_one.mpr rfl)
            rw [hv] at this
            cases this
          unfold y_rdy
          rw [if_neg hne]
          exact Nat.le_refl _
      | true =>
        rcases (y_run_pre e1).2 p hv with h4 | ⟨w0, r0, v0, h4, h5⟩
        · have := y_one.mp h4
          subst this
          refine ⟨[], st, 1 <<< S 0 2, rfl, ?_⟩
          have := (y_run_pre e1).1
          unfold y_rdy
          rw [if_pos rfl]
          omega
        · refine ⟨w0, r0, v0, h4, ?_⟩
          have := y_rdy_ge S p (S 2 m)
          omega
    · rw [if_neg hp] at hu'
      exact h p u hu'
theorem y_ot_sym {S : y_S} {m : Nat} (hne : S 3 m ≠ S 4 m) : y_ot S m (S 3 m) = some (S 4 m) ∧ y_ot S m (S 4 m) = some (S 3 m) := by
  unfold y_ot
  rw [if_pos rfl, if_neg hne, if_pos rfl]
  exact ⟨rfl, rfl⟩
theorem y_snd_sw {S : y_S} {B st : Nat} (hne : ∀ m, m < S 1 0 → S 3 m ≠ S 4 m) : ∀ (j m : Nat) (a : y_A) (c : Bool), m + j ≤ S 1 0 → y_snd S B st a → y_snd S B st (y_sw S B j m a c).1
  | 0, _, a, _, _, h => h
  | j + 1, m, a, c, hj, h => by
    unfold y_sw
    have hs := y_ot_sym (hne m (by omega))
    split
    · rename_i h6
      refine y_snd_sw hne j (m + 1) _ _ (by omega) ?_
      unfold y_ho
      split
      · exact h
      · rename_i hb
        refine y_snd_gv (y_snd_gv h (by omega) h6 hs.1 ?_) (by omega) h6 hs.2 ?_
        · cases h4 : B.testBit (S 4 m)
          · rfl
          · exact absurd (Or.inr h4) hb
        · cases h4 : B.testBit (S 3 m)
          · rfl
          · exact absurd (Or.inl h4) hb
    · exact y_snd_sw hne j (m + 1) _ _ (by omega) h
theorem y_snd_rd {S : y_S} {B st : Nat} (hne : ∀ m, m < S 1 0 → S 3 m ≠ S 4 m) : ∀ (j : Nat) (a : y_A), y_snd S B st a → y_snd S B st (y_rd S B j a)
  | 0, _, h => h
  | j + 1, a, h => by
    unfold y_rd
    split
    · exact y_snd_rd hne j _ (y_snd_sw hne _ _ _ _ (by omega) h)
    · exact y_snd_sw hne _ _ _ _ (by omega) h
theorem y_sat_rd {S : y_S} {B st : Nat} (hb : B.testBit (S 0 2) = false) : ∀ (j i : Nat) (a : y_A), 5 ≤ i + j → y_sat S B st a i → y_sat S B st (y_rd S B j a) 5
  | 0, i, a, hi, h => fun w p r' v' hw e => h w p r' v' (by omega) e
  | j + 1, i, a, hi, h => by
    unfold y_rd
    by_cases hc : (y_sw S B (S 1 0) 0 a false).2 = true
    · rw [if_pos hc]
      exact y_sat_rd hb j (i + 1) _ (by omega) (y_sat_step hb h)
    · rw [if_neg hc]
      have hs := (y_sw_same (S 1 0) 0 a false (by simpa using hc)).2
      have hall : ∀ k, y_sat S B st a (i + k) := by
        intro k
        induction k with
        | zero => exact h
        | succ k ih =>
          have := y_sat_step hb ih
          rw [hs] at this
          exact this
      rw [hs]
      exact fun w p r' v' hw e => hall 5 w p r' v' (by omega) e
/-- what six rounds at most leave is REACH -/
theorem y_rd_rc {S : y_S} (h6 : y_six S) (hf : S 0 2 < 6) (hne : ∀ m, m < S 1 0 → S 3 m ≠ S 4 m) {B : Nat} (hb : B.testBit (S 0 2) = false) (st p : Nat) : y_rd S B 6 (y_a0 S st) p = y_rc S B st p := by
  refine y_relax h6 hf (y_snd_rd hne 6 _ ?_) (y_sat_rd hb 6 0 _ (by omega) ?_) p
  · intro q t e
    unfold y_a0 y_set at e
    by_cases hq : q = S 0 2
    · rw [if_pos hq] at e
      cases e
      subst hq
      exact ⟨[], st, _, rfl, by unfold y_rdy; rw [if_pos rfl]; exact Nat.le_refl _⟩
    · rw [if_neg hq] at e
      cases e
  · intro w q r' v' hw e
    have := List.eq_nil_of_length_eq_zero (Nat.le_zero.mp hw)
    subst this
    cases e
    refine ⟨st, ?_, ?_⟩
    · unfold y_a0 y_set
      rw [if_pos rfl]
    · unfold y_rdy
      rw [if_pos rfl]
      exact Nat.le_refl _
