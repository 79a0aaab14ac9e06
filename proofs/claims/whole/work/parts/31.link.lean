/-! LINKS: what the class's search finds is what the reference's finds; REACH by either road -/
theorem y_fold_add (S : y_S) (st rule : Nat) : ∀ (l : List (List Nat)) (R : y_R), l.foldl (y_add S st rule) R = (R.1 + l.length, l.foldl (y_bst S st rule) R.2.1, l.foldl (y_bh S st) R.2.2)
  | [], R => rfl
  | p :: l, R => by
    rw [List.foldl_cons, y_fold_add S st rule l]
    show (R.1 + 1 + l.length, _, _) = (R.1 + (l.length + 1), _, _)
    rw [show R.1 + 1 + l.length = R.1 + (l.length + 1) by omega]
    rfl
theorem y_fold_adr (S : y_S) (st rule : Nat) : ∀ (l : List (List Nat)) (Q : y_Q), l.foldl (y_adr S st rule false) Q = (Q.1 + l.length, l.foldl (y_bst S st rule) Q.2)
  | [], Q => rfl
  | p :: l, Q => by
    have e : y_adr S st rule false Q p = (Q.1 + 1, y_bst S st rule Q.2 p) := by unfold y_adr; rw [if_neg (by simp)]
    rw [List.foldl_cons, e, y_fold_adr S st rule l]
    show (Q.1 + 1 + l.length, _) = (Q.1 + (l.length + 1), _)
    rw [show Q.1 + 1 + l.length = Q.1 + (l.length + 1) by omega]
    rfl
theorem y_wl_56 {S : y_S} (hok : y_okM S) (g B st : Nat) : y_wl S g B 6 (S 0 2) st (1 <<< S 0 2) = y_wl S g B 5 (S 0 2) st (1 <<< S 0 2) := by
  have h1 := y_pc_1 (S 0 2) (by obtain ⟨k1, k2, k3, k4, k5, k6, k7, k8⟩ := hok; omega)
  exact y_wl_more (y_okM_six hok) h1.1 (by omega)
theorem y_all_fnd {S : y_S} (hok : y_okM S) (rule : Nat) : (y_all S rule).1 = (y_fnd S (S 0 3) 0 6 rule false).1 ∧ (y_all S rule).2.1 = (y_fnd S (S 0 3) 0 6 rule false).2 := by
  unfold y_all y_fnd
  rw [y_fold_add, y_fold_adr, y_wl_56 hok]
  exact ⟨rfl, rfl⟩
theorem y_bst_s (S : y_S) (st rule : Nat) (o : Option (List Nat)) (p : List Nat) : (y_bst S st rule o p).isSome = true := by
  unfold y_bst
  cases o with
  | none => rfl
  | some q =>
    dsimp only
    split <;> rfl
theorem y_bst0 (S : y_S) (st : Nat) : ∀ (l : List (List Nat)) (q : List Nat), ∃ q', l.foldl (y_bst S st 0) (some q) = some q' ∧ (q' = q ∨ q' ∈ l) ∧ y_ar S st q' ≤ y_ar S st q ∧ ∀ p, p ∈ l → y_ar S st q' ≤ y_ar S st p
  | [], q => ⟨q, rfl, Or.inl rfl, Nat.le_refl _, fun p hp => by cases hp⟩
  | p :: l, q => by
    rw [List.foldl_cons]
    have e : (y_bst S st 0 (some q) p = some p ∧ y_ar S st p ≤ y_ar S st q) ∨ (y_bst S st 0 (some q) p = some q ∧ y_ar S st q ≤ y_ar S st p) := by
      have eb : y_bet S st 0 p q = if y_ar S st p ≠ y_ar S st q then decide (y_ar S st p < y_ar S st q) else decide (p.length < q.length) := by
        unfold y_bet
        rw [if_neg (fun h => absurd h.1 (by decide)), if_neg (fun h => absurd h.1 (by decide))]
      unfold y_bst
      dsimp only
      rw [eb]
      by_cases h1 : y_ar S st p = y_ar S st q
      · rw [if_neg (not_not_intro h1)]
        by_cases h2 : p.length < q.length
        · left
          rw [decide_eq_true h2, if_pos rfl]
          exact ⟨rfl, by omega⟩
        · right
          rw [decide_eq_false h2, if_neg (by simp)]
          exact ⟨rfl, by omega⟩
      · rw [if_pos h1]
        by_cases h2 : y_ar S st p < y_ar S st q
        · left
          rw [decide_eq_true h2, if_pos rfl]
          exact ⟨rfl, by omega⟩
        · right
          rw [decide_eq_false h2, if_neg (by simp)]
          exact ⟨rfl, by omega⟩
    rcases e with ⟨e, h1⟩ | ⟨e, h1⟩
    · rw [e]
      obtain ⟨q', f1, f2, f3, f4⟩ := y_bst0 S st l p
      refine ⟨q', f1, Or.inr ?_, by omega, fun p' hp' => ?_⟩
      · rcases f2 with rfl | f2
        · exact List.mem_cons_self
        · exact List.mem_cons_of_mem _ f2
      · rcases List.mem_cons.mp hp' with rfl | h
        · exact f3
        · exact f4 p' h
    · rw [e]
      obtain ⟨q', f1, f2, f3, f4⟩ := y_bst0 S st l q
      refine ⟨q', f1, ?_, f3, fun p' hp' => ?_⟩
      · rcases f2 with rfl | f2
        · exact Or.inl rfl
        · exact Or.inr (List.mem_cons_of_mem _ f2)
      · rcases List.mem_cons.mp hp' with rfl | h
        · omega
        · exact f4 p' h
theorem y_bst0_min (S : y_S) (st : Nat) (l : List (List Nat)) : (l.foldl (y_bst S st 0) none).map (y_ar S st) = (l.map (y_ar S st)).min? := by
  cases l with
  | nil => rfl
  | cons p l =>
    symm
    rw [List.foldl_cons]
    show _ = Option.map (y_ar S st) (l.foldl (y_bst S st 0) (some p))
    obtain ⟨q', f1, f2, f3, f4⟩ := y_bst0 S st l p
    rw [f1]
    show _ = some (y_ar S st q')
    rw [List.min?_eq_some_iff']
    refine ⟨List.mem_map.mpr ⟨q', ?_, rfl⟩, fun b hb => ?_⟩
    · rcases f2 with rfl | f2
      · exact List.mem_cons_self
      · exact List.mem_cons_of_mem _ f2
    · obtain ⟨w, hw, rfl⟩ := List.mem_map.mp hb
      rcases List.mem_cons.mp hw with rfl | h
      · exact f3
      · exact f4 w h
/-- REACH is what the reference finds -/
theorem y_rc_fnd {S : y_S} (hok : y_okM S) (p : Nat) : ((y_fnd S p 0 6 0 false).2).map (y_ar S (S 0 4)) = y_rc S 0 (S 0 4) p := by
  unfold y_fnd y_rc
  rw [y_fold_adr, y_wl_56 hok]
  exact y_bst0_min S (S 0 4) _
/-- whether there is one at all -/
theorem y_rc_one {S : y_S} (hok : y_okM S) (p B : Nat) : ((y_fnd S p B 6 0 true).2).isSome = (y_rc S B (S 0 4) p).isSome := by
  unfold y_fnd y_rc
  rw [y_wl_56 hok]
  cases y_wl S p B 5 (S 0 2) (S 0 4) (1 <<< S 0 2) with
  | nil => rfl
  | cons w l =>
    have e : y_adr S (S 0 4) 0 true (0, none) w = (1, some w) := by
      unfold y_adr
      rw [if_neg (by simp)]
      rfl
    rw [List.foldl_cons, e, y_adr_stay (by rfl)]
    cases h : ((w :: l).map (y_ar S (S 0 4))).min? with
    | some _ => rfl
    | none =>
      rw [List.min?_eq_none_iff] at h
      cases h
/-- a least number -/
def y_isM (P : Nat → Prop) (o : Option Nat) : Prop := match o with
  | some t => P t ∧ ∀ u, P u → t ≤ u
  | none => ∀ u, ¬ P u
theorem y_isM_u {P : Nat → Prop} {o o' : Option Nat} (h : y_isM P o) (h' : y_isM P o') : o = o' := by
  cases o with
  | none =>
    cases o' with
    | none => rfl
    | some t => exact absurd h'.1 (h t)
  | some t =>
    cases o' with
    | none => exact absurd h.1 (h' t)
    | some u =>
      have h1 := h.2 u h'.1
      have h2 := h'.2 t h.1
      rw [show t = u by omega]
theorem y_isM_c {P Q : Nat → Prop} {o : Option Nat} (h : y_isM P o) (e : ∀ u, P u ↔ Q u) : y_isM Q o := by
  cases o with
  | none => exact fun u hu => h u ((e u).mpr hu)
  | some t => exact ⟨(e t).mp h.1, fun u hu => h.2 u ((e u).mpr hu)⟩
theorem y_isM_min (S : y_S) (st : Nat) (l : List (List Nat)) : y_isM (fun t => ∃ p, p ∈ l ∧ y_ar S st p = t) ((l.map (y_ar S st)).min?) := by
  cases e : (l.map (y_ar S st)).min? with
  | none =>
    rw [List.min?_eq_none_iff, List.map_eq_nil_iff] at e
    subst e
    rintro u ⟨p, hp, _⟩
    cases hp
  | some t =>
    rw [List.min?_eq_some_iff'] at e
    refine ⟨List.mem_map.mp e.1, ?_⟩
    rintro u ⟨p, hp, rfl⟩
    exact e.2 _ (List.mem_map.mpr ⟨p, hp, rfl⟩)
theorem y_isM_lm {P Q : Nat → Prop} {o o' : Option Nat} (h : y_isM P o) (h' : y_isM Q o') : y_isM (fun t => P t ∨ Q t) (y_lm o o') := by
  unfold y_lm
  cases o' with
  | none => exact y_isM_c h fun u => ⟨Or.inl, fun z => z.resolve_right (h' u)⟩
  | some t =>
    dsimp only
    cases o with
    | none => exact y_isM_c h' fun u => ⟨Or.inr, fun z => z.resolve_left (h u)⟩
    | some w =>
      dsimp only
      by_cases e : t < w
      · rw [if_pos e]
        refine ⟨Or.inr h'.1, fun u hu => ?_⟩
        rcases hu with hu | hu
        · have := h.2 u hu
          omega
        · exact h'.2 u hu
      · rw [if_neg e]
        refine ⟨Or.inl h.1, fun u hu => ?_⟩
        rcases hu with hu | hu
        · exact h.2 u hu
        · have := h'.2 u hu
          omega
theorem y_bh_isM (S : y_S) (st : Nat) : ∀ (l : List (List Nat)) (a : y_A) (P : Nat → Nat → Prop), (∀ h, y_isM (P h) (a h)) → ∀ h, y_isM (fun t => P h t ∨ ∃ p, p ∈ l ∧ p.length = h ∧ y_ar S st p = t) (l.foldl (y_bh S st) a h)
  | [], a, P, ha, h => y_isM_c (ha h) fun u => ⟨Or.inl, fun z => z.resolve_right (by rintro ⟨p, hp, _⟩; cases hp)⟩
  | p :: l, a, P, ha, h => by
    rw [List.foldl_cons]
    have h1 : ∀ h, y_isM (fun t => P h t ∨ (p.length = h ∧ y_ar S st p = t)) (y_bh S st a p h) := by
      intro h
      unfold y_bh
      by_cases e : h = p.length
      · rw [if_pos e]
        have h2 := y_isM_lm (ha h) (o' := some (y_ar S st p)) (Q := fun t => p.length = h ∧ y_ar S st p = t) ⟨⟨e.symm, rfl⟩, fun u hu => by omega⟩
        unfold y_lm at h2
        exact h2
      · rw [if_neg e]
        exact y_isM_c (ha h) fun u => ⟨Or.inl, fun z => z.resolve_right (by rintro ⟨e', _⟩; exact e e'.symm)⟩
    refine y_isM_c (y_bh_isM S st l _ _ h1 h) fun u => ?_
    constructor
    · rintro ((z | ⟨z1, z2⟩) | ⟨q, hq, z⟩)
      · exact Or.inl z
      · exact Or.inr ⟨p, List.mem_cons_self, z1, z2⟩
      · exact Or.inr ⟨q, List.mem_cons_of_mem _ hq, z⟩
    · rintro (z | ⟨q, hq, z⟩)
      · exact Or.inl (Or.inl z)
      · rcases List.mem_cons.mp hq with rfl | hq
        · exact Or.inl (Or.inr z)
        · exact Or.inr ⟨q, hq, z⟩
theorem y_lb_isM {a : y_A} {P : Nat → Nat → Prop} (ha : ∀ h, y_isM (P h) (a h)) : ∀ (j h : Nat) (l : Option Nat) (Q : Nat → Prop), y_isM Q l → y_isM (fun t => Q t ∨ ∃ i, h ≤ i ∧ i < h + j ∧ P i t) (y_lb a j h l)
  | 0, h, l, Q, hl => y_isM_c hl fun u => ⟨Or.inl, fun z => z.resolve_right (by rintro ⟨i, h1, h2, _⟩; omega)⟩
  | j + 1, h, l, Q, hl => by
    refine y_isM_c (y_lb_isM ha j (h + 1) _ _ (y_isM_lm hl (ha h))) fun u => ?_
    constructor
    · rintro ((z | z) | ⟨i, h1, h2, z⟩)
      · exact Or.inl z
      · exact Or.inr ⟨h, by omega, by omega, z⟩
      · exact Or.inr ⟨i, by omega, by omega, z⟩
    · rintro (z | ⟨i, h1, h2, z⟩)
      · exact Or.inl (Or.inl z)
      · by_cases e : i = h
        · subst e
          exact Or.inl (Or.inr z)
        · exact Or.inr ⟨i, by omega, by omega, z⟩
/-- BY k HANDS, by either road -/
theorem y_by {S : y_S} (hok : y_okM S) {k : Nat} (hk : k ≤ 5) : y_lb (y_all S 0).2.2 (k + 1) 0 none = ((y_fnd S (S 0 3) 0 k 0 false).2).map (y_ar S (S 0 4)) := by
  unfold y_all y_fnd
  rw [y_fold_add, y_fold_adr, y_bst0_min]
  have hv : (1 <<< S 0 2 : Nat).testBit (S 0 2) = true := y_one.mpr rfl
  refine y_isM_u (y_isM_c (y_lb_isM (y_bh_isM S (S 0 4) _ (fun _ => none) (fun _ _ => False) (fun h u hu => hu)) (k + 1) 0 none (fun _ => False) (fun u hu => hu)) fun u => ?_) (y_isM_min S (S 0 4) _)
  constructor
  · rintro (z | ⟨i, _, h2, (z | ⟨p, hp, h3, h4⟩)⟩)
    · exact absurd z id
    · exact absurd z id
    · obtain ⟨_, hr⟩ := (y_wl_mem hv).mp hp
      exact ⟨p, (y_wl_mem hv).mpr ⟨by omega, hr⟩, h4⟩
  · rintro ⟨p, hp, h4⟩
    obtain ⟨hl, hr⟩ := (y_wl_mem hv).mp hp
    exact Or.inr ⟨p.length, by omega, by omega, Or.inr ⟨p, (y_wl_mem hv).mpr ⟨by omega, hr⟩, rfl, h4⟩⟩
