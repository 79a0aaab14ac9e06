/-! THE CLASS: search as a whole, least by hands, REACH -/
theorem y_fillI_l (d r L : Nat) (v : Int32) (hL : L < 1000) (hs : ∀ (I : Nat → Nat → Int32) (J : Nat → Nat → Int64) (i v : Int32), xz_sI0 (xz_SH, I, J) r i v = bif xz_in i L then some (xz_SH, xz_up I r i.toNatClampNeg v, J) else none) : ∀ (j k : Nat) (I : Nat → Nat → Int32) (J : Nat → Nat → Int64), k + j = L → ∃ I', zL d q_JD_fillI 6 [(0, .ref r), (1, .int v), (2, .int (nI k)), (3, .int (nI L))] (xz_SH, I, J) = some (none, (xz_SH, I', J)) ∧ (∀ q, q ≠ r → I' q = I q) ∧ (∀ i, k ≤ i → i < L → I' r i = v) ∧ ∀ i, i < k → I' r i = I r i
  | 0, k, I, J, hk => by
    refine ⟨I, ?_, fun _ _ => rfl, fun i h1 h2 => by omega, fun _ _ => rfl⟩
    refine b_JD_fillI_l6 _ _ _ _ _ _ _ ?_
    simp (disch := omega) only [y_eo, y_eb, y_eI, y_eJ, y_eR, y_eV, y_in, nI_clamp, cond_true, y_eqI, y_ltI, y_leI, y_lit, nI_toInt, if_true, if_false, if_pos, if_neg, y_bIt, y_bIf, y_band]
  | j + 1, k, I, J, hk => by
    obtain ⟨I', f1, f2, f3, f4⟩ := y_fillI_l d r L v hL hs j (k + 1) (xz_up I r k v) J (by omega)
    refine ⟨I', ?_, fun q hq => by rw [f2 q hq, y_up_r hq], fun i h1 h2 => ?_, fun i hi => ?_⟩
    · refine b_JD_fillI_l6 _ _ _ _ _ _ _ ?_
      simp (disch := omega) only [y_eo, y_eb, y_eI, y_eJ, y_eR, y_eV, y_in, nI_clamp, cond_true, y_eqI, y_ltI, y_leI, y_lit, nI_toInt, if_true, if_false, if_pos, if_neg, y_bIt, y_bIf, y_band, hs, y_1, f1]
    · by_cases e : i = k
      · rw [e, f4 k (by omega), y_up_e ⟨rfl, rfl⟩]
      · exact f3 i (by omega) h2
    · rw [f4 i (by omega), y_up_n (by omega)]
theorem y_fillI (d r L : Nat) (v : Int32) (hL : L < 1000) (hs : ∀ (I : Nat → Nat → Int32) (J : Nat → Nat → Int64) (i v : Int32), xz_sI0 (xz_SH, I, J) r i v = bif xz_in i L then some (xz_SH, xz_up I r i.toNatClampNeg v, J) else none) (hl : ∀ (I : Nat → Nat → Int32) (J : Nat → Nat → Int64), xz_len (xz_SH, I, J) r = some (nI L)) (I : Nat → Nat → Int32) (J : Nat → Nat → Int64) : ∃ I', zC (d + 1) q_JD_fillI [.ref r, .int v] (xz_SH, I, J) = some (none, (xz_SH, I', J)) ∧ (∀ q, q ≠ r → I' q = I q) ∧ ∀ i, i < L → I' r i = v := by
  obtain ⟨I', f1, f2, f3, _⟩ := y_fillI_l d r L v hL hs L 0 I J (by omega)
  refine ⟨I', ?_, f2, fun i hi => f3 i (by omega) hi⟩
  refine b_JD_fillI _ _ _ _ _ ?_
  simp (disch := omega) only [y_eo, y_eb, y_eI, y_eJ, y_eR, y_eV, y_in, nI_clamp, cond_true, y_eqI, y_ltI, y_leI, y_lit, nI_toInt, if_true, if_false, if_pos, if_neg, y_bIt, y_bIf, y_band, hl]
  exact f1
/-- all ways of the question, gone through by a rule -/
def y_all (S : y_S) (rule : Nat) : y_R := (y_wl S (S 0 3) 0 5 (S 0 2) (S 0 4) (1 <<< S 0 2)).foldl (y_add S (S 0 4) rule) (0, none, fun _ => none)
set_option maxHeartbeats 4000000 in
theorem y_Wa_search (d : Nat) {b : Nat} (hb : y_b3 b) {S : y_S} (hok : y_okM S) {rule : Nat} (hr : rule ≤ 2) {I : Nat → Nat → Int32} (J : Nat → Nat → Int64) (hM : y_vM b S I) : ∃ I' J', zC (d + 10) q_Wa_search [.ref 60, .ref b, .int (nI rule)] (xz_SH, I, J) = some (none, (xz_SH, I', J')) ∧ y_vW S (S 0 4) (S 0 2) rule (y_all S rule) I' J' ∧ y_fw I I' J J' := by
  have hb39 : b ≤ 39 := by rcases hb with rfl | rfl | rfl <;> omega
  have hok' := hok
  obtain ⟨k1, k2, k3, k4, k5, k6, k7, k8⟩ := hok
  obtain ⟨I1, f1, f2, f3⟩ := y_fillI (d + 8) 63 6 (-5) (by decide) (fun I J i v => by simp only [sh_sI0, sh_sI1, sh_sI2]) (fun I J => by rfl) (xz_up (xz_up (xz_up I 60 0 (nI rule)) 60 1 (0 : Int32)) 60 2 (-5 : Int32)) J
  have hI1 : ∀ q, q ≠ 60 → q ≠ 63 → I1 q = I q := fun q h1 h2 => by rw [f2 q h2]; simp (disch := omega) only [y_up_r]
  have h60 : ∀ k, I1 60 k = xz_up (xz_up (xz_up I 60 0 (nI rule)) 60 1 (0 : Int32)) 60 2 (-5 : Int32) 60 k := fun k => by rw [f2 60 (by decide)]
  have hM2 : y_vM b S (xz_up I1 65 0 (nI (S 0 2))) := y_vM_of (fun q h1 h2 => by rw [y_up_r (by omega), hI1 q (by omega) (by omega)]) hM
  obtain ⟨⟨c0, c1, c2, c3, c4⟩, h1, h2⟩ := id hM
  have hb1 : ∀ k, I1 b k = I b k := fun k => by rw [hI1 b (by omega) (by omega)]
  have hb2 : ∀ k v, xz_up I1 65 0 v b k = I b k := fun k v => by rw [y_up_r (by omega), hI1 b (by omega) (by omega)]
  have hW : y_vW S (S 0 4) (S 0 2) rule (0, none, fun _ => none) (xz_up I1 65 0 (nI (S 0 2))) J := by
    refine ⟨?_, ?_, ?_, fun h hh => ⟨?_, fun t ht => by cases ht⟩⟩
    · simp (disch := omega) only [y_up_r, h60, y_up_n, y_up_e]
    · simp (disch := omega) only [y_up_r, h60, y_up_n, y_up_e]
      rfl
    · show xz_up I1 65 0 (nI (S 0 2)) 60 2 = -5
      simp (disch := omega) only [y_up_r, h60, y_up_n, y_up_e]
    · simp (disch := omega) only [y_up_r, f3]
      rfl
  have hP : y_vP S (S 0 2) [] (xz_up I1 65 0 (nI (S 0 2))) := by
    refine ⟨fun i hi => (by cases hi), fun i hi => ?_⟩
    have : i = 0 := by simpa using hi
    subst this
    rw [y_up_e ⟨rfl, rfl⟩]
    rfl
  have h64 := (y_pc_1 (S 0 2) (by omega)).1
  obtain ⟨I', J', g1, g2, g3, g4⟩ := y_goOn hb hok' hr 5 d [] (S 0 2) (S 0 4) (1 <<< S 0 2) _ _ J rfl ⟨by decide, fun m hm => by cases hm⟩ hM2 hW hP rfl (by omega) (by omega) h64
  refine ⟨I', J', ?_, ?_, ?_, g3.2⟩
  · refine b_Wa_search _ _ _ _ _ _ ?_
    simp (disch := omega) only [sh_is0, sh_gI0, sh_wI0, sh_wZ0, sh_gR0, sh_gR1, sh_gR2, sh_lI0, sh_lI1, sh_lI2, sh_sI0, sh_sI1, sh_sI2, sh_len0, sh_len1, sh_len2, sh_lZ0, sh_sZ0, sh_gJ0, sh_wJ0, sh_lR0, sh_lJ0, sh_sJ0, y_shb hb, y_eo, y_eb, y_eI, y_eJ, y_eR, y_eV, y_in, nI_clamp, cond_true, y_eqI, y_ltI, y_leI, y_lit, nI_toInt, if_true, if_false, if_pos, if_neg, y_bIt, y_bIf, y_band, f1, hb1, hb2, c2, c4, y_bit1]
    simp only [show xz_in (0 : Int32) 6 = true from rfl, cond_true, y_eo, show (0 : Int32).toNatClampNeg = 0 from rfl]
    simp (disch := omega) only [sh_is0, sh_gI0, sh_wI0, sh_wZ0, sh_gR0, sh_gR1, sh_gR2, sh_lI0, sh_lI1, sh_lI2, sh_sI0, sh_sI1, sh_sI2, sh_len0, sh_len1, sh_len2, sh_lZ0, sh_sZ0, sh_gJ0, sh_wJ0, sh_lR0, sh_lJ0, sh_sJ0, y_shb hb, y_eo, y_eb, y_eI, y_eJ, y_eR, y_eV, y_in, nI_clamp, cond_true, y_eqI, y_ltI, y_leI, y_lit, nI_toInt, if_true, if_false, if_pos, if_neg, y_bIt, y_bIf, y_band, hb2, c2, c4, y_bit1]
    have e1 : y_su S [] = 10000000000 := by unfold y_su y_pr; decide +kernel
    have e : (10000000000 : Int64) = lN (y_su S []) := by rw [e1]; rfl
    rw [e]
    have g1' : zC (d + 9) q_Wa_goOn [.ref 60, .ref b, .int (0 : Int32), .int (nI (S 0 4)), .int (nI (1 <<< S 0 2)), .long (lN (y_su S []))] (xz_SH, xz_up I1 65 0 (nI (S 0 2)), J) = some (none, (xz_SH, I', J')) := g1
    rw [g1']
    rfl
  · simpa [y_all] using g2
  · intro q hq
    rw [g3.1 q hq, y_up_r (by omega), hI1 q (by omega) (by omega)]
/-- the least of a row of numbers by hands -/
def y_lm (l : Option Nat) (o : Option Nat) : Option Nat := match o with
  | none => l
  | some t => match l with
    | none => some t
    | some u => if t < u then some t else some u
def y_lb (a : y_A) : Nat → Nat → Option Nat → Option Nat
  | 0, _, l => l
  | j + 1, h, l => y_lb a j (h + 1) (y_lm l (a h))
theorem y_Wa_leastBy_l (d : Nat) {a : y_A} {I : Nat → Nat → Int32} (J : Nat → Nat → Int64) (hA : ∀ h, h < 6 → I 63 h = y_o5 (a h) ∧ ∀ t, a h = some t → t ≤ 99) {k : Nat} (hk : k ≤ 5) : ∀ (j h : Nat) (l : Option Nat), h + j = k + 1 → (∀ t, l = some t → t ≤ 99) → zL d q_Wa_leastBy 5 [(0, .ref 60), (1, .int (nI k)), (2, .int (y_o5 l)), (3, .int (nI h))] (xz_SH, I, J) = some (some (.int (y_o5 (y_lb a j h l))), (xz_SH, I, J))
  | 0, h, l, hj, hl => by
    refine b_Wa_leastBy_l5 _ _ _ _ _ _ _ ?_
    simp (disch := omega) only [sh_is0, sh_gI0, sh_wI0, sh_wZ0, sh_gR0, sh_gR1, sh_gR2, sh_lI0, sh_lI1, sh_lI2, sh_sI0, sh_sI1, sh_sI2, sh_len0, sh_len1, sh_len2, sh_lZ0, sh_sZ0, sh_gJ0, sh_wJ0, sh_lR0, sh_lJ0, sh_sJ0, y_eo, y_eb, y_eI, y_eJ, y_eR, y_eV, y_in, nI_clamp, cond_true, y_eqI, y_ltI, y_leI, y_lit, nI_toInt, if_true, if_false, if_pos, if_neg, y_bIt, y_bIf, y_band]
    rfl
  | j + 1, h, l, hj, hl => by
    have ih := fun l hl => y_Wa_leastBy_l d J hA hk j (h + 1) l (by omega) hl
    refine b_Wa_leastBy_l5 _ _ _ _ _ _ _ ?_
    show _ = some (some (Value.int (y_o5 (y_lb a j (h + 1) (y_lm l (a h))))), ((xz_SH, I, J) : xz_M))
    obtain ⟨h1, h2⟩ := hA h (by omega)
    cases e : a h with
    | none =>
      rw [e] at h1
      rw [← ih (y_lm l none) hl]
      simp (disch := omega) only [sh_is0, sh_gI0, sh_wI0, sh_wZ0, sh_gR0, sh_gR1, sh_gR2, sh_lI0, sh_lI1, sh_lI2, sh_sI0, sh_sI1, sh_sI2, sh_len0, sh_len1, sh_len2, sh_lZ0, sh_sZ0, sh_gJ0, sh_wJ0, sh_lR0, sh_lJ0, sh_sJ0, y_eo, y_eb, y_eI, y_eJ, y_eR, y_eV, y_in, nI_clamp, cond_true, y_eqI, y_ltI, y_leI, y_lit, nI_toInt, if_true, if_false, if_pos, if_neg, y_bIt, y_bIf, y_band, h1, y_o5n, y_1, y_lm]
    | some t =>
      rw [e] at h1
      have ht := h2 t e
      cases l with
      | none =>
        rw [← ih (y_lm none (some t)) (fun u hu => by cases hu; exact ht)]
        simp (disch := omega) only [sh_is0, sh_gI0, sh_wI0, sh_wZ0, sh_gR0, sh_gR1, sh_gR2, sh_lI0, sh_lI1, sh_lI2, sh_sI0, sh_sI1, sh_sI2, sh_len0, sh_len1, sh_len2, sh_lZ0, sh_sZ0, sh_gJ0, sh_wJ0, sh_lR0, sh_lJ0, sh_sJ0, y_eo, y_eb, y_eI, y_eJ, y_eR, y_eV, y_in, nI_clamp, cond_true, y_eqI, y_ltI, y_leI, y_lit, nI_toInt, if_true, if_false, if_pos, if_neg, y_bIt, y_bIf, y_band, h1, y_o5s, y_o5n, y_1, y_lm]
      | some u =>
        have hu := hl u rfl
        by_cases e2 : t < u
        · rw [← ih (y_lm (some u) (some t)) (fun w hw => by unfold y_lm at hw; dsimp only at hw; rw [if_pos e2] at hw; cases hw; exact ht)]
          simp (disch := omega) only [sh_is0, sh_gI0, sh_wI0, sh_wZ0, sh_gR0, sh_gR1, sh_gR2, sh_lI0, sh_lI1, sh_lI2, sh_sI0, sh_sI1, sh_sI2, sh_len0, sh_len1, sh_len2, sh_lZ0, sh_sZ0, sh_gJ0, sh_wJ0, sh_lR0, sh_lJ0, sh_sJ0, y_eo, y_eb, y_eI, y_eJ, y_eR, y_eV, y_in, nI_clamp, cond_true, y_eqI, y_ltI, y_leI, y_lit, nI_toInt, if_true, if_false, if_pos, if_neg, y_bIt, y_bIf, y_band, h1, y_o5s, y_1, y_lm]
        · rw [← ih (y_lm (some u) (some t)) (fun w hw => by unfold y_lm at hw; dsimp only at hw; rw [if_neg e2] at hw; cases hw; exact hu)]
          simp (disch := omega) only [sh_is0, sh_gI0, sh_wI0, sh_wZ0, sh_gR0, sh_gR1, sh_gR2, sh_lI0, sh_lI1, sh_lI2, sh_sI0, sh_sI1, sh_sI2, sh_len0, sh_len1, sh_len2, sh_lZ0, sh_sZ0, sh_gJ0, sh_wJ0, sh_lR0, sh_lJ0, sh_sJ0, y_eo, y_eb, y_eI, y_eJ, y_eR, y_eV, y_in, nI_clamp, cond_true, y_eqI, y_ltI, y_leI, y_lit, nI_toInt, if_true, if_false, if_pos, if_neg, y_bIt, y_bIf, y_band, h1, y_o5s, y_1, y_lm]
theorem y_Wa_leastBy (d : Nat) {a : y_A} {I : Nat → Nat → Int32} (J : Nat → Nat → Int64) (hA : ∀ h, h < 6 → I 63 h = y_o5 (a h) ∧ ∀ t, a h = some t → t ≤ 99) {k : Nat} (hk : k ≤ 5) : zC (d + 1) q_Wa_leastBy [.ref 60, .int (nI k)] (xz_SH, I, J) = some (some (.int (y_o5 (y_lb a (k + 1) 0 none))), (xz_SH, I, J)) := b_Wa_leastBy _ _ _ _ _ (y_Wa_leastBy_l d J hA hk (k + 1) 0 none (by omega) (fun t h => by cases h))
/-! REACH -/
def y_vA (a : y_A) (I : Nat → Nat → Int32) : Prop := ∀ p, p < 6 → I 59 p = y_o5 (a p) ∧ ∀ t, a p = some t → t ≤ 99
theorem y_vA_set {a : y_A} {I : Nat → Nat → Int32} (h : y_vA a I) {x t : Nat} (ht : t ≤ 99) : y_vA (y_set a x t) (xz_up I 59 x (nI t)) := by
  intro p hp
  unfold y_set
  by_cases e : p = x
  · rw [if_pos e, y_up_e ⟨rfl, e⟩]
    exact ⟨rfl, fun u hu => by cases hu; exact ht⟩
  · rw [if_neg e, y_up_n (Or.inr e)]
    exact h p hp
theorem y_Re_give20 (d : Nat) {b : Nat} (hb : y_b3 b) {S : y_S} (hok : y_okM S) {I : Nat → Nat → Int32} (J : Nat → Nat → Int64) (hM : y_vM b S I) {a : y_A} (hA : y_vA a I) {m g x t : Nat} (hm : m < S 1 0) (hg : g < 6) (hx : x < 6) (e : a g = some t) : zL d q_Re_give 20 [(0, .ref 58), (1, .ref b), (2, .int (nI (S 2 m))), (3, .int (nI g)), (4, .int (nI x))] (xz_SH, I, J) = if y_rdy S g t ≤ S 2 m then some (some (.int 1), (xz_SH, xz_up I 59 x (nI (S 2 m)), J)) else some (some (.int 0), (xz_SH, I, J)) := by
  obtain ⟨k1, k2, k3, k4, k5, k6, k7, k8⟩ := hok
  obtain ⟨⟨c0, c1, c2, c3, c4⟩, h1, h2⟩ := hM
  obtain ⟨g2, g3, g4, g5, g6, g7, g8⟩ := k8 m hm
  obtain ⟨a1, a2⟩ := hA g hg
  have a3 := a2 t e
  rw [e] at a1
  have a1' : I 59 g = nI t := a1
  unfold y_rdy
  by_cases e1 : g = S 0 2
  · rw [if_pos e1]
    by_cases e2 : t ≤ S 2 m
    · rw [if_pos e2]
      refine b_Re_give_l20 _ _ _ _ _ _ _ _ ?_
      simp (disch := omega) only [sh_is0, sh_gI0, sh_wI0, sh_wZ0, sh_gR0, sh_gR1, sh_gR2, sh_lI0, sh_lI1, sh_lI2, sh_sI0, sh_sI1, sh_sI2, sh_len0, sh_len1, sh_len2, sh_lZ0, sh_sZ0, sh_gJ0, sh_wJ0, sh_lR0, sh_lJ0, sh_sJ0, y_shb hb, y_eo, y_eb, y_eI, y_eJ, y_eR, y_eV, y_in, nI_clamp, cond_true, y_eqI, y_ltI, y_leI, y_lit, nI_toInt, if_true, if_false, if_pos, if_neg, y_bIt, y_bIf, y_band, c2, a1']
    · rw [if_neg e2]
      refine b_Re_give_l20 _ _ _ _ _ _ _ _ ?_
      simp (disch := omega) only [sh_is0, sh_gI0, sh_wI0, sh_wZ0, sh_gR0, sh_gR1, sh_gR2, sh_lI0, sh_lI1, sh_lI2, sh_sI0, sh_sI1, sh_sI2, sh_len0, sh_len1, sh_len2, sh_lZ0, sh_sZ0, sh_gJ0, sh_wJ0, sh_lR0, sh_lJ0, sh_sJ0, y_shb hb, y_eo, y_eb, y_eI, y_eJ, y_eR, y_eV, y_in, nI_clamp, cond_true, y_eqI, y_ltI, y_leI, y_lit, nI_toInt, if_true, if_false, if_pos, if_neg, y_bIt, y_bIf, y_band, c2, a1']
  · rw [if_neg e1]
    by_cases e2 : t + S 0 1 ≤ S 2 m
    · rw [if_pos e2]
      refine b_Re_give_l20 _ _ _ _ _ _ _ _ ?_
      simp (disch := omega) only [sh_is0, sh_gI0, sh_wI0, sh_wZ0, sh_gR0, sh_gR1, sh_gR2, sh_lI0, sh_lI1, sh_lI2, sh_sI0, sh_sI1, sh_sI2, sh_len0, sh_len1, sh_len2, sh_lZ0, sh_sZ0, sh_gJ0, sh_wJ0, sh_lR0, sh_lJ0, sh_sJ0, y_shb hb, y_eo, y_eb, y_eI, y_eJ, y_eR, y_eV, y_in, nI_clamp, cond_true, y_eqI, y_ltI, y_leI, y_lit, nI_toInt, if_true, if_false, if_pos, if_neg, y_bIt, y_bIf, y_band, c1, c2, a1', nI_add]
    · rw [if_neg e2]
      refine b_Re_give_l20 _ _ _ _ _ _ _ _ ?_
      simp (disch := omega) only [sh_is0, sh_gI0, sh_wI0, sh_wZ0, sh_gR0, sh_gR1, sh_gR2, sh_lI0, sh_lI1, sh_lI2, sh_sI0, sh_sI1, sh_sI2, sh_len0, sh_len1, sh_len2, sh_lZ0, sh_sZ0, sh_gJ0, sh_wJ0, sh_lR0, sh_lJ0, sh_sJ0, y_shb hb, y_eo, y_eb, y_eI, y_eJ, y_eR, y_eV, y_in, nI_clamp, cond_true, y_eqI, y_ltI, y_leI, y_lit, nI_toInt, if_true, if_false, if_pos, if_neg, y_bIt, y_bIf, y_band, c1, c2, a1', nI_add]
theorem y_Re_give (d : Nat) {b : Nat} (hb : y_b3 b) {S : y_S} (hok : y_okM S) {I : Nat → Nat → Int32} (J : Nat → Nat → Int64) (hM : y_vM b S I) {a : y_A} (hA : y_vA a I) {m g x : Nat} (hm : m < S 1 0) (hg : g < 6) (hx : x < 6) : ∃ I', zC (d + 1) q_Re_give [.ref 58, .ref b, .int (nI (S 2 m)), .int (nI g), .int (nI x)] (xz_SH, I, J) = some (some (.int (y_bI (y_gv S a m g x).isSome)), (xz_SH, I', J)) ∧ y_vA (y_gvd S a m g x) I' ∧ ∀ q, q ≠ 59 → I' q = I q := by
  have hG := @y_Re_give20 d b hb S hok I J hM a hA m g x
  obtain ⟨k1, k2, k3, k4, k5, k6, k7, k8⟩ := hok
  obtain ⟨g2, g3, g4, g5, g6, g7, g8⟩ := k8 m hm
  obtain ⟨a1, a2⟩ := hA g hg
  obtain ⟨a3, a4⟩ := hA x hx
  have h17 : zL d q_Re_give 17 [] (xz_SH, I, J) = some (some (.int 0), (xz_SH, I, J)) := b_Re_give_l17 _ _ _ rfl
  cases e : a g with
  | none =>
    rw [e] at a1
    have e0 : y_gv S a m g x = none := by unfold y_gv; rw [e]
    refine ⟨I, ?_, by unfold y_gvd; rw [e0]; exact hA, fun _ _ => rfl⟩
    rw [e0]
    refine b_Re_give _ _ _ _ _ _ _ _ ?_
    simp (disch := omega) only [sh_is0, sh_gI0, sh_wI0, sh_wZ0, sh_gR0, sh_gR1, sh_gR2, sh_lI0, sh_lI1, sh_lI2, sh_sI0, sh_sI1, sh_sI2, sh_len0, sh_len1, sh_len2, sh_lZ0, sh_sZ0, sh_gJ0, sh_wJ0, sh_lR0, sh_lJ0, sh_sJ0, y_eo, y_eb, y_eI, y_eJ, y_eR, y_eV, y_in, nI_clamp, cond_true, y_eqI, y_ltI, y_leI, y_lit, nI_toInt, if_true, if_false, if_pos, if_neg, y_bIt, y_bIf, y_band, a1, y_o5n, h17]
    rfl
  | some t =>
    rw [e] at a1
    have a5 := a2 t e
    have hG' := hG (t := t) hm hg hx e
    by_cases e1 : y_rdy S g t ≤ S 2 m
    · rw [if_pos e1] at hG'
      cases e2 : a x with
      | none =>
        rw [e2] at a3
        have e0 : y_gv S a m g x = some (y_set a x (S 2 m)) := by unfold y_gv; rw [e]; dsimp only; rw [if_pos e1, e2]
        refine ⟨_, ?_, by unfold y_gvd; rw [e0]; exact y_vA_set hA g2, fun q hq => y_up_r hq⟩
        rw [e0]
        refine b_Re_give _ _ _ _ _ _ _ _ ?_
        simp (disch := omega) only [sh_is0, sh_gI0, sh_wI0, sh_wZ0, sh_gR0, sh_gR1, sh_gR2, sh_lI0, sh_lI1, sh_lI2, sh_sI0, sh_sI1, sh_sI2, sh_len0, sh_len1, sh_len2, sh_lZ0, sh_sZ0, sh_gJ0, sh_wJ0, sh_lR0, sh_lJ0, sh_sJ0, y_eo, y_eb, y_eI, y_eJ, y_eR, y_eV, y_in, nI_clamp, cond_true, y_eqI, y_ltI, y_leI, y_lit, nI_toInt, if_true, if_false, if_pos, if_neg, y_bIt, y_bIf, y_band, a1, a3, y_o5s, y_o5n, hG']
        rfl
      | some u =>
        rw [e2] at a3
        have a6 := a4 u e2
        by_cases e3 : u ≤ S 2 m
        · have e0 : y_gv S a m g x = none := by unfold y_gv; rw [e]; dsimp only; rw [if_pos e1, e2]; dsimp only; rw [if_pos e3]
          refine ⟨I, ?_, by unfold y_gvd; rw [e0]; exact hA, fun _ _ => rfl⟩
          rw [e0]
          refine b_Re_give _ _ _ _ _ _ _ _ ?_
          simp (disch := omega) only [sh_is0, sh_gI0, sh_wI0, sh_wZ0, sh_gR0, sh_gR1, sh_gR2, sh_lI0, sh_lI1, sh_lI2, sh_sI0, sh_sI1, sh_sI2, sh_len0, sh_len1, sh_len2, sh_lZ0, sh_sZ0, sh_gJ0, sh_wJ0, sh_lR0, sh_lJ0, sh_sJ0, y_eo, y_eb, y_eI, y_eJ, y_eR, y_eV, y_in, nI_clamp, cond_true, y_eqI, y_ltI, y_leI, y_lit, nI_toInt, if_true, if_false, if_pos, if_neg, y_bIt, y_bIf, y_band, a1, a3, y_o5s, h17]
          rfl
        · have e0 : y_gv S a m g x = some (y_set a x (S 2 m)) := by unfold y_gv; rw [e]; dsimp only; rw [if_pos e1, e2]; dsimp only; rw [if_neg e3]
          refine ⟨_, ?_, by unfold y_gvd; rw [e0]; exact y_vA_set hA g2, fun q hq => y_up_r hq⟩
          rw [e0]
          refine b_Re_give _ _ _ _ _ _ _ _ ?_
          simp (disch := omega) only [sh_is0, sh_gI0, sh_wI0, sh_wZ0, sh_gR0, sh_gR1, sh_gR2, sh_lI0, sh_lI1, sh_lI2, sh_sI0, sh_sI1, sh_sI2, sh_len0, sh_len1, sh_len2, sh_lZ0, sh_sZ0, sh_gJ0, sh_wJ0, sh_lR0, sh_lJ0, sh_sJ0, y_eo, y_eb, y_eI, y_eJ, y_eR, y_eV, y_in, nI_clamp, cond_true, y_eqI, y_ltI, y_leI, y_lit, nI_toInt, if_true, if_false, if_pos, if_neg, y_bIt, y_bIf, y_band, a1, a3, y_o5s, hG']
          rfl
    · rw [if_neg e1] at hG'
      have e0 : y_gv S a m g x = none := by unfold y_gv; rw [e]; dsimp only; rw [if_neg e1]
      refine ⟨I, ?_, by unfold y_gvd; rw [e0]; exact hA, fun _ _ => rfl⟩
      rw [e0]
      refine b_Re_give _ _ _ _ _ _ _ _ ?_
      cases e2 : a x with
      | none =>
        rw [e2] at a3
        simp (disch := omega) only [sh_is0, sh_gI0, sh_wI0, sh_wZ0, sh_gR0, sh_gR1, sh_gR2, sh_lI0, sh_lI1, sh_lI2, sh_sI0, sh_sI1, sh_sI2, sh_len0, sh_len1, sh_len2, sh_lZ0, sh_sZ0, sh_gJ0, sh_wJ0, sh_lR0, sh_lJ0, sh_sJ0, y_eo, y_eb, y_eI, y_eJ, y_eR, y_eV, y_in, nI_clamp, cond_true, y_eqI, y_ltI, y_leI, y_lit, nI_toInt, if_true, if_false, if_pos, if_neg, y_bIt, y_bIf, y_band, a1, a3, y_o5s, y_o5n, hG']
        rfl
      | some u =>
        rw [e2] at a3
        have a6 := a4 u e2
        by_cases e3 : u ≤ S 2 m
        · simp (disch := omega) only [sh_is0, sh_gI0, sh_wI0, sh_wZ0, sh_gR0, sh_gR1, sh_gR2, sh_lI0, sh_lI1, sh_lI2, sh_sI0, sh_sI1, sh_sI2, sh_len0, sh_len1, sh_len2, sh_lZ0, sh_sZ0, sh_gJ0, sh_wJ0, sh_lR0, sh_lJ0, sh_sJ0, y_eo, y_eb, y_eI, y_eJ, y_eR, y_eV, y_in, nI_clamp, cond_true, y_eqI, y_ltI, y_leI, y_lit, nI_toInt, if_true, if_false, if_pos, if_neg, y_bIt, y_bIf, y_band, a1, a3, y_o5s, h17]
          rfl
        · simp (disch := omega) only [sh_is0, sh_gI0, sh_wI0, sh_wZ0, sh_gR0, sh_gR1, sh_gR2, sh_lI0, sh_lI1, sh_lI2, sh_sI0, sh_sI1, sh_sI2, sh_len0, sh_len1, sh_len2, sh_lZ0, sh_sZ0, sh_gJ0, sh_wJ0, sh_lR0, sh_lJ0, sh_sJ0, y_eo, y_eb, y_eI, y_eJ, y_eR, y_eV, y_in, nI_clamp, cond_true, y_eqI, y_ltI, y_leI, y_lit, nI_toInt, if_true, if_false, if_pos, if_neg, y_bIt, y_bIf, y_band, a1, a3, y_o5s, hG']
          rfl
theorem y_Re_handOn (d : Nat) {b : Nat} (hb : y_b3 b) {S : y_S} (hok : y_okM S) {I : Nat → Nat → Int32} (J : Nat → Nat → Int64) (hM : y_vM b S I) {a : y_A} (hA : y_vA a I) {B m : Nat} (hB : B < 64) (hm : m < S 1 0) : ∃ I', zC (d + 2) q_Re_handOn [.ref 58, .ref b, .int (nI m), .int (nI B)] (xz_SH, I, J) = some (some (.int (y_bI (y_ho S B a m).2)), (xz_SH, I', J)) ∧ y_vA (y_ho S B a m).1 I' ∧ ∀ q, q ≠ 59 → I' q = I q := by
  have hb39 : b ≤ 39 := by rcases hb with rfl | rfl | rfl <;> omega
  have hok' := hok
  obtain ⟨k1, k2, k3, k4, k5, k6, k7, k8⟩ := hok
  obtain ⟨g2, g3, g4, g5, g6, g7, g8⟩ := k8 m hm
  obtain ⟨⟨c0, c1, c2, c3, c4⟩, h1, h2⟩ := id hM
  obtain ⟨m1, m2, m3, m4, m5⟩ := h2 m hm
  have b3 := y_HR_hasBit d hB (show S 3 m < 6 by omega) (xz_SH, I, J)
  have b4 := y_HR_hasBit d hB (show S 4 m < 6 by omega) (xz_SH, I, J)
  unfold y_ho
  cases e3 : B.testBit (S 3 m) with
  | true =>
    rw [e3] at b3
    rw [if_pos (Or.inl rfl)]
    refine ⟨I, ?_, hA, fun _ _ => rfl⟩
    refine b_Re_handOn _ _ _ _ _ _ _ ?_
    simp (disch := omega) only [sh_is0, sh_gI0, sh_wI0, sh_wZ0, sh_gR0, sh_gR1, sh_gR2, sh_lI0, sh_lI1, sh_lI2, sh_sI0, sh_sI1, sh_sI2, sh_len0, sh_len1, sh_len2, sh_lZ0, sh_sZ0, sh_gJ0, sh_wJ0, sh_lR0, sh_lJ0, sh_sJ0, y_shb hb, y_eo, y_eb, y_eI, y_eJ, y_eR, y_eV, y_in, nI_clamp, cond_true, y_eqI, y_ltI, y_leI, y_lit, nI_toInt, if_true, if_false, if_pos, if_neg, y_bIt, y_bIf, y_band, m2, m3, b3]
  | false =>
    rw [e3] at b3
    cases e4 : B.testBit (S 4 m) with
    | true =>
      rw [e4] at b4
      rw [if_pos (Or.inr rfl)]
      refine ⟨I, ?_, hA, fun _ _ => rfl⟩
      refine b_Re_handOn _ _ _ _ _ _ _ ?_
      simp (disch := omega) only [sh_is0, sh_gI0, sh_wI0, sh_wZ0, sh_gR0, sh_gR1, sh_gR2, sh_lI0, sh_lI1, sh_lI2, sh_sI0, sh_sI1, sh_sI2, sh_len0, sh_len1, sh_len2, sh_lZ0, sh_sZ0, sh_gJ0, sh_wJ0, sh_lR0, sh_lJ0, sh_sJ0, y_shb hb, y_eo, y_eb, y_eI, y_eJ, y_eR, y_eV, y_in, nI_clamp, cond_true, y_eqI, y_ltI, y_leI, y_lit, nI_toInt, if_true, if_false, if_pos, if_neg, y_bIt, y_bIf, y_band, m2, m3, b3, b4]
    | false =>
      rw [e4] at b4
      rw [if_neg (by simp)]
      obtain ⟨I1, f1, f2, f3⟩ := y_Re_give d hb hok' J hM hA (m := m) (g := S 3 m) (x := S 4 m) hm (by omega) (by omega)
      obtain ⟨I2, g1, g2', g3'⟩ := y_Re_give d hb hok' J (y_vM_of (fun q _ _ => f3 q (by omega)) hM) f2 (m := m) (g := S 4 m) (x := S 3 m) hm (by omega) (by omega)
      refine ⟨I2, ?_, g2', fun q hq => (g3' q hq).trans (f3 q hq)⟩
      refine b_Re_handOn _ _ _ _ _ _ _ ?_
      cases e5 : (y_gv S a m (S 3 m) (S 4 m)).isSome with
      | true =>
        rw [e5] at f1
        cases e6 : (y_gv S (y_gvd S a m (S 3 m) (S 4 m)) m (S 4 m) (S 3 m)).isSome with
        | true =>
          rw [e6] at g1
          simp (disch := omega) only [sh_is0, sh_gI0, sh_wI0, sh_wZ0, sh_gR0, sh_gR1, sh_gR2, sh_lI0, sh_lI1, sh_lI2, sh_sI0, sh_sI1, sh_sI2, sh_len0, sh_len1, sh_len2, sh_lZ0, sh_sZ0, sh_gJ0, sh_wJ0, sh_lR0, sh_lJ0, sh_sJ0, y_shb hb, y_eo, y_eb, y_eI, y_eJ, y_eR, y_eV, y_in, nI_clamp, cond_true, y_eqI, y_ltI, y_leI, y_lit, nI_toInt, if_true, if_false, if_pos, if_neg, y_bIt, y_bIf, y_band, m1, m2, m3, b3, b4, f1, g1]
          rfl
        | false =>
          rw [e6] at g1
          simp (disch := omega) only [sh_is0, sh_gI0, sh_wI0, sh_wZ0, sh_gR0, sh_gR1, sh_gR2, sh_lI0, sh_lI1, sh_lI2, sh_sI0, sh_sI1, sh_sI2, sh_len0, sh_len1, sh_len2, sh_lZ0, sh_sZ0, sh_gJ0, sh_wJ0, sh_lR0, sh_lJ0, sh_sJ0, y_shb hb, y_eo, y_eb, y_eI, y_eJ, y_eR, y_eV, y_in, nI_clamp, cond_true, y_eqI, y_ltI, y_leI, y_lit, nI_toInt, if_true, if_false, if_pos, if_neg, y_bIt, y_bIf, y_band, m1, m2, m3, b3, b4, f1, g1]
          rfl
      | false =>
        rw [e5] at f1
        cases e6 : (y_gv S (y_gvd S a m (S 3 m) (S 4 m)) m (S 4 m) (S 3 m)).isSome with
        | true =>
          rw [e6] at g1
          simp (disch := omega) only [sh_is0, sh_gI0, sh_wI0, sh_wZ0, sh_gR0, sh_gR1, sh_gR2, sh_lI0, sh_lI1, sh_lI2, sh_sI0, sh_sI1, sh_sI2, sh_len0, sh_len1, sh_len2, sh_lZ0, sh_sZ0, sh_gJ0, sh_wJ0, sh_lR0, sh_lJ0, sh_sJ0, y_shb hb, y_eo, y_eb, y_eI, y_eJ, y_eR, y_eV, y_in, nI_clamp, cond_true, y_eqI, y_ltI, y_leI, y_lit, nI_toInt, if_true, if_false, if_pos, if_neg, y_bIt, y_bIf, y_band, m1, m2, m3, b3, b4, f1, g1]
          rfl
        | false =>
          rw [e6] at g1
          simp (disch := omega) only [sh_is0, sh_gI0, sh_wI0, sh_wZ0, sh_gR0, sh_gR1, sh_gR2, sh_lI0, sh_lI1, sh_lI2, sh_sI0, sh_sI1, sh_sI2, sh_len0, sh_len1, sh_len2, sh_lZ0, sh_sZ0, sh_gJ0, sh_wJ0, sh_lR0, sh_lJ0, sh_sJ0, y_shb hb, y_eo, y_eb, y_eI, y_eJ, y_eR, y_eV, y_in, nI_clamp, cond_true, y_eqI, y_ltI, y_leI, y_lit, nI_toInt, if_true, if_false, if_pos, if_neg, y_bIt, y_bIf, y_band, m1, m2, m3, b3, b4, f1, g1]
          rfl
