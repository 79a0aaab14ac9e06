/-! THE REFERENCE: goes, finds -/
theorem y_adr_stay {S : y_S} {st rule : Nat} {Q : y_Q} (h : Q.2.isSome = true) : ∀ l : List (List Nat), l.foldl (y_adr S st rule true) Q = Q
  | [] => rfl
  | p :: l => by
    have e : y_adr S st rule true Q p = Q := by unfold y_adr; rw [if_pos ⟨rfl, h⟩]
    rw [List.foldl_cons, e]
    exact y_adr_stay h l
def y_v8 (p : List Nat) (I : Nat → Nat → Int32) : Prop := ∀ i, i < p.length → I 108 i = nI (p.getD i 0)
def y_k8 (p : List Nat) (I I' : Nat → Nat → Int32) : Prop := ∀ i, i < p.length → I' 108 i = I 108 i
theorem y_v8_app {p : List Nat} {I : Nat → Nat → Int32} {m : Nat} (h : y_v8 p I) : y_v8 (p ++ [m]) (xz_up I 108 p.length (nI m)) := by
  intro i hi
  rw [List.length_append, List.length_singleton] at hi
  by_cases e : i = p.length
  · rw [e, y_up_e ⟨rfl, rfl⟩]
    simp [List.getD_eq_getElem?_getD]
  · rw [y_up_n (by omega), h i (by omega)]
    simp [List.getD_eq_getElem?_getD, List.getElem?_append_left (show i < p.length by omega)]
theorem y_v8_k {p : List Nat} {I I' : Nat → Nat → Int32} (h : y_v8 p I) (k : y_k8 p I I') : y_v8 p I' := fun i hi => by rw [k i hi]; exact h i hi
theorem y_k8_t {p : List Nat} {I I' I'' : Nat → Nat → Int32} (h : y_k8 p I I') (h' : y_k8 p I' I'') : y_k8 p I I'' := fun i hi => (h' i hi).trans (h i hi)
theorem y_vQ_of {S : y_S} {st : Nat} {Q : y_Q} {I I' : Nat → Nat → Int32} {J : Nat → Nat → Int64} (h : I' 92 = I 92) (h' : I' 109 = I 109) (hQ : y_vQ S st Q I J) : y_vQ S st Q I' J := by
  unfold y_vQ y_vG at *
  rw [h, h']
  exact hQ
set_option maxHeartbeats 8000000 in
theorem y_goes {S : y_S} (hok : y_okM S) {rule g B k : Nat} {e : Bool} (hr : rule ≤ 2) (hg6 : g < 6) (hB : B < 64) (hk : k ≤ 6) : ∀ (n d : Nat) (p : List Nat) (h r v : Nat) (Q : y_Q) (I : Nat → Nat → Int32) (J : Nat → Nat → Int64), p.length + n = k → y_pth S p → y_pc v = p.length + 1 → y_vR S I → y_vc g B k rule e I → y_vQ S (S 0 4) Q I J → y_v8 p I → h < 6 → r < 1000 → v < 64 →
    ∃ I' J', zC (d + n + 4) q_Mo_goes [.ref 92, .int (nI h), .int (nI r), .int (nI v), .int (nI p.length)] (xz_SH, I, J) = some (none, (xz_SH, I', J')) ∧ y_vQ S (S 0 4) (((y_wl S g B n h r v).map (p ++ ·)).foldl (y_adr S (S 0 4) rule e) Q) I' J' ∧ y_fg I I' J J' ∧ y_k8 p I I' := by
  intro n
  induction n with
  | zero =>
    intro d p h r v Q I J hl hp hpc hR hc hQ h8 h6 hr' hv
    have hp6 : p.length ≤ 5 := hp.1
    obtain ⟨v1, v2, v3, v4, v5⟩ := id hc
    obtain ⟨q1, q2⟩ := id hQ
    show ∃ I' J', zC (d + 0 + 4) q_Mo_goes [.ref 92, .int (nI h), .int (nI r), .int (nI v), .int (nI p.length)] (xz_SH, I, J) = some (none, (xz_SH, I', J')) ∧ y_vQ S (S 0 4) (((if h = g then [[]] else []).map (p ++ ·)).foldl (y_adr S (S 0 4) rule e) Q) I' J' ∧ y_fg I I' J J' ∧ y_k8 p I I'
    by_cases hs : e = true ∧ Q.2.isSome = true
    · refine ⟨I, J, ?_, ?_, y_fg_r I J, fun _ _ => rfl⟩
      · refine b_Mo_goes _ _ _ _ _ _ _ _ ?_
        rw [hs.1] at v5
        cases e2 : Q.2 with
        | none => rw [e2] at hs; cases hs.2
        | some q =>
          rw [e2] at q2
          simp (maxSteps := 1000000) (disch := omega) only [sh_is0, sh_gI0, sh_wI0, sh_wZ0, sh_gR0, sh_gR1, sh_gR2, sh_lI0, sh_lI1, sh_lI2, sh_sI0, sh_sI1, sh_sI2, sh_len0, sh_len1, sh_len2, sh_lZ0, sh_sZ0, sh_gJ0, sh_wJ0, sh_lR0, sh_lJ0, sh_sJ0, y_eo, y_eb, y_eI, y_eJ, y_eR, y_eV, y_in, nI_clamp, cond_true, y_eqI, y_ltI, y_leI, y_lit, nI_toInt, if_true, if_false, if_pos, if_neg, y_bIt, y_bIf, y_band, v5, q2.1]
      · rw [hs.1, y_adr_stay hs.2]
        exact hQ
    · have hes : ∀ q, y_adr S (S 0 4) rule e Q q = (Q.1 + 1, y_bst S (S 0 4) rule Q.2 q) := fun q => by unfold y_adr; rw [if_neg hs]
      have hgo : ∀ (I' : Nat → Nat → Int32) (J' : Nat → Nat → Int64), (if h = g then zC (d + 3) q_Mo_comes [.ref 92, .int (nI p.length)] (xz_SH, I, J) = some (none, (xz_SH, I', J')) else I' = I ∧ J' = J) → zC (d + 0 + 4) q_Mo_goes [.ref 92, .int (nI h), .int (nI r), .int (nI v), .int (nI p.length)] (xz_SH, I, J) = some (none, (xz_SH, I', J')) := by
        intro I' J' hh
        refine b_Mo_goes _ _ _ _ _ _ _ _ ?_
        cases e with
        | false =>
          by_cases hg : h = g
          · rw [if_pos hg] at hh
            simp (maxSteps := 1000000) (disch := omega) only [sh_is0, sh_gI0, sh_wI0, sh_wZ0, sh_gR0, sh_gR1, sh_gR2, sh_lI0, sh_lI1, sh_lI2, sh_sI0, sh_sI1, sh_sI2, sh_len0, sh_len1, sh_len2, sh_lZ0, sh_sZ0, sh_gJ0, sh_wJ0, sh_lR0, sh_lJ0, sh_sJ0, y_eo, y_eb, y_eI, y_eJ, y_eR, y_eV, y_in, nI_clamp, cond_true, y_eqI, y_ltI, y_leI, y_lit, nI_toInt, if_true, if_false, if_pos, if_neg, y_bIt, y_bIf, y_band, v5, v1, hh]
          · rw [if_neg hg] at hh
            obtain ⟨rfl, rfl⟩ := hh
            simp (maxSteps := 1000000) (disch := omega) only [sh_is0, sh_gI0, sh_wI0, sh_wZ0, sh_gR0, sh_gR1, sh_gR2, sh_lI0, sh_lI1, sh_lI2, sh_sI0, sh_sI1, sh_sI2, sh_len0, sh_len1, sh_len2, sh_lZ0, sh_sZ0, sh_gJ0, sh_wJ0, sh_lR0, sh_lJ0, sh_sJ0, y_eo, y_eb, y_eI, y_eJ, y_eR, y_eV, y_in, nI_clamp, cond_true, y_eqI, y_ltI, y_leI, y_lit, nI_toInt, if_true, if_false, if_pos, if_neg, y_bIt, y_bIf, y_band, v5, v1, v3]
        | true =>
          cases e2 : Q.2 with
          | some q => rw [e2] at hs; exact absurd ⟨rfl, rfl⟩ hs
          | none =>
            rw [e2] at q2
            have q2' : I 92 37 = 0 := q2
            by_cases hg : h = g
            · rw [if_pos hg] at hh
              simp (maxSteps := 1000000) (disch := omega) only [sh_is0, sh_gI0, sh_wI0, sh_wZ0, sh_gR0, sh_gR1, sh_gR2, sh_lI0, sh_lI1, sh_lI2, sh_sI0, sh_sI1, sh_sI2, sh_len0, sh_len1, sh_len2, sh_lZ0, sh_sZ0, sh_gJ0, sh_wJ0, sh_lR0, sh_lJ0, sh_sJ0, y_eo, y_eb, y_eI, y_eJ, y_eR, y_eV, y_in, nI_clamp, cond_true, y_eqI, y_ltI, y_leI, y_lit, nI_toInt, if_true, if_false, if_pos, if_neg, y_bIt, y_bIf, y_band, v5, v1, hh, q2']
            · rw [if_neg hg] at hh
              obtain ⟨rfl, rfl⟩ := hh
              simp (maxSteps := 1000000) (disch := omega) only [sh_is0, sh_gI0, sh_wI0, sh_wZ0, sh_gR0, sh_gR1, sh_gR2, sh_lI0, sh_lI1, sh_lI2, sh_sI0, sh_sI1, sh_sI2, sh_len0, sh_len1, sh_len2, sh_lZ0, sh_sZ0, sh_gJ0, sh_wJ0, sh_lR0, sh_lJ0, sh_sJ0, y_eo, y_eb, y_eI, y_eJ, y_eR, y_eV, y_in, nI_clamp, cond_true, y_eqI, y_ltI, y_leI, y_lit, nI_toInt, if_true, if_false, if_pos, if_neg, y_bIt, y_bIf, y_band, v5, v1, v3, q2']
      by_cases hg : h = g
      · obtain ⟨I', J', f1, f2, f3, f4⟩ := y_Mo_comes (d + 1) hok hr (e := e) (g := g) (B := B) (k := k) hR hc hQ hp h8
        refine ⟨I', J', hgo I' J' (by rw [if_pos hg]; exact f1), ?_, f3, fun i _ => by rw [f4]⟩
        rw [if_pos hg]
        have : List.foldl (y_adr S (S 0 4) rule e) Q (List.map (fun x => p ++ x) [[]]) = y_adr S (S 0 4) rule e Q p := by simp
        rw [this, hes]
        exact f2
      · refine ⟨I, J, hgo I J (by rw [if_neg hg]; exact ⟨rfl, rfl⟩), ?_, y_fg_r I J, fun _ _ => rfl⟩
        rw [if_neg hg]
        exact hQ
  | succ n ih =>
    intro d p h r v Q I J hl hp hpc hR hc hQ h8 h6 hr' hv
    have hp6 : p.length ≤ 5 := hp.1
    obtain ⟨v1, v2, v3, v4, v5⟩ := id hc
    obtain ⟨q1, q2⟩ := id hQ
    by_cases hs : e = true ∧ Q.2.isSome = true
    · refine ⟨I, J, ?_, ?_, y_fg_r I J, fun _ _ => rfl⟩
      · refine b_Mo_goes _ _ _ _ _ _ _ _ ?_
        rw [hs.1] at v5
        cases e2 : Q.2 with
        | none => rw [e2] at hs; cases hs.2
        | some q =>
          rw [e2] at q2
          simp (maxSteps := 1000000) (disch := omega) only [sh_is0, sh_gI0, sh_wI0, sh_wZ0, sh_gR0, sh_gR1, sh_gR2, sh_lI0, sh_lI1, sh_lI2, sh_sI0, sh_sI1, sh_sI2, sh_len0, sh_len1, sh_len2, sh_lZ0, sh_sZ0, sh_gJ0, sh_wJ0, sh_lR0, sh_lJ0, sh_sJ0, y_eo, y_eb, y_eI, y_eJ, y_eR, y_eV, y_in, nI_clamp, cond_true, y_eqI, y_ltI, y_leI, y_lit, nI_toInt, if_true, if_false, if_pos, if_neg, y_bIt, y_bIf, y_band, v5, q2.1]
      · rw [hs.1, y_adr_stay hs.2]
        exact hQ
    · have hes : ∀ q, y_adr S (S 0 4) rule e Q q = (Q.1 + 1, y_bst S (S 0 4) rule Q.2 q) := fun q => by unfold y_adr; rw [if_neg hs]
      have hgo : ∀ (I' : Nat → Nat → Int32) (J' : Nat → Nat → Int64), (if h = g then zC (d + (n + 1) + 3) q_Mo_comes [.ref 92, .int (nI p.length)] (xz_SH, I, J) = some (none, (xz_SH, I', J')) else zL (d + (n + 1) + 3) q_Mo_goes 23 [(0, .ref 92), (1, .int (nI h)), (2, .int (nI r)), (3, .int (nI v)), (4, .int (nI p.length)), (5, .int (0 : Int32))] (xz_SH, I, J) = some (none, (xz_SH, I', J'))) → zC (d + (n + 1) + 4) q_Mo_goes [.ref 92, .int (nI h), .int (nI r), .int (nI v), .int (nI p.length)] (xz_SH, I, J) = some (none, (xz_SH, I', J')) := by
        intro I' J' hh
        refine b_Mo_goes _ _ _ _ _ _ _ _ ?_
        cases e with
        | false =>
          by_cases hg : h = g
          · rw [if_pos hg] at hh
            simp (maxSteps := 1000000) (disch := omega) only [sh_is0, sh_gI0, sh_wI0, sh_wZ0, sh_gR0, sh_gR1, sh_gR2, sh_lI0, sh_lI1, sh_lI2, sh_sI0, sh_sI1, sh_sI2, sh_len0, sh_len1, sh_len2, sh_lZ0, sh_sZ0, sh_gJ0, sh_wJ0, sh_lR0, sh_lJ0, sh_sJ0, y_eo, y_eb, y_eI, y_eJ, y_eR, y_eV, y_in, nI_clamp, cond_true, y_eqI, y_ltI, y_leI, y_lit, nI_toInt, if_true, if_false, if_pos, if_neg, y_bIt, y_bIf, y_band, v5, v1, hh]
          · rw [if_neg hg] at hh
            simp (maxSteps := 1000000) (disch := omega) only [sh_is0, sh_gI0, sh_wI0, sh_wZ0, sh_gR0, sh_gR1, sh_gR2, sh_lI0, sh_lI1, sh_lI2, sh_sI0, sh_sI1, sh_sI2, sh_len0, sh_len1, sh_len2, sh_lZ0, sh_sZ0, sh_gJ0, sh_wJ0, sh_lR0, sh_lJ0, sh_sJ0, y_eo, y_eb, y_eI, y_eJ, y_eR, y_eV, y_in, nI_clamp, cond_true, y_eqI, y_ltI, y_leI, y_lit, nI_toInt, if_true, if_false, if_pos, if_neg, y_bIt, y_bIf, y_band, v5, v1, v3]
            exact hh
        | true =>
          cases e2 : Q.2 with
          | some q => rw [e2] at hs; exact absurd ⟨rfl, rfl⟩ hs
          | none =>
            rw [e2] at q2
            have q2' : I 92 37 = 0 := q2
            by_cases hg : h = g
            · rw [if_pos hg] at hh
              simp (maxSteps := 1000000) (disch := omega) only [sh_is0, sh_gI0, sh_wI0, sh_wZ0, sh_gR0, sh_gR1, sh_gR2, sh_lI0, sh_lI1, sh_lI2, sh_sI0, sh_sI1, sh_sI2, sh_len0, sh_len1, sh_len2, sh_lZ0, sh_sZ0, sh_gJ0, sh_wJ0, sh_lR0, sh_lJ0, sh_sJ0, y_eo, y_eb, y_eI, y_eJ, y_eR, y_eV, y_in, nI_clamp, cond_true, y_eqI, y_ltI, y_leI, y_lit, nI_toInt, if_true, if_false, if_pos, if_neg, y_bIt, y_bIf, y_band, v5, v1, hh, q2']
            · rw [if_neg hg] at hh
              simp (maxSteps := 1000000) (disch := omega) only [sh_is0, sh_gI0, sh_wI0, sh_wZ0, sh_gR0, sh_gR1, sh_gR2, sh_lI0, sh_lI1, sh_lI2, sh_sI0, sh_sI1, sh_sI2, sh_len0, sh_len1, sh_len2, sh_lZ0, sh_sZ0, sh_gJ0, sh_wJ0, sh_lR0, sh_lJ0, sh_sJ0, y_eo, y_eb, y_eI, y_eJ, y_eR, y_eV, y_in, nI_clamp, cond_true, y_eqI, y_ltI, y_leI, y_lit, nI_toInt, if_true, if_false, if_pos, if_neg, y_bIt, y_bIf, y_band, v5, v1, v3, q2']
              exact hh
      by_cases hg : h = g
      · obtain ⟨I', J', f1, f2, f3, f4⟩ := y_Mo_comes (d + (n + 1) + 1) hok hr (e := e) (g := g) (B := B) (k := k) hR hc hQ hp h8
        refine ⟨I', J', hgo I' J' (by rw [if_pos hg]; exact f1), ?_, f3, fun i _ => by rw [f4]⟩
        have ew : y_wl S g B (n + 1) h r v = [[]] := by
          show (if h = g then [[]] else _) = _
          rw [if_pos hg]
        rw [ew]
        have : List.foldl (y_adr S (S 0 4) rule e) Q (List.map (fun x => p ++ x) [[]]) = y_adr S (S 0 4) rule e Q p := by simp
        rw [this, hes]
        exact f2
      · have ew : y_wl S g B (n + 1) h r v = y_wm (fun m x => y_wl S g B n x (S 2 m + S 0 1) (v ||| 1 <<< x)) (fun m => y_tk S B m h r v) (S 1 0) 0 := by
          show (if h = g then [[]] else _) = _
          rw [if_neg hg]
        rw [ew]
        clear hes q1 q2 v1 v2 v3 v4 v5 hs ew
        have loop : ∀ (j m : Nat) (Q : y_Q) (I : Nat → Nat → Int32) (J : Nat → Nat → Int64), m + j = S 1 0 → y_vR S I → y_vc g B k rule e I → y_vQ S (S 0 4) Q I J → y_v8 p I →
            ∃ I' J', zL (d + (n + 1) + 3) q_Mo_goes 23 [(0, .ref 92), (1, .int (nI h)), (2, .int (nI r)), (3, .int (nI v)), (4, .int (nI p.length)), (5, .int (nI m))] (xz_SH, I, J) = some (none, (xz_SH, I', J')) ∧ y_vQ S (S 0 4) (((y_wm (fun m x => y_wl S g B n x (S 2 m + S 0 1) (v ||| 1 <<< x)) (fun m => y_tk S B m h r v) j m).map (p ++ ·)).foldl (y_adr S (S 0 4) rule e) Q) I' J' ∧ y_fg I I' J J' ∧ y_k8 p I I' := by
          intro j
          induction j with
          | zero =>
            intro m Q I J hm hR hc hQ h8
            obtain ⟨k1, k2, k3, k4, k5, k6, k7, k8⟩ := hok
            refine ⟨I, J, ?_, hQ, y_fg_r I J, fun _ _ => rfl⟩
            refine b_Mo_goes_l23 _ _ _ _ _ _ _ _ _ ?_
            have h1 := hR.2.1
            simp (maxSteps := 1000000) (disch := omega) only [sh_is0, sh_gI0, sh_wI0, sh_wZ0, sh_gR0, sh_gR1, sh_gR2, sh_lI0, sh_lI1, sh_lI2, sh_sI0, sh_sI1, sh_sI2, sh_len0, sh_len1, sh_len2, sh_lZ0, sh_sZ0, sh_gJ0, sh_wJ0, sh_lR0, sh_lJ0, sh_sJ0, y_eo, y_eb, h1]
            rw [if_pos (by rw [y_leI, nI_toInt (by omega), nI_toInt (by omega)]; omega)]
          | succ j jh =>
            intro m Q I J hm hR hc hQ h8
            have hok' := hok
            obtain ⟨k1, k2, k3, k4, k5, k6, k7, k8⟩ := hok
            obtain ⟨v1, v2, v3, v4, v5⟩ := id hc
            obtain ⟨⟨c0, c1, c2, c3, c4⟩, h1, h2⟩ := id hR
            obtain ⟨m1, m2, m3, m4, m5⟩ := h2 m (by omega)
            obtain ⟨g2, g3, g4, g5, g6, g7, g8⟩ := k8 m (by omega)
            have hO := y_Mo_otherBy (d + (n + 1) + 2) J hR hok' (m := m) (h := h) (by omega) (by omega)
            have hlt : ¬ (nI (S 1 0) ≤ nI m) := by
              rw [y_leI, nI_toInt (by omega), nI_toInt (by omega)]
              omega
            -- the meeting leads nowhere
            have none_ : y_tk S B m h r v = none → (∀ ro, zL (d + (n + 1) + 3) q_Mo_goes 23 [(0, .ref 92), (1, .int (nI h)), (2, .int (nI r)), (3, .int (nI v)), (4, .int (nI p.length)), (5, .int (nI (m + 1)))] (xz_SH, I, J) = some ro → zL (d + (n + 1) + 3) q_Mo_goes 23 [(0, .ref 92), (1, .int (nI h)), (2, .int (nI r)), (3, .int (nI v)), (4, .int (nI p.length)), (5, .int (nI m))] (xz_SH, I, J) = some ro) := by
              intro ht ro hro
              refine b_Mo_goes_l23 _ _ _ _ _ _ _ _ _ ?_
              simp (maxSteps := 1000000) (disch := omega) only [sh_is0, sh_gI0, sh_wI0, sh_wZ0, sh_gR0, sh_gR1, sh_gR2, sh_lI0, sh_lI1, sh_lI2, sh_sI0, sh_sI1, sh_sI2, sh_len0, sh_len1, sh_len2, sh_lZ0, sh_sZ0, sh_gJ0, sh_wJ0, sh_lR0, sh_lJ0, sh_sJ0, y_eo, y_eb, h1]
              rw [if_neg hlt]
              unfold y_tk at ht
              by_cases e1 : S 6 m = 0
              · simp (maxSteps := 1000000) (disch := omega) only [sh_is0, sh_gI0, sh_wI0, sh_wZ0, sh_gR0, sh_gR1, sh_gR2, sh_lI0, sh_lI1, sh_lI2, sh_sI0, sh_sI1, sh_sI2, sh_len0, sh_len1, sh_len2, sh_lZ0, sh_sZ0, sh_gJ0, sh_wJ0, sh_lR0, sh_lJ0, sh_sJ0, y_eo, y_eb, y_in (show m < 14 by omega) (by decide), cond_true, nI_clamp (show m < 2 ^ 31 by omega), m5, e1]
                rw [if_neg (by decide)]
                cases e2 : y_ot S m h with
                | none =>
                  rw [e2] at hO
                  simp (maxSteps := 1000000) (disch := omega) only [sh_is0, sh_gI0, sh_wI0, sh_wZ0, sh_gR0, sh_gR1, sh_gR2, sh_lI0, sh_lI1, sh_lI2, sh_sI0, sh_sI1, sh_sI2, sh_len0, sh_len1, sh_len2, sh_lZ0, sh_sZ0, sh_gJ0, sh_wJ0, sh_lR0, sh_lJ0, sh_sJ0, y_eo, y_eb, hO, y_eI]
                  rw [if_pos (by decide), y_1]
                  exact hro
                | some x =>
                  rw [e2] at hO ht
                  have hx := y_ot_lt hok' (show m < S 1 0 by omega) e2
                  simp (maxSteps := 1000000) (disch := omega) only [sh_is0, sh_gI0, sh_wI0, sh_wZ0, sh_gR0, sh_gR1, sh_gR2, sh_lI0, sh_lI1, sh_lI2, sh_sI0, sh_sI1, sh_sI2, sh_len0, sh_len1, sh_len2, sh_lZ0, sh_sZ0, sh_gJ0, sh_wJ0, sh_lR0, sh_lJ0, sh_sJ0, y_eo, y_eb, hO, y_eI, y_o1s]
                  rw [if_neg (by rw [y_eqI, nI_toInt (by omega)]; simp only [y_lit]; omega)]
                  simp (maxSteps := 1000000) (disch := omega) only [sh_is0, sh_gI0, sh_wI0, sh_wZ0, sh_gR0, sh_gR1, sh_gR2, sh_lI0, sh_lI1, sh_lI2, sh_sI0, sh_sI1, sh_sI2, sh_len0, sh_len1, sh_len2, sh_lZ0, sh_sZ0, sh_gJ0, sh_wJ0, sh_lR0, sh_lJ0, sh_sJ0, y_eo, y_eb, y_in (show m < 14 by omega) (by decide), cond_true, nI_clamp (show m < 2 ^ 31 by omega), m1]
                  by_cases e3 : r ≤ S 2 m
                  · rw [if_neg (by rw [y_ltI, nI_toInt (by omega), nI_toInt (by omega)]; omega)]
                    rw [if_pos ⟨e1, e3⟩] at ht
                    dsimp only at ht
                    simp (maxSteps := 1000000) (disch := omega) only [sh_is0, sh_gI0, sh_wI0, sh_wZ0, sh_gR0, sh_gR1, sh_gR2, sh_lI0, sh_lI1, sh_lI2, sh_sI0, sh_sI1, sh_sI2, sh_len0, sh_len1, sh_len2, sh_lZ0, sh_sZ0, sh_gJ0, sh_wJ0, sh_lR0, sh_lJ0, sh_sJ0, y_eo, y_eb, y_Mo_has _ hv hx.2, y_eI]
                    cases e4 : v.testBit x with
                    | true =>
                      rw [if_neg (by decide), y_1]
                      exact hro
                    | false =>
                      rw [if_pos (by decide)]
                      simp (maxSteps := 1000000) (disch := omega) only [sh_is0, sh_gI0, sh_wI0, sh_wZ0, sh_gR0, sh_gR1, sh_gR2, sh_lI0, sh_lI1, sh_lI2, sh_sI0, sh_sI1, sh_sI2, sh_len0, sh_len1, sh_len2, sh_lZ0, sh_sZ0, sh_gJ0, sh_wJ0, sh_lR0, sh_lJ0, sh_sJ0, y_eo, y_eb, v2, y_Mo_has _ hB hx.2, y_eI]
                      cases e5 : B.testBit x with
                      | true =>
                        rw [if_neg (by decide), y_1]
                        exact hro
                      | false =>
                        rw [if_neg (by rw [e4, e5]; simp)] at ht
                        cases ht
                  · rw [if_pos (by rw [y_ltI, nI_toInt (by omega), nI_toInt (by omega)]; omega), y_1]
                    exact hro
              · have e1' : S 6 m = 1 := by omega
                simp (maxSteps := 1000000) (disch := omega) only [sh_is0, sh_gI0, sh_wI0, sh_wZ0, sh_gR0, sh_gR1, sh_gR2, sh_lI0, sh_lI1, sh_lI2, sh_sI0, sh_sI1, sh_sI2, sh_len0, sh_len1, sh_len2, sh_lZ0, sh_sZ0, sh_gJ0, sh_wJ0, sh_lR0, sh_lJ0, sh_sJ0, y_eo, y_eb, y_in (show m < 14 by omega) (by decide), cond_true, nI_clamp (show m < 2 ^ 31 by omega), m5, e1']
                rw [if_pos (by decide), if_pos trivial, y_1]
                exact hro
            cases ht : y_tk S B m h r v with
            | none =>
              rw [y_wm_mapn _ (fun m => y_tk S B m h r v) _ _ _ ht]
              obtain ⟨I', J', f1, f2, f3, f4⟩ := jh (m + 1) Q I J (by omega) hR hc hQ h8
              exact ⟨I', J', none_ ht _ f1, f2, f3, f4⟩
            | some x =>
              rw [y_wm_map _ (fun m => y_tk S B m h r v) _ _ x _ ht, List.foldl_append]
              obtain ⟨t1, t2, t3, t4, t5⟩ := y_tk_i ht
              have hx := y_ot_lt hok' (show m < S 1 0 by omega) t3
              obtain ⟨hv', hpc'⟩ := y_pc_or v hv x hx.2 t4
              have hle := y_pc_le _ hv'
              rw [t3] at hO
              have fr0 : y_fg I (xz_up I 108 p.length (nI m)) J J := ⟨fun q h1 h2 h3 => y_up_r h2, fun j h1 h2 => y_up_n (by omega), fun _ _ => rfl⟩
              have hl1 : (p ++ [m]).length = p.length + 1 := by simp
              obtain ⟨I2, J2, f1, f2, f3, f4⟩ := ih d (p ++ [m]) x (S 2 m + S 0 1) (v ||| 1 <<< x) Q (xz_up I 108 p.length (nI m)) J (by omega) (y_pth_app hp (by omega) (by omega)) (by omega) (y_vR_fg fr0 hR) (y_vc_fg fr0 hc) (y_vQ_of (y_up_r (by omega)) (y_up_r (by omega)) hQ) (y_v8_app h8) hx.2 (by omega) hv'
              rw [hl1] at f1
              have fr2 := y_fg_t fr0 f3
              have hk2 : y_k8 p I I2 := fun i hi => by rw [f4 i (by omega), y_up_n (by omega)]
              obtain ⟨I', J', e1, e2, e3, e4⟩ := jh (m + 1) _ I2 J2 (by omega) (y_vR_fg fr2 hR) (y_vc_fg fr2 hc) f2 (y_v8_k h8 hk2)
              refine ⟨I', J', ?_, e2, y_fg_t fr2 e3, y_k8_t hk2 e4⟩
              refine b_Mo_goes_l23 _ _ _ _ _ _ _ _ _ ?_
              simp (maxSteps := 1000000) (disch := omega) only [sh_is0, sh_gI0, sh_wI0, sh_wZ0, sh_gR0, sh_gR1, sh_gR2, sh_lI0, sh_lI1, sh_lI2, sh_sI0, sh_sI1, sh_sI2, sh_len0, sh_len1, sh_len2, sh_lZ0, sh_sZ0, sh_gJ0, sh_wJ0, sh_lR0, sh_lJ0, sh_sJ0, y_eo, y_eb, h1]
              rw [if_neg hlt]
              simp (maxSteps := 1000000) (disch := omega) only [sh_is0, sh_gI0, sh_wI0, sh_wZ0, sh_gR0, sh_gR1, sh_gR2, sh_lI0, sh_lI1, sh_lI2, sh_sI0, sh_sI1, sh_sI2, sh_len0, sh_len1, sh_len2, sh_lZ0, sh_sZ0, sh_gJ0, sh_wJ0, sh_lR0, sh_lJ0, sh_sJ0, y_eo, y_eb, y_in (show m < 14 by omega) (by decide), cond_true, nI_clamp (show m < 2 ^ 31 by omega), m5, t1]
              rw [if_neg (by decide)]
              simp (maxSteps := 1000000) (disch := omega) only [sh_is0, sh_gI0, sh_wI0, sh_wZ0, sh_gR0, sh_gR1, sh_gR2, sh_lI0, sh_lI1, sh_lI2, sh_sI0, sh_sI1, sh_sI2, sh_len0, sh_len1, sh_len2, sh_lZ0, sh_sZ0, sh_gJ0, sh_wJ0, sh_lR0, sh_lJ0, sh_sJ0, y_eo, y_eb, hO, y_eI, y_o1s]
              rw [if_neg (by rw [y_eqI, nI_toInt (by omega)]; simp only [y_lit]; omega)]
              simp (maxSteps := 1000000) (disch := omega) only [sh_is0, sh_gI0, sh_wI0, sh_wZ0, sh_gR0, sh_gR1, sh_gR2, sh_lI0, sh_lI1, sh_lI2, sh_sI0, sh_sI1, sh_sI2, sh_len0, sh_len1, sh_len2, sh_lZ0, sh_sZ0, sh_gJ0, sh_wJ0, sh_lR0, sh_lJ0, sh_sJ0, y_eo, y_eb, y_in (show m < 14 by omega) (by decide), cond_true, nI_clamp (show m < 2 ^ 31 by omega), m1]
              rw [if_neg (by rw [y_ltI, nI_toInt (by omega), nI_toInt (by omega)]; omega)]
              simp (maxSteps := 1000000) (disch := omega) only [sh_is0, sh_gI0, sh_wI0, sh_wZ0, sh_gR0, sh_gR1, sh_gR2, sh_lI0, sh_lI1, sh_lI2, sh_sI0, sh_sI1, sh_sI2, sh_len0, sh_len1, sh_len2, sh_lZ0, sh_sZ0, sh_gJ0, sh_wJ0, sh_lR0, sh_lJ0, sh_sJ0, y_eo, y_eb, y_Mo_has _ hv hx.2, y_eI]
              rw [t4, if_pos (by decide)]
              simp (maxSteps := 1000000) (disch := omega) only [sh_is0, sh_gI0, sh_wI0, sh_wZ0, sh_gR0, sh_gR1, sh_gR2, sh_lI0, sh_lI1, sh_lI2, sh_sI0, sh_sI1, sh_sI2, sh_len0, sh_len1, sh_len2, sh_lZ0, sh_sZ0, sh_gJ0, sh_wJ0, sh_lR0, sh_lJ0, sh_sJ0, y_eo, y_eb, v2, y_Mo_has _ hB hx.2, y_eI]
              rw [t5, if_pos (by decide)]
              simp (maxSteps := 1000000) (disch := omega) only [sh_is0, sh_gI0, sh_wI0, sh_wZ0, sh_gR0, sh_gR1, sh_gR2, sh_lI0, sh_lI1, sh_lI2, sh_sI0, sh_sI1, sh_sI2, sh_len0, sh_len1, sh_len2, sh_lZ0, sh_sZ0, sh_gJ0, sh_wJ0, sh_lR0, sh_lJ0, sh_sJ0, y_eo, y_eb, y_in (show p.length < 6 by omega) (by decide), y_in (show m < 14 by omega) (by decide), cond_true, nI_clamp (show p.length < 2 ^ 31 by omega), nI_clamp (show m < 2 ^ 31 by omega), y_up_r (show (94 : Nat) ≠ 108 by decide), y_up_r (show (92 : Nat) ≠ 108 by decide), m1, c1, nI_add, y_1, y_bit1 x (by omega), y_bit2 v hv x hx.2]
              have f1' : zC (d + (n + 1) + 3) q_Mo_goes [.ref 92, .int (nI x), .int (nI (S 2 m + S 0 1)), .int (nI (v ||| 1 <<< x)), .int (nI (p.length + 1))] (xz_SH, xz_up I 108 p.length (nI m), J) = some (none, (xz_SH, I2, J2)) := by
                rw [show d + (n + 1) + 3 = d + n + 4 by omega]
                exact f1
              rw [f1', y_eV]
              exact e1
        obtain ⟨I', J', f1, f2, f3, f4⟩ := loop (S 1 0) 0 Q I J (by omega) hR hc hQ h8
        exact ⟨I', J', hgo I' J' (by rw [if_neg hg]; exact f1), f2, f3, f4⟩
/-- what finds finds: how many, the best -/
def y_fnd (S : y_S) (g B k rule : Nat) (e : Bool) : y_Q := (y_wl S g B k (S 0 2) (S 0 4) (1 <<< S 0 2)).foldl (y_adr S (S 0 4) rule e) (0, none)
theorem y_vQ_of2 {S : y_S} {st : Nat} {o : Option (List Nat)} {I I' : Nat → Nat → Int32} {J J' : Nat → Nat → Int64} (h : ∀ j, I' 92 j = I 92 j) (h' : I' 109 = I 109) (hJ : J' 92 35 = J 92 35) (hQ : y_vG S st o I J) : y_vG S st o I' J' := by
  unfold y_vG at *
  split
  · rw [h]; exact hQ
  · rw [h, h, h, h', hJ]; exact hQ
set_option maxHeartbeats 4000000 in
theorem y_Mo_finds (d : Nat) {S : y_S} (hok : y_okM S) {rule g B k : Nat} {e : Bool} (hr : rule ≤ 2) (hg6 : g < 6) (hB : B < 64) (hk : k ≤ 6) {I : Nat → Nat → Int32} (J : Nat → Nat → Int64) (hR : y_vR S I) : ∃ I' J', zC (d + 11) q_Mo_finds [.ref 92, .int (nI g), .int (nI B), .int (nI k), .int (nI rule), .int (y_bI e)] (xz_SH, I, J) = some (none, (xz_SH, I', J')) ∧ y_vQ S (S 0 4) (y_fnd S g B k rule e) I' J' ∧ (∀ q, q ≠ 92 → q ≠ 108 → q ≠ 109 → I' q = I q) ∧ (∀ j, j < 28 ∨ 38 ≤ j → I' 92 j = I 92 j) ∧ ∀ q, q ≠ 92 → J' q = J q := by
  obtain ⟨k1, k2, k3, k4, k5, k6, k7, k8⟩ := id hok
  have hup : ∀ j, j < 28 ∨ 38 ≤ j → xz_up (xz_up (xz_up (xz_up (xz_up (xz_up (xz_up I 92 28 (nI g)) 92 29 (nI B)) 92 30 (nI k)) 92 31 (nI rule)) 92 36 (y_bI e)) 92 32 (0 : Int32)) 92 37 (0 : Int32) 92 j = I 92 j := fun j hj => by simp (disch := omega) only [y_up_n]
  have hupq : ∀ q, q ≠ 92 → xz_up (xz_up (xz_up (xz_up (xz_up (xz_up (xz_up I 92 28 (nI g)) 92 29 (nI B)) 92 30 (nI k)) 92 31 (nI rule)) 92 36 (y_bI e)) 92 32 (0 : Int32)) 92 37 (0 : Int32) q = I q := fun q hq => by simp (disch := omega) only [y_up_r]
  obtain ⟨⟨c0, c1, c2, c3, c4⟩, h1, h2⟩ := id hR
  have hR1 : y_vR S (xz_up (xz_up (xz_up (xz_up (xz_up (xz_up (xz_up I 92 28 (nI g)) 92 29 (nI B)) 92 30 (nI k)) 92 31 (nI rule)) 92 36 (y_bI e)) 92 32 (0 : Int32)) 92 37 (0 : Int32)) := by
    refine ⟨⟨?_, ?_, ?_, ?_, ?_⟩, ?_, fun m hm => ?_⟩
    · rw [hup 0 (by omega)]; exact c0
    · rw [hup 7 (by omega)]; exact c1
    · rw [hup 8 (by omega)]; exact c2
    · rw [hup 9 (by omega)]; exact c3
    · rw [hup 10 (by omega)]; exact c4
    · rw [hup 1 (by omega)]; exact h1
    · rw [hupq 94 (by omega), hupq 95 (by omega), hupq 96 (by omega), hupq 97 (by omega), hupq 93 (by omega)]
      exact h2 m hm
  have hc : y_vc g B k rule e (xz_up (xz_up (xz_up (xz_up (xz_up (xz_up (xz_up I 92 28 (nI g)) 92 29 (nI B)) 92 30 (nI k)) 92 31 (nI rule)) 92 36 (y_bI e)) 92 32 (0 : Int32)) 92 37 (0 : Int32)) := by
    refine ⟨?_, ?_, ?_, ?_, ?_⟩ <;> simp (disch := omega) only [y_up_n, y_up_e]
  have hQ : y_vQ S (S 0 4) (0, none) (xz_up (xz_up (xz_up (xz_up (xz_up (xz_up (xz_up I 92 28 (nI g)) 92 29 (nI B)) 92 30 (nI k)) 92 31 (nI rule)) 92 36 (y_bI e)) 92 32 (0 : Int32)) 92 37 (0 : Int32)) J := by
    refine ⟨?_, ?_⟩
    · simp (disch := omega) only [y_up_n, y_up_e]
      rfl
    · show xz_up _ _ _ _ _ _ = _
      simp (disch := omega) only [y_up_e]
  have h64 := y_pc_1 (S 0 2) (by omega)
  obtain ⟨I', J', f1, f2, f3, f4⟩ := y_goes hok (e := e) hr hg6 hB hk k (d + 6 - k) [] (S 0 2) (S 0 4) (1 <<< S 0 2) (0, none) _ J (by simp) ⟨by decide, fun m hm => by cases hm⟩ (by rw [h64.2]; rfl) hR1 hc hQ (fun i hi => by cases hi) (by omega) (by omega) h64.1
  refine ⟨I', J', ?_, ?_, fun q h1 h2 h3 => ?_, fun j hj => ?_, f3.2.2⟩
  · refine b_Mo_finds _ _ _ _ _ _ _ _ _ ?_
    have f1' : zC (d + 10) q_Mo_goes [.ref 92, .int (nI (S 0 2)), .int (nI (S 0 4)), .int (nI (1 <<< S 0 2)), .int (0 : Int32)] (xz_SH, xz_up (xz_up (xz_up (xz_up (xz_up (xz_up (xz_up I 92 28 (nI g)) 92 29 (nI B)) 92 30 (nI k)) 92 31 (nI rule)) 92 36 (y_bI e)) 92 32 (0 : Int32)) 92 37 (0 : Int32), J) = some (none, (xz_SH, I', J')) := by
      rw [show d + 10 = d + 6 - k + k + 4 by omega]
      exact f1
    simp (maxSteps := 1000000) (disch := omega) only [sh_is0, sh_gI0, sh_wI0, sh_wZ0, sh_gR0, sh_gR1, sh_gR2, sh_lI0, sh_lI1, sh_lI2, sh_sI0, sh_sI1, sh_sI2, sh_len0, sh_len1, sh_len2, sh_lZ0, sh_sZ0, sh_gJ0, sh_wJ0, sh_lR0, sh_lJ0, sh_sJ0, y_eo, y_eb, cond_true, y_ze, y_z0, hup 8 (by omega), hup 10 (by omega), c2, c4, y_bit1 (S 0 2) (by omega), f1', y_eV]
  · simpa [y_fnd] using f2
  · rw [f3.1 q h1 h2 h3, hupq q h1]
  · rw [f3.2.1 j (by omega) (by omega), hup j hj]
