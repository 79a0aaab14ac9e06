/-! THE CLASS'S WAYS: the whole search -/
theorem y_vM_of {b : Nat} {S : y_S} {I I' : Nat → Nat → Int32} (h : ∀ q, b ≤ q → q < b + 7 → I' q = I q) (hS : y_vM b S I) : y_vM b S I' := by
  obtain ⟨h0, h1, h2⟩ := hS
  unfold y_vM
  rw [h b (by omega) (by omega), h (b + 1) (by omega) (by omega), h (b + 2) (by omega) (by omega), h (b + 3) (by omega) (by omega), h (b + 4) (by omega) (by omega), h (b + 5) (by omega) (by omega), h (b + 6) (by omega) (by omega)]
  exact ⟨h0, h1, h2⟩
theorem y_wm_map (f : Nat → Nat → List (List Nat)) (tk : Nat → Option Nat) (j m x : Nat) (p : List Nat) (ht : tk m = some x) : (y_wm f tk (j + 1) m).map (p ++ ·) = (f m x).map ((p ++ [m]) ++ ·) ++ (y_wm f tk j (m + 1)).map (p ++ ·) := by
  have e : y_wm f tk (j + 1) m = (f m x).map (m :: ·) ++ y_wm f tk j (m + 1) := by
    show (match tk m with | none => [] | some x => (f m x).map (m :: ·)) ++ y_wm f tk j (m + 1) = _
    rw [ht]
  rw [e, List.map_append, List.map_map]
  congr 1
  refine List.map_congr_left fun q _ => ?_
  simp
theorem y_wm_mapn (f : Nat → Nat → List (List Nat)) (tk : Nat → Option Nat) (j m : Nat) (p : List Nat) (ht : tk m = none) : (y_wm f tk (j + 1) m).map (p ++ ·) = (y_wm f tk j (m + 1)).map (p ++ ·) := by
  have e : y_wm f tk (j + 1) m = y_wm f tk j (m + 1) := by
    show (match tk m with | none => [] | some x => (f m x).map (m :: ·)) ++ y_wm f tk j (m + 1) = _
    rw [ht]
    rfl
  rw [e]
theorem y_100J : ((100 : Int64) = 0) = False := by
  apply eq_false
  decide
theorem y_div100 {a : Nat} (h : a < 2 ^ 63) (b : Nat) (hb : b < 2 ^ 31) : lN a / (100 : Int64) * Int32.toInt64 (nI b) = lN (a / 100 * b) := by
  rw [nI_l hb, show (100 : Int64) = lN 100 from rfl, pk_lDiv h (by decide) (by decide), lN_mul]
/-- the road so far lies in the heap -/
def y_vP (S : y_S) (f : Nat) (p : List Nat) (I : Nat → Nat → Int32) : Prop := (∀ i, i < p.length → I 64 i = nI (p.getD i 0)) ∧ ∀ i, i ≤ p.length → I 65 i = nI (y_hd S f (p.take i))
def y_kp (p : List Nat) (I I' : Nat → Nat → Int32) : Prop := (∀ i, i < p.length → I' 64 i = I 64 i) ∧ ∀ i, i ≤ p.length → I' 65 i = I 65 i
theorem y_vP_kp {S : y_S} {f : Nat} {p : List Nat} {I I' : Nat → Nat → Int32} (h : y_vP S f p I) (k : y_kp p I I') : y_vP S f p I' := ⟨fun i hi => by rw [k.1 i hi]; exact h.1 i hi, fun i hi => by rw [k.2 i hi]; exact h.2 i hi⟩
theorem y_vP_app {S : y_S} {f : Nat} {p : List Nat} {I : Nat → Nat → Int32} {m x : Nat} (h : y_vP S f p I) (hx : y_ot S m (y_hd S f p) = some x) : y_vP S f (p ++ [m]) (xz_up (xz_up I 64 p.length (nI m)) 65 (p.length + 1) (nI x)) := by
  refine ⟨fun i hi => ?_, fun i hi => ?_⟩
  · rw [List.length_append, List.length_singleton] at hi
    rw [y_up_n (by omega)]
    by_cases e : i = p.length
    · rw [e, y_up_e ⟨rfl, rfl⟩]
      simp [List.getD_eq_getElem?_getD]
    · rw [y_up_n (by omega), h.1 i (by omega)]
      simp [List.getD_eq_getElem?_getD, List.getElem?_append_left (show i < p.length by omega)]
  · rw [List.length_append, List.length_singleton] at hi
    by_cases e : i = p.length + 1
    · rw [e, y_up_e ⟨rfl, rfl⟩, show p.length + 1 = (p ++ [m]).length by simp, List.take_length, y_hd_app, hx]
      rfl
    · rw [y_up_n (by omega), y_up_n (by omega), h.2 i (by omega), List.take_append_of_le_length (by omega)]
def y_fw (I I' : Nat → Nat → Int32) (J J' : Nat → Nat → Int64) : Prop := (∀ q, q < 60 ∨ 66 ≤ q → I' q = I q) ∧ ∀ q, q ≠ 60 → J' q = J q
theorem y_fw_t {I I' I'' : Nat → Nat → Int32} {J J' J'' : Nat → Nat → Int64} (h : y_fw I I' J J') (h' : y_fw I' I'' J' J'') : y_fw I I'' J J'' := ⟨fun q hq => (h'.1 q hq).trans (h.1 q hq), fun q hq => (h'.2 q hq).trans (h.2 q hq)⟩
theorem y_kp_t {p : List Nat} {I I' I'' : Nat → Nat → Int32} (h : y_kp p I I') (h' : y_kp p I' I'') : y_kp p I I'' := ⟨fun i hi => (h'.1 i hi).trans (h.1 i hi), fun i hi => (h'.2 i hi).trans (h.2 i hi)⟩
set_option maxHeartbeats 8000000 in
theorem y_goOn {b : Nat} (hb : y_b3 b) {S : y_S} (hok : y_okM S) {rule : Nat} (hr : rule ≤ 2) : ∀ (n d : Nat) (p : List Nat) (h r v : Nat) (R : y_R) (I : Nat → Nat → Int32) (J : Nat → Nat → Int64), p.length + n = 5 → y_pth S p → y_vM b S I → y_vW S (S 0 4) (S 0 2) rule R I J → y_vP S (S 0 2) p I → y_hd S (S 0 2) p = h → h < 6 → r < 1000 → v < 64 →
    ∃ I' J', zC (d + n + 4) q_Wa_goOn [.ref 60, .ref b, .int (nI p.length), .int (nI r), .int (nI v), .long (lN (y_su S p))] (xz_SH, I, J) = some (none, (xz_SH, I', J')) ∧ y_vW S (S 0 4) (S 0 2) rule (((y_wl S (S 0 3) 0 n h r v).map (p ++ ·)).foldl (y_add S (S 0 4) rule) R) I' J' ∧ y_fw I I' J J' ∧ y_kp p I I' := by
  have hb39 : b ≤ 39 := by rcases hb with rfl | rfl | rfl <;> omega
  intro n
  induction n with
  | zero =>
    intro d p h r v R I J hl hp hM hW hP hh h6 hr' hv
    have hM' := hM
    obtain ⟨⟨c0, c1, c2, c3, c4⟩, h1, h2⟩ := hM
    have hok' := hok
    obtain ⟨k1, k2, k3, k4, k5, k6, k7, k8⟩ := hok
    have e65 : I 65 p.length = nI h := by rw [hP.2 _ (Nat.le_refl _), List.take_length, hh]
    show ∃ I' J', zC (d + 0 + 4) q_Wa_goOn [.ref 60, .ref b, .int (nI p.length), .int (nI r), .int (nI v), .long (lN (y_su S p))] (xz_SH, I, J) = some (none, (xz_SH, I', J')) ∧ y_vW S (S 0 4) (S 0 2) rule (((if h = S 0 3 then [[]] else []).map (p ++ ·)).foldl (y_add S (S 0 4) rule) R) I' J' ∧ y_fw I I' J J' ∧ y_kp p I I'
    by_cases hg : h = S 0 3
    · rw [if_pos hg]
      have ha : p.getD (p.length - 1) 0 < S 1 0 ∧ y_ar S (S 0 4) p = S 2 (p.getD (p.length - 1) 0) := by
        have hne : p ≠ [] := by rintro rfl; simp at hl
        obtain ⟨q, m, rfl⟩ : ∃ q m, p = q ++ [m] := ⟨p.dropLast, p.getLast hne, (List.dropLast_concat_getLast hne).symm⟩
        rw [y_ar_app]
        have : (q ++ [m]).getD ((q ++ [m]).length - 1) 0 = m := by simp [List.getD_eq_getElem?_getD]
        rw [this]
        exact ⟨hp.2 m (by simp), rfl⟩
      obtain ⟨I', J', f1, f2, f3, f4⟩ := y_Wa_take (d + 1) hok' (rule := rule) (R := R) (p := p) (I := I) (J := J) hr k6 hp hW hP.1 hP.2
      rw [ha.2] at f1
      refine ⟨I', J', ?_, ?_, ⟨fun q hq => f3 q (by omega), f4⟩, ⟨fun i hi => by rw [f3 64 (by omega)], fun i hi => by rw [f3 65 (by omega)]⟩⟩
      · refine b_Wa_goOn _ _ _ _ _ _ _ _ _ ?_
        have e64 := hP.1 (p.length - 1) (by omega)
        have e2 := (h2 _ ha.1).1
        simp (disch := omega) only [sh_is0, sh_gI0, sh_wI0, sh_wZ0, sh_gR0, sh_gR1, sh_gR2, sh_lI0, sh_lI1, sh_lI2, sh_sI0, sh_sI1, sh_sI2, sh_len0, sh_len1, sh_len2, sh_lZ0, sh_sZ0, sh_gJ0, sh_wJ0, sh_lR0, sh_lJ0, sh_sJ0, y_shb hb, y_eo, y_eb, y_eI, y_eJ, y_eR, y_eV, y_in, nI_clamp, cond_true, y_eqI, y_ltI, y_leI, y_lit, nI_toInt, if_true, if_false, if_pos, if_neg, y_bIt, y_bIf, y_band, e65, c3, hg, y_m1, e64, e2, f1]
      · simpa using f2
    · rw [if_neg hg]
      refine ⟨I, J, ?_, hW, ⟨fun _ _ => rfl, fun _ _ => rfl⟩, ⟨fun _ _ => rfl, fun _ _ => rfl⟩⟩
      refine b_Wa_goOn _ _ _ _ _ _ _ _ _ ?_
      simp (disch := omega) only [sh_is0, sh_gI0, sh_wI0, sh_wZ0, sh_gR0, sh_gR1, sh_gR2, sh_lI0, sh_lI1, sh_lI2, sh_sI0, sh_sI1, sh_sI2, sh_len0, sh_len1, sh_len2, sh_lZ0, sh_sZ0, sh_gJ0, sh_wJ0, sh_lR0, sh_lJ0, sh_sJ0, y_shb hb, y_eo, y_eb, y_eI, y_eJ, y_eR, y_eV, y_in, nI_clamp, cond_true, y_eqI, y_ltI, y_leI, y_lit, nI_toInt, if_true, if_false, if_pos, if_neg, y_bIt, y_bIf, y_band, e65, c3]
  | succ n ih =>
    intro d p h r v R I J hl hp hM hW hP hh h6 hr' hv
    have hok' := hok
    obtain ⟨k1, k2, k3, k4, k5, k6, k7, k8⟩ := hok
    by_cases hg : h = S 0 3
    · obtain ⟨⟨c0, c1, c2, c3, c4⟩, h1, h2⟩ := hM
      have e65 : I 65 p.length = nI h := by rw [hP.2 _ (Nat.le_refl _), List.take_length, hh]
      have ew : y_wl S (S 0 3) 0 (n + 1) h r v = [[]] := by
        show (if h = S 0 3 then [[]] else _) = _
        rw [if_pos hg]
      rw [ew]
      obtain ⟨I', J', f1, f2, f3, f4⟩ := y_Wa_take (d + (n + 1) + 1) hok' (rule := rule) (R := R) (p := p) (I := I) (J := J) hr k6 hp hW hP.1 hP.2
      refine ⟨I', J', ?_, by simpa using f2, ⟨fun q hq => f3 q (by omega), f4⟩, ⟨fun i hi => by rw [f3 64 (by omega)], fun i hi => by rw [f3 65 (by omega)]⟩⟩
      refine b_Wa_goOn _ _ _ _ _ _ _ _ _ ?_
      by_cases h0 : p = []
      · have ea : y_ar S (S 0 4) p = S 0 4 := by rw [h0]; rfl
        have el : p.length = 0 := by rw [h0]; rfl
        rw [ea] at f1
        simp (disch := omega) only [sh_is0, sh_gI0, sh_wI0, sh_wZ0, sh_gR0, sh_gR1, sh_gR2, sh_lI0, sh_lI1, sh_lI2, sh_sI0, sh_sI1, sh_sI2, sh_len0, sh_len1, sh_len2, sh_lZ0, sh_sZ0, sh_gJ0, sh_wJ0, sh_lR0, sh_lJ0, sh_sJ0, y_shb hb, y_eo, y_eb, y_eI, y_eJ, y_eR, y_eV, y_in, nI_clamp, cond_true, y_eqI, y_ltI, y_leI, y_lit, nI_toInt, if_true, if_false, if_pos, if_neg, y_bIt, y_bIf, y_band, e65, c3, hg, c4, f1]
      · have ha : p.getD (p.length - 1) 0 < S 1 0 ∧ y_ar S (S 0 4) p = S 2 (p.getD (p.length - 1) 0) := by
          obtain ⟨q, m, e⟩ : ∃ q m, p = q ++ [m] := ⟨p.dropLast, p.getLast h0, (List.dropLast_concat_getLast h0).symm⟩
          rw [e, y_ar_app]
          have : (q ++ [m]).getD ((q ++ [m]).length - 1) 0 = m := by simp [List.getD_eq_getElem?_getD]
          rw [this]
          exact ⟨hp.2 m (by rw [e]; simp), rfl⟩
        have hl0 : 0 < p.length := List.length_pos_iff.mpr h0
        rw [ha.2] at f1
        have e64 := hP.1 (p.length - 1) (by omega)
        have e2 := (h2 _ ha.1).1
        simp (disch := omega) only [sh_is0, sh_gI0, sh_wI0, sh_wZ0, sh_gR0, sh_gR1, sh_gR2, sh_lI0, sh_lI1, sh_lI2, sh_sI0, sh_sI1, sh_sI2, sh_len0, sh_len1, sh_len2, sh_lZ0, sh_sZ0, sh_gJ0, sh_wJ0, sh_lR0, sh_lJ0, sh_sJ0, y_shb hb, y_eo, y_eb, y_eI, y_eJ, y_eR, y_eV, y_in, nI_clamp, cond_true, y_eqI, y_ltI, y_leI, y_lit, nI_toInt, if_true, if_false, if_pos, if_neg, y_bIt, y_bIf, y_band, e65, c3, hg, y_m1, e64, e2, f1]
    · have ew : y_wl S (S 0 3) 0 (n + 1) h r v = y_wm (fun m x => y_wl S (S 0 3) 0 n x (S 2 m + S 0 1) (v ||| 1 <<< x)) (fun m => y_tk S 0 m h r v) (S 1 0) 0 := by
        show (if h = S 0 3 then [[]] else _) = _
        rw [if_neg hg]
      rw [ew]
      have loop : ∀ (j m : Nat) (R : y_R) (I : Nat → Nat → Int32) (J : Nat → Nat → Int64), m + j = S 1 0 → y_vM b S I → y_vW S (S 0 4) (S 0 2) rule R I J → y_vP S (S 0 2) p I →
          ∃ I' J', zL (d + n + 4) q_Wa_goOn 36 [(0, .ref 60), (1, .ref b), (2, .int (nI p.length)), (3, .int (nI r)), (4, .int (nI v)), (5, .long (lN (y_su S p))), (7, .int (nI m))] (xz_SH, I, J) = some (none, (xz_SH, I', J')) ∧ y_vW S (S 0 4) (S 0 2) rule (((y_wm (fun m x => y_wl S (S 0 3) 0 n x (S 2 m + S 0 1) (v ||| 1 <<< x)) (fun m => y_tk S 0 m h r v) j m).map (p ++ ·)).foldl (y_add S (S 0 4) rule) R) I' J' ∧ y_fw I I' J J' ∧ y_kp p I I' := by
        intro j
        induction j with
        | zero =>
          intro m R I J hm hM hW hP
          obtain ⟨⟨c0, c1, c2, c3, c4⟩, h1, h2⟩ := hM
          refine ⟨I, J, ?_, hW, ⟨fun _ _ => rfl, fun _ _ => rfl⟩, ⟨fun _ _ => rfl, fun _ _ => rfl⟩⟩
          refine b_Wa_goOn_l36 _ _ _ _ _ _ _ _ _ _ ?_
          simp (disch := omega) only [sh_is0, sh_gI0, sh_wI0, sh_wZ0, sh_gR0, sh_gR1, sh_gR2, sh_lI0, sh_lI1, sh_lI2, sh_sI0, sh_sI1, sh_sI2, sh_len0, sh_len1, sh_len2, sh_lZ0, sh_sZ0, sh_gJ0, sh_wJ0, sh_lR0, sh_lJ0, sh_sJ0, y_shb hb, y_eo, y_eb, y_eI, y_eJ, y_eR, y_eV, y_in, nI_clamp, cond_true, y_eqI, y_ltI, y_leI, y_lit, nI_toInt, if_true, if_false, if_pos, if_neg, y_bIt, y_bIf, y_band, h1]
        | succ j jh =>
          intro m R I J hm hM hW hP
          have hT := y_Me_taker (d + n + 2) hb J hM hok' (m := m) (h := h) (r := r) (v := v) (by omega) h6 hr' hv
          have hM' := hM
          obtain ⟨⟨c0, c1, c2, c3, c4⟩, h1, h2⟩ := hM
          obtain ⟨m1, m2, m3, m4, m5⟩ := h2 m (by omega)
          obtain ⟨g2, g3, g4, g5, g6, g7, g8⟩ := k8 m (by omega)
          have e65 : I 65 p.length = nI h := by rw [hP.2 _ (Nat.le_refl _), List.take_length, hh]
          cases ht : y_tk S 0 m h r v with
          | none =>
            rw [ht] at hT
            rw [y_wm_mapn _ (fun m => y_tk S 0 m h r v) _ _ _ ht]
            obtain ⟨I', J', f1, f2, f3, f4⟩ := jh (m + 1) R I J (by omega) hM' hW hP
            refine ⟨I', J', ?_, f2, f3, f4⟩
            refine b_Wa_goOn_l36 _ _ _ _ _ _ _ _ _ _ ?_
            simp (disch := omega) only [sh_is0, sh_gI0, sh_wI0, sh_wZ0, sh_gR0, sh_gR1, sh_gR2, sh_lI0, sh_lI1, sh_lI2, sh_sI0, sh_sI1, sh_sI2, sh_len0, sh_len1, sh_len2, sh_lZ0, sh_sZ0, sh_gJ0, sh_wJ0, sh_lR0, sh_lJ0, sh_sJ0, y_shb hb, y_eo, y_eb, y_eI, y_eJ, y_eR, y_eV, y_in, nI_clamp, cond_true, y_eqI, y_ltI, y_leI, y_lit, nI_toInt, if_true, if_false, if_pos, if_neg, y_bIt, y_bIf, y_band, h1, e65, hT, y_o1n, y_1, f1]
          | some x =>
            rw [ht] at hT
            rw [y_wm_map _ (fun m => y_tk S 0 m h r v) _ _ x _ ht, List.foldl_append]
            obtain ⟨t1, t2, t3, t4, t5⟩ := y_tk_i ht
            have hx := y_ot_lt hok' (show m < S 1 0 by omega) t3
            have hv' := (y_pc_or v hv x hx.2 t4).1
            have hP1 : y_vP S (S 0 2) (p ++ [m]) (xz_up (xz_up I 64 p.length (nI m)) 65 (p.length + 1) (nI x)) := y_vP_app hP (by rw [hh]; exact t3)
            have hfr : ∀ q, q < 64 ∨ 66 ≤ q → xz_up (xz_up I 64 p.length (nI m)) 65 (p.length + 1) (nI x) q = I q := fun q hq => by simp (disch := omega) only [y_up_r]
            have hM1 : y_vM b S (xz_up (xz_up I 64 p.length (nI m)) 65 (p.length + 1) (nI x)) := y_vM_of (fun q h1 h2 => hfr q (by omega)) hM'
            have hW1 : y_vW S (S 0 4) (S 0 2) rule R (xz_up (xz_up I 64 p.length (nI m)) 65 (p.length + 1) (nI x)) J := by
              obtain ⟨w1, w2, w3, w4⟩ := hW
              refine ⟨by rw [hfr 60 (by omega)]; exact w1, by rw [hfr 60 (by omega)]; exact w2, y_vB_of (by rw [hfr 60 (by omega)]) (by rw [hfr 60 (by omega)]) rfl (hfr 61 (by omega)) (hfr 62 (by omega)) w3, by rw [hfr 63 (by omega)]; exact w4⟩
            have hl1 : (p ++ [m]).length = p.length + 1 := by simp
            obtain ⟨I2, J2, f1, f2, f3, f4⟩ := ih d (p ++ [m]) x (S 2 m + S 0 1) (v ||| 1 <<< x) R _ J (by omega) (y_pth_app hp (by omega) (by omega)) hM1 hW1 hP1 (by rw [y_hd_app, hh, t3]; rfl) hx.2 (by omega) hv'
            rw [hl1, y_su_app S m (by omega)] at f1
            have hM2 : y_vM b S I2 := y_vM_of (fun q h1 h2 => f3.1 q (by omega)) hM1
            have hk2 : y_kp p I I2 := by
              refine ⟨fun i hi => ?_, fun i hi => ?_⟩
              · rw [f4.1 i (by omega), y_up_n (by omega), y_up_n (by omega)]
              · rw [f4.2 i (by omega), y_up_n (by omega), y_up_n (by omega)]
            obtain ⟨I', J', e1, e2, e3, e4⟩ := jh (m + 1) _ I2 J2 (by omega) hM2 f2 (y_vP_kp hP hk2)
            refine ⟨I', J', ?_, e2, y_fw_t (y_fw_t ⟨fun q hq => hfr q (by omega), fun _ _ => rfl⟩ f3) e3, y_kp_t hk2 e4⟩
            refine b_Wa_goOn_l36 _ _ _ _ _ _ _ _ _ _ ?_
            have hsu := y_su_le hok' hp
            have r1 : ∀ (k : Nat), xz_up (xz_up I 64 p.length (nI m)) 65 (p.length + 1) (nI x) b k = I b k := fun k => by rw [hfr b (by omega)]
            have r2 : ∀ (k : Nat), xz_up (xz_up I 64 p.length (nI m)) 65 (p.length + 1) (nI x) (b + 2) k = I (b + 2) k := fun k => by rw [hfr (b + 2) (by omega)]
            have r5 : ∀ (k : Nat), xz_up (xz_up I 64 p.length (nI m)) 65 (p.length + 1) (nI x) (b + 5) k = I (b + 5) k := fun k => by rw [hfr (b + 5) (by omega)]
            simp (disch := omega) only [sh_is0, sh_gI0, sh_wI0, sh_wZ0, sh_gR0, sh_gR1, sh_gR2, sh_lI0, sh_lI1, sh_lI2, sh_sI0, sh_sI1, sh_sI2, sh_len0, sh_len1, sh_len2, sh_lZ0, sh_sZ0, sh_gJ0, sh_wJ0, sh_lR0, sh_lJ0, sh_sJ0, y_shb hb, y_eo, y_eb, y_eI, y_eJ, y_eR, y_eV, y_in, nI_clamp, cond_true, y_eqI, y_ltI, y_leI, y_lit, nI_toInt, if_true, if_false, if_pos, if_neg, y_bIt, y_bIf, y_band, h1, e65, hT, y_o1s, y_1, r1, r2, r5, m1, m4, c1, y_100J, y_div100, nI_add, y_bit1, y_bit2 v hv x hx.2]
            rw [f1]
            simp (disch := omega) only [y_eo, y_eb, y_eI, y_eJ, y_eR, y_eV, y_in, nI_clamp, cond_true, y_eqI, y_ltI, y_leI, y_lit, nI_toInt, if_true, if_false, if_pos, if_neg, y_bIt, y_bIf, y_band, e1]
      obtain ⟨⟨c0, c1, c2, c3, c4⟩, h1, h2⟩ := id hM
      have e65 : I 65 p.length = nI h := by rw [hP.2 _ (Nat.le_refl _), List.take_length, hh]
      obtain ⟨I', J', f1, f2, f3, f4⟩ := loop (S 1 0) 0 R I J (by omega) hM hW hP
      refine ⟨I', J', ?_, f2, f3, f4⟩
      refine b_Wa_goOn _ _ _ _ _ _ _ _ _ ?_
      simp (disch := omega) only [sh_is0, sh_gI0, sh_wI0, sh_wZ0, sh_gR0, sh_gR1, sh_gR2, sh_lI0, sh_lI1, sh_lI2, sh_sI0, sh_sI1, sh_sI2, sh_len0, sh_len1, sh_len2, sh_lZ0, sh_sZ0, sh_gJ0, sh_wJ0, sh_lR0, sh_lJ0, sh_sJ0, y_shb hb, y_eo, y_eb, y_eI, y_eJ, y_eR, y_eV, y_in, nI_clamp, cond_true, y_eqI, y_ltI, y_leI, y_lit, nI_toInt, if_true, if_false, if_pos, if_neg, y_bIt, y_bIf, y_band, e65, c3]
      exact f1
