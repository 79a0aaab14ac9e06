/-! CELLS ARE ONLY ADDED: a run's heap is no shorter than its start's -/
def xz_slt (M : xz_M) : Nat := (M.1.map fun q => q.2.1).sum
def xz_le (M M' : xz_M) : Prop := M.1.length ≤ M'.1.length ∧ xz_slt M ≤ xz_slt M'
theorem xz_le.rf (M : xz_M) : xz_le M M := ⟨Nat.le_refl _, Nat.le_refl _⟩
theorem xz_le.tr {M M' M'' : xz_M} (h : xz_le M M') (h' : xz_le M' M'') : xz_le M M'' := ⟨Nat.le_trans h.1 h'.1, Nat.le_trans h.2 h'.2⟩
theorem xz_le_new (M : xz_M) (s : xz_Sh) : xz_le M (xz_new M s) := by
  refine ⟨?_, ?_⟩
  · show M.1.length ≤ (M.1 ++ [s]).length
    simp
  · show (M.1.map fun q => q.2.1).sum ≤ ((M.1 ++ [s]).map fun q => q.2.1).sum
    simp
theorem xz_le_news (M : xz_M) (s : xz_Sh) : ∀ n, xz_le M (xz_news M s n)
  | 0 => xz_le.rf M
  | n + 1 => (xz_le_news M s n).tr (xz_le_new _ s)
theorem xz_le_same {M M' : xz_M} (h : M'.1 = M.1) : xz_le M M' := by
  unfold xz_le xz_slt
  rw [h]
  exact ⟨Nat.le_refl _, Nat.le_refl _⟩
theorem xz_wI_s {M M' : xz_M} {r a b : Nat} {v : Int32} (h : xz_wI M r a b v = some M') : ∃ q, M.1[r]? = some q ∧ q.1 = a + 5 ∧ M' = (M.1, xz_up M.2.1 r b v, M.2.2) := by
  unfold xz_wI at h
  split at h
  · rename_i q hq
    cases hc : (q.1 == a + 5) with
    | true => rw [hc] at h; cases h; exact ⟨q, hq, by simpa using hc, rfl⟩
    | false => rw [hc] at h; cases h
  · cases h
theorem xz_wZ_s {M M' : xz_M} {r a b : Nat} {v : Int32} (h : xz_wZ M r a b v = some M') : ∃ q, M.1[r]? = some q ∧ q.1 = a + 5 ∧ v &&& 1 = v ∧ M' = (M.1, xz_up M.2.1 r b v, M.2.2) := by
  unfold xz_wZ at h
  split at h
  · rename_i q hq
    cases hc : (q.1 == a + 5 && v &&& 1 == v) with
    | true =>
      rw [hc] at h; cases h
      simp only [Bool.and_eq_true, beq_iff_eq] at hc
      exact ⟨q, hq, hc.1, hc.2, rfl⟩
    | false => rw [hc] at h; cases h
  · cases h
theorem xz_wJ_s {M M' : xz_M} {r a b : Nat} {v : Int64} (h : xz_wJ M r a b v = some M') : ∃ q, M.1[r]? = some q ∧ q.1 = a + 5 ∧ M' = (M.1, M.2.1, xz_up M.2.2 r b v) := by
  unfold xz_wJ at h
  split at h
  · rename_i q hq
    cases hc : (q.1 == a + 5) with
    | true => rw [hc] at h; cases h; exact ⟨q, hq, by simpa using hc, rfl⟩
    | false => rw [hc] at h; cases h
  · cases h
theorem xz_wR_s {M M' : xz_M} {r a b v : Nat} (h : xz_wR M r a b v = some M') : ∃ q, M.1[r]? = some q ∧ q.1 = a + 5 ∧ v < M.1.length ∧ M' = (M.1.set r (q.1, q.2.1, q.2.2.set b (some v)), M.2) := by
  unfold xz_wR at h
  split at h
  · rename_i q hq
    cases hc : (q.1 == a + 5 && Nat.blt v M.1.length) with
    | true => rw [hc] at h; cases h; simp only [Bool.and_eq_true, beq_iff_eq, Nat.blt_eq] at hc; exact ⟨q, hq, hc.1, hc.2, rfl⟩
    | false => rw [hc] at h; cases h
  · cases h
theorem xz_sI0_s {M M' : xz_M} {r : Nat} {i v : Int32} (h : xz_sI0 M r i v = some M') : ∃ q, M.1[r]? = some q ∧ q.1 = 0 ∧ xz_in i q.2.1 = true ∧ M' = (M.1, xz_up M.2.1 r i.toNatClampNeg v, M.2.2) := by
  unfold xz_sI0 at h
  split at h
  · rename_i q hq
    cases hc : (q.1 == 0 && xz_in i q.2.1) with
    | true => rw [hc] at h; cases h; simp only [Bool.and_eq_true, beq_iff_eq] at hc; exact ⟨q, hq, hc.1, hc.2, rfl⟩
    | false => rw [hc] at h; cases h
  · cases h
theorem xz_sZ0_s {M M' : xz_M} {r : Nat} {i v : Int32} (h : xz_sZ0 M r i v = some M') : ∃ q, M.1[r]? = some q ∧ q.1 = 1 ∧ xz_in i q.2.1 = true ∧ M' = (M.1, xz_up M.2.1 r i.toNatClampNeg (v &&& 1), M.2.2) := by
  unfold xz_sZ0 at h
  split at h
  · rename_i q hq
    cases hc : (q.1 == 1 && xz_in i q.2.1) with
    | true => rw [hc] at h; cases h; simp only [Bool.and_eq_true, beq_iff_eq] at hc; exact ⟨q, hq, hc.1, hc.2, rfl⟩
    | false => rw [hc] at h; cases h
  · cases h
theorem xz_sJ0_s {M M' : xz_M} {r : Nat} {i : Int32} {v : Int64} (h : xz_sJ0 M r i v = some M') : ∃ q, M.1[r]? = some q ∧ q.1 = 2 ∧ xz_in i q.2.1 = true ∧ M' = (M.1, M.2.1, xz_up M.2.2 r i.toNatClampNeg v) := by
  unfold xz_sJ0 at h
  split at h
  · rename_i q hq
    cases hc : (q.1 == 2 && xz_in i q.2.1) with
    | true => rw [hc] at h; cases h; simp only [Bool.and_eq_true, beq_iff_eq] at hc; exact ⟨q, hq, hc.1, hc.2, rfl⟩
    | false => rw [hc] at h; cases h
  · cases h
theorem xz_newA_s {M M' : xz_M} {kd : Nat} {n : Int32} (h : xz_newA M kd n = some M') : ¬ n < 0 ∧ n.toNatClampNeg ≤ 1000 ∧ M' = xz_new M (kd, n.toNatClampNeg, []) := by
  unfold xz_newA at h
  cases hc : (decide (¬ n < 0) && Nat.ble n.toNatClampNeg 1000) with
  | true => rw [hc] at h; cases h; simp only [Bool.and_eq_true, decide_eq_true_eq, Nat.ble_eq] at hc; exact ⟨hc.1, hc.2, rfl⟩
  | false => rw [hc] at h; cases h
theorem xz_newM_s {M M' : xz_M} {kd : Nat} {n k : Int32} (h : xz_newM M kd n k = some M') : ¬ n < 0 ∧ n.toNatClampNeg ≤ 100 ∧ ¬ k < 0 ∧ k.toNatClampNeg ≤ 100 ∧
    M' = xz_news (xz_new M (kd, n.toNatClampNeg, (List.range n.toNatClampNeg).map fun i => some (M.1.length + 1 + i))) (bif kd == 3 then 0 else 2, k.toNatClampNeg, []) n.toNatClampNeg := by
  unfold xz_newM at h
  cases hc : (decide (¬ n < 0) && Nat.ble n.toNatClampNeg 100 && decide (¬ k < 0) && Nat.ble k.toNatClampNeg 100) with
  | true => rw [hc] at h; cases h; simp only [Bool.and_eq_true, decide_eq_true_eq, Nat.ble_eq] at hc; exact ⟨hc.1.1.1, hc.1.1.2, hc.1.2, hc.2, rfl⟩
  | false => rw [hc] at h; cases h
theorem xz_copy_s {M M' : xz_M} {r r' : Nat} {sp dp n : Int32} (h : xz_copy M r sp r' dp n = some M') : ∃ q q', M.1[r]? = some q ∧ M.1[r']? = some q' ∧ ¬ sp < 0 ∧ ¬ dp < 0 ∧ ¬ n < 0 ∧ sp.toNatClampNeg + n.toNatClampNeg ≤ q.2.1 ∧ dp.toNatClampNeg + n.toNatClampNeg ≤ q'.2.1 ∧ q.1 = q'.1 ∧ q.1 ≤ 2 ∧
    ((q.1 = 2 ∧ M' = (M.1, M.2.1, xz_row M.2.2 r' (va_cpy (M.2.2 r) (M.2.2 r') sp.toNatClampNeg dp.toNatClampNeg n.toNatClampNeg))) ∨ (q.1 ≠ 2 ∧ M' = (M.1, xz_row M.2.1 r' (va_cpy (M.2.1 r) (M.2.1 r') sp.toNatClampNeg dp.toNatClampNeg n.toNatClampNeg), M.2.2))) := by
  unfold xz_copy at h
  split at h
  · rename_i q q' hq hq'
    cases hc : (decide (¬ sp < 0) && decide (¬ dp < 0) && decide (¬ n < 0) && Nat.ble (sp.toNatClampNeg + n.toNatClampNeg) q.2.1 && Nat.ble (dp.toNatClampNeg + n.toNatClampNeg) q'.2.1 && q.1 == q'.1 && Nat.ble q.1 2) with
    | true =>
      rw [hc] at h
      simp only [Bool.and_eq_true, decide_eq_true_eq, Nat.ble_eq, beq_iff_eq] at hc
      obtain ⟨⟨⟨⟨⟨⟨h1, h2⟩, h3⟩, h4⟩, h5⟩, h6⟩, h7⟩ := hc
      refine ⟨q, q', hq, hq', h1, h2, h3, h4, h5, h6, h7, ?_⟩
      cases h2 : (q.1 == 2) with
      | true => rw [h2] at h; cases h; exact Or.inl ⟨by simpa using h2, rfl⟩
      | false => rw [h2] at h; cases h; exact Or.inr ⟨by simpa using h2, rfl⟩
    | false => rw [hc] at h; cases h
  · cases h
def xz_Mo (M : xz_M) (o : xz_Res) : Prop := ∀ r, o = some r → xz_le M r.2
theorem xz_Mo_none (M : xz_M) : xz_Mo M none := fun _ h => by cases h
theorem xz_Mo_k (M : xz_M) (v : Option Value) : xz_Mo M (some (v, M)) := fun _ h => by cases h; exact xz_le.rf M
theorem xz_Mo_pI {M : xz_M} {S : List Value} {G : Int32 → List Value → xz_Res} (h : ∀ x S, xz_Mo M (G x S)) : xz_Mo M (xz_pI S G) := by
  unfold xz_pI; split
  · exact h _ _
  · exact xz_Mo_none _
theorem xz_Mo_pJ {M : xz_M} {S : List Value} {G : Int64 → List Value → xz_Res} (h : ∀ x S, xz_Mo M (G x S)) : xz_Mo M (xz_pJ S G) := by
  unfold xz_pJ; split
  · exact h _ _
  · exact xz_Mo_none _
theorem xz_Mo_pR {M : xz_M} {S : List Value} {G : Nat → List Value → xz_Res} (h : ∀ x S, xz_Mo M (G x S)) : xz_Mo M (xz_pR S G) := by
  unfold xz_pR; split
  · exact h _ _
  · exact xz_Mo_none _
theorem xz_Mo_p1 {M : xz_M} {S : List Value} {G : Value → List Value → xz_Res} (h : ∀ x S, xz_Mo M (G x S)) : xz_Mo M (xz_p1 S G) := by
  unfold xz_p1; split
  · exact h _ _
  · exact h _ _
  · exact xz_Mo_none _
theorem xz_Mo_lI {M : xz_M} {L : xz_L} {i : Nat} {G : Int32 → xz_Res} (h : ∀ x, xz_Mo M (G x)) : xz_Mo M (xz_lI L i G) := by
  unfold xz_lI; split
  · exact h _
  · exact xz_Mo_none _
theorem xz_Mo_lJ {M : xz_M} {L : xz_L} {i : Nat} {G : Int64 → xz_Res} (h : ∀ x, xz_Mo M (G x)) : xz_Mo M (xz_lJ L i G) := by
  unfold xz_lJ; split
  · exact h _
  · exact xz_Mo_none _
theorem xz_Mo_lR {M : xz_M} {L : xz_L} {i : Nat} {G : Nat → xz_Res} (h : ∀ x, xz_Mo M (G x)) : xz_Mo M (xz_lR L i G) := by
  unfold xz_lR; split
  · exact h _
  · exact xz_Mo_none _
theorem xz_Mo_o {α : Type} {M : xz_M} {o : Option α} {G : α → xz_Res} (h : ∀ x, xz_Mo M (G x)) : xz_Mo M (xz_o o G) := by
  unfold xz_o; split
  · exact h _
  · exact xz_Mo_none _
theorem xz_Mo_w {M : xz_M} {o : Option xz_M} {G : xz_M → xz_Res} (hw : ∀ x, o = some x → xz_le M x) (h : ∀ x, xz_Mo x (G x)) : xz_Mo M (xz_o o G) := by
  unfold xz_o; split
  · rename_i x
    exact fun r hr => (hw x rfl).tr (h x r hr)
  · exact xz_Mo_none _
theorem xz_Mo_b {M : xz_M} {c : Bool} {G : xz_Res} (h : xz_Mo M G) : xz_Mo M (xz_b c G) := by
  unfold xz_b; split
  · exact h
  · exact xz_Mo_none _
theorem xz_Mo_if {M : xz_M} {c : Prop} [Decidable c] {G G' : xz_Res} (h : xz_Mo M G) (h' : xz_Mo M G') : xz_Mo M (if c then G else G') := by
  split
  · exact h
  · exact h'
theorem xz_Mo_c {M : xz_M} {c : Bool} {G G' : xz_Res} (h : xz_Mo M G) (h' : xz_Mo M G') : xz_Mo M (bif c then G else G') := by
  cases c
  · exact h'
  · exact h
theorem xz_Mo_args {M : xz_M} {b : Nat} {S : List Value} {G : List Value → List Value → xz_Res} (h : ∀ x S, xz_Mo M (G x S)) : xz_Mo M (xz_args b S G) := by
  unfold xz_args
  exact xz_Mo_c (h _ _) (xz_Mo_none _)
theorem xz_Mo_ret {M : xz_M} {c : Nat} {o : xz_Res} {g : List Value → xz_M → xz_Res} (h : xz_Mo M o) (hf : ∀ vs M, xz_Mo M (g vs M)) : xz_Mo M (xz_ret c o g) := by
  have key : ∀ (v : Option Value) (M' : xz_M) (vs : List Value), o = some (v, M') → xz_Mo M (g vs M') := fun v M' vs ho r hr => (h _ ho).tr (hf vs M' r hr)
  match c with
  | 0 => 
    show xz_Mo M (xz_bI o _)
    unfold xz_bI; split
    · exact key _ _ _ rfl
    · exact xz_Mo_none _
  | 1 => 
    show xz_Mo M (xz_bJ o _)
    unfold xz_bJ; split
    · exact key _ _ _ rfl
    · exact xz_Mo_none _
  | 2 => 
    show xz_Mo M (xz_bR o _)
    unfold xz_bR; split
    · exact key _ _ _ rfl
    · exact xz_Mo_none _
  | _ + 3 => 
    show xz_Mo M (xz_bV o _)
    unfold xz_bV; split
    · exact key _ _ _ rfl
    · exact xz_Mo_none _
theorem xz_Mo_sw {M : xz_M} {d : Nat} {G : Nat → xz_Res} (h : ∀ t, xz_Mo M (G t)) : ∀ (ts : List Nat) (x lo : Int32), xz_Mo M (xz_sw x lo d G ts)
  | [], _, _ => h d
  | t :: ts, x, lo => by
    unfold xz_sw
    exact xz_Mo_if (h t) (xz_Mo_sw h ts x (lo + 1))
theorem xz_slt_set {M : xz_M} {r : Nat} {q : xz_Sh} {rs : List (Option Nat)} (h : M.1[r]? = some q) : xz_slt (M.1.set r (q.1, q.2.1, rs), M.2) = xz_slt M := by
  obtain ⟨hl, he⟩ := List.getElem?_eq_some_iff.mp h
  show ((M.1.set r (q.1, q.2.1, rs)).map fun q => q.2.1).sum = (M.1.map fun q => q.2.1).sum
  rw [List.map_set]
  have : (M.1.map fun q => q.2.1).set r q.2.1 = M.1.map fun q => q.2.1 := by
    apply List.ext_getElem?
    intro i
    by_cases hi : i = r
    · subst hi
      rw [List.getElem?_set_self (by simpa using hl), List.getElem?_map, h]
      rfl
    · rw [List.getElem?_set_ne (Ne.symm hi)]
  rw [this]
theorem xz_le_set {M : xz_M} {r : Nat} {q : xz_Sh} {rs : List (Option Nat)} (h : M.1[r]? = some q) : xz_le M (M.1.set r (q.1, q.2.1, rs), M.2) :=
  ⟨by simp, by rw [xz_slt_set h]; exact Nat.le_refl _⟩
set_option maxHeartbeats 4000000 in
set_option maxRecDepth 100000 in
theorem xz_Mo_blk {R' : Nat → List Value → xz_M → xz_Res} {Lp' : Nat → xz_L → List Value → xz_M → xz_Res}
    (hR : ∀ y as M, xz_Mo M (R' y as M)) (hL : ∀ k L S M, xz_Mo M (Lp' k L S M)) (nat : Bool) (X : xz_X) (lc : Nat → Int64) (C : List xz_Op) :
    ∀ (s : Nat) (C' : List xz_Op) (L : xz_L) (S : List Value) (M : xz_M), xz_Mo M (xz_blk R' Lp' nat X lc C s C' L S M) := by
  intro s
  induction s with
  | zero => intro C' L S M; exact xz_Mo_none _
  | succ s ih =>
    intro C' L S M
    match C' with
    | [] => exact xz_Mo_none _
    | (ins, (_, _), (a, b, c, e), v, ts) :: C' =>
      cases ins
      case nop => exact hL _ _ _ _
      case dup => unfold xz_blk; exact xz_Mo_p1 (G := fun x S => xz_blk R' Lp' nat X lc C s C' L (x :: x :: S) M) fun _ _ => ih _ _ _ _
      case pop => unfold xz_blk; exact xz_Mo_p1 (G := fun _ S => xz_blk R' Lp' nat X lc C s C' L S M) fun _ _ => ih _ _ _ _
      case ifCond q _ => cases q <;> exact xz_Mo_pI fun _ _ => xz_Mo_if (ih _ _ _ _) (ih _ _ _ _)
      case if_icmp q _ => cases q <;> exact xz_Mo_pI fun _ _ => xz_Mo_pI fun _ _ => xz_Mo_if (ih _ _ _ _) (ih _ _ _ _)
      case getfield => 
        match c with
        | 0 => exact xz_Mo_pR fun _ _ => xz_Mo_o fun _ => ih _ _ _ _
        | 1 => exact xz_Mo_pR fun _ _ => xz_Mo_o fun _ => ih _ _ _ _
        | 2 => exact xz_Mo_pR fun _ _ => xz_Mo_o fun _ => ih _ _ _ _
        | 3 => exact xz_Mo_pR fun _ _ => xz_Mo_o fun _ => ih _ _ _ _
        | 4 => exact xz_Mo_pR fun _ _ => xz_Mo_o fun _ => ih _ _ _ _
        | 5 => exact xz_Mo_pR fun _ _ => xz_Mo_o fun _ => ih _ _ _ _
        | _ + 6 => exact xz_Mo_pR fun _ _ => xz_Mo_o fun _ => ih _ _ _ _
      case getstatic => exact xz_Mo_c (ih _ _ _ _) (ih _ _ _ _)
      case putfield => 
        match c with
        | 0 => exact xz_Mo_pI fun _ _ => xz_Mo_pR fun _ _ => xz_Mo_w (fun _ h => by obtain ⟨_, _, _, rfl⟩ := xz_wI_s h; exact xz_le_same rfl) fun _ => ih _ _ _ _
        | 1 => exact xz_Mo_pJ fun _ _ => xz_Mo_pR fun _ _ => xz_Mo_w (fun _ h => by obtain ⟨_, _, _, rfl⟩ := xz_wJ_s h; exact xz_le_same rfl) fun _ => ih _ _ _ _
        | 2 => exact xz_Mo_pR fun _ _ => xz_Mo_pR fun _ _ => xz_Mo_w (fun _ h => by obtain ⟨_, hq, _, _, rfl⟩ := xz_wR_s h; exact xz_le_set hq) fun _ => ih _ _ _ _
        | _ + 3 => exact xz_Mo_pI fun _ _ => xz_Mo_pR fun _ _ => xz_Mo_w (fun _ h => by obtain ⟨_, _, _, _, rfl⟩ := xz_wZ_s h; exact xz_le_same rfl) fun _ => ih _ _ _ _
      case tableswitch => exact xz_Mo_pI fun _ _ => xz_Mo_sw (fun t => ih _ _ _ _) _ _ _
      case ireturn =>
        refine xz_Mo_pI fun _ S => ?_
        match S with
        | [] => exact xz_Mo_b (xz_Mo_k _ _)
        | _ :: _ => exact xz_Mo_none _
      case lreturn =>
        refine xz_Mo_pJ fun _ S => ?_
        match S with
        | [] => exact xz_Mo_k _ _
        | _ :: _ => exact xz_Mo_none _
      case areturn =>
        refine xz_Mo_pR fun _ S => ?_
        match S with
        | [] => exact xz_Mo_k _ _
        | _ :: _ => exact xz_Mo_none _
      case return_ =>
        match S with
        | [] => exact xz_Mo_k _ _
        | _ :: _ => exact xz_Mo_none _
      case invokestatic =>
        unfold xz_blk
        dsimp only
        split
        · exact xz_Mo_none _
        · exact xz_Mo_pJ fun _ _ => xz_Mo_pJ fun _ _ => xz_Mo_b (ih _ _ _ _)
        · refine xz_Mo_pI fun _ _ => xz_Mo_pI fun _ _ => xz_Mo_pR fun _ _ => xz_Mo_pI fun _ _ => xz_Mo_pR fun _ _ => xz_Mo_b (xz_Mo_w (fun _ h => ?_) fun _ => ih _ _ _ _)
          obtain ⟨_, _, _, _, _, _, _, _, _, _, _, ⟨_, rfl⟩ | ⟨_, rfl⟩⟩ := xz_copy_s h
          · exact xz_le_same rfl
          · exact xz_le_same rfl
        · exact xz_Mo_args fun _ _ => xz_Mo_b (xz_Mo_ret (hR _ _ _) fun _ _ => ih _ _ _ _)
      case invokevirtual =>
        unfold xz_blk
        dsimp only
        exact xz_Mo_args fun _ _ => xz_Mo_pR fun _ _ => xz_Mo_b (xz_Mo_ret (hR _ _ _) fun _ _ => ih _ _ _ _)
      case invokespecial =>
        unfold xz_blk
        dsimp only
        split
        · exact xz_Mo_pR fun _ _ => xz_Mo_b (ih _ _ _ _)
        · exact xz_Mo_args fun _ _ => xz_Mo_pR fun _ _ => xz_Mo_b (xz_Mo_ret (hR _ _ _) fun _ _ => ih _ _ _ _)
      case iaload =>
        exact xz_Mo_pI fun _ _ => xz_Mo_pR fun _ _ => xz_Mo_c (xz_Mo_o fun _ => xz_Mo_b (ih _ _ _ _)) (xz_Mo_o fun _ => ih _ _ _ _)
      case arraylength =>
        exact xz_Mo_pR fun _ _ => xz_Mo_c (xz_Mo_o fun _ => xz_Mo_b (ih _ _ _ _)) (xz_Mo_o fun _ => ih _ _ _ _)
      case ldc => exact xz_Mo_c (ih _ _ _ _) (ih _ _ _ _)
      case ldiv => exact xz_Mo_pJ fun _ _ => xz_Mo_pJ fun _ _ => xz_Mo_if (xz_Mo_none _) (ih _ _ _ _)
      case lrem => exact xz_Mo_pJ fun _ _ => xz_Mo_pJ fun _ _ => xz_Mo_if (xz_Mo_none _) (ih _ _ _ _)
      case iastore => exact xz_Mo_pI fun _ _ => xz_Mo_pI fun _ _ => xz_Mo_pR fun _ _ => xz_Mo_w (fun _ h => by obtain ⟨_, _, _, _, rfl⟩ := xz_sI0_s h; exact xz_le_same rfl) fun _ => ih _ _ _ _
      case bastore => exact xz_Mo_pI fun _ _ => xz_Mo_pI fun _ _ => xz_Mo_pR fun _ _ => xz_Mo_w (fun _ h => by obtain ⟨_, _, _, _, rfl⟩ := xz_sZ0_s h; exact xz_le_same rfl) fun _ => ih _ _ _ _
      case lastore => exact xz_Mo_pJ fun _ _ => xz_Mo_pI fun _ _ => xz_Mo_pR fun _ _ => xz_Mo_w (fun _ h => by obtain ⟨_, _, _, _, rfl⟩ := xz_sJ0_s h; exact xz_le_same rfl) fun _ => ih _ _ _ _
      case new => exact fun r hr => (xz_le_new M _).tr (ih _ _ _ _ r hr)
      case newarray => exact xz_Mo_pI fun _ _ => xz_Mo_w (fun _ h => by obtain ⟨_, _, rfl⟩ := xz_newA_s h; exact xz_le_new _ _) fun _ => ih _ _ _ _
      case multianewarray => exact xz_Mo_pI fun _ _ => xz_Mo_pI fun _ _ => xz_Mo_w (fun _ h => by obtain ⟨_, _, _, _, rfl⟩ := xz_newM_s h; exact (xz_le_new _ _).tr (xz_le_news _ _ _)) fun _ => ih _ _ _ _
      all_goals first
        | exact xz_Mo_none _
        | exact ih _ _ _ _
        | exact xz_Mo_lI fun _ => ih _ _ _ _
        | exact xz_Mo_lJ fun _ => ih _ _ _ _
        | exact xz_Mo_lR fun _ => ih _ _ _ _
        | exact xz_Mo_pI fun _ _ => ih _ _ _ _
        | exact xz_Mo_pJ fun _ _ => ih _ _ _ _
        | exact xz_Mo_pR fun _ _ => ih _ _ _ _
        | exact xz_Mo_pI fun _ _ => xz_Mo_pI fun _ _ => ih _ _ _ _
        | exact xz_Mo_pJ fun _ _ => xz_Mo_pJ fun _ _ => ih _ _ _ _
        | exact xz_Mo_pI fun _ _ => xz_Mo_pJ fun _ _ => ih _ _ _ _
        | exact xz_Mo_pI fun _ _ => xz_Mo_pR fun _ _ => xz_Mo_o fun _ => ih _ _ _ _
theorem xz_run_mono (cd : Nat → List xz_Op) (lc : Nat → Int64) (ml : Nat → Nat) : ∀ (n d y : Nat) (X : xz_X) (k : Nat) (L : xz_L) (S : List Value) (M : xz_M), xz_Mo M (xz_run cd lc ml n d y X k L S M)
  | 0, _, _, _, _, _, _, _ => xz_Mo_none _
  | n + 1, d, y, X, k, L, S, M => xz_Mo_blk (fun y as M => by
      cases d with
      | zero => exact xz_Mo_none _
      | succ d => exact xz_Mo_b (xz_run_mono cd lc ml n d y none 0 (lv_args 0 as) [] M)) (fun k L S M => xz_run_mono cd lc ml n d y X k L S M) _ X lc _ _ _ L S M
