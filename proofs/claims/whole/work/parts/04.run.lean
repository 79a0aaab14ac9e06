/-! RUNS: by rounds (a loop's turn or a call costs one), and without rounds; what one block says of the run -/
def xz_aw (as : List Value) : Nat := (as.map fun v => v.category).sum
def xz_cal (ml : Nat → Nat) (f : Nat → Nat → xz_X → Nat → xz_L → List Value → xz_M → xz_Res) (d : Nat) : Nat → List Value → xz_M → xz_Res := match d with
  | 0 => fun _ _ _ => none
  | d + 1 => fun y as M => xz_b (Nat.ble (xz_aw as) (ml y)) (f d y none 0 (lv_args 0 as) [] M)
def xz_run (cd : Nat → List xz_Op) (lc : Nat → Int64) (ml : Nat → Nat) : Nat → Nat → Nat → xz_X → Nat → xz_L → List Value → xz_M → xz_Res
  | 0, _, _, _, _, _, _, _ => none
  | n + 1, d, y, X, k, L, S, M => xz_blk (xz_cal ml (xz_run cd lc ml n) d) (fun k L S M => xz_run cd lc ml n d y X k L S M) true X lc (cd y) 400 ((cd y).drop k) L S M
def xz_Cn (F : Nat → xz_Res) (G : xz_Res) : Prop := ∀ r, G = some r → ∃ n0, ∀ n, n0 ≤ n → F n = some r
theorem xz_Cn_none (F : Nat → xz_Res) : xz_Cn F none := fun _ h => by cases h
theorem xz_Cn_k (G : xz_Res) : xz_Cn (fun _ => G) G := fun _ h => ⟨0, fun _ _ => h⟩
theorem xz_Cn_pI {S : List Value} {F : Nat → Int32 → List Value → xz_Res} {G : Int32 → List Value → xz_Res} (h : ∀ x S, xz_Cn (fun n => F n x S) (G x S)) : xz_Cn (fun n => xz_pI S (F n)) (xz_pI S G) := by
  unfold xz_pI; split
  · exact h _ _
  · exact xz_Cn_none _
theorem xz_Cn_pJ {S : List Value} {F : Nat → Int64 → List Value → xz_Res} {G : Int64 → List Value → xz_Res} (h : ∀ x S, xz_Cn (fun n => F n x S) (G x S)) : xz_Cn (fun n => xz_pJ S (F n)) (xz_pJ S G) := by
  unfold xz_pJ; split
  · exact h _ _
  · exact xz_Cn_none _
theorem xz_Cn_pR {S : List Value} {F : Nat → Nat → List Value → xz_Res} {G : Nat → List Value → xz_Res} (h : ∀ x S, xz_Cn (fun n => F n x S) (G x S)) : xz_Cn (fun n => xz_pR S (F n)) (xz_pR S G) := by
  unfold xz_pR; split
  · exact h _ _
  · exact xz_Cn_none _
theorem xz_Cn_p1 {S : List Value} {F : Nat → Value → List Value → xz_Res} {G : Value → List Value → xz_Res} (h : ∀ x S, xz_Cn (fun n => F n x S) (G x S)) : xz_Cn (fun n => xz_p1 S (F n)) (xz_p1 S G) := by
  unfold xz_p1; split
  · exact h _ _
  · exact h _ _
  · exact xz_Cn_none _
theorem xz_Cn_lI {L : xz_L} {i : Nat} {F : Nat → Int32 → xz_Res} {G : Int32 → xz_Res} (h : ∀ x, xz_Cn (fun n => F n x) (G x)) : xz_Cn (fun n => xz_lI L i (F n)) (xz_lI L i G) := by
  unfold xz_lI; split
  · exact h _
  · exact xz_Cn_none _
theorem xz_Cn_lJ {L : xz_L} {i : Nat} {F : Nat → Int64 → xz_Res} {G : Int64 → xz_Res} (h : ∀ x, xz_Cn (fun n => F n x) (G x)) : xz_Cn (fun n => xz_lJ L i (F n)) (xz_lJ L i G) := by
  unfold xz_lJ; split
  · exact h _
  · exact xz_Cn_none _
theorem xz_Cn_lR {L : xz_L} {i : Nat} {F : Nat → Nat → xz_Res} {G : Nat → xz_Res} (h : ∀ x, xz_Cn (fun n => F n x) (G x)) : xz_Cn (fun n => xz_lR L i (F n)) (xz_lR L i G) := by
  unfold xz_lR; split
  · exact h _
  · exact xz_Cn_none _
theorem xz_Cn_o {α : Type} {o : Option α} {F : Nat → α → xz_Res} {G : α → xz_Res} (h : ∀ x, xz_Cn (fun n => F n x) (G x)) : xz_Cn (fun n => xz_o o (F n)) (xz_o o G) := by
  unfold xz_o; split
  · exact h _
  · exact xz_Cn_none _
theorem xz_Cn_b {c : Bool} {F : Nat → xz_Res} {G : xz_Res} (h : xz_Cn F G) : xz_Cn (fun n => xz_b c (F n)) (xz_b c G) := by
  unfold xz_b; split
  · exact h
  · exact xz_Cn_none _
theorem xz_Cn_if {c : Prop} [Decidable c] {F F' : Nat → xz_Res} {G G' : xz_Res} (h : xz_Cn F G) (h' : xz_Cn F' G') : xz_Cn (fun n => if c then F n else F' n) (if c then G else G') := by
  split
  · exact h
  · exact h'
theorem xz_Cn_c {c : Bool} {F F' : Nat → xz_Res} {G G' : xz_Res} (h : xz_Cn F G) (h' : xz_Cn F' G') : xz_Cn (fun n => bif c then F n else F' n) (bif c then G else G') := by
  cases c
  · exact h'
  · exact h
theorem xz_Cn_args {b : Nat} {S : List Value} {F : Nat → List Value → List Value → xz_Res} {G : List Value → List Value → xz_Res} (h : ∀ x S, xz_Cn (fun n => F n x S) (G x S)) : xz_Cn (fun n => xz_args b S (F n)) (xz_args b S G) := by
  unfold xz_args
  exact xz_Cn_c (h _ _) (xz_Cn_none _)
theorem xz_Cn_bind {F : Nat → xz_Res} {G : xz_Res} {f : Nat → xz_Res → xz_Res} {g : xz_Res → xz_Res} (hn : g none = none) (h : xz_Cn F G) (hf : ∀ o, xz_Cn (fun n => f n o) (g o)) : xz_Cn (fun n => f n (F n)) (g G) := by
  intro r hr
  cases hG : G with
  | none => rw [hG, hn] at hr; cases hr
  | some q =>
    obtain ⟨n1, h1⟩ := h q hG
    obtain ⟨n2, h2⟩ := hf G r hr
    refine ⟨max n1 n2, fun n hh => ?_⟩
    show f n (F n) = some r
    rw [h1 n (by omega), ← hG]
    exact h2 n (by omega)
theorem xz_Cn_bI {o : xz_Res} {F : Nat → Int32 → xz_M → xz_Res} {G : Int32 → xz_M → xz_Res} (h : ∀ x S, xz_Cn (fun n => F n x S) (G x S)) : xz_Cn (fun n => xz_bI o (F n)) (xz_bI o G) := by
  unfold xz_bI; split
  · exact h _ _
  · exact xz_Cn_none _
theorem xz_Cn_bJ {o : xz_Res} {F : Nat → Int64 → xz_M → xz_Res} {G : Int64 → xz_M → xz_Res} (h : ∀ x S, xz_Cn (fun n => F n x S) (G x S)) : xz_Cn (fun n => xz_bJ o (F n)) (xz_bJ o G) := by
  unfold xz_bJ; split
  · exact h _ _
  · exact xz_Cn_none _
theorem xz_Cn_bR {o : xz_Res} {F : Nat → Nat → xz_M → xz_Res} {G : Nat → xz_M → xz_Res} (h : ∀ x S, xz_Cn (fun n => F n x S) (G x S)) : xz_Cn (fun n => xz_bR o (F n)) (xz_bR o G) := by
  unfold xz_bR; split
  · exact h _ _
  · exact xz_Cn_none _
theorem xz_Cn_bV {o : xz_Res} {F : Nat → xz_M → xz_Res} {G : xz_M → xz_Res} (h : ∀ S, xz_Cn (fun n => F n S) (G S)) : xz_Cn (fun n => xz_bV o (F n)) (xz_bV o G) := by
  unfold xz_bV; split
  · exact h _
  · exact xz_Cn_none _
theorem xz_ret_none (c : Nat) (k : List Value → xz_M → xz_Res) : xz_ret c none k = none := by
  match c with
  | 0 => rfl
  | 1 => rfl
  | 2 => rfl
  | _ + 3 => rfl
theorem xz_Cn_ret {c : Nat} {F : Nat → xz_Res} {G : xz_Res} {f : Nat → List Value → xz_M → xz_Res} {g : List Value → xz_M → xz_Res} (h : xz_Cn F G) (hf : ∀ vs M, xz_Cn (fun n => f n vs M) (g vs M)) : xz_Cn (fun n => xz_ret c (F n) (f n)) (xz_ret c G g) := by
  refine xz_Cn_bind (f := fun n o => xz_ret c o (f n)) (g := fun o => xz_ret c o g) (xz_ret_none c g) h (fun o => ?_)
  match c with
  | 0 => exact xz_Cn_bI fun _ _ => hf _ _
  | 1 => exact xz_Cn_bJ fun _ _ => hf _ _
  | 2 => exact xz_Cn_bR fun _ _ => hf _ _
  | _ + 3 => exact xz_Cn_bV fun _ => hf _ _
theorem xz_Cn_sw {d : Nat} {F : Nat → Nat → xz_Res} {G : Nat → xz_Res} (h : ∀ t, xz_Cn (fun n => F n t) (G t)) : ∀ (ts : List Nat) (x lo : Int32), xz_Cn (fun n => xz_sw x lo d (F n) ts) (xz_sw x lo d G ts)
  | [], _, _ => h d
  | t :: ts, x, lo => by
    unfold xz_sw
    exact xz_Cn_if (h t) (xz_Cn_sw h ts x (lo + 1))
set_option maxHeartbeats 4000000 in
set_option maxRecDepth 100000 in
theorem xz_Cn_blk {R : Nat → Nat → List Value → xz_M → xz_Res} {R' : Nat → List Value → xz_M → xz_Res} {Lp : Nat → Nat → xz_L → List Value → xz_M → xz_Res} {Lp' : Nat → xz_L → List Value → xz_M → xz_Res}
    (hR : ∀ y as M, xz_Cn (fun n => R n y as M) (R' y as M)) (hL : ∀ k L S M, xz_Cn (fun n => Lp n k L S M) (Lp' k L S M)) (nat : Bool) (X : xz_X) (lc : Nat → Int64) (C : List xz_Op) :
    ∀ (s : Nat) (C' : List xz_Op) (L : xz_L) (S : List Value) (M : xz_M), xz_Cn (fun n => xz_blk (R n) (Lp n) nat X lc C s C' L S M) (xz_blk R' Lp' nat X lc C s C' L S M) := by
  intro s
  induction s with
  | zero => intro C' L S M; exact xz_Cn_none _
  | succ s ih =>
    intro C' L S M
    match C' with
    | [] => exact xz_Cn_none _
    | (ins, (_, _), (a, b, c, e), v, ts) :: C' =>
      cases ins
      case nop => exact hL _ _ _ _
      case dup => unfold xz_blk; exact xz_Cn_p1 (F := fun n x S => xz_blk (R n) (Lp n) nat X lc C s C' L (x :: x :: S) M) (G := fun x S => xz_blk R' Lp' nat X lc C s C' L (x :: x :: S) M) fun _ _ => ih _ _ _ _
      case pop => unfold xz_blk; exact xz_Cn_p1 (F := fun n _ S => xz_blk (R n) (Lp n) nat X lc C s C' L S M) (G := fun _ S => xz_blk R' Lp' nat X lc C s C' L S M) fun _ _ => ih _ _ _ _
      case ifCond q _ => cases q <;> exact xz_Cn_pI fun _ _ => xz_Cn_if (ih _ _ _ _) (ih _ _ _ _)
      case if_icmp q _ => cases q <;> exact xz_Cn_pI fun _ _ => xz_Cn_pI fun _ _ => xz_Cn_if (ih _ _ _ _) (ih _ _ _ _)
      case getfield => 
        match c with
        | 0 => exact xz_Cn_pR fun _ _ => xz_Cn_o fun _ => ih _ _ _ _
        | 1 => exact xz_Cn_pR fun _ _ => xz_Cn_o fun _ => ih _ _ _ _
        | 2 => exact xz_Cn_pR fun _ _ => xz_Cn_o fun _ => ih _ _ _ _
        | 3 => exact xz_Cn_pR fun _ _ => xz_Cn_o fun _ => ih _ _ _ _
        | 4 => exact xz_Cn_pR fun _ _ => xz_Cn_o fun _ => ih _ _ _ _
        | 5 => exact xz_Cn_pR fun _ _ => xz_Cn_o fun _ => ih _ _ _ _
        | _ + 6 => exact xz_Cn_pR fun _ _ => xz_Cn_o fun _ => ih _ _ _ _
      case getstatic => exact xz_Cn_c (ih _ _ _ _) (ih _ _ _ _)
      case putfield => 
        match c with
        | 0 => exact xz_Cn_pI fun _ _ => xz_Cn_pR fun _ _ => xz_Cn_o fun _ => ih _ _ _ _
        | 1 => exact xz_Cn_pJ fun _ _ => xz_Cn_pR fun _ _ => xz_Cn_o fun _ => ih _ _ _ _
        | 2 => exact xz_Cn_pR fun _ _ => xz_Cn_pR fun _ _ => xz_Cn_o fun _ => ih _ _ _ _
        | _ + 3 => exact xz_Cn_pI fun _ _ => xz_Cn_pR fun _ _ => xz_Cn_o fun _ => ih _ _ _ _
      case tableswitch => exact xz_Cn_pI fun _ _ => xz_Cn_sw (fun t => ih _ _ _ _) _ _ _
      case ireturn => exact xz_Cn_k _
      case lreturn => exact xz_Cn_k _
      case areturn => exact xz_Cn_k _
      case return_ => exact xz_Cn_k _
      case invokestatic =>
        unfold xz_blk
        dsimp only
        split
        · exact xz_Cn_none _
        · exact xz_Cn_pJ fun _ _ => xz_Cn_pJ fun _ _ => xz_Cn_b (ih _ _ _ _)
        · exact xz_Cn_pI fun _ _ => xz_Cn_pI fun _ _ => xz_Cn_pR fun _ _ => xz_Cn_pI fun _ _ => xz_Cn_pR fun _ _ => xz_Cn_b (xz_Cn_o fun _ => ih _ _ _ _)
        · exact xz_Cn_args fun _ _ => xz_Cn_b (xz_Cn_ret (hR _ _ _) fun _ _ => ih _ _ _ _)
      case invokevirtual =>
        unfold xz_blk
        dsimp only
        exact xz_Cn_args fun _ _ => xz_Cn_pR fun _ _ => xz_Cn_b (xz_Cn_ret (hR _ _ _) fun _ _ => ih _ _ _ _)
      case invokespecial =>
        unfold xz_blk
        dsimp only
        split
        · exact xz_Cn_pR fun _ _ => xz_Cn_b (ih _ _ _ _)
        · exact xz_Cn_args fun _ _ => xz_Cn_pR fun _ _ => xz_Cn_b (xz_Cn_ret (hR _ _ _) fun _ _ => ih _ _ _ _)
      case iaload =>
        exact xz_Cn_pI fun _ _ => xz_Cn_pR fun _ _ => xz_Cn_c (xz_Cn_o fun _ => xz_Cn_b (ih _ _ _ _)) (xz_Cn_o fun _ => ih _ _ _ _)
      case arraylength =>
        exact xz_Cn_pR fun _ _ => xz_Cn_c (xz_Cn_o fun _ => xz_Cn_b (ih _ _ _ _)) (xz_Cn_o fun _ => ih _ _ _ _)
      case ldc => exact xz_Cn_c (ih _ _ _ _) (ih _ _ _ _)
      case ldiv => exact xz_Cn_pJ fun _ _ => xz_Cn_pJ fun _ _ => xz_Cn_if (xz_Cn_none _) (ih _ _ _ _)
      case lrem => exact xz_Cn_pJ fun _ _ => xz_Cn_pJ fun _ _ => xz_Cn_if (xz_Cn_none _) (ih _ _ _ _)
      all_goals first
        | exact xz_Cn_none _
        | exact ih _ _ _ _
        | exact xz_Cn_lI fun _ => ih _ _ _ _
        | exact xz_Cn_lJ fun _ => ih _ _ _ _
        | exact xz_Cn_lR fun _ => ih _ _ _ _
        | exact xz_Cn_pI fun _ _ => ih _ _ _ _
        | exact xz_Cn_pJ fun _ _ => ih _ _ _ _
        | exact xz_Cn_pR fun _ _ => ih _ _ _ _
        | exact xz_Cn_p1 fun _ _ => ih _ _ _ _
        | exact xz_Cn_pI fun _ _ => xz_Cn_pI fun _ _ => ih _ _ _ _
        | exact xz_Cn_pJ fun _ _ => xz_Cn_pJ fun _ _ => ih _ _ _ _
        | exact xz_Cn_pI fun _ _ => xz_Cn_pJ fun _ _ => ih _ _ _ _
        | exact xz_Cn_pI fun _ _ => xz_Cn_pR fun _ _ => xz_Cn_o fun _ => ih _ _ _ _
        | exact xz_Cn_pI fun _ _ => xz_Cn_o fun _ => ih _ _ _ _
        | exact xz_Cn_pI fun _ _ => xz_Cn_pI fun _ _ => xz_Cn_o fun _ => ih _ _ _ _
        | exact xz_Cn_pI fun _ _ => xz_Cn_pI fun _ _ => xz_Cn_pR fun _ _ => xz_Cn_o fun _ => ih _ _ _ _
        | exact xz_Cn_pJ fun _ _ => xz_Cn_pI fun _ _ => xz_Cn_pR fun _ _ => xz_Cn_o fun _ => ih _ _ _ _
/-- a run's answer, without rounds -/
def xz_Runs (cd : Nat → List xz_Op) (lc : Nat → Int64) (ml : Nat → Nat) (d y : Nat) (X : xz_X) (k : Nat) (L : xz_L) (S : List Value) (M : xz_M) (r : Option Value × xz_M) : Prop := ∃ n0, ∀ n, n0 ≤ n → xz_run cd lc ml n d y X k L S M = some r
theorem xz_Runs.uniq {cd : Nat → List xz_Op} {lc : Nat → Int64} {ml : Nat → Nat} {d y : Nat} {X : xz_X} {k : Nat} {L : xz_L} {S : List Value} {M : xz_M} {r r' : Option Value × xz_M} (h : xz_Runs cd lc ml d y X k L S M r) (h' : xz_Runs cd lc ml d y X k L S M r') : r = r' := by
  obtain ⟨n1, h1⟩ := h
  obtain ⟨n2, h2⟩ := h'
  have a := h1 (max n1 n2) (by omega)
  have b := h2 (max n1 n2) (by omega)
  exact Option.some.inj (a.symm.trans b)
noncomputable def xz_Run (cd : Nat → List xz_Op) (lc : Nat → Int64) (ml : Nat → Nat) (d y : Nat) (X : xz_X) (k : Nat) (L : xz_L) (S : List Value) (M : xz_M) : xz_Res :=
  haveI := Classical.propDecidable (∃ r, xz_Runs cd lc ml d y X k L S M r)
  if h : ∃ r, xz_Runs cd lc ml d y X k L S M r then some h.choose else none
theorem xz_Run_runs {cd : Nat → List xz_Op} {lc : Nat → Int64} {ml : Nat → Nat} {d y : Nat} {X : xz_X} {k : Nat} {L : xz_L} {S : List Value} {M : xz_M} {r : Option Value × xz_M} (h : xz_Run cd lc ml d y X k L S M = some r) : xz_Runs cd lc ml d y X k L S M r := by
  unfold xz_Run at h
  split at h
  · rename_i h0
    cases h
    exact h0.choose_spec
  · cases h
theorem xz_Run_in {cd : Nat → List xz_Op} {lc : Nat → Int64} {ml : Nat → Nat} {d y : Nat} {X : xz_X} {k : Nat} {L : xz_L} {S : List Value} {M : xz_M} {r : Option Value × xz_M} (h : xz_Runs cd lc ml d y X k L S M r) : xz_Run cd lc ml d y X k L S M = some r := by
  unfold xz_Run
  have h0 : ∃ r, xz_Runs cd lc ml d y X k L S M r := ⟨r, h⟩
  rw [dif_pos h0]
  exact congrArg some (h0.choose_spec.uniq h)
theorem xz_Run_of {cd : Nat → List xz_Op} {lc : Nat → Int64} {ml : Nat → Nat} {d y : Nat} {X : xz_X} {k : Nat} {L : xz_L} {S : List Value} {M : xz_M} {r : Option Value × xz_M}
    (h : xz_blk (xz_cal ml (xz_Run cd lc ml) d) (fun k L S M => xz_Run cd lc ml d y X k L S M) true X lc (cd y) 400 ((cd y).drop k) L S M = some r) : xz_Run cd lc ml d y X k L S M = some r := by
  have key : ∀ (d y : Nat) (X : xz_X) (k : Nat) (L : xz_L) (S : List Value) (M : xz_M), xz_Cn (fun n => xz_run cd lc ml n d y X k L S M) (xz_Run cd lc ml d y X k L S M) := fun d y X k L S M r hr => xz_Run_runs hr
  obtain ⟨n0, h0⟩ := xz_Cn_blk (R := fun n => xz_cal ml (xz_run cd lc ml n) d) (R' := xz_cal ml (xz_Run cd lc ml) d) (Lp := fun n k L S M => xz_run cd lc ml n d y X k L S M) (Lp' := fun k L S M => xz_Run cd lc ml d y X k L S M)
    (fun y as M => by
      cases d with
      | zero => exact xz_Cn_none _
      | succ d => exact xz_Cn_b (key d y none 0 (lv_args 0 as) [] M)) (fun k L S M => key d y X k L S M) true X lc (cd y) 400 ((cd y).drop k) L S M r h
  refine xz_Run_in ⟨n0 + 1, fun n hn => ?_⟩
  obtain ⟨n', rfl⟩ : ∃ n', n = n' + 1 := ⟨n - 1, by omega⟩
  exact h0 n' (by omega)
