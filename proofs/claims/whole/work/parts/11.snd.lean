/-! THE LITTLE MACHINE IS SOUND, one block: what it answers, the machine answers (cases by program: wip/whole/snd.py) -/
theorem xz_pcJ_i {C : List xz_Op} {a pc : Nat} {off : Int} (h : xz_pcJ C a pc off = true) : ∃ t : Nat, xz_pcA C a t = true ∧ (pc : Int) + off = (t : Int) := by
  unfold xz_pcJ at h
  cases ho : C[a]? with
  | none => rw [ho] at h; cases h
  | some op =>
    rw [ho] at h
    refine ⟨op.2.1.1, ?_, of_decide_eq_true h⟩
    unfold xz_pcA
    rw [ho]
    exact beq_self_eq_true _
theorem xz_pcs_i {C : List xz_Op} {pc : Nat} : ∀ {ts : List Nat} {os : List Int} {i t : Nat}, xz_pcs C pc ts os = true → ts[i]? = some t → ∃ o, os[i]? = some o ∧ xz_pcJ C t pc o = true
  | [], _, i, t, _, h => by simp at h
  | t0 :: ts, [], i, t, h, _ => by simp [xz_pcs] at h
  | t0 :: ts, o :: os, i, t, h, ht => by
    simp only [xz_pcs, Bool.and_eq_true] at h
    cases i with
    | zero => cases ht; exact ⟨o, rfl, h.1⟩
    | succ i => exact xz_pcs_i (i := i) h.2 ht
theorem xz_pcs_len {C : List xz_Op} {pc : Nat} : ∀ {ts : List Nat} {os : List Int}, xz_pcs C pc ts os = true → ts.length = os.length
  | [], [], _ => rfl
  | [], _ :: _, h => by simp [xz_pcs] at h
  | _ :: _, [], h => by simp [xz_pcs] at h
  | _ :: ts, _ :: os, h => by
    simp only [xz_pcs, Bool.and_eq_true] at h
    simp [xz_pcs_len h.2]
theorem xz_okm_at {y k : Nat} {op : xz_Op} (h : xz_okm y = true) (hk : (xz_code y)[k]? = some op) : xz_okd y op = true ∧ xz_oks y (xz_code y) k op = true := by
  have hm : (op, k) ∈ (xz_code y).zipIdx := by
    rw [List.mem_zipIdx_iff_getElem?]
    exact hk
  have h1 := List.all_eq_true.mp h (op, k) hm
  exact Bool.and_eq_true_iff.mp h1
theorem xz_drop_at {C : List xz_Op} {k : Nat} {op : xz_Op} (hk : C[k]? = some op) : C.drop k = op :: C.drop (k + 1) := by
  obtain ⟨hl, he⟩ := List.getElem?_eq_some_iff.mp hk
  rw [← he]
  exact List.drop_eq_getElem_cons hl
/-- how a method ends: its last instruction, its answer, its return's type -/
def xz_Ri (y : Nat) (ins : Instr) (ov : Option Value) : Prop :=
  (ins = .ireturn ∧ ∃ x ty, ov = some (.int x) ∧ xz_mr y = some ty ∧ narrow ty (.int x) = .int x) ∨ (ins = .lreturn ∧ ∃ x, ov = some (.long x) ∧ xz_mr y = some .long) ∨
  (ins = .areturn ∧ ∃ q ty, ov = some (.ref q) ∧ xz_mr y = some ty ∧ ((∃ n, ty = .object n) ∨ ∃ t, ty = .array t)) ∨ (ins = .return_ ∧ ov = none ∧ xz_mr y = none)

theorem xz_swx {lo : Int} {v z : Int32} {i : Nat} (h0 : 0 ≤ lo) (hl : lo + i < 1000) (hv : Int32.ofInt lo = v) (hz : z = v + Int32.ofNat i) : z.toInt = lo + i := by
  obtain ⟨n, rfl⟩ := Int.eq_ofNat_of_zero_le h0
  have e : Int32.ofInt (n : Int) = nI n := rfl
  rw [hz, ← hv, e, show Int32.ofNat i = nI i from rfl, nI_add, nI_toInt (by omega)]
  omega
theorem xz_rk0 {t : Option FieldType} (h : xz_rk t = 0) : t = some .int := by
  match t with
  | none => cases h
  | some t => cases t <;> first | rfl | (simp [xz_rk] at h)
theorem xz_rk1 {t : Option FieldType} (h : xz_rk t = 1) : t = some .long := by
  match t with
  | none => cases h
  | some t => cases t <;> first | rfl | (simp [xz_rk] at h)
theorem xz_rk2 {t : Option FieldType} (h : xz_rk t = 2) : ∃ ty, t = some ty ∧ ((∃ n, ty = .object n) ∨ ∃ u, ty = .array u) := by
  match t with
  | none => cases h
  | some t => cases t <;> first | exact ⟨_, rfl, Or.inl ⟨_, rfl⟩⟩ | exact ⟨_, rfl, Or.inr ⟨_, rfl⟩⟩ | (simp [xz_rk] at h)
theorem xz_rk3 {t : Option FieldType} (h : xz_rk t = 3) : t = none := by
  match t with
  | none => rfl
  | some t => cases t <;> (simp [xz_rk] at h)
theorem xz_rk4 {t : Option FieldType} (h : xz_rk t = 4) : t = some .boolean := by
  match t with
  | none => cases h
  | some t => cases t <;> first | rfl | (simp [xz_rk] at h)
theorem xz_rk5 {t : Option FieldType} (h : xz_rk t = 5) : t = some .char := by
  match t with
  | none => cases h
  | some t => cases t <;> first | rfl | (simp [xz_rk] at h)
theorem xz_rk6 {t : Option FieldType} (h : xz_rk t = 6) : t = some .byte := by
  match t with
  | none => cases h
  | some t => cases t <;> first | rfl | (simp [xz_rk] at h)
theorem xz_gI_s {M : xz_M} {r a b : Nat} {x : Int32} (h : xz_gI M r a b = some x) : ∃ q, M.1[r]? = some q ∧ q.1 = a + 5 ∧ x = M.2.1 r b := by
  unfold xz_gI at h
  split at h
  · rename_i q hq
    cases hc : (q.1 == a + 5) with
    | true => rw [hc] at h; cases h; exact ⟨q, hq, by simpa using hc, rfl⟩
    | false => rw [hc] at h; cases h
  · cases h
theorem xz_gJ_s {M : xz_M} {r a b : Nat} {x : Int64} (h : xz_gJ M r a b = some x) : ∃ q, M.1[r]? = some q ∧ q.1 = a + 5 ∧ x = M.2.2 r b := by
  unfold xz_gJ at h
  split at h
  · rename_i q hq
    cases hc : (q.1 == a + 5) with
    | true => rw [hc] at h; cases h; exact ⟨q, hq, by simpa using hc, rfl⟩
    | false => rw [hc] at h; cases h
  · cases h
theorem xz_gR_s {M : xz_M} {r a b x : Nat} (h : xz_gR M r a b = some x) : ∃ q, M.1[r]? = some q ∧ q.1 = a + 5 ∧ q.2.2.getD b none = some x := by
  unfold xz_gR at h
  split at h
  · rename_i q hq
    cases hc : (q.1 == a + 5) with
    | true => rw [hc] at h; exact ⟨q, hq, by simpa using hc, h⟩
    | false => rw [hc] at h; cases h
  · cases h
theorem xz_lI0_s {M : xz_M} {kd r : Nat} {i x : Int32} (h : xz_lI0 M kd r i = some x) : ∃ q, M.1[r]? = some q ∧ q.1 = kd ∧ xz_in i q.2.1 = true ∧ x = M.2.1 r i.toNatClampNeg := by
  unfold xz_lI0 at h
  split at h
  · rename_i q hq
    cases hc : (q.1 == kd && xz_in i q.2.1) with
    | true => rw [hc] at h; cases h; simp only [Bool.and_eq_true, beq_iff_eq] at hc; exact ⟨q, hq, hc.1, hc.2, rfl⟩
    | false => rw [hc] at h; cases h
  · cases h
theorem xz_lJ0_s {M : xz_M} {r : Nat} {i : Int32} {x : Int64} (h : xz_lJ0 M r i = some x) : ∃ q, M.1[r]? = some q ∧ q.1 = 2 ∧ xz_in i q.2.1 = true ∧ x = M.2.2 r i.toNatClampNeg := by
  unfold xz_lJ0 at h
  split at h
  · rename_i q hq
    cases hc : (q.1 == 2 && xz_in i q.2.1) with
    | true => rw [hc] at h; cases h; simp only [Bool.and_eq_true, beq_iff_eq] at hc; exact ⟨q, hq, hc.1, hc.2, rfl⟩
    | false => rw [hc] at h; cases h
  · cases h
theorem xz_lR0_s {M : xz_M} {r x : Nat} {i : Int32} (h : xz_lR0 M r i = some x) : ∃ q, M.1[r]? = some q ∧ (q.1 = 3 ∨ q.1 = 4) ∧ xz_in i q.2.1 = true ∧ q.2.2.getD i.toNatClampNeg none = some x := by
  unfold xz_lR0 at h
  split at h
  · rename_i q hq
    cases hc : ((q.1 == 3 || q.1 == 4) && xz_in i q.2.1) with
    | true => rw [hc] at h; simp only [Bool.and_eq_true, Bool.or_eq_true, beq_iff_eq] at hc; exact ⟨q, hq, hc.1, hc.2, h⟩
    | false => rw [hc] at h; cases h
  · cases h
theorem xz_len_s {M : xz_M} {r : Nat} {x : Int32} (h : xz_len M r = some x) : ∃ q, M.1[r]? = some q ∧ q.1 < 5 ∧ Int32.ofNat q.2.1 = x := by
  unfold xz_len at h
  split at h
  · rename_i q hq
    cases hc : Nat.ble q.1 4 with
    | true => rw [hc] at h; cases h; simp only [Nat.ble_eq] at hc; exact ⟨q, hq, by omega, rfl⟩
    | false => rw [hc] at h; cases h
  · cases h
theorem xz_getD_mem {l : List (Option Nat)} {i x : Nat} (h : l.getD i none = some x) : some x ∈ l := by
  rw [List.getD_eq_getElem?_getD] at h
  cases hz : l[i]? with
  | none => rw [hz] at h; cases h
  | some z => rw [hz] at h; cases h; exact List.mem_of_getElem? hz
theorem xz_sval_s {r x : Nat} (h : xz_sval r = some x) : ∃ i, i < 9 ∧ r = 2000 + i ∧ x = 2100 + i := by
  unfold xz_sval at h
  cases hc : (Nat.ble 2000 r && Nat.blt r 2009) with
  | true =>
    rw [hc] at h; cases h
    simp only [Bool.and_eq_true, Nat.ble_eq, Nat.blt_eq] at hc
    exact ⟨r - 2000, by omega, by omega, by omega⟩
  | false => rw [hc] at h; cases h
theorem xz_scod_s {r : Nat} {x : Int32} (h : xz_scod r = some x) : ∃ i, i < 9 ∧ r = 2000 + i ∧ x = 0 := by
  unfold xz_scod at h
  cases hc : (Nat.ble 2000 r && Nat.blt r 2009) with
  | true =>
    rw [hc] at h; cases h
    simp only [Bool.and_eq_true, Nat.ble_eq, Nat.blt_eq] at hc
    exact ⟨r - 2000, by omega, by omega, rfl⟩
  | false => rw [hc] at h; cases h
theorem xz_sln_s {r : Nat} {x : Int32} (h : xz_sln r = some x) : ∃ j, j < 9 ∧ r = 2100 + j ∧ Int32.ofNat (xz_slen.getD j 0) = x := by
  unfold xz_sln at h
  cases hc : Nat.ble 2100 r with
  | true =>
    rw [hc] at h
    simp only [Nat.ble_eq] at hc
    cases hz : xz_str[r - 2100]? with
    | none => rw [hz] at h; cases h
    | some lz =>
      rw [hz] at h; cases h
      have hl : r - 2100 < 9 := (List.getElem?_eq_some_iff.mp hz).1
      refine ⟨r - 2100, hl, by omega, ?_⟩
      simp only [xz_slen, List.getD_eq_getElem?_getD, List.getElem?_map, hz]
      rfl
  | false => rw [hc] at h; cases h
theorem xz_sby_s {r : Nat} {i x : Int32} (h : xz_sby r i = some x) : ∃ j, j < 9 ∧ r = 2100 + j ∧ vp_in i (xz_slen.getD j 0) ∧ (xz_sbyt.getD j []).getD i.toNatClampNeg 0 = x := by
  unfold xz_sby at h
  cases hc : Nat.ble 2100 r with
  | true =>
    rw [hc] at h
    simp only [Nat.ble_eq] at hc
    cases hz : xz_str[r - 2100]? with
    | none => rw [hz] at h; cases h
    | some lz =>
      rw [hz] at h
      have h : (bif xz_in i lz.length then some (Int32.ofNat (lz.getD i.toNatClampNeg 0)) else none) = some x := h
      cases hi : xz_in i lz.length with
      | false => rw [hi] at h; cases h
      | true =>
        rw [hi] at h
        have h : some (Int32.ofNat (lz.getD i.toNatClampNeg 0)) = some x := h
        have hin := xz_vp_in hi
        have hl : r - 2100 < 9 := (List.getElem?_eq_some_iff.mp hz).1
        have hlt : i.toNatClampNeg < lz.length := Nat.not_le.mp fun z => hin (Or.inr z)
        have e1 : xz_slen.getD (r - 2100) 0 = lz.length := by
          simp only [xz_slen, List.getD_eq_getElem?_getD, List.getElem?_map, hz]; rfl
        have e2 : xz_sbyt.getD (r - 2100) [] = lz.map Int32.ofNat := by
          simp only [xz_sbyt, List.getD_eq_getElem?_getD, List.getElem?_map, hz]; rfl
        refine ⟨r - 2100, hl, by omega, by rw [e1]; exact hin, ?_⟩
        rw [e2]
        simp only [Option.some.injEq] at h
        rw [← h, List.getD_eq_getElem?_getD, List.getD_eq_getElem?_getD, List.getElem?_map, List.getElem?_eq_getElem hlt]
        rfl
  | false => rw [hc] at h; cases h
theorem xz_wIn (a : Nat) (h : a < 9) : Cond.instantiable (xz_RN a) (xz_NC a) ∈ xz_TB := by
  match a, h with
  | 0, _ => exact xz_wIn0
  | 1, _ => exact xz_wIn1
  | 2, _ => exact xz_wIn2
  | 3, _ => exact xz_wIn3
  | 4, _ => exact xz_wIn4
  | 5, _ => exact xz_wIn5
  | 6, _ => exact xz_wIn6
  | 7, _ => exact xz_wIn7
  | 8, _ => exact xz_wIn8
theorem xz_wIi (a : Nat) (h : a < 9) : Cond.initialized (xz_RN a) ∈ xz_TB := by
  match a, h with
  | 0, _ => exact xz_wIi0
  | 1, _ => exact xz_wIi1
  | 2, _ => exact xz_wIi2
  | 3, _ => exact xz_wIi3
  | 4, _ => exact xz_wIi4
  | 5, _ => exact xz_wIi5
  | 6, _ => exact xz_wIi6
  | 7, _ => exact xz_wIi7
  | 8, _ => exact xz_wIi8
theorem xz_ftk : ∀ a, a < 9 → ∀ j, j < xz_NC a → xz_kty (xz_ty a j) = 0 ∨ xz_kty (xz_ty a j) = 1 ∨ xz_kty (xz_ty a j) = 2 ∨ xz_kty (xz_ty a j) = 3 := by decide +kernel
theorem xz_is_s {r : Nat} (h : (Nat.ble 2000 r && Nat.blt r 2009) = true) : ∃ i, i < 9 ∧ r = 2000 + i := by
  simp only [Bool.and_eq_true, Nat.ble_eq, Nat.blt_eq] at h
  exact ⟨r - 2000, by omega, by omega⟩
theorem xz_cat_V {ad : Nat → Nat} {S : List Value} (h : xz_cat S = true) : ((S.map (xz_V ad)).map fun v => v.category).sum ≤ 8 := by
  unfold xz_cat at h
  rw [List.map_map, show ((fun v : Value => v.category) ∘ xz_V ad) = fun v => v.category from funext fun v => xz_V_cat ad v]
  exact Nat.le_of_ble_eq_true h
theorem xz_free {A : Nat → Prop} {ws : va_W} {H0 H : Heap} {locs : List Loc} (hD : va_D A ws) (hS : va_S A H0 H locs) (hA : ∀ q, H0.size ≤ q → A q) : ∀ q, va_A ws H.size q → A q := by
  intro q h
  rcases h with ⟨k, e, h⟩ | h
  · exact hD.2 k (q, e) h
  · exact hA q (Nat.le_trans hS.1 h)
section SND
variable {p : Program} {l : Launch} {e : Env} {R : Room} {s : State} {m : MethodId} {args : Array Value} {below : List Frame} {meth : Method} {c : Code} {Q : State → Prop}
/-- the frame of one method's run -/
def xz_Fx (p : Program) (R : Room) (s : State) (m : MethodId) (args : Array Value) (meth : Method) (c : Code) (y d mc ms : Nat) : Prop :=
  p.tables.exec = Jvm.exec ∧ c.code = xz_mb y ∧ c.maxLocals = xz_ml y ∧ s.vm.findClass (xz_RN (xz_mo y)) = some m.cls ∧ (∀ w ∈ xz_TB, w.before args s = true) ∧ (y ≠ 0 → meth.name = (xz_mn y).name) ∧ d + 1 ≤ R.frames ∧ 64 * (d + 1) ≤ R.locals ∧ mc ≤ R.cells ∧ ms ≤ R.slots ∧ xz_okm y = true
set_option maxHeartbeats 8000000 in
set_option maxRecDepth 100000 in
theorem xz_snd_blk {y d mc ms n0 : Nat} {X : xz_X} {r : Option Value × xz_M} {D : va_G} {A : Nat → Prop} {ad0 : Nat → Nat} {RR : Nat → List Value → xz_M → xz_Res} {Lp : Nat → xz_L → List Value → xz_M → xz_Res}
    (F : xz_Fx p R s m args meth c y d mc ms) (hA : ∀ q, s.heap.size ≤ q → A q) (hE : xz_En ad0 A s s.heap) (hcap : r.2.1.length ≤ 900)
    (hX : ∀ q, X = some q → va_X (ad0 1000) q.1 q.2 s s.heap ∧ ad0 1000 < s.heap.size ∧ ¬ A (ad0 1000))
    (hRm : ∀ y as M, xz_Mo M (RR y as M)) (hLm : ∀ k L S M, xz_Mo M (Lp k L S M))
    (K : ∀ (ins : Instr) (pc : Nat) (ls : Array Slot) (H : Heap) (locs : List Loc) (tys : List (ClassId × FieldType)) (ad : Nat → Nat) (cA : Nat → ClassId), decode (xz_mb y) pc = .ok (ins, 1) → xz_Ri y ins r.1 → (∀ v ∈ r.1.toList, xz_vv r.2.1.length v) →
      va_P D vwCl (xz_ws ad cA r.2) H → va_K D vwCl tys s → va_D A (xz_ws ad cA r.2) → va_S A s.heap H locs → xz_Wf cA tys r.2 → (∀ k, k < n0 ∨ 1000 ≤ k → ad k = ad0 k) → W p l e R s m args below meth c H locs mc ms Q (F0 m pc ls (r.1.toList.map (xz_V ad))))
    (hLp : ∀ (k pc : Nat) (L : xz_L) (S : List Value) (M : xz_M) (ls : Array Slot) (H : Heap) (locs : List Loc) (cells slots : Nat) (tys : List (ClassId × FieldType)) (ad : Nat → Nat) (cA : Nat → ClassId), xz_pcA (xz_code y) k pc = true → Lp k L S M = some r → lv_has ls (xz_ml y) (xz_VL ad L) → (∀ q ∈ L, xz_vv M.1.length q.2) → (∀ v ∈ S, xz_vv M.1.length v) →
      va_P D vwCl (xz_ws ad cA M) H → va_K D vwCl tys s → va_D A (xz_ws ad cA M) → va_S A s.heap H locs → xz_Wf cA tys M → (∀ k, k < n0 ∨ 1000 ≤ k → ad k = ad0 k) → n0 ≤ M.1.length → cells + r.2.1.length = mc + M.1.length → slots + xz_slt r.2 = ms + xz_slt M → W p l e R s m args below meth c H locs cells slots Q (F0 m pc ls (S.map (xz_V ad))))
    (hC : ∀ (w : Nat) (as : List Value) (M : xz_M) (ov : Option Value) (M1 : xz_M), 0 < w → w < 200 → w ≠ q_JD_max → RR w as M = some (ov, M1) → M1.1.length ≤ 900 → ∃ dw, d = dw + 1 ∧ xz_Ct l D dw w as M (ov, M1)) :
    ∀ (s' k pc : Nat) (L : xz_L) (S : List Value) (M : xz_M) (ls : Array Slot) (H : Heap) (locs : List Loc) (cells slots : Nat) (tys : List (ClassId × FieldType)) (ad : Nat → Nat) (cA : Nat → ClassId), xz_pcA (xz_code y) k pc = true → xz_blk RR Lp true X xz_lc (xz_code y) s' ((xz_code y).drop k) L S M = some r → lv_has ls (xz_ml y) (xz_VL ad L) → (∀ q ∈ L, xz_vv M.1.length q.2) → (∀ v ∈ S, xz_vv M.1.length v) →
      va_P D vwCl (xz_ws ad cA M) H → va_K D vwCl tys s → va_D A (xz_ws ad cA M) → va_S A s.heap H locs → xz_Wf cA tys M → (∀ k, k < n0 ∨ 1000 ≤ k → ad k = ad0 k) → n0 ≤ M.1.length → cells + r.2.1.length = mc + M.1.length → slots + xz_slt r.2 = ms + xz_slt M → W p l e R s m args below meth c H locs cells slots Q (F0 m pc ls (S.map (xz_V ad))) := by
  obtain ⟨hx, hb, hml, hown, hts, hnm, hfr, hlo, hmc, hms, hokm⟩ := id F
  intro s'
  induction s' with
  | zero => intro k pc L S M ls H locs cells slots tys ad cA _ h; cases h
  | succ s' ih =>
    intro k pc L S M ls H locs cells slots tys ad cA hpc h hl hvL hvS hP hK hD hS hW hag hn0 hc hs
    cases hk : (xz_code y)[k]? with
    | none =>
      unfold xz_pcA at hpc
      rw [hk] at hpc
      cases hpc
    | some op =>
      rw [xz_drop_at hk] at h
      obtain ⟨hd, hok⟩ := xz_okm_at hokm hk
      obtain ⟨ins, ⟨pc', len⟩, ⟨a, b, c0, e0⟩, v, ts⟩ := op
      obtain rfl : pc' = pc := by
        unfold xz_pcA at hpc
        rw [hk] at hpc
        simpa using hpc
      -- same heap, new locals and stack
      have nxL : ∀ (k' pc' : Nat) (ls' : Array Slot) (L' : xz_L) (S' : List Value), xz_pcA (xz_code y) k' pc' = true → lv_has ls' (xz_ml y) (xz_VL ad L') → (∀ q ∈ L', xz_vv M.1.length q.2) → (∀ v ∈ S', xz_vv M.1.length v) → xz_blk RR Lp true X xz_lc (xz_code y) s' ((xz_code y).drop k') L' S' M = some r → W p l e R s m args below meth c H locs cells slots Q (F0 m pc' ls' (S'.map (xz_V ad))) :=
        fun k' pc' ls' L' S' h1 h2 h3 h4 h5 => ih k' pc' L' S' M ls' H locs cells slots tys ad cA h1 h5 h2 h3 h4 hP hK hD hS hW hag hn0 hc hs
      have nx : ∀ (k' pc' : Nat) (S' : List Value), xz_pcA (xz_code y) k' pc' = true → (∀ v ∈ S', xz_vv M.1.length v) → xz_blk RR Lp true X xz_lc (xz_code y) s' ((xz_code y).drop k') L S' M = some r → W p l e R s m args below meth c H locs cells slots Q (F0 m pc' ls (S'.map (xz_V ad))) :=
        fun k' pc' S' h1 h4 h5 => nxL k' pc' ls L S' h1 hl hvL h4 h5
      have nxM : ∀ (k' pc' : Nat) (S' : List Value) (M' : xz_M) (H' : Heap) (locs' : List Loc), xz_pcA (xz_code y) k' pc' = true → (∀ v ∈ S', xz_vv M.1.length v) → M'.1.length = M.1.length → xz_slt M' = xz_slt M → va_P D vwCl (xz_ws ad cA M') H' → va_D A (xz_ws ad cA M') → va_S A s.heap H' locs' → xz_Wf cA tys M' → xz_blk RR Lp true X xz_lc (xz_code y) s' ((xz_code y).drop k') L S' M' = some r → W p l e R s m args below meth c H' locs' cells slots Q (F0 m pc' ls (S'.map (xz_V ad))) :=
        fun k' pc' S' M' H' locs' h1 h2 h3 h4 h5 h6 h7 h8 h9 => ih k' pc' L S' M' ls H' locs' cells slots tys ad cA h1 h9 hl (by rw [h3]; exact hvL) (by rw [h3]; exact h2) h5 hK h6 h7 h8 hag (by rw [h3]; exact hn0) (by rw [h3]; exact hc) (by rw [h4]; exact hs)
      have dec : ins ≠ .nop → decode (xz_mb y) pc' = .ok (ins, len) := by
        intro hi
        unfold xz_okd at hd
        simpa [hi] using hd
      -- behind a call
      have after : ∀ (ov : Option Value) (M1 : xz_M) (S1 : List Value) (H1 : Heap) (locs1 : List Loc) (tys1 : List (ClassId × FieldType)) (ad1 : Nat → Nat) (cA1 : Nat → ClassId) (pc1 : Nat), xz_pcA (xz_code y) (k + 1) pc1 = true → xz_le M M1 → (∀ v ∈ S1, xz_vv M.1.length v) → (∀ k, k < M.1.length ∨ 1000 ≤ k → ad1 k = ad k) → va_P D vwCl (xz_ws ad1 cA1 M1) H1 → va_K D vwCl tys1 s → va_D A (xz_ws ad1 cA1 M1) → va_S A s.heap H1 locs1 → xz_Wf cA1 tys1 M1 → (∀ v ∈ ov.toList, xz_vv M1.1.length v) →
          xz_blk RR Lp true X xz_lc (xz_code y) s' ((xz_code y).drop (k + 1)) L (ov.toList ++ S1) M1 = some r → W p l e R s m args below meth c H1 locs1 (cells + (M1.1.length - M.1.length)) (slots + (xz_slt M1 - xz_slt M)) Q (F0 m pc1 ls ((ov.map (xz_V ad1)).toList ++ S1.map (xz_V ad))) := by
        intro ov M1 S1 H1 locs1 tys1 ad1 cA1 pc1 g0 g1 g2 g3 g4 g5 g6 g7 g8 g9 g10
        have e1 : (ov.map (xz_V ad1)).toList ++ S1.map (xz_V ad) = (ov.toList ++ S1).map (xz_V ad1) := by
          rw [List.map_append, xz_VS_congr g3 g2]
          cases ov <;> rfl
        rw [e1]
        obtain ⟨g11, g12⟩ := g1
        refine ih (k + 1) pc1 L (ov.toList ++ S1) M1 ls H1 locs1 _ _ tys1 ad1 cA1 g0 g10 (by rw [xz_VL_congr g3 hvL]; exact hl) (fun q hq => xz_vv_mono g11 (hvL q hq)) (fun v hv => (List.mem_append.mp hv).elim (g9 v) (fun hh => xz_vv_mono g11 (g2 v hh))) g4 g5 g6 g7 g8 (fun k' hk' => ?_) (Nat.le_trans hn0 g11) (by omega) (by omega)
        rw [g3 k' (hk'.imp (fun z => Nat.lt_of_lt_of_le z hn0) id)]
        exact hag k' hk'
      cases ins
      case nop =>
        simp only [xz_oks, Bool.and_eq_true, beq_iff_eq] at hok
        obtain ⟨rfl, hn⟩ := hok
        exact hLp _ _ _ _ _ _ _ _ _ _ _ _ _ hn h (xz_pick_has ts hl) (fun q hq => hvL q (xz_pick_mem hq)) hvS hP hK hD hS hW hag hn0 hc hs
      case iconst z =>
        have hd := dec (by simp)
        simp only [xz_oks, Bool.and_eq_true, beq_iff_eq, decide_eq_true_eq, Nat.blt_eq] at hok
        obtain ⟨⟨rfl, hn⟩, hv⟩ := hok
        exact lv_iconst hx hb hd hv (nx _ _ (.int v :: S) hn (xz_vc trivial hvS) h)
      case bipush z =>
        have hd := dec (by simp)
        simp only [xz_oks, Bool.and_eq_true, beq_iff_eq, decide_eq_true_eq, Nat.blt_eq] at hok
        obtain ⟨⟨rfl, hn⟩, hv⟩ := hok
        exact lv_bipush hx hb hd hv (nx _ _ (.int v :: S) hn (xz_vc trivial hvS) h)
      case sipush z =>
        have hd := dec (by simp)
        simp only [xz_oks, Bool.and_eq_true, beq_iff_eq, decide_eq_true_eq, Nat.blt_eq] at hok
        obtain ⟨⟨rfl, hn⟩, hv⟩ := hok
        exact lv_sipush hx hb hd hv (nx _ _ (.int v :: S) hn (xz_vc trivial hvS) h)
      case lconst z =>
        have hd := dec (by simp)
        simp only [xz_oks, Bool.and_eq_true, beq_iff_eq, decide_eq_true_eq, Nat.blt_eq] at hok
        obtain ⟨⟨rfl, hn⟩, hv⟩ := hok
        exact lv_lconst hx hb hd hv (nx _ _ (.long (xz_lc a) :: S) hn (xz_vc trivial hvS) h)
      case ldc2_w z =>
        have hd := dec (by simp)
        simp only [xz_oks, Bool.and_eq_true, beq_iff_eq, decide_eq_true_eq, Nat.blt_eq] at hok
        obtain ⟨⟨rfl, hn⟩, hv⟩ := hok
        have hw := xz_pl_ok (f := fun (q : Nat × Nat × Nat) => .constantLong (xz_RN q.1) q.2.1 (xz_lc q.2.2)) xz_JWc (xz_mo y, z, a) (xz_cm hv)
        exact lv_ldc2 hx hb hown (hts _ hw) hd (nx _ _ (.long (xz_lc a) :: S) hn (xz_vc trivial hvS) h)
      case ldc_w z =>
        have hd := dec (by simp)
        simp only [xz_oks, Bool.and_eq_true, beq_iff_eq, decide_eq_true_eq, Nat.blt_eq] at hok
        obtain ⟨⟨rfl, hn⟩, hv⟩ := hok
        have hw := xz_pl_ok (f := fun (q : Nat × Nat × Int32) => .constant (xz_RN q.1) q.2.1 q.2.2) xz_IWc (xz_mo y, z, v) (xz_cm hv)
        exact lv_ldcw hx hb hown (hts _ hw) hd (nx _ _ (.int v :: S) hn (xz_vc trivial hvS) h)
      case ldc z =>
        have hd := dec (by simp)
        simp only [xz_oks, Bool.and_eq_true, beq_iff_eq, decide_eq_true_eq, Nat.blt_eq] at hok
        obtain ⟨⟨rfl, hn⟩, hv⟩ := hok
        cases hb1 : (b == 1) with
        | false =>
          rw [hb1] at hv
          have h : (bif b == 1 then _ else _) = some r := h
          rw [hb1] at h
          have hw := xz_pl_ok (f := fun (q : Nat × Nat × Int32) => .constant (xz_RN q.1) q.2.1 q.2.2) xz_IWc (xz_mo y, z, v) (xz_cm hv)
          exact lv_ldc hx hb hown (hts _ hw) hd (nx _ _ (.int v :: S) hn (xz_vc trivial hvS) h)
        | true =>
          rw [hb1] at hv
          have h : (bif b == 1 then _ else _) = some r := h
          rw [hb1] at h
          have hw := hE.2.1 (xz_mo y, z, a) (xz_cm hv)
          have e : ad (2000 + a) = ad0 (2000 + a) := hag _ (Or.inr (by omega))
          exact va_ldcS hx hb hown hw hd (by rw [← e]; exact nx _ _ (.ref (2000 + a) :: S) hn (xz_vc (show xz_vv M.1.length (.ref (2000 + a)) from Or.inr (Nat.le_trans (by decide) (Nat.le_add_right 2000 a))) hvS) h)
      case iload_n z =>
        have hd := dec (by simp)
        simp only [xz_oks, Bool.and_eq_true, beq_iff_eq, decide_eq_true_eq, Nat.blt_eq] at hok
        obtain ⟨rfl, hn⟩ := hok
        obtain ⟨x1, hg, h⟩ := xz_lI_i h
        exact lv_iload_n hx hb hd rfl (xz_get_l hl hg) (nx _ _ (.int x1 :: S) hn (xz_vc trivial hvS) h)
      case iload z =>
        have hd := dec (by simp)
        simp only [xz_oks, Bool.and_eq_true, beq_iff_eq, decide_eq_true_eq, Nat.blt_eq] at hok
        obtain ⟨rfl, hn⟩ := hok
        obtain ⟨x1, hg, h⟩ := xz_lI_i h
        exact lv_iload hx hb hd (xz_get_l hl hg) (nx _ _ (.int x1 :: S) hn (xz_vc trivial hvS) h)
      case lload_n z =>
        have hd := dec (by simp)
        simp only [xz_oks, Bool.and_eq_true, beq_iff_eq, decide_eq_true_eq, Nat.blt_eq] at hok
        obtain ⟨rfl, hn⟩ := hok
        obtain ⟨x1, hg, h⟩ := xz_lJ_i h
        exact lv_lload_n hx hb hd rfl (xz_get_l hl hg) (nx _ _ (.long x1 :: S) hn (xz_vc trivial hvS) h)
      case lload z =>
        have hd := dec (by simp)
        simp only [xz_oks, Bool.and_eq_true, beq_iff_eq, decide_eq_true_eq, Nat.blt_eq] at hok
        obtain ⟨rfl, hn⟩ := hok
        obtain ⟨x1, hg, h⟩ := xz_lJ_i h
        exact lv_lload hx hb hd (xz_get_l hl hg) (nx _ _ (.long x1 :: S) hn (xz_vc trivial hvS) h)
      case aload_n z =>
        have hd := dec (by simp)
        simp only [xz_oks, Bool.and_eq_true, beq_iff_eq, decide_eq_true_eq, Nat.blt_eq] at hok
        obtain ⟨rfl, hn⟩ := hok
        obtain ⟨x1, hg, h⟩ := xz_lR_i h
        exact lv_aload_n hx hb hd rfl (xz_get_l hl hg) (nx _ _ (.ref x1 :: S) hn (xz_vc (xz_vL_get hvL hg) hvS) h)
      case aload z =>
        have hd := dec (by simp)
        simp only [xz_oks, Bool.and_eq_true, beq_iff_eq, decide_eq_true_eq, Nat.blt_eq] at hok
        obtain ⟨rfl, hn⟩ := hok
        obtain ⟨x1, hg, h⟩ := xz_lR_i h
        exact lv_aload hx hb hd (xz_get_l hl hg) (nx _ _ (.ref x1 :: S) hn (xz_vc (xz_vL_get hvL hg) hvS) h)
      case istore_n z =>
        have hd := dec (by simp)
        simp only [xz_oks, Bool.and_eq_true, beq_iff_eq, decide_eq_true_eq, Nat.blt_eq] at hok
        obtain ⟨⟨rfl, hn⟩, hlt⟩ := hok
        obtain ⟨x1, S1, rfl, h⟩ := xz_pI_i h
        exact lv_istore_n (lv' := xz_VL ad (xz_s1 L z.val (.int x1))) hx hb hd rfl hl hlt (xz_VL_s1 rfl) (fun ls' hl' => nxL _ _ ls' _ S1 hn hl' (xz_vL_s1 hvL trivial) (xz_v1 hvS) h)
      case istore z =>
        have hd := dec (by simp)
        simp only [xz_oks, Bool.and_eq_true, beq_iff_eq, decide_eq_true_eq, Nat.blt_eq] at hok
        obtain ⟨⟨rfl, hn⟩, hlt⟩ := hok
        obtain ⟨x1, S1, rfl, h⟩ := xz_pI_i h
        exact lv_istore (lv' := xz_VL ad (xz_s1 L z (.int x1))) hx hb hd hl hlt (xz_VL_s1 rfl) (fun ls' hl' => nxL _ _ ls' _ S1 hn hl' (xz_vL_s1 hvL trivial) (xz_v1 hvS) h)
      case lstore_n z =>
        have hd := dec (by simp)
        simp only [xz_oks, Bool.and_eq_true, beq_iff_eq, decide_eq_true_eq, Nat.blt_eq] at hok
        obtain ⟨⟨rfl, hn⟩, hlt⟩ := hok
        obtain ⟨x1, S1, rfl, h⟩ := xz_pJ_i h
        exact lv_lstore_n (lv' := xz_VL ad (xz_s2 L z.val (.long x1))) hx hb hd rfl hl hlt (xz_VL_s2 rfl) (fun ls' hl' => nxL _ _ ls' _ S1 hn hl' (xz_vL_s2 hvL trivial) (xz_v1 hvS) h)
      case lstore z =>
        have hd := dec (by simp)
        simp only [xz_oks, Bool.and_eq_true, beq_iff_eq, decide_eq_true_eq, Nat.blt_eq] at hok
        obtain ⟨⟨rfl, hn⟩, hlt⟩ := hok
        obtain ⟨x1, S1, rfl, h⟩ := xz_pJ_i h
        exact lv_lstore (lv' := xz_VL ad (xz_s2 L z (.long x1))) hx hb hd hl hlt (xz_VL_s2 rfl) (fun ls' hl' => nxL _ _ ls' _ S1 hn hl' (xz_vL_s2 hvL trivial) (xz_v1 hvS) h)
      case astore_n z =>
        have hd := dec (by simp)
        simp only [xz_oks, Bool.and_eq_true, beq_iff_eq, decide_eq_true_eq, Nat.blt_eq] at hok
        obtain ⟨⟨rfl, hn⟩, hlt⟩ := hok
        obtain ⟨x1, S1, rfl, h⟩ := xz_pR_i h
        exact lv_astore_n (lv' := xz_VL ad (xz_s1 L z.val (.ref x1))) hx hb hd rfl hl hlt (xz_VL_s1 rfl) (fun ls' hl' => nxL _ _ ls' _ S1 hn hl' (xz_vL_s1 hvL (hvS _ List.mem_cons_self)) (xz_v1 hvS) h)
      case astore z =>
        have hd := dec (by simp)
        simp only [xz_oks, Bool.and_eq_true, beq_iff_eq, decide_eq_true_eq, Nat.blt_eq] at hok
        obtain ⟨⟨rfl, hn⟩, hlt⟩ := hok
        obtain ⟨x1, S1, rfl, h⟩ := xz_pR_i h
        exact lv_astore (lv' := xz_VL ad (xz_s1 L z (.ref x1))) hx hb hd hl hlt (xz_VL_s1 rfl) (fun ls' hl' => nxL _ _ ls' _ S1 hn hl' (xz_vL_s1 hvL (hvS _ List.mem_cons_self)) (xz_v1 hvS) h)
      case iinc z w =>
        have hd := dec (by simp)
        simp only [xz_oks, Bool.and_eq_true, beq_iff_eq, decide_eq_true_eq, Nat.blt_eq] at hok
        obtain ⟨⟨⟨rfl, hn⟩, hlt⟩, hv⟩ := hok
        obtain ⟨x1, hg, h⟩ := xz_lI_i h
        obtain ⟨kp, hkp⟩ := List.getElem?_of_mem (show (z, Value.int x1) ∈ xz_VL ad L from List.mem_map.mpr ⟨(z, .int x1), xz_get_mem hg, rfl⟩)
        exact lv_iinc (k := kp) (v := x1 + v) (lv' := xz_VL ad (xz_s1 L z (.int (x1 + v)))) hx hb hd hl hkp (by rw [hv]) hlt (xz_VL_s1 rfl) (fun ls' hl' => nxL _ _ ls' _ S hn hl' (xz_vL_s1 hvL trivial) hvS h)
      case iadd =>
        have hd := dec (by simp)
        simp only [xz_oks, Bool.and_eq_true, beq_iff_eq, decide_eq_true_eq, Nat.blt_eq] at hok
        obtain ⟨rfl, hn⟩ := hok
        obtain ⟨y1, S1, rfl, h⟩ := xz_pI_i h
        obtain ⟨x1, S2, rfl, h⟩ := xz_pI_i h
        exact lv_iadd hx hb hd (nx _ _ (.int (x1 + y1) :: S2) hn (xz_vc trivial (xz_v1 (xz_v1 hvS))) h)
      case isub =>
        have hd := dec (by simp)
        simp only [xz_oks, Bool.and_eq_true, beq_iff_eq, decide_eq_true_eq, Nat.blt_eq] at hok
        obtain ⟨rfl, hn⟩ := hok
        obtain ⟨y1, S1, rfl, h⟩ := xz_pI_i h
        obtain ⟨x1, S2, rfl, h⟩ := xz_pI_i h
        exact lv_isub hx hb hd (nx _ _ (.int (x1 - y1) :: S2) hn (xz_vc trivial (xz_v1 (xz_v1 hvS))) h)
      case imul =>
        have hd := dec (by simp)
        simp only [xz_oks, Bool.and_eq_true, beq_iff_eq, decide_eq_true_eq, Nat.blt_eq] at hok
        obtain ⟨rfl, hn⟩ := hok
        obtain ⟨y1, S1, rfl, h⟩ := xz_pI_i h
        obtain ⟨x1, S2, rfl, h⟩ := xz_pI_i h
        exact lv_imul hx hb hd (nx _ _ (.int (x1 * y1) :: S2) hn (xz_vc trivial (xz_v1 (xz_v1 hvS))) h)
      case iand =>
        have hd := dec (by simp)
        simp only [xz_oks, Bool.and_eq_true, beq_iff_eq, decide_eq_true_eq, Nat.blt_eq] at hok
        obtain ⟨rfl, hn⟩ := hok
        obtain ⟨y1, S1, rfl, h⟩ := xz_pI_i h
        obtain ⟨x1, S2, rfl, h⟩ := xz_pI_i h
        exact lv_iand hx hb hd (nx _ _ (.int (x1 &&& y1) :: S2) hn (xz_vc trivial (xz_v1 (xz_v1 hvS))) h)
      case ior =>
        have hd := dec (by simp)
        simp only [xz_oks, Bool.and_eq_true, beq_iff_eq, decide_eq_true_eq, Nat.blt_eq] at hok
        obtain ⟨rfl, hn⟩ := hok
        obtain ⟨y1, S1, rfl, h⟩ := xz_pI_i h
        obtain ⟨x1, S2, rfl, h⟩ := xz_pI_i h
        exact lv_ior hx hb hd (nx _ _ (.int (x1 ||| y1) :: S2) hn (xz_vc trivial (xz_v1 (xz_v1 hvS))) h)
      case ishl =>
        have hd := dec (by simp)
        simp only [xz_oks, Bool.and_eq_true, beq_iff_eq, decide_eq_true_eq, Nat.blt_eq] at hok
        obtain ⟨rfl, hn⟩ := hok
        obtain ⟨y1, S1, rfl, h⟩ := xz_pI_i h
        obtain ⟨x1, S2, rfl, h⟩ := xz_pI_i h
        exact lv_ishl hx hb hd (nx _ _ (.int (x1 <<< (y1 &&& 31)) :: S2) hn (xz_vc trivial (xz_v1 (xz_v1 hvS))) h)
      case ishr =>
        have hd := dec (by simp)
        simp only [xz_oks, Bool.and_eq_true, beq_iff_eq, decide_eq_true_eq, Nat.blt_eq] at hok
        obtain ⟨rfl, hn⟩ := hok
        obtain ⟨y1, S1, rfl, h⟩ := xz_pI_i h
        obtain ⟨x1, S2, rfl, h⟩ := xz_pI_i h
        exact lv_ishr hx hb hd (nx _ _ (.int (x1 >>> (y1 &&& 31)) :: S2) hn (xz_vc trivial (xz_v1 (xz_v1 hvS))) h)
      case iushr =>
        have hd := dec (by simp)
        simp only [xz_oks, Bool.and_eq_true, beq_iff_eq, decide_eq_true_eq, Nat.blt_eq] at hok
        obtain ⟨rfl, hn⟩ := hok
        obtain ⟨y1, S1, rfl, h⟩ := xz_pI_i h
        obtain ⟨x1, S2, rfl, h⟩ := xz_pI_i h
        exact lv_iushr hx hb hd rfl (nx _ _ (.int ((x1.toUInt32 >>> (y1.toUInt32 &&& Int32.toUInt32 31)).toInt32) :: S2) hn (xz_vc trivial (xz_v1 (xz_v1 hvS))) h)
      case ladd =>
        have hd := dec (by simp)
        simp only [xz_oks, Bool.and_eq_true, beq_iff_eq, decide_eq_true_eq, Nat.blt_eq] at hok
        obtain ⟨rfl, hn⟩ := hok
        obtain ⟨y1, S1, rfl, h⟩ := xz_pJ_i h
        obtain ⟨x1, S2, rfl, h⟩ := xz_pJ_i h
        exact lv_ladd hx hb hd (nx _ _ (.long (x1 + y1) :: S2) hn (xz_vc trivial (xz_v1 (xz_v1 hvS))) h)
      case lmul =>
        have hd := dec (by simp)
        simp only [xz_oks, Bool.and_eq_true, beq_iff_eq, decide_eq_true_eq, Nat.blt_eq] at hok
        obtain ⟨rfl, hn⟩ := hok
        obtain ⟨y1, S1, rfl, h⟩ := xz_pJ_i h
        obtain ⟨x1, S2, rfl, h⟩ := xz_pJ_i h
        exact lv_lmul hx hb hd (nx _ _ (.long (x1 * y1) :: S2) hn (xz_vc trivial (xz_v1 (xz_v1 hvS))) h)
      case land =>
        have hd := dec (by simp)
        simp only [xz_oks, Bool.and_eq_true, beq_iff_eq, decide_eq_true_eq, Nat.blt_eq] at hok
        obtain ⟨rfl, hn⟩ := hok
        obtain ⟨y1, S1, rfl, h⟩ := xz_pJ_i h
        obtain ⟨x1, S2, rfl, h⟩ := xz_pJ_i h
        exact lv_land hx hb hd (nx _ _ (.long (x1 &&& y1) :: S2) hn (xz_vc trivial (xz_v1 (xz_v1 hvS))) h)
      case lor =>
        have hd := dec (by simp)
        simp only [xz_oks, Bool.and_eq_true, beq_iff_eq, decide_eq_true_eq, Nat.blt_eq] at hok
        obtain ⟨rfl, hn⟩ := hok
        obtain ⟨y1, S1, rfl, h⟩ := xz_pJ_i h
        obtain ⟨x1, S2, rfl, h⟩ := xz_pJ_i h
        exact lv_lor hx hb hd (nx _ _ (.long (x1 ||| y1) :: S2) hn (xz_vc trivial (xz_v1 (xz_v1 hvS))) h)
      case ldiv =>
        have hd := dec (by simp)
        simp only [xz_oks, Bool.and_eq_true, beq_iff_eq, decide_eq_true_eq, Nat.blt_eq] at hok
        obtain ⟨rfl, hn⟩ := hok
        obtain ⟨y1, S1, hS1, hp⟩ := xz_pJ_i h
        obtain ⟨x1, S2, hS2, hq⟩ := xz_pJ_i hp
        subst hS2
        subst hS1
        by_cases hy : y1 = 0
        · simp only [if_pos hy] at hq
          cases hq
        · simp only [if_neg hy] at hq
          exact lv_ldiv hx hb hd hy (nx _ _ (.long (x1 / y1) :: S2) hn (xz_vc trivial (xz_v1 (xz_v1 hvS))) hq)
      case lrem =>
        have hd := dec (by simp)
        simp only [xz_oks, Bool.and_eq_true, beq_iff_eq, decide_eq_true_eq, Nat.blt_eq] at hok
        obtain ⟨rfl, hn⟩ := hok
        obtain ⟨y1, S1, hS1, hp⟩ := xz_pJ_i h
        obtain ⟨x1, S2, hS2, hq⟩ := xz_pJ_i hp
        subst hS2
        subst hS1
        by_cases hy : y1 = 0
        · simp only [if_pos hy] at hq
          cases hq
        · simp only [if_neg hy] at hq
          exact lv_lrem hx hb hd hy (nx _ _ (.long (x1 - x1 / y1 * y1) :: S2) hn (xz_vc trivial (xz_v1 (xz_v1 hvS))) hq)
      case lshl =>
        have hd := dec (by simp)
        simp only [xz_oks, Bool.and_eq_true, beq_iff_eq, decide_eq_true_eq, Nat.blt_eq] at hok
        obtain ⟨rfl, hn⟩ := hok
        obtain ⟨y1, S1, rfl, h⟩ := xz_pI_i h
        obtain ⟨x1, S2, rfl, h⟩ := xz_pJ_i h
        exact lv_lshl hx hb hd rfl (nx _ _ (.long (x1 <<< (y1.toInt64 &&& 63)) :: S2) hn (xz_vc trivial (xz_v1 (xz_v1 hvS))) h)
      case lcmp =>
        have hd := dec (by simp)
        simp only [xz_oks, Bool.and_eq_true, beq_iff_eq, decide_eq_true_eq, Nat.blt_eq] at hok
        obtain ⟨rfl, hn⟩ := hok
        obtain ⟨y1, S1, rfl, h⟩ := xz_pJ_i h
        obtain ⟨x1, S2, rfl, h⟩ := xz_pJ_i h
        exact W.lcmp hx hb hd (nx _ _ (.int (lg_cmp x1 y1) :: S2) hn (xz_vc trivial (xz_v1 (xz_v1 hvS))) h)
      case i2l =>
        have hd := dec (by simp)
        simp only [xz_oks, Bool.and_eq_true, beq_iff_eq, decide_eq_true_eq, Nat.blt_eq] at hok
        obtain ⟨rfl, hn⟩ := hok
        obtain ⟨x1, S1, rfl, h⟩ := xz_pI_i h
        exact lv_i2l hx hb hd rfl (nx _ _ (.long x1.toInt64 :: S1) hn (xz_vc trivial (xz_v1 hvS)) h)
      case l2i =>
        have hd := dec (by simp)
        simp only [xz_oks, Bool.and_eq_true, beq_iff_eq, decide_eq_true_eq, Nat.blt_eq] at hok
        obtain ⟨rfl, hn⟩ := hok
        obtain ⟨x1, S1, rfl, h⟩ := xz_pJ_i h
        exact lv_l2i hx hb hd rfl (nx _ _ (.int x1.toInt32 :: S1) hn (xz_vc trivial (xz_v1 hvS)) h)
      case i2b =>
        have hd := dec (by simp)
        simp only [xz_oks, Bool.and_eq_true, beq_iff_eq, decide_eq_true_eq, Nat.blt_eq] at hok
        obtain ⟨rfl, hn⟩ := hok
        obtain ⟨x1, S1, rfl, h⟩ := xz_pI_i h
        exact lv_i2b hx hb hd rfl (nx _ _ (.int x1.toInt8.toInt32 :: S1) hn (xz_vc trivial (xz_v1 hvS)) h)
      case i2s =>
        have hd := dec (by simp)
        simp only [xz_oks, Bool.and_eq_true, beq_iff_eq, decide_eq_true_eq, Nat.blt_eq] at hok
        obtain ⟨rfl, hn⟩ := hok
        obtain ⟨x1, S1, rfl, h⟩ := xz_pI_i h
        exact lv_i2s hx hb hd rfl (nx _ _ (.int x1.toInt16.toInt32 :: S1) hn (xz_vc trivial (xz_v1 hvS)) h)
      case i2c =>
        have hd := dec (by simp)
        simp only [xz_oks, Bool.and_eq_true, beq_iff_eq, decide_eq_true_eq, Nat.blt_eq] at hok
        obtain ⟨rfl, hn⟩ := hok
        obtain ⟨x1, S1, rfl, h⟩ := xz_pI_i h
        exact lv_i2c hx hb hd rfl (nx _ _ (.int (x1.toUInt32 % 65536).toInt32 :: S1) hn (xz_vc trivial (xz_v1 hvS)) h)
      case dup =>
        have hd := dec (by simp)
        simp only [xz_oks, Bool.and_eq_true, beq_iff_eq, decide_eq_true_eq, Nat.blt_eq] at hok
        obtain ⟨rfl, hn⟩ := hok
        have h : xz_p1 S (fun x S => xz_blk RR Lp true X xz_lc (xz_code y) s' ((xz_code y).drop (k + 1)) L (x :: x :: S) M) = some r := h
        obtain ⟨w, S1, rfl, hw, h⟩ := xz_p1_i h
        have h1 : (xz_V ad w).category = 1 := by rw [xz_V_cat]; rcases hw with ⟨z, rfl⟩ | ⟨z, rfl⟩ <;> rfl
        exact lv_dup hx hb hd h1 (nx _ _ (w :: w :: S1) hn (xz_vc (hvS _ List.mem_cons_self) hvS) h)
      case pop =>
        have hd := dec (by simp)
        simp only [xz_oks, Bool.and_eq_true, beq_iff_eq, decide_eq_true_eq, Nat.blt_eq] at hok
        obtain ⟨rfl, hn⟩ := hok
        have h : xz_p1 S (fun _ S => xz_blk RR Lp true X xz_lc (xz_code y) s' ((xz_code y).drop (k + 1)) L S M) = some r := h
        obtain ⟨w, S1, rfl, hw, h⟩ := xz_p1_i h
        have h1 : (xz_V ad w).category = 1 := by rw [xz_V_cat]; rcases hw with ⟨z, rfl⟩ | ⟨z, rfl⟩ <;> rfl
        exact lv_pop hx hb hd h1 (nx _ _ S1 hn (xz_v1 hvS) h)
      case ifCond q z =>
        cases q
        case eq =>
          have hd := dec (by simp)
          simp only [xz_oks, Bool.and_eq_true, beq_iff_eq] at hok
          obtain ⟨⟨rfl, hn⟩, hj⟩ := hok
          obtain ⟨tg, htg, hto⟩ := xz_pcJ_i hj
          obtain ⟨x1, S1, hS1, hq⟩ := xz_pI_i h
          subst hS1
          refine lv_if_eq hx hb hd hto (fun hz => ?_) (fun hz => ?_)
          · simp only [if_pos hz] at hq; exact nx _ _ S1 htg (xz_v1 hvS) hq
          · simp only [if_neg hz] at hq; exact nx _ _ S1 hn (xz_v1 hvS) hq
        case ne =>
          have hd := dec (by simp)
          simp only [xz_oks, Bool.and_eq_true, beq_iff_eq] at hok
          obtain ⟨⟨rfl, hn⟩, hj⟩ := hok
          obtain ⟨tg, htg, hto⟩ := xz_pcJ_i hj
          obtain ⟨x1, S1, hS1, hq⟩ := xz_pI_i h
          subst hS1
          refine lv_if_ne hx hb hd hto (fun hz => ?_) (fun hz => ?_)
          · simp only [if_neg hz] at hq; exact nx _ _ S1 htg (xz_v1 hvS) hq
          · simp only [if_pos hz] at hq; exact nx _ _ S1 hn (xz_v1 hvS) hq
        case lt =>
          have hd := dec (by simp)
          simp only [xz_oks, Bool.and_eq_true, beq_iff_eq] at hok
          obtain ⟨⟨rfl, hn⟩, hj⟩ := hok
          obtain ⟨tg, htg, hto⟩ := xz_pcJ_i hj
          obtain ⟨x1, S1, hS1, hq⟩ := xz_pI_i h
          subst hS1
          refine lv_if_lt hx hb hd hto (fun hz => ?_) (fun hz => ?_)
          · simp only [if_pos hz] at hq; exact nx _ _ S1 htg (xz_v1 hvS) hq
          · simp only [if_neg hz] at hq; exact nx _ _ S1 hn (xz_v1 hvS) hq
        case ge =>
          have hd := dec (by simp)
          simp only [xz_oks, Bool.and_eq_true, beq_iff_eq] at hok
          obtain ⟨⟨rfl, hn⟩, hj⟩ := hok
          obtain ⟨tg, htg, hto⟩ := xz_pcJ_i hj
          obtain ⟨x1, S1, hS1, hq⟩ := xz_pI_i h
          subst hS1
          refine lv_if_ge hx hb hd hto (fun hz => ?_) (fun hz => ?_)
          · simp only [if_pos hz] at hq; exact nx _ _ S1 htg (xz_v1 hvS) hq
          · simp only [if_neg hz] at hq; exact nx _ _ S1 hn (xz_v1 hvS) hq
        case gt =>
          have hd := dec (by simp)
          simp only [xz_oks, Bool.and_eq_true, beq_iff_eq] at hok
          obtain ⟨⟨rfl, hn⟩, hj⟩ := hok
          obtain ⟨tg, htg, hto⟩ := xz_pcJ_i hj
          obtain ⟨x1, S1, hS1, hq⟩ := xz_pI_i h
          subst hS1
          refine lv_if_gt hx hb hd hto (fun hz => ?_) (fun hz => ?_)
          · simp only [if_pos hz] at hq; exact nx _ _ S1 htg (xz_v1 hvS) hq
          · simp only [if_neg hz] at hq; exact nx _ _ S1 hn (xz_v1 hvS) hq
        case le =>
          have hd := dec (by simp)
          simp only [xz_oks, Bool.and_eq_true, beq_iff_eq] at hok
          obtain ⟨⟨rfl, hn⟩, hj⟩ := hok
          obtain ⟨tg, htg, hto⟩ := xz_pcJ_i hj
          obtain ⟨x1, S1, hS1, hq⟩ := xz_pI_i h
          subst hS1
          refine lv_if_le hx hb hd hto (fun hz => ?_) (fun hz => ?_)
          · simp only [if_pos hz] at hq; exact nx _ _ S1 htg (xz_v1 hvS) hq
          · simp only [if_neg hz] at hq; exact nx _ _ S1 hn (xz_v1 hvS) hq
      case if_icmp q z =>
        cases q
        case eq =>
          have hd := dec (by simp)
          simp only [xz_oks, Bool.and_eq_true, beq_iff_eq] at hok
          obtain ⟨⟨rfl, hn⟩, hj⟩ := hok
          obtain ⟨tg, htg, hto⟩ := xz_pcJ_i hj
          obtain ⟨y1, S1, hS1, hp⟩ := xz_pI_i h
          obtain ⟨x1, S2, hS2, hq⟩ := xz_pI_i hp
          subst hS2
          subst hS1
          refine lv_icmp_eq hx hb hd hto (fun hz => ?_) (fun hz => ?_)
          · simp only [if_pos hz] at hq; exact nx _ _ S2 htg (xz_v1 (xz_v1 hvS)) hq
          · simp only [if_neg hz] at hq; exact nx _ _ S2 hn (xz_v1 (xz_v1 hvS)) hq
        case ne =>
          have hd := dec (by simp)
          simp only [xz_oks, Bool.and_eq_true, beq_iff_eq] at hok
          obtain ⟨⟨rfl, hn⟩, hj⟩ := hok
          obtain ⟨tg, htg, hto⟩ := xz_pcJ_i hj
          obtain ⟨y1, S1, hS1, hp⟩ := xz_pI_i h
          obtain ⟨x1, S2, hS2, hq⟩ := xz_pI_i hp
          subst hS2
          subst hS1
          refine lv_icmp_ne hx hb hd hto (fun hz => ?_) (fun hz => ?_)
          · simp only [if_neg hz] at hq; exact nx _ _ S2 htg (xz_v1 (xz_v1 hvS)) hq
          · simp only [if_pos hz] at hq; exact nx _ _ S2 hn (xz_v1 (xz_v1 hvS)) hq
        case lt =>
          have hd := dec (by simp)
          simp only [xz_oks, Bool.and_eq_true, beq_iff_eq] at hok
          obtain ⟨⟨rfl, hn⟩, hj⟩ := hok
          obtain ⟨tg, htg, hto⟩ := xz_pcJ_i hj
          obtain ⟨y1, S1, hS1, hp⟩ := xz_pI_i h
          obtain ⟨x1, S2, hS2, hq⟩ := xz_pI_i hp
          subst hS2
          subst hS1
          refine lv_icmp_lt hx hb hd hto (fun hz => ?_) (fun hz => ?_)
          · simp only [if_pos hz] at hq; exact nx _ _ S2 htg (xz_v1 (xz_v1 hvS)) hq
          · simp only [if_neg hz] at hq; exact nx _ _ S2 hn (xz_v1 (xz_v1 hvS)) hq
        case ge =>
          have hd := dec (by simp)
          simp only [xz_oks, Bool.and_eq_true, beq_iff_eq] at hok
          obtain ⟨⟨rfl, hn⟩, hj⟩ := hok
          obtain ⟨tg, htg, hto⟩ := xz_pcJ_i hj
          obtain ⟨y1, S1, hS1, hp⟩ := xz_pI_i h
          obtain ⟨x1, S2, hS2, hq⟩ := xz_pI_i hp
          subst hS2
          subst hS1
          refine lv_icmp_ge hx hb hd hto (fun hz => ?_) (fun hz => ?_)
          · simp only [if_pos hz] at hq; exact nx _ _ S2 htg (xz_v1 (xz_v1 hvS)) hq
          · simp only [if_neg hz] at hq; exact nx _ _ S2 hn (xz_v1 (xz_v1 hvS)) hq
        case gt =>
          have hd := dec (by simp)
          simp only [xz_oks, Bool.and_eq_true, beq_iff_eq] at hok
          obtain ⟨⟨rfl, hn⟩, hj⟩ := hok
          obtain ⟨tg, htg, hto⟩ := xz_pcJ_i hj
          obtain ⟨y1, S1, hS1, hp⟩ := xz_pI_i h
          obtain ⟨x1, S2, hS2, hq⟩ := xz_pI_i hp
          subst hS2
          subst hS1
          refine lv_icmp_gt hx hb hd hto (fun hz => ?_) (fun hz => ?_)
          · simp only [if_pos hz] at hq; exact nx _ _ S2 htg (xz_v1 (xz_v1 hvS)) hq
          · simp only [if_neg hz] at hq; exact nx _ _ S2 hn (xz_v1 (xz_v1 hvS)) hq
        case le =>
          have hd := dec (by simp)
          simp only [xz_oks, Bool.and_eq_true, beq_iff_eq] at hok
          obtain ⟨⟨rfl, hn⟩, hj⟩ := hok
          obtain ⟨tg, htg, hto⟩ := xz_pcJ_i hj
          obtain ⟨y1, S1, hS1, hp⟩ := xz_pI_i h
          obtain ⟨x1, S2, hS2, hq⟩ := xz_pI_i hp
          subst hS2
          subst hS1
          refine lv_icmp_le hx hb hd hto (fun hz => ?_) (fun hz => ?_)
          · simp only [if_pos hz] at hq; exact nx _ _ S2 htg (xz_v1 (xz_v1 hvS)) hq
          · simp only [if_neg hz] at hq; exact nx _ _ S2 hn (xz_v1 (xz_v1 hvS)) hq
      case goto z =>
        have hd := dec (by simp)
        simp only [xz_oks, Bool.and_eq_true, beq_iff_eq, decide_eq_true_eq, Nat.blt_eq] at hok
        obtain ⟨rfl, hj⟩ := hok
        obtain ⟨tg, htg, hto⟩ := xz_pcJ_i hj
        exact lv_goto hx hb hd hto (nx _ _ S htg hvS h)
      case tableswitch dd lo hi offs =>
        have hd := dec (by simp)
        simp only [xz_oks, Bool.and_eq_true, beq_iff_eq, decide_eq_true_eq, Nat.blt_eq] at hok
        obtain ⟨⟨⟨⟨⟨hj, hps⟩, hv⟩, hhi⟩, hlo0⟩, hhi2⟩ := hok
        obtain ⟨x1, S1, rfl, h⟩ := xz_pI_i h
        rcases xz_sw_i ts x1 v h with ⟨i1, t1, ht1, hz, h⟩ | ⟨h, hne⟩
        · obtain ⟨o1, ho1, hj1⟩ := xz_pcs_i hps ht1
          obtain ⟨tg, htg, hto⟩ := xz_pcJ_i hj1
          have hi1 : i1 < ts.length := (List.getElem?_eq_some_iff.mp ht1).1
          have hxi := xz_swx hlo0 (by omega) hv hz
          exact lv_tableIn (off := o1) (tgt := tg) hx hb hd (by omega) (by omega) (by rw [show (x1.toInt - lo).toNat = i1 by omega, ← Array.getElem?_toList]; exact ho1) hto (nx _ _ S1 htg (xz_v1 hvS) h)
        · obtain ⟨tg, htg, hto⟩ := xz_pcJ_i hj
          refine lv_tableOut hx hb hd ?_ hto (nx _ _ S1 htg (xz_v1 hvS) h)
          rcases Int.lt_or_le x1.toInt lo with z | z
          · exact Or.inl z
          · rcases Int.lt_or_le hi x1.toInt with z2 | z2
            · exact Or.inr z2
            · exfalso
              refine hne (x1.toInt - lo).toNat (by omega) (Int32.toInt_inj.mp ?_)
              have e := xz_swx (i := (x1.toInt - lo).toNat) hlo0 (by omega) hv rfl
              rw [e]
              omega
      case ireturn =>
        have hd := dec (by simp)
        simp only [xz_oks, Bool.and_eq_true, Bool.or_eq_true, beq_iff_eq] at hok
        obtain ⟨rfl, hrk⟩ := hok
        obtain ⟨x1, S1, rfl, h⟩ := xz_pI_i h
        cases S1 with
        | cons _ _ => cases h
        | nil =>
          obtain ⟨hnr, h⟩ := xz_b_i h
          have h : some (some (.int x1), M) = some r := h
          cases h
          obtain rfl : cells = mc := Nat.add_right_cancel hc
          obtain rfl : slots = ms := Nat.add_right_cancel hs
          have hri : ∃ ty, xz_mr y = some ty ∧ narrow ty (.int x1) = .int x1 := by
            rcases hrk with ((⟨h1, rfl⟩ | ⟨h1, rfl⟩) | ⟨h1, rfl⟩) | ⟨h1, rfl⟩
            · exact ⟨_, xz_rk0 h1, rfl⟩
            · exact ⟨_, xz_rk4 h1, xz_narB (by simpa [xz_nr] using hnr)⟩
            · refine ⟨_, xz_rk5 h1, ?_⟩
              have e : (x1.toUInt32 % 65536).toInt32 = x1 := by simpa [xz_nr] using hnr
              have e2 := pk_nc x1
              rw [e] at e2
              exact e2
            · refine ⟨_, xz_rk6 h1, ?_⟩
              have e : x1.toInt8.toInt32 = x1 := by simpa [xz_nr] using hnr
              show Value.int x1.toInt8.toInt32 = .int x1
              rw [e]
          obtain ⟨ty, hty, hnar⟩ := hri
          exact K _ pc' ls H locs tys ad cA hd (Or.inl ⟨rfl, x1, ty, rfl, hty, hnar⟩) (hvS) hP hK hD hS hW hag
      case lreturn =>
        have hd := dec (by simp)
        simp only [xz_oks, Bool.and_eq_true, beq_iff_eq] at hok
        obtain ⟨rfl, hrk⟩ := hok
        obtain ⟨x1, S1, rfl, h⟩ := xz_pJ_i h
        cases S1 with
        | cons _ _ => cases h
        | nil =>
          have h : some (some (.long x1), M) = some r := h
          cases h
          obtain rfl : cells = mc := Nat.add_right_cancel hc
          obtain rfl : slots = ms := Nat.add_right_cancel hs
          exact K _ pc' ls H locs tys ad cA hd (Or.inr (Or.inl ⟨rfl, x1, rfl, xz_rk1 hrk⟩)) (hvS) hP hK hD hS hW hag
      case areturn =>
        have hd := dec (by simp)
        simp only [xz_oks, Bool.and_eq_true, beq_iff_eq] at hok
        obtain ⟨rfl, hrk⟩ := hok
        obtain ⟨x1, S1, rfl, h⟩ := xz_pR_i h
        cases S1 with
        | cons _ _ => cases h
        | nil =>
          have h : some (some (.ref x1), M) = some r := h
          cases h
          obtain rfl : cells = mc := Nat.add_right_cancel hc
          obtain rfl : slots = ms := Nat.add_right_cancel hs
          obtain ⟨ty, hty, hto⟩ := xz_rk2 hrk
          exact K _ pc' ls H locs tys ad cA hd (Or.inr (Or.inr (Or.inl ⟨rfl, x1, ty, rfl, hty, hto⟩))) (hvS) hP hK hD hS hW hag
      case return_ =>
        have hd := dec (by simp)
        simp only [xz_oks, Bool.and_eq_true, beq_iff_eq] at hok
        obtain ⟨rfl, hrk⟩ := hok
        cases S with
        | cons _ _ => cases h
        | nil =>
          have h : some (none, M) = some r := h
          cases h
          obtain rfl : cells = mc := Nat.add_right_cancel hc
          obtain rfl : slots = ms := Nat.add_right_cancel hs
          exact K _ pc' ls H locs tys ad cA hd (Or.inr (Or.inr (Or.inr ⟨rfl, rfl, xz_rk3 hrk⟩))) (hvS) hP hK hD hS hW hag
      case getfield z =>
        have hdd := dec (by simp)
        clear hd
        simp only [xz_oks, Bool.and_eq_true, beq_iff_eq] at hok
        obtain ⟨⟨rfl, hn⟩, hm⟩ := hok
        obtain ⟨r1, S1, hS1, hq⟩ := xz_pR_i h
        clear h hk
        subst hS1
        have gen : ∀ (x1 : Nat), xz_gR M r1 a b = some x1 → a < 9 → b < xz_NC a → xz_FWl.contains (xz_mo y, z, a, b) = true → xz_kty (xz_ty a b) = 2 → xz_blk RR Lp true X xz_lc (xz_code y) s' ((xz_code y).drop (k + 1)) L (.ref x1 :: S1) M = some r → W p l e R s m args below meth c H locs cells slots Q (F0 m pc' ls ((.ref r1 :: S1).map (xz_V ad))) := by
          intro x1 hx1 ha hbN hfw hkt h2
          obtain ⟨q, hqr, hqa, hxe⟩ := xz_gR_s hx1
          refine xz_Wget hx hb hts hown hK hP hqr hqa ha hbN (xz_cm hfw) hdd ?_
          have ev : xz_fv ad (M.2.1 r1) (M.2.2 r1) q.2.2 b (xz_kty (xz_ty a b)) = .ref (ad x1) := by
            rw [hkt]
            show va_rf ((q.2.2.getD b none).map ad) = _
            rw [hxe]
            rfl
          rw [ev]
          exact nx _ _ (.ref x1 :: S1) hn (xz_vc (Or.inl ((hW.2.2.1 r1 q hqr).1 x1 (xz_getD_mem hxe))) (xz_v1 hvS)) h2
        match c0, hm, hq with
        | 0, hm, hq =>
          simp only [Bool.and_eq_true, Bool.or_eq_true, beq_iff_eq, Nat.blt_eq] at hm
          obtain ⟨⟨⟨ha, hbN⟩, hfw⟩, hkt⟩ := hm
          obtain ⟨x1, hx1, h2⟩ := xz_o_i hq
          obtain ⟨q, hqr, hqa, rfl⟩ := xz_gI_s hx1
          refine xz_Wget hx hb hts hown hK hP hqr hqa ha hbN (xz_cm hfw) hdd ?_
          have ev : xz_fv ad (M.2.1 r1) (M.2.2 r1) q.2.2 b (xz_kty (xz_ty a b)) = .int (M.2.1 r1 b) := by
            rcases hkt with hkt | hkt <;> rw [hkt] <;> rfl
          rw [ev]
          exact nx _ _ (.int (M.2.1 r1 b) :: S1) hn (xz_vc trivial (xz_v1 hvS)) h2
        | 1, hm, hq =>
          simp only [Bool.and_eq_true, beq_iff_eq, Nat.blt_eq] at hm
          obtain ⟨⟨⟨ha, hbN⟩, hfw⟩, hkt⟩ := hm
          obtain ⟨x1, hx1, h2⟩ := xz_o_i hq
          obtain ⟨q, hqr, hqa, rfl⟩ := xz_gJ_s hx1
          refine xz_Wget hx hb hts hown hK hP hqr hqa ha hbN (xz_cm hfw) hdd ?_
          have ev : xz_fv ad (M.2.1 r1) (M.2.2 r1) q.2.2 b (xz_kty (xz_ty a b)) = .long (M.2.2 r1 b) := by rw [hkt]; rfl
          rw [ev]
          exact nx _ _ (.long (M.2.2 r1 b) :: S1) hn (xz_vc trivial (xz_v1 hvS)) h2
        | 2, hm, hq =>
          simp only [Bool.and_eq_true, beq_iff_eq, Nat.blt_eq] at hm
          obtain ⟨⟨⟨ha, hbN⟩, hfw⟩, hkt⟩ := hm
          obtain ⟨x1, hx1, h2⟩ := xz_o_i hq
          exact gen x1 hx1 ha hbN hfw hkt h2
        | 3, hm, hq =>
          simp only [Bool.and_eq_true, beq_iff_eq, Nat.blt_eq] at hm
          obtain ⟨⟨⟨ha, hbN⟩, hfw⟩, hkt⟩ := hm
          obtain ⟨x1, hx1, h2⟩ := xz_o_i hq
          exact gen x1 hx1 ha hbN hfw hkt h2
        | 4, hm, hq =>
          simp only [Bool.and_eq_true, beq_iff_eq] at hm
          obtain ⟨hmo, rfl⟩ := hm
          rw [hmo] at hown
          obtain ⟨x1, hx1, h2⟩ := xz_o_i hq
          obtain ⟨i1, hi1, rfl, rfl⟩ := xz_sval_s hx1
          have e1 : ad (2000 + i1) = ad0 (2000 + i1) := hag _ (Or.inr (Nat.le_trans (by decide) (Nat.le_add_right 2000 i1)))
          have e2 : ad (2100 + i1) = ad0 (2100 + i1) := hag _ (Or.inr (Nat.le_trans (by decide) (Nat.le_add_right 2100 i1)))
          have hO := (hE.2.2.1.1 i1 hi1).2.2.1
          show W p l e R s m args below meth c H locs cells slots Q (F0 m pc' ls (.ref (ad (2000 + i1)) :: S1.map (xz_V ad)))
          rw [e1]
          refine vk_getf hx hb hO hS hown (hts _ xz_wSv) (fun _ hh => hh) hdd ?_
          show W p l e R s m args below meth c H locs cells slots Q (F0 m (pc' + 3) ls (.ref (ad0 (2100 + i1)) :: S1.map (xz_V ad)))
          rw [← e2]
          exact nx _ _ (.ref (2100 + i1) :: S1) hn (xz_vc (Or.inr (Nat.le_trans (by decide) (Nat.le_add_right 2100 i1))) (xz_v1 hvS)) h2
        | 5, hm, hq =>
          simp only [Bool.and_eq_true, beq_iff_eq] at hm
          obtain ⟨hmo, rfl⟩ := hm
          rw [hmo] at hown
          obtain ⟨x1, hx1, h2⟩ := xz_o_i hq
          obtain ⟨i1, hi1, rfl, rfl⟩ := xz_scod_s hx1
          have e1 : ad (2000 + i1) = ad0 (2000 + i1) := hag _ (Or.inr (Nat.le_trans (by decide) (Nat.le_add_right 2000 i1)))
          have hO := (hE.2.2.1.1 i1 hi1).2.1
          show W p l e R s m args below meth c H locs cells slots Q (F0 m pc' ls (.ref (ad (2000 + i1)) :: S1.map (xz_V ad)))
          rw [e1]
          exact vk_getf hx hb hO hS hown (hts _ xz_wSc) (fun _ hh => hh) hdd (nx _ _ (.int 0 :: S1) hn (xz_vc trivial (xz_v1 hvS)) h2)
        | _ + 6, hm, hq =>
          simp only [Bool.and_eq_true, beq_iff_eq, Nat.blt_eq] at hm
          obtain ⟨⟨⟨ha, hbN⟩, hfw⟩, hkt⟩ := hm
          obtain ⟨x1, hx1, h2⟩ := xz_o_i hq
          exact gen x1 hx1 ha hbN hfw hkt h2
      case putfield z =>
        have hdd := dec (by simp)
        clear hd
        simp only [xz_oks, Bool.and_eq_true, beq_iff_eq, Nat.blt_eq] at hok
        obtain ⟨⟨⟨⟨⟨rfl, hn⟩, ha⟩, hbN⟩, hfw⟩, hm, hfn⟩ := hok
        have hfin : (xz_T a b).2.2.2 = true → meth.name = "<init>" ∧ (xz_T a b).1 = xz_RN (xz_mo y) := by
          intro hf
          rw [hf] at hfn
          simp only [cond_true, Bool.and_eq_true, decide_eq_true_eq] at hfn
          exact ⟨(hnm (fun z0 => absurd hfn.1 (by rw [z0]; decide +kernel))).trans hfn.1, hfn.2⟩
        clear hk
        match c0, hm, h with
        | 0, hm, h =>
          have hkt : xz_kty (xz_ty a b) = 0 := by simpa using hm
          obtain ⟨x1, S1, hS1, hp⟩ := xz_pI_i h
          obtain ⟨r1, S2, hS2, hq⟩ := xz_pR_i hp
          clear h hp
          subst hS2
          subst hS1
          obtain ⟨M1, hM1, h2⟩ := xz_o_i hq
          obtain ⟨q, hqr, hqa, rfl⟩ := xz_wI_s hM1
          refine xz_Wput (v := .int x1) hx hb hts hown hK hP hD hS hqr hqa ha hbN (xz_cm hfw) hfin (by rw [xz_kty0 hkt]; rfl) (by rw [xz_kty0 hkt]; rfl) hdd (fun H1 locs1 h5 h6 h7 => ?_)
          rw [← xz_ws_putI hqr hqa ha hbN (Or.inl hkt)] at h5 h6
          exact nxM _ _ S2 (M.1, xz_up M.2.1 r1 b x1, M.2.2) H1 locs1 hn (xz_v1 (xz_v1 hvS)) rfl rfl h5 h6 h7 (xz_Wf_putI hW hqr (by omega) b x1) h2
        | 1, hm, h =>
          have hkt : xz_kty (xz_ty a b) = 1 := by simpa using hm
          obtain ⟨x1, S1, hS1, hp⟩ := xz_pJ_i h
          obtain ⟨r1, S2, hS2, hq⟩ := xz_pR_i hp
          clear h hp
          subst hS2
          subst hS1
          obtain ⟨M1, hM1, h2⟩ := xz_o_i hq
          obtain ⟨q, hqr, hqa, rfl⟩ := xz_wJ_s hM1
          refine xz_Wput (v := .long x1) hx hb hts hown hK hP hD hS hqr hqa ha hbN (xz_cm hfw) hfin (by rw [xz_kty1 hkt]; rfl) (by rw [xz_kty1 hkt]; rfl) hdd (fun H1 locs1 h5 h6 h7 => ?_)
          rw [← xz_ws_putJ hqr hqa ha hbN hkt] at h5 h6
          exact nxM _ _ S2 (M.1, M.2.1, xz_up M.2.2 r1 b x1) H1 locs1 hn (xz_v1 (xz_v1 hvS)) rfl rfl h5 h6 h7 (xz_Wf_same hW hW.2.1) h2
        | 2, hm, h =>
          have hkt : xz_kty (xz_ty a b) = 2 := by simpa using hm
          obtain ⟨x1, S1, hS1, hp⟩ := xz_pR_i h
          obtain ⟨r1, S2, hS2, hq⟩ := xz_pR_i hp
          clear h hp
          subst hS2
          subst hS1
          obtain ⟨M1, hM1, h2⟩ := xz_o_i hq
          obtain ⟨q, hqr, hqa, hx1, rfl⟩ := xz_wR_s hM1
          refine xz_Wput (v := .ref (ad x1)) hx hb hts hown hK hP hD hS hqr hqa ha hbN (xz_cm hfw) hfin (xz_narR hkt _) (xz_fitR hkt _) hdd (fun H1 locs1 h5 h6 h7 => ?_)
          rw [← xz_ws_putR hqr hqa ha hbN hkt (by rw [(hW.2.2.1 r1 q hqr).2 a hqa]; exact hbN)] at h5 h6
          exact nxM _ _ S2 (M.1.set r1 (q.1, q.2.1, q.2.2.set b (some x1)), M.2) H1 locs1 hn (xz_v1 (xz_v1 hvS)) (by simp) (xz_slt_set hqr) h5 h6 h7 (xz_Wf_putR hW hqr b x1 hx1) h2
        | _ + 3, hm, h =>
          have hkt : xz_kty (xz_ty a b) = 3 := by simpa using hm
          obtain ⟨x1, S1, hS1, hp⟩ := xz_pI_i h
          obtain ⟨r1, S2, hS2, hq⟩ := xz_pR_i hp
          clear h hp
          subst hS2
          subst hS1
          obtain ⟨M1, hM1, h2⟩ := xz_o_i hq
          obtain ⟨q, hqr, hqa, hx1, rfl⟩ := xz_wZ_s hM1
          refine xz_Wput (v := .int x1) hx hb hts hown hK hP hD hS hqr hqa ha hbN (xz_cm hfw) hfin (by rw [xz_kty3 hkt]; exact xz_narB hx1) (by rw [xz_kty3 hkt]; exact xz_fitB hx1) hdd (fun H1 locs1 h5 h6 h7 => ?_)
          rw [← xz_ws_putI hqr hqa ha hbN (Or.inr hkt)] at h5 h6
          exact nxM _ _ S2 (M.1, xz_up M.2.1 r1 b x1, M.2.2) H1 locs1 hn (xz_v1 (xz_v1 hvS)) rfl rfl h5 h6 h7 (xz_Wf_putI hW hqr (by omega) b x1) h2
      case getstatic z =>
        have hdd := dec (by simp)
        clear hd
        simp only [xz_oks, Bool.and_eq_true, beq_iff_eq] at hok
        obtain ⟨⟨⟨rfl, hn⟩, hmo⟩, hm⟩ := hok
        rw [hmo] at hown
        have hq : (bif c0 == 0 then _ else _) = some r := h
        clear h
        cases hc0 : (c0 == 0) with
        | true =>
          rw [hc0] at hm hq
          simp only [cond_true, Bool.and_eq_true, beq_iff_eq, decide_eq_true_eq] at hm
          obtain ⟨rfl, rfl⟩ := hm
          exact va_gets hx hb hE.2.2.2.1 hS hown (hts _ xz_wSs) (fun _ hh => hh) hdd (nx _ _ (.int 1 :: S) hn (xz_vc trivial hvS) hq)
        | false =>
          rw [hc0] at hm hq
          simp only [cond_false, beq_iff_eq] at hm
          obtain rfl := hm
          have e1 : xz_V ad (.retAddr 0) = xz_V ad0 (.retAddr 0) := xz_V_congr (n := n0) hag trivial
          refine va_gets hx hb hE.2.2.2.2.1 hS hown (hts _ xz_wSf) (fun _ hh => hh) hdd ?_
          rw [← e1]
          exact nx _ _ (.retAddr 0 :: S) hn (xz_vc trivial hvS) hq
      case laload =>
        have hdd := dec (by simp)
        clear hd
        simp only [xz_oks, Bool.and_eq_true, beq_iff_eq] at hok
        obtain ⟨rfl, hn⟩ := hok
        obtain ⟨i1, S1, hS1, hp⟩ := xz_pI_i h
        obtain ⟨r1, S2, hS2, hq⟩ := xz_pR_i hp
        clear h hp
        subst hS2
        subst hS1
        obtain ⟨x1, hx1, h2⟩ := xz_o_i hq
        obtain ⟨q, hqr, hqa, hin, rfl⟩ := xz_lJ0_s hx1
        obtain ⟨t0, ht0⟩ := hW.1 r1 q hqr (by omega)
        exact va_lald (n := q.2.1) (f := M.2.2 r1) hx hb hK hP r1 t0 (by rw [xz_ws_get hqr, xz_ce_2 hqa]) (by rw [ht0, hqa]; rfl) (xz_vp_in hin) hdd (nx _ _ (.long (M.2.2 r1 i1.toNatClampNeg) :: S2) hn (xz_vc trivial (xz_v1 (xz_v1 hvS))) h2)
      case aaload =>
        have hdd := dec (by simp)
        clear hd
        simp only [xz_oks, Bool.and_eq_true, beq_iff_eq] at hok
        obtain ⟨rfl, hn⟩ := hok
        obtain ⟨i1, S1, hS1, hp⟩ := xz_pI_i h
        obtain ⟨r1, S2, hS2, hq⟩ := xz_pR_i hp
        clear h hp
        subst hS2
        subst hS1
        obtain ⟨x1, hx1, h2⟩ := xz_o_i hq
        obtain ⟨q, hqr, hqa, hin, hxe⟩ := xz_lR0_s hx1
        obtain ⟨t0, ht0⟩ := hW.1 r1 q hqr (by omega)
        refine xz_Waald hx hb hK hP hqr hqa ht0 hin hdd ?_
        rw [hxe]
        exact nx _ _ (.ref x1 :: S2) hn (xz_vc (Or.inl ((hW.2.2.1 r1 q hqr).1 x1 (xz_getD_mem hxe))) (xz_v1 (xz_v1 hvS))) h2
      case iastore =>
        have hdd := dec (by simp)
        clear hd
        simp only [xz_oks, Bool.and_eq_true, beq_iff_eq] at hok
        obtain ⟨rfl, hn⟩ := hok
        obtain ⟨x1, S1, hS1, hp⟩ := xz_pI_i h
        obtain ⟨i1, S2, hS2, hp2⟩ := xz_pI_i hp
        obtain ⟨r1, S3, hS3, hq⟩ := xz_pR_i hp2
        clear h hp hp2
        subst hS3
        subst hS2
        subst hS1
        obtain ⟨M1, hM1, h2⟩ := xz_o_i hq
        obtain ⟨q, hqr, hqa, hin, rfl⟩ := xz_sI0_s hM1
        obtain ⟨t0, ht0⟩ := hW.1 r1 q hqr (by omega)
        refine va_iast (n := q.2.1) (f := M.2.1 r1) (cA := cA r1) hx hb hK hP hD hS r1 t0 (by rw [xz_ws_get hqr, xz_ce_0 hqa]) (by rw [ht0, hqa]; rfl) (xz_vp_in hin) hdd (fun H1 locs1 h5 h6 h7 => ?_)
        rw [← xz_ws_stI hqr (Or.inl hqa)] at h5 h6
        exact nxM _ _ S3 (M.1, xz_up M.2.1 r1 i1.toNatClampNeg x1, M.2.2) H1 locs1 hn (xz_v1 (xz_v1 (xz_v1 hvS))) rfl rfl h5 h6 h7 (xz_Wf_putI hW hqr (by omega) _ x1) h2
      case bastore =>
        have hdd := dec (by simp)
        clear hd
        simp only [xz_oks, Bool.and_eq_true, beq_iff_eq] at hok
        obtain ⟨rfl, hn⟩ := hok
        obtain ⟨x1, S1, hS1, hp⟩ := xz_pI_i h
        obtain ⟨i1, S2, hS2, hp2⟩ := xz_pI_i hp
        obtain ⟨r1, S3, hS3, hq⟩ := xz_pR_i hp2
        clear h hp hp2
        subst hS3
        subst hS2
        subst hS1
        obtain ⟨M1, hM1, h2⟩ := xz_o_i hq
        obtain ⟨q, hqr, hqa, hin, rfl⟩ := xz_sZ0_s hM1
        obtain ⟨t0, ht0⟩ := hW.1 r1 q hqr (by omega)
        refine va_zast (n := q.2.1) (f := M.2.1 r1) (cA := cA r1) hx hb hK hP hD hS r1 t0 (by rw [xz_ws_get hqr, xz_ce_1 hqa]) (by rw [ht0, hqa]; rfl) (xz_vp_in hin) hdd (fun H1 locs1 h5 h6 h7 => ?_)
        have en : vp_nar .boolean x1 = x1 &&& 1 := rfl
        rw [en, ← xz_ws_stI hqr (Or.inr hqa)] at h5 h6
        exact nxM _ _ S3 (M.1, xz_up M.2.1 r1 i1.toNatClampNeg (x1 &&& 1), M.2.2) H1 locs1 hn (xz_v1 (xz_v1 (xz_v1 hvS))) rfl rfl h5 h6 h7 (xz_Wf_putZ hW _ _ (xz_and1 x1)) h2
      case lastore =>
        have hdd := dec (by simp)
        clear hd
        simp only [xz_oks, Bool.and_eq_true, beq_iff_eq] at hok
        obtain ⟨rfl, hn⟩ := hok
        obtain ⟨x1, S1, hS1, hp⟩ := xz_pJ_i h
        obtain ⟨i1, S2, hS2, hp2⟩ := xz_pI_i hp
        obtain ⟨r1, S3, hS3, hq⟩ := xz_pR_i hp2
        clear h hp hp2
        subst hS3
        subst hS2
        subst hS1
        obtain ⟨M1, hM1, h2⟩ := xz_o_i hq
        obtain ⟨q, hqr, hqa, hin, rfl⟩ := xz_sJ0_s hM1
        obtain ⟨t0, ht0⟩ := hW.1 r1 q hqr (by omega)
        refine va_last (n := q.2.1) (f := M.2.2 r1) (cA := cA r1) hx hb hK hP hD hS r1 t0 (by rw [xz_ws_get hqr, xz_ce_2 hqa]) (by rw [ht0, hqa]; rfl) (xz_vp_in hin) hdd (fun H1 locs1 h5 h6 h7 => ?_)
        rw [← xz_ws_stJ hqr hqa] at h5 h6
        exact nxM _ _ S3 (M.1, M.2.1, xz_up M.2.2 r1 i1.toNatClampNeg x1) H1 locs1 hn (xz_v1 (xz_v1 (xz_v1 hvS))) rfl rfl h5 h6 h7 (xz_Wf_same hW hW.2.1) h2
      case iaload =>
        have hdd := dec (by simp)
        clear hd
        simp only [xz_oks, Bool.and_eq_true, beq_iff_eq] at hok
        obtain ⟨⟨rfl, hn⟩, -⟩ := hok
        obtain ⟨i1, S1, hS1, hp⟩ := xz_pI_i h
        obtain ⟨r1, S2, hS2, hq⟩ := xz_pR_i hp
        clear h hp
        subst hS2
        subst hS1
        have hq : (bif c0 == 1 then _ else _) = some r := hq
        cases hc1 : (c0 == 1) with
        | true =>
          rw [hc1] at hq
          obtain ⟨q, hXq, h2⟩ := xz_o_i hq
          obtain ⟨hb1, h3⟩ := xz_b_i h2
          simp only [Bool.and_eq_true, beq_iff_eq] at hb1
          obtain ⟨rfl, hin⟩ := hb1
          obtain ⟨hv1, hv2, hv3⟩ := hX q hXq
          have e1 : ad 1000 = ad0 1000 := hag _ (Or.inr (Nat.le_refl _))
          show W p l e R s m args below meth c H locs cells slots Q (F0 m pc' ls (.int i1 :: .ref (ad 1000) :: S2.map (xz_V ad)))
          rw [e1]
          exact va_sld hx hb hv1 hv2 hv3 hS (xz_vp_in hin) hdd (nx _ _ (.int (q.2 i1.toNatClampNeg) :: S2) hn (xz_vc trivial (xz_v1 (xz_v1 hvS))) h3)
        | false =>
          rw [hc1] at hq
          obtain ⟨x1, hx1, h2⟩ := xz_o_i hq
          obtain ⟨q, hqr, hqa, hin, rfl⟩ := xz_lI0_s hx1
          obtain ⟨t0, ht0⟩ := hW.1 r1 q hqr (by omega)
          exact va_iald (n := q.2.1) (f := M.2.1 r1) hx hb hK hP r1 t0 (by rw [xz_ws_get hqr, xz_ce_0 hqa]) (by rw [ht0, hqa]; rfl) (xz_vp_in hin) hdd (nx _ _ (.int (M.2.1 r1 i1.toNatClampNeg) :: S2) hn (xz_vc trivial (xz_v1 (xz_v1 hvS))) h2)
      case baload =>
        have hdd := dec (by simp)
        clear hd
        simp only [xz_oks, Bool.and_eq_true, beq_iff_eq] at hok
        obtain ⟨rfl, hn⟩ := hok
        obtain ⟨i1, S1, hS1, hp⟩ := xz_pI_i h
        obtain ⟨r1, S2, hS2, hq⟩ := xz_pR_i hp
        clear h hp
        subst hS2
        subst hS1
        obtain ⟨x1, hx1, h2⟩ := xz_o_i hq
        have hx1 : (bif c0 == 1 then xz_sby r1 i1 else xz_lI0 M 1 r1 i1) = some x1 := hx1
        cases hc1 : (c0 == 1) with
        | true =>
          rw [hc1] at hx1
          obtain ⟨j1, hj1, rfl, hin, hxe⟩ := xz_sby_s hx1
          have e1 : ad (2100 + j1) = ad0 (2100 + j1) := hag _ (Or.inr (Nat.le_trans (by decide) (Nat.le_add_right 2100 j1)))
          have hO := (hE.2.2.1.1 j1 hj1).2.2.2
          show W p l e R s m args below meth c H locs cells slots Q (F0 m pc' ls (.int i1 :: .ref (ad (2100 + j1)) :: S2.map (xz_V ad)))
          rw [e1]
          exact va_tb (v := .int x1) hx hb hO hS hin (by rw [hxe]) hdd (nx _ _ (.int x1 :: S2) hn (xz_vc trivial (xz_v1 (xz_v1 hvS))) h2)
        | false =>
          rw [hc1] at hx1
          obtain ⟨q, hqr, hqa, hin, rfl⟩ := xz_lI0_s hx1
          obtain ⟨t0, ht0⟩ := hW.1 r1 q hqr (by omega)
          exact va_zald (n := q.2.1) (f := M.2.1 r1) hx hb hK hP r1 t0 (by rw [xz_ws_get hqr, xz_ce_1 hqa]) (by rw [ht0, hqa]; rfl) (xz_vp_in hin) hdd (nx _ _ (.int (M.2.1 r1 i1.toNatClampNeg) :: S2) hn (xz_vc trivial (xz_v1 (xz_v1 hvS))) h2)
      case arraylength =>
        have hdd := dec (by simp)
        clear hd
        simp only [xz_oks, Bool.and_eq_true, beq_iff_eq] at hok
        obtain ⟨⟨rfl, hn⟩, -⟩ := hok
        obtain ⟨r1, S2, hS2, hq⟩ := xz_pR_i h
        clear h
        subst hS2
        have hq : (bif c0 == 1 then _ else _) = some r := hq
        cases hc1 : (c0 == 1) with
        | true =>
          rw [hc1] at hq
          obtain ⟨q, hXq, h2⟩ := xz_o_i hq
          obtain ⟨hb1, h3⟩ := xz_b_i h2
          obtain rfl : r1 = 1000 := by simpa using hb1
          obtain ⟨hv1, hv2, hv3⟩ := hX q hXq
          have e1 : ad 1000 = ad0 1000 := hag _ (Or.inr (Nat.le_refl _))
          show W p l e R s m args below meth c H locs cells slots Q (F0 m pc' ls (.ref (ad 1000) :: S2.map (xz_V ad)))
          rw [e1]
          exact va_slen hx hb hv1 hv2 hv3 hS hdd (nx _ _ (.int (Int32.ofNat q.1) :: S2) hn (xz_vc trivial (xz_v1 hvS)) h3)
        | false =>
          rw [hc1] at hq
          obtain ⟨x1, hx1, h2⟩ := xz_o_i hq
          have hx1 : (bif c0 == 2 then xz_sln r1 else xz_len M r1) = some x1 := hx1
          cases hc2 : (c0 == 2) with
          | true =>
            rw [hc2] at hx1
            obtain ⟨j1, hj1, rfl, hxe⟩ := xz_sln_s hx1
            have e1 : ad (2100 + j1) = ad0 (2100 + j1) := hag _ (Or.inr (Nat.le_trans (by decide) (Nat.le_add_right 2100 j1)))
            have hO := (hE.2.2.1.1 j1 hj1).2.2.2
            show W p l e R s m args below meth c H locs cells slots Q (F0 m pc' ls (.ref (ad (2100 + j1)) :: S2.map (xz_V ad)))
            rw [e1]
            exact va_tlen hx hb hO hS hxe hdd (nx _ _ (.int x1 :: S2) hn (xz_vc trivial (xz_v1 hvS)) h2)
          | false =>
            rw [hc2] at hx1
            obtain ⟨q, hqr, hqa, hxe⟩ := xz_len_s hx1
            obtain ⟨t0, ht0⟩ := hW.1 r1 q hqr hqa
            have hcx : ∃ w : vp_A, xz_ce ad cA M r1 q = .inl (cA r1, w) ∧ w.1 = q.2.1 := by
              rcases (show q.1 = 0 ∨ q.1 = 1 ∨ q.1 = 2 ∨ (q.1 = 3 ∨ q.1 = 4) by omega) with h0 | h0 | h0 | h0
              · exact ⟨_, xz_ce_0 h0, rfl⟩
              · exact ⟨_, xz_ce_1 h0, rfl⟩
              · exact ⟨_, xz_ce_2 h0, rfl⟩
              · exact ⟨_, xz_ce_r h0, rfl⟩
            obtain ⟨w, hw, hw1⟩ := hcx
            exact va_alen (x := w) hx hb hK hP r1 t0 (by rw [xz_ws_get hqr, hw]) ht0 (by rw [hw1]; exact hxe) hdd (nx _ _ (.int x1 :: S2) hn (xz_vc trivial (xz_v1 hvS)) h2)
      case new z =>
        have hdd := dec (by simp)
        clear hd
        simp only [xz_oks, Bool.and_eq_true, beq_iff_eq, Nat.blt_eq] at hok
        obtain ⟨⟨⟨⟨rfl, hn⟩, ha⟩, rfl⟩, hcw⟩ := hok
        have h : xz_blk RR Lp true X xz_lc (xz_code y) s' ((xz_code y).drop (k + 1)) L (.ref M.1.length :: S) (xz_new M (a + 5, xz_NC a, List.replicate (xz_NC a) none)) = some r := h
        have hmono2 := xz_Mo_blk hRm hLm true X xz_lc (xz_code y) s' ((xz_code y).drop (k + 1)) L (.ref M.1.length :: S) _ r h
        obtain ⟨hm1, hm2⟩ := hmono2
        rw [xz_new_len] at hm1
        rw [xz_new_slt] at hm2
        dsimp only at hm2
        have hcw1 := xz_pl_ok (f := fun (q : Nat × Nat × Nat) => .classLink (xz_RN q.1) q.2.1 (xz_RN q.2.2)) xz_CWc (xz_mo y, z, a) (xz_cm hcw)
        have hlen := hW.2.2.2
        refine va_new (ci := a) (own := xz_RN (xz_mo y)) (C := xz_RN a) (T := xz_T a) (N := xz_NC a) (fs := xz_fs ad (fun _ => 0) (fun _ => 0) (List.replicate (xz_NC a) none) a) hx hb hts (xz_inT ha) (xz_ty a) (xz_tyok a ha) hown (hts _ hcw1) (hts _ (xz_wIn a ha)) (hts _ (xz_wIi a ha)) hK hP hD hS hA (xz_cl a ha) (fun j hj => ?_) (by omega) (by omega) hdd (fun q1 H1 hP1 hD1 hS1 => ?_)
        · show defaultValue (xz_ty a j) = (xz_fs ad (fun _ => 0) (fun _ => 0) (List.replicate (xz_NC a) none) a).getD j .null
          rw [List.getD_eq_getElem?_getD, xz_fs_get (xz_fkok a ha j hj)]
          have hkk := xz_ftk a ha j hj
          show defaultValue (xz_ty a j) = xz_fv ad (fun _ => 0) (fun _ => 0) (List.replicate (xz_NC a) none) j (xz_kty (xz_ty a j))
          have hrep : ((List.replicate (xz_NC a) (none : Option Nat)).getD j none) = none := by
            rw [List.getD_eq_getElem?_getD]
            cases hz : (List.replicate (xz_NC a) (none : Option Nat))[j]? with
            | none => rfl
            | some w => exact List.eq_of_mem_replicate (List.mem_of_getElem? hz)
          rcases hkk with h0 | h0 | h0 | h0
          · rw [xz_kty0 h0]; rfl
          · rw [xz_kty1 h0]; rfl
          · rcases xz_kty2 h0 with ⟨n, e⟩ | ⟨u, e⟩ <;> rw [e] <;> show Value.null = va_rf (((List.replicate (xz_NC a) (none : Option Nat)).getD j none).map ad) <;> rw [hrep] <;> rfl
          · rw [xz_kty3 h0]; rfl
        · have hag1 := xz_up_ag (M := M) (ad := ad) (z := q1) hlen
          have e := xz_ws_new (ad := ad) (cA := cA) (M := M) (fun k' q' hq' => (hW.2.2.1 k' q' hq').1) (a + 5, xz_NC a, List.replicate (xz_NC a) none) (ad' := va_up ad M.1.length q1) (cA' := cA) hag1 (fun _ _ => rfl)
          have e2 : va_up ad M.1.length q1 M.1.length = q1 := by simp [va_up]
          have e3 : xz_ce (va_up ad M.1.length q1) cA (xz_new M (a + 5, xz_NC a, List.replicate (xz_NC a) none)) M.1.length (a + 5, xz_NC a, List.replicate (xz_NC a) none) = .inr (a, xz_fs ad (fun _ => 0) (fun _ => 0) (List.replicate (xz_NC a) none) a) := by
            rw [xz_ce_o rfl]
            have e4 : (xz_new M (a + 5, xz_NC a, List.replicate (xz_NC a) none)).2.1 M.1.length = fun _ => 0 := xz_row_eq
            have e5 : (xz_new M (a + 5, xz_NC a, List.replicate (xz_NC a) none)).2.2 M.1.length = fun _ => 0 := xz_row_eq
            rw [e4, e5]
            have e6 : ∀ j, ((List.replicate (xz_NC a) (none : Option Nat)).getD j none) = none := by
              intro j
              rw [List.getD_eq_getElem?_getD]
              cases hz : (List.replicate (xz_NC a) (none : Option Nat))[j]? with
              | none => rfl
              | some w => exact List.eq_of_mem_replicate (List.mem_of_getElem? hz)
            simp only [xz_fs, xz_fv, e6, Option.map_none]
          rw [e2, e3] at e
          rw [← e] at hP1 hD1
          have hWf := xz_Wf_new (tl := []) hW (s := (a + 5, xz_NC a, List.replicate (xz_NC a) none)) (cA' := cA) (fun _ _ => rfl) (fun hlt => absurd hlt (by show ¬ (a + 5 < 5); omega)) (fun w hw => by cases List.eq_of_mem_replicate hw) (fun a' ha' => by
            have : a' = a := by have : a + 5 = a' + 5 := ha'; omega
            rw [this]
            simp) (by omega)
          rw [List.append_nil] at hWf
          have hfin := after (some (.ref M.1.length)) (xz_new M (a + 5, xz_NC a, List.replicate (xz_NC a) none)) S H1 locs tys (va_up ad M.1.length q1) cA (pc' + 3) hn (xz_le_new M _) hvS hag1 hP1 hK hD1 hS1 hWf (fun w hw => by
            cases hw with
            | head => exact Or.inl (by rw [xz_new_len]; exact Nat.lt_succ_self _)
            | tail _ hw => cases hw) h
          rw [xz_new_len, xz_new_slt, Nat.add_sub_cancel_left, Nat.add_sub_cancel_left] at hfin
          have e7 : ((some (Value.ref M.1.length)).map (xz_V (va_up ad M.1.length q1))).toList = [.ref q1] := by
            show [Value.ref (va_up ad M.1.length q1 M.1.length)] = _
            rw [e2]
          rw [e7] at hfin
          exact hfin
      case newarray z =>
        have hdd := dec (by simp)
        clear hd
        simp only [xz_oks, Bool.and_eq_true, beq_iff_eq, Nat.blt_eq] at hok
        obtain ⟨⟨rfl, hn⟩, hat⟩ := hok
        obtain ⟨n1, S1, hS1, h1⟩ := xz_pI_i h
        clear h
        subst hS1
        obtain ⟨M1, hM1, h2⟩ := xz_o_i h1
        obtain ⟨hn0', hn1, rfl⟩ := xz_newA_s hM1
        have hmono2 := xz_Mo_blk hRm hLm true X xz_lc (xz_code y) s' ((xz_code y).drop (k + 1)) L (.ref M.1.length :: S1) _ r h2
        obtain ⟨hm1, hm2⟩ := hmono2
        rw [xz_new_len] at hm1
        rw [xz_new_slt] at hm2
        dsimp only at hm2
        have hlen := hW.2.2.2
        have fin : ∀ (q1 : Nat) (cA1 : ClassId) (H1 : Heap) (ty : FieldType), ty = xz_aT (xz_aty z) → va_K D vwCl (tys ++ [(cA1, ty)]) s → va_P D vwCl (xz_ws ad cA M ++ [(q1, xz_ce (va_up ad M.1.length q1) (va_up cA M.1.length cA1) (xz_new M (xz_aty z, n1.toNatClampNeg, [])) M.1.length (xz_aty z, n1.toNatClampNeg, []))]) H1 → va_D A (xz_ws ad cA M ++ [(q1, xz_ce (va_up ad M.1.length q1) (va_up cA M.1.length cA1) (xz_new M (xz_aty z, n1.toNatClampNeg, [])) M.1.length (xz_aty z, n1.toNatClampNeg, []))]) → va_S A s.heap H1 locs → W p l e R s m args below meth c H1 locs (cells + 1) (slots + n1.toNatClampNeg) Q (F0 m (pc' + 2) ls (.ref q1 :: S1.map (xz_V ad))) := by
          intro q1 cA1 H1 ty hty hK1 hP1 hD1 hS1
          have hag1 := xz_up_ag (M := M) (ad := ad) (z := q1) hlen
          have hcc : ∀ k', k' < M.1.length → va_up cA M.1.length cA1 k' = cA k' := fun k' hk' => by unfold va_up; rw [if_neg (by omega)]
          have e := xz_ws_new (ad := ad) (cA := cA) (M := M) (fun k' q' hq' => (hW.2.2.1 k' q' hq').1) (xz_aty z, n1.toNatClampNeg, []) (ad' := va_up ad M.1.length q1) (cA' := va_up cA M.1.length cA1) hag1 hcc
          have e2 : va_up ad M.1.length q1 M.1.length = q1 := by simp [va_up]
          rw [e2] at e
          rw [← e] at hP1 hD1
          have hWf := xz_Wf_new (tl := [(cA1, ty)]) hW (s := (xz_aty z, n1.toNatClampNeg, [])) (cA' := va_up cA M.1.length cA1) hcc (fun _ => ⟨tys.length, by rw [List.getElem?_append_right (Nat.le_refl _), Nat.sub_self, hty]; show some (cA1, _) = some (va_up cA M.1.length cA1 M.1.length, _); simp [va_up]⟩) (fun w hw => by cases hw) (fun a' ha' => by
            have : xz_aty z = a' + 5 := ha'
            omega) (by omega)
          have hfin := after (some (.ref M.1.length)) (xz_new M (xz_aty z, n1.toNatClampNeg, [])) S1 H1 locs (tys ++ [(cA1, ty)]) (va_up ad M.1.length q1) (va_up cA M.1.length cA1) (pc' + 2) hn (xz_le_new M _) (xz_v1 hvS) hag1 hP1 hK1 hD1 hS1 hWf (fun w hw => by
            cases hw with
            | head => exact Or.inl (by rw [xz_new_len]; exact Nat.lt_succ_self _)
            | tail _ hw => cases hw) h2
          rw [xz_new_len, xz_new_slt, Nat.add_sub_cancel_left, Nat.add_sub_cancel_left] at hfin
          have e7 : ((some (Value.ref M.1.length)).map (xz_V (va_up ad M.1.length q1))).toList = [.ref q1] := by
            show [Value.ref (va_up ad M.1.length q1 M.1.length)] = _
            rw [e2]
          rw [e7] at hfin
          exact hfin
        have hup : ∀ cA1 : ClassId, va_up cA M.1.length cA1 M.1.length = cA1 := fun cA1 => by simp [va_up]
        have h2r : (xz_new M (xz_aty z, n1.toNatClampNeg, [])).2.1 M.1.length = fun _ => 0 := xz_row_eq
        have h2l : (xz_new M (xz_aty z, n1.toNatClampNeg, [])).2.2 M.1.length = fun _ => 0 := xz_row_eq
        cases z
        case int =>
          refine va_newa (atype := .int) (ty := .int) (a0 := (n1.toNatClampNeg, .inl (fun _ => 0))) (N' := n1.toNatClampNeg) hx hb (hts _ xz_wAI) rfl hK hP hD hS hA (fun _ => rfl) hn0' rfl (by show n1.toNatClampNeg * 4 ≤ 536870912; omega) (by omega) (by omega) hdd (fun q1 cA1 H1 hK1 hP1 hD1 hS1 => ?_)
          have e3 : xz_ce (va_up ad M.1.length q1) (va_up cA M.1.length cA1) (xz_new M (xz_aty .int, n1.toNatClampNeg, [])) M.1.length (xz_aty .int, n1.toNatClampNeg, []) = .inl (cA1, n1.toNatClampNeg, .inl (fun _ => 0)) := by
            rw [xz_ce_0 rfl, h2r, hup]
          exact fin q1 cA1 H1 .int rfl hK1 (by rw [e3]; exact hP1) (by rw [e3]; exact hD1) hS1
        case boolean =>
          refine va_newa (atype := .boolean) (ty := .boolean) (a0 := (n1.toNatClampNeg, .inl (fun _ => 0))) (N' := n1.toNatClampNeg) hx hb (hts _ xz_wAZ) rfl hK hP hD hS hA (fun _ => rfl) hn0' rfl (by show n1.toNatClampNeg * 1 ≤ 536870912; omega) (by omega) (by omega) hdd (fun q1 cA1 H1 hK1 hP1 hD1 hS1 => ?_)
          have e3 : xz_ce (va_up ad M.1.length q1) (va_up cA M.1.length cA1) (xz_new M (xz_aty .boolean, n1.toNatClampNeg, [])) M.1.length (xz_aty .boolean, n1.toNatClampNeg, []) = .inl (cA1, n1.toNatClampNeg, .inl (fun _ => 0)) := by
            rw [xz_ce_1 rfl, h2r, hup]
          exact fin q1 cA1 H1 .boolean rfl hK1 (by rw [e3]; exact hP1) (by rw [e3]; exact hD1) hS1
        case long =>
          refine va_newa (atype := .long) (ty := .long) (a0 := (n1.toNatClampNeg, .inr (.inl (fun _ => 0)))) (N' := n1.toNatClampNeg) hx hb (hts _ xz_wAJ) rfl hK hP hD hS hA (fun _ => rfl) hn0' rfl (by show n1.toNatClampNeg * 8 ≤ 536870912; omega) (by omega) (by omega) hdd (fun q1 cA1 H1 hK1 hP1 hD1 hS1 => ?_)
          have e3 : xz_ce (va_up ad M.1.length q1) (va_up cA M.1.length cA1) (xz_new M (xz_aty .long, n1.toNatClampNeg, [])) M.1.length (xz_aty .long, n1.toNatClampNeg, []) = .inl (cA1, n1.toNatClampNeg, .inr (.inl (fun _ => 0))) := by
            rw [xz_ce_2 rfl, h2l, hup]
          exact fin q1 cA1 H1 .long rfl hK1 (by rw [e3]; exact hP1) (by rw [e3]; exact hD1) hS1
        all_goals exact absurd hat (by decide)
      case multianewarray z w =>
        have hdd := dec (by simp)
        clear hd
        simp only [xz_oks, Bool.and_eq_true, Bool.or_eq_true, beq_iff_eq] at hok
        obtain ⟨⟨⟨⟨rfl, rfl⟩, hn⟩, hkd⟩, hcw⟩ := hok
        obtain ⟨k1, S0, hS0, h0⟩ := xz_pI_i h
        obtain ⟨n1, S1, hS1, h1⟩ := xz_pI_i h0
        clear h h0
        subst hS1
        subst hS0
        obtain ⟨M1, hM1, h2⟩ := xz_o_i h1
        obtain ⟨hn0', hn1, hk0', hk1, rfl⟩ := xz_newM_s hM1
        have hmono2 := xz_Mo_blk hRm hLm true X xz_lc (xz_code y) s' ((xz_code y).drop (k + 1)) L (.ref M.1.length :: S1) _ r h2
        obtain ⟨hm1, hm2⟩ := hmono2
        rw [xz_news_len, xz_new_len] at hm1
        rw [xz_news_slt, xz_new_slt] at hm2
        dsimp only at hm2
        have hlen := hW.2.2.2
        have hcw1 := xz_pl_ok (f := fun (q : Nat × Nat × Nat) => .classLink (xz_RN q.1) q.2.1 (bif q.2.2 == 3 then "[[I" else "[[J")) xz_AWc (xz_mo y, z, a) (xz_cm hcw)
        have hP0 : va_P D vwCl (xz_ws ad cA M ++ va_pl [] (fun _ => .inr (0, []))) H := by
          show va_P D vwCl (xz_ws ad cA M ++ []) H
          rw [List.append_nil]
          exact hP
        have hD0 : va_D A (xz_ws ad cA M ++ va_pl [] (fun _ => .inr (0, []))) := by
          show va_D A (xz_ws ad cA M ++ [])
          rw [List.append_nil]
          exact hD
        have fin : ∀ (q1 : Nat) (rr : Nat → Nat) (c1 cy : ClassId) (H1 : Heap) (ik : Nat) (zz : vp_A), ik = (bif a == 3 then 0 else 2) → (∀ (ad : Nat → Nat) (cA : Nat → ClassId) (M : xz_M) (k : Nat), M.2.1 k = (fun _ => 0) → M.2.2 k = (fun _ => 0) → xz_ce ad cA M k (ik, k1.toNatClampNeg, []) = .inl (cA k, zz)) → va_K D vwCl (tys ++ [(c1, xz_aT a)] ++ [(cy, xz_aT ik)]) s →
            va_P D vwCl ((xz_ws ad cA M ++ [(q1, .inl (c1, n1.toNatClampNeg, .inr (.inr (.inr (.inr (fun i => if i < n1.toNatClampNeg then some (rr i) else none))))))]) ++ va_pl ([] ++ (List.range n1.toNatClampNeg).map rr) (vr_up (fun _ => .inr (0, [])) ((List.range n1.toNatClampNeg).map rr) (.inl (cy, zz)))) H1 →
            va_D A ((xz_ws ad cA M ++ [(q1, .inl (c1, n1.toNatClampNeg, .inr (.inr (.inr (.inr (fun i => if i < n1.toNatClampNeg then some (rr i) else none))))))]) ++ va_pl ([] ++ (List.range n1.toNatClampNeg).map rr) (vr_up (fun _ => .inr (0, [])) ((List.range n1.toNatClampNeg).map rr) (.inl (cy, zz)))) →
            va_S A s.heap H1 locs → W p l e R s m args below meth c H1 locs (cells + 1 + n1.toNatClampNeg) (slots + n1.toNatClampNeg + n1.toNatClampNeg * k1.toNatClampNeg) Q (F0 m (pc' + 4) ls (.ref q1 :: S1.map (xz_V ad))) := by
          intro q1 rr c1 cy H1 ik zz hik hzz hK1 hP1 hD1 hS1
          have hik2 : ik = 0 ∨ ik = 2 := by
            rw [hik]
            cases (a == 3)
            · exact Or.inr rfl
            · exact Or.inl rfl
          rw [← xz_ws_multi hW (kd := a) (ik := ik) hkd (by omega) _ hzz] at hP1 hD1
          rw [hik] at hP1 hD1 hK1
          have hWf := xz_Wf_multi (c1 := c1) (cy := cy) (K := k1.toNatClampNeg) (N := n1.toNatClampNeg) hW (kd := a) (ik := ik) hkd hik2 (by omega)
          rw [hik] at hWf
          have e2 : xz_ad2 ad M.1.length n1.toNatClampNeg q1 rr M.1.length = q1 := by simp [xz_ad2]
          have hfin := after (some (.ref M.1.length)) _ S1 H1 locs (tys ++ [(c1, xz_aT a)] ++ [(cy, xz_aT (bif a == 3 then 0 else 2))]) (xz_ad2 ad M.1.length n1.toNatClampNeg q1 rr) (xz_cA2 cA M.1.length n1.toNatClampNeg c1 cy) (pc' + 4) hn ((xz_le_new M _).tr (xz_le_news _ _ _)) (xz_v1 (xz_v1 hvS)) (xz_ad2_ag (by omega)) hP1 hK1 hD1 hS1 hWf (fun w hw => by
            cases hw with
            | head => exact Or.inl (by rw [xz_news_len, xz_new_len]; exact Nat.lt_of_lt_of_le (Nat.lt_succ_self _) (Nat.le_add_right _ _))
            | tail _ hw => cases hw) h2
          rw [xz_news_len, xz_new_len, xz_news_slt, xz_new_slt] at hfin
          have e7 : ((some (Value.ref M.1.length)).map (xz_V (xz_ad2 ad M.1.length n1.toNatClampNeg q1 rr))).toList = [.ref q1] := by
            show [Value.ref (xz_ad2 ad M.1.length n1.toNatClampNeg q1 rr M.1.length)] = _
            rw [e2]
          rw [e7] at hfin
          have e8 : cells + (M.1.length + 1 + n1.toNatClampNeg - M.1.length) = cells + 1 + n1.toNatClampNeg := by omega
          have e9 : slots + (xz_slt M + n1.toNatClampNeg + n1.toNatClampNeg * k1.toNatClampNeg - xz_slt M) = slots + n1.toNatClampNeg + n1.toNatClampNeg * k1.toNatClampNeg := by omega
          dsimp only at hfin
          rw [e8, e9] at hfin
          exact hfin
        rcases hkd with rfl | rfl
        · obtain ⟨cy, f1, f2, f3⟩ := xz_arrC (hts _ xz_wAI) (fun n hh => by cases hh)
          refine va_mna (X := xz_ws ad cA M) (L := []) (f := fun _ => .inr (0, [])) (ty := .int) (cy := cy) (N' := n1.toNatClampNeg) (K' := k1.toNatClampNeg) (z := (k1.toNatClampNeg, .inl (fun _ => 0))) hx hb hown (hts _ hcw1) hE.2.2.2.2.2.1 (hts _ xz_wAI) f1 hK hP0 hD0 hS hA hn0' hk0' rfl rfl (by omega) (by show k1.toNatClampNeg * 4 ≤ 536870912; omega) (by omega) rfl rfl (by omega) (by omega) (fun cc => by
            show ({ cls := cc, slots := Array.replicate k1.toNatClampNeg (defaultValue .int), vm := .none } : Cell) = _
            rw [arrV_new]
            rfl) hdd (fun q1 rr c1 H1 hinj hnl hK1 hP1 hD1 hS1 => ?_)
          exact fin q1 rr c1 cy H1 0 (k1.toNatClampNeg, .inl (fun _ => 0)) rfl (fun ad cA M k hI hJ => by rw [xz_ce_0 rfl, hI]) (hK1.app ⟨hK.1, fun k' q' hq' => by
            cases k' with
            | zero => cases hq'; exact ⟨f2, f3⟩
            | succ k' => cases hq'⟩) hP1 hD1 hS1
        · obtain ⟨cy, f1, f2, f3⟩ := xz_arrC (hts _ xz_wAJ) (fun n hh => by cases hh)
          refine va_mna (X := xz_ws ad cA M) (L := []) (f := fun _ => .inr (0, [])) (ty := .long) (cy := cy) (N' := n1.toNatClampNeg) (K' := k1.toNatClampNeg) (z := (k1.toNatClampNeg, .inr (.inl (fun _ => 0)))) hx hb hown (hts _ hcw1) hE.2.2.2.2.2.2 (hts _ xz_wAJ) f1 hK hP0 hD0 hS hA hn0' hk0' rfl rfl (by omega) (by show k1.toNatClampNeg * 8 ≤ 536870912; omega) (by omega) rfl rfl (by omega) (by omega) (fun cc => by
            show ({ cls := cc, slots := Array.replicate k1.toNatClampNeg (defaultValue .long), vm := .none } : Cell) = _
            rw [arrV_new]
            rfl) hdd (fun q1 rr c1 H1 hinj hnl hK1 hP1 hD1 hS1 => ?_)
          exact fin q1 rr c1 cy H1 2 (k1.toNatClampNeg, .inr (.inl (fun _ => 0))) rfl (fun ad cA M k hI hJ => by rw [xz_ce_2 rfl, hJ]) (hK1.app ⟨hK.1, fun k' q' hq' => by
            cases k' with
            | zero => cases hq'; exact ⟨f2, f3⟩
            | succ k' => cases hq'⟩) hP1 hD1 hS1
      case invokestatic z =>
        have hdd := dec (by simp)
        clear hd
        simp only [xz_oks, Bool.and_eq_true, Bool.or_eq_true, beq_iff_eq] at hok
        obtain ⟨rfl, hok⟩ := hok
        by_cases h99 : c0 = 99
        · subst h99
          cases h
        by_cases h10 : c0 = 10
        · subst h10
          obtain ⟨hn, hm⟩ := hok.resolve_left (by decide)
          obtain ⟨n1, S1, hS1, hp1⟩ := xz_pI_i h
          obtain ⟨dp1, S2, hS2, hp2⟩ := xz_pI_i hp1
          obtain ⟨r2, S3, hS3, hp3⟩ := xz_pR_i hp2
          obtain ⟨sp1, S4, hS4, hp4⟩ := xz_pI_i hp3
          obtain ⟨r1, S5, hS5, hp5⟩ := xz_pR_i hp4
          clear h hp1 hp2 hp3 hp4
          subst hS5
          subst hS4
          subst hS3
          subst hS2
          subst hS1
          obtain ⟨hcat, hp6⟩ := xz_b_i hp5
          obtain ⟨M1, hM1, h2⟩ := xz_o_i hp6
          obtain ⟨q, q', hqr, hqr', g1, g2, g3, g4, g5, g6, g7, g8⟩ := xz_copy_s hM1
          have hcs : ((S5.map (xz_V ad)).map fun v => v.category).sum ≤ 8 := xz_cat_V hcat
          have hlk : (Cond.methodLink (xz_RN (xz_mo y)) z arraycopyName).before args s = true := by
            simp only [Bool.or_eq_true, Bool.and_eq_true, beq_iff_eq] at hm
            rcases hm with (⟨h1, rfl⟩ | ⟨h1, rfl⟩) | ⟨h1, rfl⟩ <;> rw [h1]
            · exact hts _ xz_wAc6
            · exact hts _ xz_wAc7
            · exact hts _ xz_wAc8
          have hnf : ((S5.map (xz_V ad)).map fun v => v.category).sum + (nativeFrameWords "java/lang/System" "arraycopy" 5 + 11) ≤ R.locals := by
            have : nativeFrameWords "java/lang/System" "arraycopy" 5 = 7 := by decide +kernel
            omega
          obtain ⟨t0, ht0⟩ := hW.1 r1 q hqr (by omega)
          obtain ⟨t1, ht1⟩ := hW.1 r2 q' hqr' (by omega)
          have hvs : ∀ v ∈ S5, xz_vv M.1.length v := xz_v1 (xz_v1 (xz_v1 (xz_v1 (xz_v1 hvS))))
          rcases g8 with ⟨h2q, rfl⟩ | ⟨h2q, rfl⟩
          · have h2q' : q'.1 = 2 := by omega
            refine va_copyl (q0 := r1) (q1 := r2) (t0 := t0) (t1 := t1) (ty := .long) (n0 := q.2.1) (n1 := q'.2.1) (f := M.2.2 r1) (g := M.2.2 r2) (c0 := cA r1) (c1 := cA r2) (a0 := ad r1) (a := ad r2) hx hb (hml.trans hl.1.symm) hown hlk (hts _ xz_wAn) (hts _ xz_wAs) (hts _ xz_wAi) hK hP hD hS (by rw [xz_ws_get hqr, xz_ce_2 h2q]) (by rw [xz_ws_get hqr', xz_ce_2 h2q']) (by rw [ht0, h2q]; rfl) (by rw [ht1, h2q']; rfl) rfl g1 g2 g3 g4 g5 (fun _ _ => rfl) (by omega) hnf hdd (fun H1 locs1 h5 h6 h7 => ?_)
            rw [← xz_ws_rowJ hqr' h2q'] at h5 h6
            exact nxM _ _ S5 (M.1, M.2.1, xz_row M.2.2 r2 (va_cpy (M.2.2 r1) (M.2.2 r2) sp1.toNatClampNeg dp1.toNatClampNeg n1.toNatClampNeg)) H1 locs1 hn hvs rfl rfl h5 h6 h7 (xz_Wf_same hW hW.2.1) h2
          · have h01 : q.1 = 0 ∨ q.1 = 1 := by omega
            have h01' : q'.1 = 0 ∨ q'.1 = 1 := by omega
            have hWf : xz_Wf cA tys (M.1, xz_row M.2.1 r2 (va_cpy (M.2.1 r1) (M.2.1 r2) sp1.toNatClampNeg dp1.toNatClampNeg n1.toNatClampNeg), M.2.2) := by
              refine xz_Wf_same hW fun k' z' j hz' hz1 => ?_
              by_cases hk2 : k' = r2
              · subst hk2
                rw [hqr'] at hz'
                cases hz'
                rw [xz_row_eq]
                unfold va_cpy
                split
                · exact hW.2.1 r1 q _ hqr (by omega)
                · exact hW.2.1 k' q' _ hqr' hz1
              · rw [xz_row_ne hk2]
                exact hW.2.1 k' z' j hz' hz1
            have hce : xz_ce ad cA M r1 q = .inl (cA r1, q.2.1, .inl (M.2.1 r1)) := by rcases h01 with h0 | h0; exact xz_ce_0 h0; exact xz_ce_1 h0
            have hce' : xz_ce ad cA M r2 q' = .inl (cA r2, q'.2.1, .inl (M.2.1 r2)) := by rcases h01' with h0 | h0; exact xz_ce_0 h0; exact xz_ce_1 h0
            have hty : refKind (xz_aT q.1) = false := by rcases h01 with h0 | h0 <;> rw [h0] <;> rfl
            have hfit : ∀ i, i < n1.toNatClampNeg → fits (xz_aT q.1) (.int (M.2.1 r1 (sp1.toNatClampNeg + i))) = true := by
              intro i _
              rcases h01 with h0 | h0
              · rw [h0]; rfl
              · have := hW.2.1 r1 q (sp1.toNatClampNeg + i) hqr h0
                rw [h0]
                exact xz_fitB this
            refine va_copyi (q0 := r1) (q1 := r2) (t0 := t0) (t1 := t1) (ty := xz_aT q.1) (n0 := q.2.1) (n1 := q'.2.1) (f := M.2.1 r1) (g := M.2.1 r2) (c0 := cA r1) (c1 := cA r2) (a0 := ad r1) (a := ad r2) hx hb (hml.trans hl.1.symm) hown hlk (hts _ xz_wAn) (hts _ xz_wAs) (hts _ xz_wAi) hK hP hD hS (by rw [xz_ws_get hqr, hce]) (by rw [xz_ws_get hqr', hce']) ht0 (by rw [ht1, g6]) hty g1 g2 g3 g4 g5 hfit (by omega) hnf hdd (fun H1 locs1 h5 h6 h7 => ?_)
            rw [← xz_ws_rowI hqr' h01'] at h5 h6
            exact nxM _ _ S5 (M.1, xz_row M.2.1 r2 (va_cpy (M.2.1 r1) (M.2.1 r2) sp1.toNatClampNeg dp1.toNatClampNeg n1.toNatClampNeg), M.2.2) H1 locs1 hn hvs rfl rfl h5 h6 h7 hWf h2
        by_cases h14 : c0 = 14
        · subst h14
          obtain ⟨hn, hm⟩ := hok.resolve_left (by decide)
          simp only [Bool.and_eq_true, beq_iff_eq] at hm
          obtain ⟨⟨⟨hae, hst⟩, hnw⟩, hmw⟩ := hm
          have hst1 := xz_pl_ok (f := fun y => .static (xz_mn y)) xz_stwc a (xz_cm hst)
          have hnw1 := xz_pl_ok (f := fun y => .initialized (xz_mn y).cls) xz_nwc a (xz_cm hnw)
          have hmw1 := xz_pl_ok (f := fun (q : Nat × Nat × Nat) => .methodLink (xz_RN q.1) q.2.1 (xz_mn q.2.2)) xz_MWc (xz_mo y, z, a) (xz_cm hmw)
          have hcw1 := xz_cw a (by rw [hae]; decide) (by rw [hae]; decide)
          rw [hae] at hst1 hnw1 hmw1 hcw1
          obtain ⟨y1, S1, hS1, hp1⟩ := xz_pJ_i h
          obtain ⟨x1, S2, hS2, hp2⟩ := xz_pJ_i hp1
          clear h hp1
          subst hS2
          subst hS1
          obtain ⟨hcat, h2⟩ := xz_b_i hp2
          have hcs : ((S2.map (xz_V ad)).map fun v => v.category).sum ≤ 8 := xz_cat_V hcat
          have hm1 := (xz_Mo_blk hRm hLm true X xz_lc (xz_code y) s' ((xz_code y).drop (k + 1)) L (.long (if y1 < x1 then x1 else y1) :: S2) M r h2)
          obtain ⟨hm2, hm3⟩ := hm1
          exact va_mmax_long hx hb (hml.trans hl.1.symm) hown (hts _ hmw1) (hts _ hst1) (hts _ hnw1) (hts _ hcw1) (by omega) (by omega) (by omega) (by omega) hdd (nx _ _ (.long (if y1 < x1 then x1 else y1) :: S2) hn (xz_vc trivial (xz_v1 (xz_v1 hvS))) h2)
        obtain ⟨hn, hm⟩ := hok.resolve_left h99
        have hq : xz_args b S (fun as S => xz_b (xz_cat S) (xz_ret c0 (RR a as M) fun vs M => xz_blk RR Lp true X xz_lc (xz_code y) s' ((xz_code y).drop (k + 1)) L (vs ++ S) M)) = some r := by
          unfold xz_blk at h
          dsimp only at h
          split at h
          · exact absurd rfl h99
          · exact absurd rfl h14
          · exact absurd rfl h10
          · exact h
        have hm : (Nat.blt 0 a && (Nat.blt a 200 && a != q_JD_max) && (xz_stwp.map (·.1)).contains a && ((xz_nwp.map (·.1)).contains a && (xz_MWl.contains (xz_mo y, z, a) || xz_MXl.contains (xz_mo y, z, a))) && decide ((parseMethodDescriptor (xz_mn a).desc).map (fun d => d.parameters.length) = some b) && Nat.ble (xz_ml a) 40) = true := by
          split at hm
          · exact absurd rfl h14
          · exact absurd rfl h10
          · exact hm
        clear h hok
        obtain ⟨as, S1, hS1, hlen, h3⟩ := xz_args_i hq
        clear hq
        subst hS1
        obtain ⟨hcat, h4⟩ := xz_b_i h3
        obtain ⟨ov, M1, hR1, h5⟩ := xz_ret_i h4
        simp only [Bool.and_eq_true, Bool.or_eq_true, Nat.blt_eq, Nat.ble_eq, decide_eq_true_eq] at hm
        obtain ⟨⟨⟨⟨⟨ha0, ha2, hnmx⟩, hst⟩, hnw, hmw⟩, hpar⟩, hmx⟩ := hm
        have hnmx : a ≠ q_JD_max := by simpa using hnmx
        have hst1 := xz_pl_ok (f := fun y => .static (xz_mn y)) xz_stwc a (xz_cm hst)
        have hnw1 := xz_pl_ok (f := fun y => .initialized (xz_mn y).cls) xz_nwc a (xz_cm hnw)
        have hcap1 : M1.1.length ≤ 900 := Nat.le_trans (xz_Mo_blk hRm hLm true X xz_lc (xz_code y) s' ((xz_code y).drop (k + 1)) L (ov.toList ++ S1) M1 r h5).1 hcap
        obtain ⟨dw, hdw, hCt⟩ := hC a as M ov M1 ha0 ha2 hnmx hR1 hcap1
        subst hdw
        have hmono := hRm a as M (ov, M1) hR1
        have hmono2 := xz_Mo_blk hRm hLm true X xz_lc (xz_code y) s' ((xz_code y).drop (k + 1)) L (ov.toList ++ S1) M1 r h5
        have hvas : ∀ v ∈ as, xz_vv M.1.length v := fun v hv => hvS v (List.mem_append_left _ (List.mem_reverse.mpr hv))
        have hvs : ∀ v ∈ S1, xz_vv M.1.length v := fun v hv => hvS v (List.mem_append_right _ hv)
        have hF : ∀ q, va_A (xz_ws ad cA M) H.size q → A q := xz_free hD hS hA
        have hCt1 := hCt tys ad cA H.size hvas hW
        have hroom : (xz_rm dw (M1.1.length - M.1.length) (xz_slt M1 - xz_slt M)).frames + 1 ≤ R.frames ∧ 8 + (xz_ml a + 11) + (xz_rm dw (M1.1.length - M.1.length) (xz_slt M1 - xz_slt M)).locals ≤ R.locals := by
          show dw + 1 + 1 ≤ R.frames ∧ 8 + (xz_ml a + 11) + 64 * (dw + 1) ≤ R.locals
          omega
        have hpre : PreS s H (xz_Pc D tys ad cA M H.size as) (as.map (xz_V ad)) := ⟨xz_blind _ _ _ _ _ _ _, fun U hU hWm => ⟨rfl, by rw [hU], by rw [hU]; exact hP, va_K.moved hWm.alike hK, hD.weaken (fun _ _ _ _ => trivial), hE.call hS hF hWm hU (fun k' hk' => hag k' (Or.inr hk'))⟩⟩
        have hfit : cells + (M1.1.length - M.1.length) ≤ R.cells ∧ slots + (xz_slt M1 - xz_slt M) ≤ R.slots := by
          obtain ⟨e1, e2⟩ := hmono
          obtain ⟨e3, e4⟩ := hmono2
          dsimp only at e1 e2
          omega
        have hstk : (as.reverse ++ S1).map (xz_V ad) = (as.map (xz_V ad)).reverse ++ S1.map (xz_V ad) := by rw [List.map_append, List.map_reverse]
        have hrun : va_Run p l e R s m args below meth c H locs cells slots (M1.1.length - M.1.length) (xz_slt M1 - xz_slt M) (F0 m pc' ls ((as.reverse ++ S1).map (xz_V ad))) (S1.map (xz_V ad)) (xz_Qc D ad cA M H.size (ov, M1) (as.map (xz_V ad)).toArray) (va_A (xz_ws ad cA M) H.size) := by
          rcases hmw with hmw | hmw
          · have hmw1 := xz_pl_ok (f := fun (q : Nat × Nat × Nat) => .methodLink (xz_RN q.1) q.2.1 (xz_mn q.2.2)) xz_MWc (xz_mo y, z, a) (xz_cm hmw)
            exact va_runS ⟨hx, hb, hml, hown, hts⟩ hCt1 ⟨callB_of b hts (xz_goodwsy a ha0 ha2) rfl rfl rfl (hts _ hnw1) (hts _ hmw1) ⟨(xz_mhok a ha2).1, (xz_mhok a ha2).2, hpar⟩ hroom, hts _ hst1⟩ hpre rfl (by rw [List.length_map, hlen]) hl.1 hstk (lv_room (xz_cat_V hcat)) hdd hfit
          · have hmw1 := hE.1 (xz_mo y, z, a) (xz_cm hmw)
            exact va_runSN ⟨hx, hb, hml, hown, hts⟩ hCt1 ⟨va_cnB b hts (xz_goodwsy a ha0 ha2) rfl rfl rfl hmw1 (hts _ hnw1) ⟨(xz_mhok a ha2).1, (xz_mhok a ha2).2, hpar⟩ hroom, hts _ hst1, trivial⟩ hpre rfl (by rw [List.length_map, hlen]) hl.1 hstk (lv_room (xz_cat_V hcat)) hdd hfit
        refine xz_Wcall hrun hS hF (fun H1 locs1 tys1 ad1 cA1 k1 k2 k3 k4 k5 k6 k7 => ?_)
        exact after ov M1 S1 H1 locs1 tys1 ad1 cA1 _ hn hmono hvs k1 k2 k3 k4 k5 k6 k7 h5
      case invokevirtual z =>
        have hdd := dec (by simp)
        clear hd
        simp only [xz_oks, Bool.and_eq_true, beq_iff_eq, Nat.blt_eq, Nat.ble_eq, decide_eq_true_eq] at hok
        obtain ⟨⟨⟨⟨⟨⟨⟨⟨⟨⟨rfl, hn⟩, ha0⟩, ha2, hnmx⟩, hiw⟩, hsw⟩, hnw⟩, hmw⟩, hpar⟩, hmx⟩, hcl⟩ := hok
        have hnmx : a ≠ q_JD_max := by simpa using hnmx
        have hq : xz_args b S (fun as S => xz_pR S fun r1 S => xz_b (xz_cat S && xz_is M r1 e0) (xz_ret c0 (RR a (.ref r1 :: as) M) fun vs M => xz_blk RR Lp true X xz_lc (xz_code y) s' ((xz_code y).drop (k + 1)) L (vs ++ S) M)) = some r := h
        clear h
        obtain ⟨as, S0, hS0, hlen, hq1⟩ := xz_args_i hq
        obtain ⟨r1, S1, hS1, h3⟩ := xz_pR_i hq1
        clear hq hq1
        subst hS1
        subst hS0
        obtain ⟨hcat0, h4⟩ := xz_b_i h3
        obtain ⟨hcat, his⟩ := Bool.and_eq_true_iff.mp hcat0
        obtain ⟨ov, M1, hR1, h5⟩ := xz_ret_i h4
        have hiw1 := xz_pl_ok (f := fun y => .instanceMethod (xz_mn y)) xz_iwc a (xz_cm hiw)
        have hsw1 := xz_pl_ok (f := fun y => .selects (xz_mn y).cls (xz_mn y) (xz_mn y)) xz_swc a (xz_cm hsw)
        have hnw1 := xz_pl_ok (f := fun y => .initialized (xz_mn y).cls) xz_nwc a (xz_cm hnw)
        have hmw1 := xz_pl_ok (f := fun (q : Nat × Nat × Nat) => .methodLink (xz_RN q.1) q.2.1 (xz_mn q.2.2)) xz_MWc (xz_mo y, z, a) (xz_cm hmw)
        have hcap1 : M1.1.length ≤ 900 := Nat.le_trans (xz_Mo_blk hRm hLm true X xz_lc (xz_code y) s' ((xz_code y).drop (k + 1)) L (ov.toList ++ S1) M1 r h5).1 hcap
        obtain ⟨dw, hdw, hCt⟩ := hC a (.ref r1 :: as) M ov M1 ha0 ha2 hnmx hR1 hcap1
        subst hdw
        have hmono := hRm a (.ref r1 :: as) M (ov, M1) hR1
        have hmono2 := xz_Mo_blk hRm hLm true X xz_lc (xz_code y) s' ((xz_code y).drop (k + 1)) L (ov.toList ++ S1) M1 r h5
        have hvr : xz_vv M.1.length (.ref r1) := hvS _ (List.mem_append_right _ List.mem_cons_self)
        have hvas : ∀ v ∈ Value.ref r1 :: as, xz_vv M.1.length v := List.forall_mem_cons.mpr ⟨hvr, fun v hv => hvS v (List.mem_append_left _ (List.mem_reverse.mpr hv))⟩
        have hvs : ∀ v ∈ S1, xz_vv M.1.length v := fun v hv => hvS v (List.mem_append_right _ (List.mem_cons_of_mem _ hv))
        have hF : ∀ q, va_A (xz_ws ad cA M) H.size q → A q := xz_free hD hS hA
        have hCt1 := hCt tys ad cA H.size hvas hW
        have hroom : (xz_rm dw (M1.1.length - M.1.length) (xz_slt M1 - xz_slt M)).frames + 1 ≤ R.frames ∧ 8 + (xz_ml a + 11) + (xz_rm dw (M1.1.length - M.1.length) (xz_slt M1 - xz_slt M)).locals ≤ R.locals := by
          show dw + 1 + 1 ≤ R.frames ∧ 8 + (xz_ml a + 11) + 64 * (dw + 1) ≤ R.locals
          omega
        have hcell : ∃ cellB : Cell, H[ad r1]? = some cellB ∧ cellB.vm.isStatics = false ∧ s.vm.findClass (xz_mn a).cls = some cellB.cls := by
          have his : (bif e0 == 20 then Nat.ble 2000 r1 && Nat.blt r1 2009 else match M.1[r1]? with | some q => q.1 == e0 + 5 | none => false) = true := his
          cases he0 : (e0 == 20) with
          | true =>
            rw [he0] at hcl his
            have hcl : (xz_mn a).cls = "java/lang/String" := of_decide_eq_true hcl
            obtain ⟨i1, hi1, hri⟩ := xz_is_s his
            have e1 : ad r1 = ad0 (2000 + i1) := by
              rw [hri]
              exact hag _ (Or.inr (Nat.le_trans (by decide) (Nat.le_add_right 2000 i1)))
            rw [e1, hcl]
            exact vk_recv hE.2.2.1 (i := i1) hi1 hS
          | false =>
            rw [he0] at hcl his
            obtain ⟨g1, g2⟩ := Bool.and_eq_true_iff.mp hcl
            have g1 : e0 < 9 := Nat.le_of_ble_eq_true g1
            have g2 : (xz_mn a).cls = xz_RN e0 := of_decide_eq_true g2
            have his : (match M.1[r1]? with | some q => q.1 == e0 + 5 | none => false) = true := his
            cases hqr : M.1[r1]? with
            | none => rw [hqr] at his; cases his
            | some q =>
              rw [hqr] at his
              have hqa : q.1 = e0 + 5 := by simpa using his
              rw [g2]
              exact va_recv hK hP (xz_cl e0 g1) (q0 := r1) (by rw [xz_ws_get hqr, xz_ce_o hqa])
        have hpre : PreV s H (xz_mn a).cls (ad r1) (xz_Pc D tys ad cA M H.size (.ref r1 :: as)) (as.map (xz_V ad)) := ⟨xz_blind _ _ _ _ _ _ _, hcell, fun U hU hWm => ⟨rfl, by rw [hU], by rw [hU]; exact hP, va_K.moved hWm.alike hK, hD.weaken (fun _ _ _ _ => trivial), hE.call hS hF hWm hU (fun k' hk' => hag k' (Or.inr hk'))⟩⟩
        have hfit : cells + (M1.1.length - M.1.length) ≤ R.cells ∧ slots + (xz_slt M1 - xz_slt M) ≤ R.slots := by
          obtain ⟨e1, e2⟩ := hmono
          obtain ⟨e3, e4⟩ := hmono2
          dsimp only at e1 e2
          omega
        have hstk : (as.reverse ++ .ref r1 :: S1).map (xz_V ad) = (as.map (xz_V ad)).reverse ++ .ref (ad r1) :: S1.map (xz_V ad) := by rw [List.map_append, List.map_reverse]; rfl
        have hrun : va_Run p l e R s m args below meth c H locs cells slots (M1.1.length - M.1.length) (xz_slt M1 - xz_slt M) (F0 m pc' ls ((as.reverse ++ .ref r1 :: S1).map (xz_V ad))) (S1.map (xz_V ad)) (xz_Qc D ad cA M H.size (ov, M1) (Value.ref (ad r1) :: as.map (xz_V ad)).toArray) (va_A (xz_ws ad cA M) H.size) :=
          va_runV ⟨hx, hb, hml, hown, hts⟩ hCt1 ⟨callB_of b hts (xz_goodwsy a ha0 ha2) rfl rfl rfl (hts _ hnw1) (hts _ hmw1) ⟨(xz_mhok a ha2).1, (xz_mhok a ha2).2, hpar⟩ hroom, hts _ hiw1, hts _ hsw1⟩ hpre rfl (by rw [List.length_map, hlen]) hl.1 hstk (lv_room (xz_cat_V hcat)) hdd hfit
        refine xz_Wcall hrun hS hF (fun H1 locs1 tys1 ad1 cA1 k1 k2 k3 k4 k5 k6 k7 => ?_)
        exact after ov M1 S1 H1 locs1 tys1 ad1 cA1 _ hn hmono hvs k1 k2 k3 k4 k5 k6 k7 h5
      case invokespecial z =>
        have hdd := dec (by simp)
        clear hd
        simp only [xz_oks, Bool.and_eq_true, beq_iff_eq] at hok
        obtain ⟨⟨rfl, hn⟩, hm⟩ := hok
        by_cases h13 : c0 = 13
        · subst h13
          have hm : (Nat.blt (xz_mo y) 9 && z == (bif xz_mo y == 4 then 1 else 3)) = true := hm
          obtain ⟨g1, g2⟩ := Bool.and_eq_true_iff.mp hm
          have g1 : xz_mo y < 9 := Nat.le_of_ble_eq_true g1
          have g2 : z = (bif xz_mo y == 4 then 1 else 3) := by simpa using g2
          obtain ⟨r1, S1, hS1, h1⟩ := xz_pR_i h
          clear h
          subst hS1
          obtain ⟨hcat, h2⟩ := xz_b_i h1
          have hlk : (Cond.methodLink (xz_RN (xz_mo y)) z Lib.objectInit).before args s = true := by
            rw [g2]
            have : ∀ o, o < 9 → (Cond.methodLink (xz_RN o) (bif o == 4 then 1 else 3) Lib.objectInit) ∈ xz_TB := by
              intro o ho
              match o, ho with
              | 0, _ => exact xz_wOi0
              | 1, _ => exact xz_wOi1
              | 2, _ => exact xz_wOi2
              | 3, _ => exact xz_wOi3
              | 4, _ => exact xz_wOi4
              | 5, _ => exact xz_wOi5
              | 6, _ => exact xz_wOi6
              | 7, _ => exact xz_wOi7
              | 8, _ => exact xz_wOi8
            exact hts _ (this _ g1)
          have hcs : ((S1.map (xz_V ad)).map fun v => v.category).sum ≤ 8 := xz_cat_V hcat
          have hcs2 := lv_room (m := m) (pc := pc') (ls := ls) (rest := (S1.map (xz_V ad))) hcs
          exact W.objInit hx hb hown hlk (hts _ xz_wOn) (hts _ xz_wOc) (g := F0 m pc' ls (.ref (ad r1) :: S1.map (xz_V ad))) rfl (hl.1.trans hml.symm) rfl hdd (by omega) (by
            have e1 : (F0 m pc' ls (.ref (ad r1) :: S1.map (xz_V ad))).monitorRoom = (F0 m pc' ls (S1.map (xz_V ad))).monitorRoom := rfl
            rw [e1]
            omega) (nx _ _ S1 hn (xz_v1 hvS) h2)
        have hm : (Nat.blt 0 a && (Nat.blt a 200 && a != q_JD_max) && (xz_iwp.map (·.1)).contains a && (xz_nwp.map (·.1)).contains a && xz_MWl.contains (xz_mo y, z, a) && decide ((parseMethodDescriptor (xz_mn a).desc).map (fun d => d.parameters.length) = some b) && Nat.ble (xz_ml a) 40 && decide ((xz_mn a).name = "<init>") && xz_rk (xz_mr a) == 3 && Nat.blt e0 9) = true := by
          split at hm
          · exact absurd rfl h13
          · exact hm
        have hq : xz_args b S (fun as S => xz_pR S fun r1 S => xz_b (xz_cat S && xz_is M r1 e0) (xz_ret c0 (RR a (.ref r1 :: as) M) fun vs M => xz_blk RR Lp true X xz_lc (xz_code y) s' ((xz_code y).drop (k + 1)) L (vs ++ S) M)) = some r := by
          unfold xz_blk at h
          dsimp only at h
          split at h
          · exact absurd rfl h13
          · exact h
        clear h
        simp only [Bool.and_eq_true, beq_iff_eq, Nat.blt_eq, Nat.ble_eq, decide_eq_true_eq] at hm
        obtain ⟨⟨⟨⟨⟨⟨⟨⟨⟨ha0, ha2, hnmx⟩, hiw⟩, hnw⟩, hmw⟩, hpar⟩, hmx⟩, hni⟩, hrk⟩, he9⟩ := hm
        have hnmx : a ≠ q_JD_max := by simpa using hnmx
        obtain ⟨as, S0, hS0, hlen, hq1⟩ := xz_args_i hq
        obtain ⟨r1, S1, hS1, h3⟩ := xz_pR_i hq1
        clear hq hq1
        subst hS1
        subst hS0
        obtain ⟨hcat0, h4⟩ := xz_b_i h3
        obtain ⟨hcat, his⟩ := Bool.and_eq_true_iff.mp hcat0
        obtain ⟨ov, M1, hR1, h5⟩ := xz_ret_i h4
        have hiw1 := xz_pl_ok (f := fun y => .instanceMethod (xz_mn y)) xz_iwc a (xz_cm hiw)
        have hnw1 := xz_pl_ok (f := fun y => .initialized (xz_mn y).cls) xz_nwc a (xz_cm hnw)
        have hmw1 := xz_pl_ok (f := fun (q : Nat × Nat × Nat) => .methodLink (xz_RN q.1) q.2.1 (xz_mn q.2.2)) xz_MWc (xz_mo y, z, a) (xz_cm hmw)
        have hret : xz_mr a = none := xz_rk3 hrk
        have hcap1 : M1.1.length ≤ 900 := Nat.le_trans (xz_Mo_blk hRm hLm true X xz_lc (xz_code y) s' ((xz_code y).drop (k + 1)) L (ov.toList ++ S1) M1 r h5).1 hcap
        obtain ⟨dw, hdw, hCt⟩ := hC a (.ref r1 :: as) M ov M1 ha0 ha2 hnmx hR1 hcap1
        subst hdw
        have hmono := hRm a (.ref r1 :: as) M (ov, M1) hR1
        have hmono2 := xz_Mo_blk hRm hLm true X xz_lc (xz_code y) s' ((xz_code y).drop (k + 1)) L (ov.toList ++ S1) M1 r h5
        have hvr : xz_vv M.1.length (.ref r1) := hvS _ (List.mem_append_right _ List.mem_cons_self)
        have hvas : ∀ v ∈ Value.ref r1 :: as, xz_vv M.1.length v := List.forall_mem_cons.mpr ⟨hvr, fun v hv => hvS v (List.mem_append_left _ (List.mem_reverse.mpr hv))⟩
        have hvs : ∀ v ∈ S1, xz_vv M.1.length v := fun v hv => hvS v (List.mem_append_right _ (List.mem_cons_of_mem _ hv))
        have hF : ∀ q, va_A (xz_ws ad cA M) H.size q → A q := xz_free hD hS hA
        have hCt1 := hCt tys ad cA H.size hvas hW
        have hroom : (xz_rm dw (M1.1.length - M.1.length) (xz_slt M1 - xz_slt M)).frames + 1 ≤ R.frames ∧ 8 + (xz_ml a + 11) + (xz_rm dw (M1.1.length - M.1.length) (xz_slt M1 - xz_slt M)).locals ≤ R.locals := by
          show dw + 1 + 1 ≤ R.frames ∧ 8 + (xz_ml a + 11) + 64 * (dw + 1) ≤ R.locals
          omega
        have hpre : PreS s H (xz_Pc D tys ad cA M H.size (.ref r1 :: as)) (.ref (ad r1) :: as.map (xz_V ad)) := ⟨xz_blind _ _ _ _ _ _ _, fun U hU hWm => ⟨rfl, by rw [hU], by rw [hU]; exact hP, va_K.moved hWm.alike hK, hD.weaken (fun _ _ _ _ => trivial), hE.call hS hF hWm hU (fun k' hk' => hag k' (Or.inr hk'))⟩⟩
        have hfit : cells + (M1.1.length - M.1.length) ≤ R.cells ∧ slots + (xz_slt M1 - xz_slt M) ≤ R.slots := by
          obtain ⟨e1, e2⟩ := hmono
          obtain ⟨e3, e4⟩ := hmono2
          dsimp only at e1 e2
          omega
        have hstk : (as.reverse ++ .ref r1 :: S1).map (xz_V ad) = (as.map (xz_V ad)).reverse ++ .ref (ad r1) :: S1.map (xz_V ad) := by rw [List.map_append, List.map_reverse]; rfl
        have hcb := callB_of (own := xz_RN (xz_mo y)) (index := z) (R := R) b hts (xz_goodwsy a ha0 ha2) rfl (rm := xz_rm dw (M1.1.length - M.1.length) (xz_slt M1 - xz_slt M)) rfl rfl (hts _ hnw1) (hts _ hmw1) ⟨(xz_mhok a ha2).1, (xz_mhok a ha2).2, hpar⟩ hroom
        rw [hret] at hcb
        have hws : xz_wsy a = .code (xz_mn a) (xz_mb a) (xz_ml a) none :: xz_TB := by rw [← hret]
        rw [hws] at hCt1 hcb
        have hrun : va_Run p l e R s m args below meth c H locs cells slots (M1.1.length - M.1.length) (xz_slt M1 - xz_slt M) (F0 m pc' ls ((as.reverse ++ .ref r1 :: S1).map (xz_V ad))) (S1.map (xz_V ad)) (xz_Qc D ad cA M H.size (ov, M1) (Value.ref (ad r1) :: as.map (xz_V ad)).toArray) (va_A (xz_ws ad cA M) H.size) :=
          va_runI ⟨hx, hb, hml, hown, hts⟩ hCt1 ⟨hcb, hni, hts _ hiw1⟩ hpre rfl (by rw [List.length_map, hlen]) hl.1 hstk (lv_room (xz_cat_V hcat)) hdd hfit
        refine xz_Wcall hrun hS hF (fun H1 locs1 tys1 ad1 cA1 k1 k2 k3 k4 k5 k6 k7 => ?_)
        exact after ov M1 S1 H1 locs1 tys1 ad1 cA1 _ hn hmono hvs k1 k2 k3 k4 k5 k6 k7 h5
      all_goals (cases h)
end SND
