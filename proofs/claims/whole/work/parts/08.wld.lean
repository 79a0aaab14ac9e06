/-! THE LITTLE MACHINE'S HEAP AS A WORLD OF CELLS: place k lies at address ad k; references from 1000 on: the script, texts, their bytes; a retAddr stands for the one static of which only 'a reference or null' is said -/
def xz_V (ad : Nat → Nat) (v : Value) : Value := match v with
  | .ref q => .ref (ad q)
  | .retAddr _ => match ad 2200 with
    | 0 => .null
    | t + 1 => .ref t
  | v => v
def xz_VL (ad : Nat → Nat) (L : xz_L) : List (Nat × Value) := L.map fun q => (q.1, xz_V ad q.2)
theorem xz_V_cat (ad : Nat → Nat) (v : Value) : (xz_V ad v).category = v.category := by
  cases v with
  | retAddr _ =>
    show (match ad 2200 with | 0 => Value.null | t + 1 => .ref t).category = 1
    split <;> rfl
  | _ => rfl
def xz_fv (ad : Nat → Nat) (I : Nat → Int32) (J : Nat → Int64) (rs : List (Option Nat)) (j k : Nat) : Value := match k with
  | 1 => .long (J j)
  | 2 => va_rf ((rs.getD j none).map ad)
  | _ => .int (I j)
def xz_fs (ad : Nat → Nat) (I : Nat → Int32) (J : Nat → Int64) (rs : List (Option Nat)) (c : Nat) : List Value := (xz_fk c).mapIdx fun j k => xz_fv ad I J rs j k
def xz_ce (ad : Nat → Nat) (cA : Nat → ClassId) (M : xz_M) (k : Nat) (q : xz_Sh) : va_E := match q.1 with
  | 0 => .inl (cA k, q.2.1, .inl (M.2.1 k))
  | 1 => .inl (cA k, q.2.1, .inl (M.2.1 k))
  | 2 => .inl (cA k, q.2.1, .inr (.inl (M.2.2 k)))
  | 3 => .inl (cA k, q.2.1, .inr (.inr (.inr (.inr fun i => (q.2.2.getD i none).map ad))))
  | 4 => .inl (cA k, q.2.1, .inr (.inr (.inr (.inr fun i => (q.2.2.getD i none).map ad))))
  | c + 5 => .inr (c, xz_fs ad (M.2.1 k) (M.2.2 k) q.2.2 c)
def xz_ws (ad : Nat → Nat) (cA : Nat → ClassId) (M : xz_M) : va_W := M.1.mapIdx fun k q => (ad k, xz_ce ad cA M k q)
theorem xz_ws_get {ad : Nat → Nat} {cA : Nat → ClassId} {M : xz_M} {k : Nat} {q : xz_Sh} (h : M.1[k]? = some q) : (xz_ws ad cA M)[k]? = some (ad k, xz_ce ad cA M k q) := by
  simp [xz_ws, List.getElem?_mapIdx, h]
theorem xz_ws_len (ad : Nat → Nat) (cA : Nat → ClassId) (M : xz_M) : (xz_ws ad cA M).length = M.1.length := by simp [xz_ws]
theorem xz_ws_upd {ad : Nat → Nat} {cA : Nat → ClassId} {M M' : xz_M} {r : Nat} {q q' : xz_Sh} (h1 : M'.1 = M.1.set r q') (hI : ∀ k, k ≠ r → M'.2.1 k = M.2.1 k) (hJ : ∀ k, k ≠ r → M'.2.2 k = M.2.2 k) (hq : M.1[r]? = some q) : xz_ws ad cA M' = (xz_ws ad cA M).set r (ad r, xz_ce ad cA M' r q') := by
  have hl : r < M.1.length := (List.getElem?_eq_some_iff.mp hq).1
  apply List.ext_getElem?
  intro i
  by_cases hi : i = r
  · subst hi
    rw [List.getElem?_set_self (by rw [xz_ws_len]; exact hl)]
    exact xz_ws_get (by rw [h1]; exact List.getElem?_set_self hl)
  · rw [List.getElem?_set_ne (Ne.symm hi)]
    simp only [xz_ws, List.getElem?_mapIdx, h1, List.getElem?_set_ne (Ne.symm hi)]
    cases hx : M.1[i]? with
    | none => rfl
    | some x =>
      simp only [Option.map_some, xz_ce, hI i hi, hJ i hi]
theorem xz_up_ne {α : Type} {f : Nat → Nat → α} {r k : Nat} {v : α} {i : Nat} (h : i ≠ r) : xz_up f r k v i = f i := by
  funext j
  have : (i == r) = false := by simpa using h
  simp [xz_up, this]
theorem xz_up_eq {α : Type} {f : Nat → Nat → α} {r k : Nat} {v : α} : xz_up f r k v r = fun j => if j = k then v else f r j := by
  funext j
  by_cases h : j = k
  · subst h; simp [xz_up]
  · have : (j == k) = false := by simpa using h
    simp [xz_up, this, h]
theorem xz_row_ne {α : Type} {f : Nat → Nat → α} {r : Nat} {g : Nat → α} {i : Nat} (h : i ≠ r) : xz_row f r g i = f i := by
  have : (i == r) = false := by simpa using h
  simp [xz_row, this]
theorem xz_row_eq {α : Type} {f : Nat → Nat → α} {r : Nat} {g : Nat → α} : xz_row f r g r = g := by simp [xz_row]
theorem xz_set_self {α : Type} {l : List α} {r : Nat} {q : α} (h : l[r]? = some q) : l.set r q = l := by
  apply List.ext_getElem?
  intro i
  by_cases hi : i = r
  · subst hi
    rw [List.getElem?_set_self (List.getElem?_eq_some_iff.mp h).1, h]
  · rw [List.getElem?_set_ne (Ne.symm hi)]
theorem xz_fs_get {ad : Nat → Nat} {I : Nat → Int32} {J : Nat → Int64} {rs : List (Option Nat)} {c b k : Nat} (h : (xz_fk c)[b]? = some k) : (xz_fs ad I J rs c)[b]? = some (xz_fv ad I J rs b k) := by
  simp [xz_fs, List.getElem?_mapIdx, h]
theorem xz_fs_len (ad : Nat → Nat) (I : Nat → Int32) (J : Nat → Int64) (rs : List (Option Nat)) (c : Nat) : (xz_fs ad I J rs c).length = (xz_fk c).length := by simp [xz_fs]
theorem xz_fs_set {ad : Nat → Nat} {I I' : Nat → Int32} {J J' : Nat → Int64} {rs rs' : List (Option Nat)} {c b k : Nat} (h : (xz_fk c)[b]? = some k) (hI : ∀ j, j ≠ b → I' j = I j) (hJ : ∀ j, j ≠ b → J' j = J j) (hr : ∀ j, j ≠ b → rs'.getD j none = rs.getD j none) : xz_fs ad I' J' rs' c = (xz_fs ad I J rs c).set b (xz_fv ad I' J' rs' b k) := by
  have hl : b < (xz_fk c).length := (List.getElem?_eq_some_iff.mp h).1
  apply List.ext_getElem?
  intro i
  by_cases hi : i = b
  · subst hi
    rw [List.getElem?_set_self (by rw [xz_fs_len]; exact hl), xz_fs_get h]
  · rw [List.getElem?_set_ne (Ne.symm hi)]
    simp only [xz_fs, List.getElem?_mapIdx]
    cases hx : (xz_fk c)[i]? with
    | none => rfl
    | some x =>
      simp only [Option.map_some, xz_fv, hI i hi, hJ i hi, hr i hi]
/-- the array's component type -/
def xz_aT (k : Nat) : FieldType := match k with
  | 0 => .int
  | 1 => .boolean
  | 2 => .long
  | 3 => .array .int
  | _ => .array .long
def xz_Wf (cA : Nat → ClassId) (tys : List (ClassId × FieldType)) (M : xz_M) : Prop :=
  (∀ (k : Nat) (q : xz_Sh), M.1[k]? = some q → q.1 < 5 → ∃ t0 : Nat, tys[t0]? = some (cA k, xz_aT q.1)) ∧ (∀ (k : Nat) (q : xz_Sh) (i : Nat), M.1[k]? = some q → q.1 = 1 → M.2.1 k i &&& 1 = M.2.1 k i) ∧ (∀ (k : Nat) (q : xz_Sh), M.1[k]? = some q → (∀ r : Nat, some r ∈ q.2.2 → r < M.1.length) ∧ ∀ a, q.1 = a + 5 → q.2.2.length = xz_NC a) ∧ M.1.length ≤ 900
/-- a value whose reference is a place, or one of the fixed ones -/
def xz_vv (n : Nat) (v : Value) : Prop := match v with
  | .ref q => q < n ∨ 1000 ≤ q
  | _ => True
theorem xz_vv_mono {n n' : Nat} (h : n ≤ n') {v : Value} (hv : xz_vv n v) : xz_vv n' v := by
  cases v with
  | ref q => exact hv.elim (fun a => Or.inl (Nat.lt_of_lt_of_le a h)) Or.inr
  | _ => trivial
theorem xz_V_congr {ad ad' : Nat → Nat} {n : Nat} (h : ∀ k, k < n ∨ 1000 ≤ k → ad' k = ad k) {v : Value} (hv : xz_vv n v) : xz_V ad' v = xz_V ad v := by
  cases v with
  | ref q => exact congrArg Value.ref (h q hv)
  | retAddr _ => show (match ad' 2200 with | 0 => Value.null | t + 1 => .ref t) = (match ad 2200 with | 0 => Value.null | t + 1 => .ref t); rw [h 2200 (Or.inr (by omega))]
  | _ => rfl
theorem xz_VS_congr {ad ad' : Nat → Nat} {n : Nat} (h : ∀ k, k < n ∨ 1000 ≤ k → ad' k = ad k) {S : List Value} (hv : ∀ v ∈ S, xz_vv n v) : S.map (xz_V ad') = S.map (xz_V ad) := List.map_congr_left fun v hm => xz_V_congr h (hv v hm)
theorem xz_VL_congr {ad ad' : Nat → Nat} {n : Nat} (h : ∀ k, k < n ∨ 1000 ≤ k → ad' k = ad k) {L : xz_L} (hv : ∀ q ∈ L, xz_vv n q.2) : xz_VL ad' L = xz_VL ad L := List.map_congr_left fun q hm => by
  show (q.1, xz_V ad' q.2) = (q.1, xz_V ad q.2)
  rw [xz_V_congr h (hv q hm)]
/-- the cells' addresses may be told anew where no cell is yet -/
theorem xz_ws_congr {ad ad' : Nat → Nat} {cA cA' : Nat → ClassId} {M : xz_M} (h : ∀ k, k < M.1.length ∨ 1000 ≤ k → ad' k = ad k) (hc : ∀ k, k < M.1.length → cA' k = cA k) (hr : ∀ (k : Nat) (q : xz_Sh), M.1[k]? = some q → ∀ r : Nat, some r ∈ q.2.2 → r < M.1.length) : xz_ws ad' cA' M = xz_ws ad cA M := by
  apply List.ext_getElem?
  intro i
  simp only [xz_ws, List.getElem?_mapIdx]
  cases hx : M.1[i]? with
  | none => rfl
  | some q =>
    have hl : i < M.1.length := (List.getElem?_eq_some_iff.mp hx).1
    have key : ∀ j, (q.2.2.getD j none).map ad' = (q.2.2.getD j none).map ad := by
      intro j
      cases hj : q.2.2.getD j none with
      | none => rfl
      | some r =>
        have hm : some r ∈ q.2.2 := by
          rw [List.getD_eq_getElem?_getD] at hj
          cases hz : q.2.2[j]? with
          | none => rw [hz] at hj; cases hj
          | some z => rw [hz] at hj; cases hj; exact List.mem_of_getElem? hz
        exact congrArg some (h r (Or.inl (hr i q hx r hm)))
    simp only [Option.map_some, xz_ce, xz_fs, xz_fv, key, h i (Or.inl hl), hc i hl]
theorem xz_get_mem : ∀ {L : xz_L} {i : Nat} {v : Value}, xz_get L i = some v → (i, v) ∈ L
  | [], _, _, h => by cases h
  | (j, w) :: L, i, v, h => by
    unfold xz_get at h
    cases hc : (j == i) with
    | true => rw [hc] at h; cases h; rw [show j = i by simpa using hc]; exact List.mem_cons_self
    | false => rw [hc] at h; exact List.mem_cons_of_mem _ (xz_get_mem h)
theorem xz_get_l {ls : Array Slot} {nL : Nat} {ad : Nat → Nat} {L : xz_L} {i : Nat} {v : Value} (h : lv_has ls nL (xz_VL ad L)) (hg : xz_get L i = some v) : ls[i]? = some (.val (xz_V ad v)) :=
  h.2.2 (i, xz_V ad v) (List.mem_map.mpr ⟨(i, v), xz_get_mem hg, rfl⟩)
theorem xz_filter_VL {ad : Nat → Nat} (f : Nat × Value → Bool) (hf : ∀ q : Nat × Value, f (q.1, xz_V ad q.2) = f q) : ∀ L : xz_L, (xz_VL ad L).filter f = xz_VL ad (L.filter f)
  | [] => rfl
  | q :: L => by
    show List.filter f ((q.1, xz_V ad q.2) :: xz_VL ad L) = xz_VL ad (List.filter f (q :: L))
    rw [List.filter_cons, List.filter_cons, hf q, xz_filter_VL f hf L]
    split <;> rfl
theorem xz_VL_s1 {ad : Nat → Nat} {L : xz_L} {i : Nat} {v w : Value} (hw : xz_V ad v = w) : (i, w) :: (xz_VL ad L).filter (fun q => !(q.1 == i) && !(q.1 + 1 == i && q.2.category == 2)) = xz_VL ad (xz_s1 L i v) := by
  rw [xz_filter_VL _ (fun q => by rw [xz_V_cat]), ← hw]
  rfl
theorem xz_VL_s2 {ad : Nat → Nat} {L : xz_L} {i : Nat} {v w : Value} (hw : xz_V ad v = w) : (i, w) :: (xz_VL ad L).filter (fun q => !(q.1 == i) && (!(q.1 == i + 1) && !(q.1 + 1 == i && q.2.category == 2))) = xz_VL ad (xz_s2 L i v) := by
  rw [xz_filter_VL _ (fun q => by rw [xz_V_cat]), ← hw]
  rfl
theorem xz_vL_s1 {n : Nat} {L : xz_L} {i : Nat} {v : Value} (h : ∀ q ∈ L, xz_vv n q.2) (hv : xz_vv n v) : ∀ q ∈ xz_s1 L i v, xz_vv n q.2 := by
  intro q hq
  rcases List.mem_cons.mp hq with rfl | hq
  · exact hv
  · exact h q (List.mem_filter.mp hq).1
theorem xz_vL_s2 {n : Nat} {L : xz_L} {i : Nat} {v : Value} (h : ∀ q ∈ L, xz_vv n q.2) (hv : xz_vv n v) : ∀ q ∈ xz_s2 L i v, xz_vv n q.2 := by
  intro q hq
  rcases List.mem_cons.mp hq with rfl | hq
  · exact hv
  · exact h q (List.mem_filter.mp hq).1
theorem xz_vL_get {n : Nat} {L : xz_L} {i : Nat} {v : Value} (h : ∀ q ∈ L, xz_vv n q.2) (hg : xz_get L i = some v) : xz_vv n v := h _ (xz_get_mem hg)
theorem xz_pick_mem {L : xz_L} {ts : List Nat} {q : Nat × Value} (h : q ∈ xz_pick L ts) : q ∈ L := by
  obtain ⟨i, -, hi⟩ := List.mem_filterMap.mp h
  cases hg : xz_get L i with
  | none => rw [hg] at hi; cases hi
  | some v => rw [hg] at hi; cases hi; exact xz_get_mem hg
theorem xz_pick_has {ls : Array Slot} {nL : Nat} {ad : Nat → Nat} {L : xz_L} (ts : List Nat) (h : lv_has ls nL (xz_VL ad L)) : lv_has ls nL (xz_VL ad (xz_pick L ts)) := by
  refine ⟨h.1, h.2.1, fun q hq => ?_⟩
  obtain ⟨z, hz, rfl⟩ := List.mem_map.mp hq
  exact h.2.2 _ (List.mem_map.mpr ⟨z, xz_pick_mem hz, rfl⟩)
theorem xz_v1 {n : Nat} {v : Value} {S : List Value} (h : ∀ w ∈ v :: S, xz_vv n w) : ∀ w ∈ S, xz_vv n w := fun w hw => h w (List.mem_cons_of_mem _ hw)
theorem xz_vc {n : Nat} {v : Value} {S : List Value} (hv : xz_vv n v) (h : ∀ w ∈ S, xz_vv n w) : ∀ w ∈ v :: S, xz_vv n w := List.forall_mem_cons.mpr ⟨hv, h⟩
/-! popping, backwards -/
theorem xz_pI_i {S : List Value} {k : Int32 → List Value → xz_Res} {r : Option Value × xz_M} (h : xz_pI S k = some r) : ∃ x S', S = .int x :: S' ∧ k x S' = some r := by
  unfold xz_pI at h; split at h
  · exact ⟨_, _, rfl, h⟩
  · cases h
theorem xz_pJ_i {S : List Value} {k : Int64 → List Value → xz_Res} {r : Option Value × xz_M} (h : xz_pJ S k = some r) : ∃ x S', S = .long x :: S' ∧ k x S' = some r := by
  unfold xz_pJ at h; split at h
  · exact ⟨_, _, rfl, h⟩
  · cases h
theorem xz_pR_i {S : List Value} {k : Nat → List Value → xz_Res} {r : Option Value × xz_M} (h : xz_pR S k = some r) : ∃ x S', S = .ref x :: S' ∧ k x S' = some r := by
  unfold xz_pR at h; split at h
  · exact ⟨_, _, rfl, h⟩
  · cases h
theorem xz_p1_i {S : List Value} {k : Value → List Value → xz_Res} {r : Option Value × xz_M} (h : xz_p1 S k = some r) : ∃ v S', S = v :: S' ∧ ((∃ x, v = .int x) ∨ ∃ x, v = .ref x) ∧ k v S' = some r := by
  unfold xz_p1 at h; split at h
  · exact ⟨_, _, rfl, Or.inl ⟨_, rfl⟩, h⟩
  · exact ⟨_, _, rfl, Or.inr ⟨_, rfl⟩, h⟩
  · cases h
theorem xz_lI_i {L : xz_L} {i : Nat} {k : Int32 → xz_Res} {r : Option Value × xz_M} (h : xz_lI L i k = some r) : ∃ x, xz_get L i = some (.int x) ∧ k x = some r := by
  unfold xz_lI at h; split at h
  · rename_i hx; exact ⟨_, hx, h⟩
  · cases h
theorem xz_lJ_i {L : xz_L} {i : Nat} {k : Int64 → xz_Res} {r : Option Value × xz_M} (h : xz_lJ L i k = some r) : ∃ x, xz_get L i = some (.long x) ∧ k x = some r := by
  unfold xz_lJ at h; split at h
  · rename_i hx; exact ⟨_, hx, h⟩
  · cases h
theorem xz_lR_i {L : xz_L} {i : Nat} {k : Nat → xz_Res} {r : Option Value × xz_M} (h : xz_lR L i k = some r) : ∃ x, xz_get L i = some (.ref x) ∧ k x = some r := by
  unfold xz_lR at h; split at h
  · rename_i hx; exact ⟨_, hx, h⟩
  · cases h
theorem xz_o_i {α : Type} {o : Option α} {k : α → xz_Res} {r : Option Value × xz_M} (h : xz_o o k = some r) : ∃ x, o = some x ∧ k x = some r := by
  unfold xz_o at h; split at h
  · exact ⟨_, rfl, h⟩
  · cases h
theorem xz_b_i {c : Bool} {k : xz_Res} {r : Option Value × xz_M} (h : xz_b c k = some r) : c = true ∧ k = some r := by
  unfold xz_b at h; split at h
  · exact ⟨rfl, h⟩
  · cases h
theorem xz_args_i {b : Nat} {S : List Value} {k : List Value → List Value → xz_Res} {r : Option Value × xz_M} (h : xz_args b S k = some r) : ∃ as S', S = as.reverse ++ S' ∧ as.length = b ∧ k as S' = some r := by
  unfold xz_args at h
  cases hc : Nat.ble b S.length with
  | true =>
    rw [hc] at h
    refine ⟨(S.take b).reverse, S.drop b, by simp, ?_, h⟩
    simp only [Nat.ble_eq] at hc
    simp [hc]
  | false => rw [hc] at h; cases h
theorem xz_sw_i {d : Nat} {go : Nat → xz_Res} {r : Option Value × xz_M} : ∀ (ts : List Nat) (x lo : Int32), xz_sw x lo d go ts = some r → (∃ (i t : Nat), ts[i]? = some t ∧ x = lo + Int32.ofNat i ∧ go t = some r) ∨ (go d = some r ∧ ∀ i, i < ts.length → x ≠ lo + Int32.ofNat i)
  | [], x, lo, h => Or.inr ⟨h, fun i hi => absurd hi (Nat.not_lt_zero i)⟩
  | t :: ts, x, lo, h => by
    unfold xz_sw at h
    split at h
    · rename_i hx
      exact Or.inl ⟨0, t, rfl, by rw [hx, show Int32.ofNat 0 = 0 from rfl, Int32.add_zero], h⟩
    · rename_i hx
      have e : ∀ i : Nat, lo + 1 + Int32.ofNat i = lo + Int32.ofNat (i + 1) := fun i => by
        rw [Int32.ofNat_add, Int32.add_assoc, Int32.add_comm 1 (Int32.ofNat i)]
        rfl
      rcases xz_sw_i ts x (lo + 1) h with ⟨i, t', h1, h2, h3⟩ | ⟨h1, h2⟩
      · exact Or.inl ⟨i + 1, t', by rw [List.getElem?_cons_succ]; exact h1, by rw [h2, e], h3⟩
      · refine Or.inr ⟨h1, fun i hi => ?_⟩
        cases i with
        | zero => rw [show Int32.ofNat 0 = 0 from rfl, Int32.add_zero]; exact hx
        | succ i => rw [← e]; exact h2 i (by simpa using hi)
