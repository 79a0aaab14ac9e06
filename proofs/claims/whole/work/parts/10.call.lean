/-! CALLS: a method's contract in the little machine's words; what a caller gets from it -/
theorem xz_mhok : ∀ w, w < 200 → (xz_mn w).cls ≠ "java/lang/invoke/MethodHandle" ∧ (xz_mn w).cls ≠ "java/lang/invoke/VarHandle" := by decide +kernel
def xz_slen : List Nat := xz_str.map List.length
def xz_sbyt : List (List Int32) := xz_str.map fun l => l.map Int32.ofNat
/-- what stands outside the world, and never changes: links between nest mates, texts, two statics -/
def xz_En (ad : Nat → Nat) (A : Nat → Prop) (U : State) (H : Heap) : Prop :=
  (∀ q ∈ xz_MXp.map (·.1), va_Nw (.methodLinkNest (xz_RN q.1) q.2.1 (xz_mn q.2.2) "HandRelay") U) ∧
  (∀ q ∈ xz_SWp.map (·.1), vk_R (xz_RN q.1) q.2.1 (xz_txs.getD q.2.2 "") (ad (2000 + q.2.2)) U) ∧
  vk_S 9 xz_slen xz_sbyt (fun i => ad (2000 + i)) (fun i => ad (2100 + i)) A U H ∧
  va_Z RJ0 "COMPACT_STRINGS" "Z" (.int 1) A U H ∧ va_Z RJ3 "SIOOBE_FORMATTER" "Ljava/util/function/BiFunction;" (xz_V ad (.retAddr 0)) A U H ∧ va_AOA .int U ∧ va_AOA .long U
theorem xz_En.call {ad ad' : Nat → Nat} {A A' : Nat → Prop} {s U : State} {H : Heap} {locs : List Loc} (h : xz_En ad A s s.heap) (hS : va_S A s.heap H locs) (hAA : ∀ q, A' q → A q) (hW : s.WarmedH U.vm) (hU : U.heap = H) (hag : ∀ k, 1000 ≤ k → ad' k = ad k) : xz_En ad' A' U U.heap := by
  obtain ⟨h1, h2, h3, h4, h5, h6, h7⟩ := h
  have e1 : (fun i => ad' (2000 + i)) = fun i => ad (2000 + i) := funext fun i => hag _ (by omega)
  have e2 : (fun i => ad' (2100 + i)) = fun i => ad (2100 + i) := funext fun i => hag _ (by omega)
  have e3 : xz_V ad' (.retAddr 0) = xz_V ad (.retAddr 0) := xz_V_congr (n := 0) (fun k hk => hk.elim (fun z => absurd z (Nat.not_lt_zero k)) (hag k)) trivial
  refine ⟨fun q hq => va_Nw.warmM hW (h1 q hq), fun q hq => by rw [hag _ (by omega)]; exact vk_R.warm hW (h2 q hq), ?_, ?_, ?_, h6.moved hW.alike, h7.moved hW.alike⟩
  · rw [e1, e2, hU]; exact vk_S.moved hW.alike (vk_S.narrow (vk_S.kept h3 hS.2.1) hAA)
  · rw [hU]; exact va_Z.moved hW.alike (va_Z.narrow (va_Z.kept h4 hS.2.1) hAA)
  · rw [e3, hU]; exact va_Z.moved hW.alike (va_Z.narrow (va_Z.kept h5 hS.2.1) hAA)
theorem xz_En.calling {ad : Nat → Nat} {A : Nat → Prop} {U : State} {g : JFrame} {mk : MethodId} {a : Array Value} (h : xz_En ad A U U.heap) : xz_En ad A (U.calling g mk a) (U.calling g mk a).heap := by
  obtain ⟨h1, h2, h3, h4, h5, h6, h7⟩ := h
  exact ⟨fun q hq => va_Nw.same rfl rfl (h1 q hq), fun q hq => vk_R.same rfl (h2 q hq), vk_S.moved (Vm.Alike.refl U.vm) h3, va_Z.moved (Vm.Alike.refl U.vm) h4, va_Z.moved (Vm.Alike.refl U.vm) h5, h6.same rfl, h7.same rfl⟩
def xz_Qc (D : va_G) (ad : Nat → Nat) (cA : Nat → ClassId) (M : xz_M) (sz : Nat) (r : Option Value × xz_M) : Array Value → State → Outcome → State → Prop := fun _ st oc t =>
  (∃ (tys' : List (ClassId × FieldType)) (ad' : Nat → Nat) (cA' : Nat → ClassId), oc = .returned (r.1.map (xz_V ad')) ∧ (∀ k, k < M.1.length ∨ 1000 ≤ k → ad' k = ad k) ∧ va_P D vwCl (xz_ws ad' cA' r.2) t.heap ∧ va_K D vwCl tys' t ∧ va_D (va_A (xz_ws ad cA M) sz) (xz_ws ad' cA' r.2) ∧ xz_Wf cA' tys' r.2 ∧ ∀ v ∈ r.1.toList, xz_vv r.2.1.length v) ∧ va_F (va_A (xz_ws ad cA M) sz) st t
def xz_Pc (D : va_G) (tys : List (ClassId × FieldType)) (ad : Nat → Nat) (cA : Nat → ClassId) (M : xz_M) (sz : Nat) (as : List Value) : Array Value → State → Prop :=
  va_Pc (as.map (xz_V ad)) (fun U => U.heap.size = sz ∧ va_P D vwCl (xz_ws ad cA M) U.heap ∧ va_K D vwCl tys U ∧ va_D (fun _ => True) (xz_ws ad cA M) ∧ xz_En ad (va_A (xz_ws ad cA M) sz) U U.heap)
def xz_rm (d mc ms : Nat) : Room := { frames := d + 1, cells := mc, slots := ms, locals := 64 * (d + 1) }
noncomputable abbrev xz_wsy (y : Nat) : List Cond := .code (xz_mn y) (xz_mb y) (xz_ml y) (xz_mr y) :: xz_TB
def xz_Ct (l : Launch) (D : va_G) (d y : Nat) (as : List Value) (M : xz_M) (r : Option Value × xz_M) : Prop := ∀ (tys : List (ClassId × FieldType)) (ad : Nat → Nat) (cA : Nat → ClassId) (sz : Nat), (∀ v ∈ as, xz_vv M.1.length v) → xz_Wf cA tys M →
  Met l (xz_mn y) (xz_wsy y) (xz_rm d (r.2.1.length - M.1.length) (xz_slt r.2 - xz_slt M)) (xz_Pc D tys ad cA M sz as) (xz_Qc D ad cA M sz r) (r.2.1.length - M.1.length) (xz_slt r.2 - xz_slt M) (va_A (xz_ws ad cA M) sz)
theorem xz_blind (D : va_G) (tys : List (ClassId × FieldType)) (ad : Nat → Nat) (cA : Nat → ClassId) (M : xz_M) (sz : Nat) (as : List Value) : FrameBlind (xz_Pc D tys ad cA M sz as) := by
  intro a U g mk h
  obtain ⟨h0, h1, h2, h3, h4, h5⟩ := h
  exact ⟨h0, h1, h2, va_K.moved (u := U) (U := U.calling g mk a) (Vm.Alike.refl U.vm) h3, h4, h5.calling⟩
theorem xz_goodwsy (y : Nat) (h0 : 0 < y) (h : y < 200) : GoodIn xz_TB (xz_wsy y) := by
  intro w hw
  rcases List.mem_cons.mp hw with rfl | hw
  · exact xz_TBgood _ (xz_cw y h0 h)
  · exact xz_TBgood w hw
theorem xz_ret_i {c : Nat} {o : xz_Res} {k : List Value → xz_M → xz_Res} {r : Option Value × xz_M} (h : xz_ret c o k = some r) : ∃ (ov : Option Value) (M1 : xz_M), o = some (ov, M1) ∧ k ov.toList M1 = some r := by
  match c with
  | 0 =>
    have h : (xz_bI o fun x M => k [.int x] M) = some r := h
    unfold xz_bI at h
    split at h
    · exact ⟨_, _, rfl, h⟩
    · cases h
  | 1 =>
    have h : (xz_bJ o fun x M => k [.long x] M) = some r := h
    unfold xz_bJ at h
    split at h
    · exact ⟨_, _, rfl, h⟩
    · cases h
  | 2 =>
    have h : (xz_bR o fun x M => k [.ref x] M) = some r := h
    unfold xz_bR at h
    split at h
    · exact ⟨_, _, rfl, h⟩
    · cases h
  | _ + 3 =>
    have h : (xz_bV o fun M => k [] M) = some r := h
    unfold xz_bV at h
    split at h
    · exact ⟨_, _, rfl, h⟩
    · cases h
section XC
variable {p : Program} {l : Launch} {e : Env} {R : Room} {s : State} {m : MethodId} {args : Array Value} {below : List Frame} {meth : Method} {c : Code} {H : Heap} {locs : List Loc} {cells slots : Nat} {Q : State → Prop}
variable {pc mc ms sz : Nat} {ls : Array Slot} {rest st0 : List Value} {a : Array Value} {A : Nat → Prop} {D : va_G} {ad : Nat → Nat} {cA : Nat → ClassId} {M M1 : xz_M} {ov : Option Value}
theorem xz_Wcall (hr : va_Run p l e R s m args below meth c H locs cells slots mc ms (F0 m pc ls st0) rest (xz_Qc D ad cA M H.size (ov, M1) a) (va_A (xz_ws ad cA M) H.size)) (hS : va_S A s.heap H locs) (hF : ∀ q, va_A (xz_ws ad cA M) H.size q → A q)
    (kk : ∀ (H1 : Heap) (locs1 : List Loc) (tys' : List (ClassId × FieldType)) (ad' : Nat → Nat) (cA' : Nat → ClassId), (∀ k, k < M.1.length ∨ 1000 ≤ k → ad' k = ad k) → va_P D vwCl (xz_ws ad' cA' M1) H1 → va_K D vwCl tys' s → va_D A (xz_ws ad' cA' M1) → va_S A s.heap H1 locs1 → xz_Wf cA' tys' M1 → (∀ v ∈ ov.toList, xz_vv M1.1.length v) →
      W p l e R s m args below meth c H1 locs1 (cells + mc) (slots + ms) Q (F0 m (pc + 3) ls ((ov.map (xz_V ad')).toList ++ rest))) : W p l e R s m args below meth c H locs cells slots Q (F0 m pc ls st0) := by
  intro T hT X
  obtain ⟨v, st₀, t, T', L, h0, X', hL, e1, e2, ⟨⟨tys', ad', cA', hv, hag, hP, hK, hD, hW, hvv⟩, hz, hk⟩, st⟩ := hr T hT X
  cases hv
  rw [h0] at hz hk
  have hal : s.vm.Alike t.vm := by rw [← e2]; exact X'.warmed.alike
  obtain ⟨t2, a1, b1⟩ := kk T'.heap (locs ++ L) tys' ad' cA' hag (by rw [e1]; exact hP) (va_K.moved hal.symm hK) (hD.weaken fun k q _ h => hF _ h)
    ⟨Nat.le_trans hS.1 (by rw [e1]; exact hz), fun q h1 h2 => by rw [e1, hk q (Nat.lt_of_lt_of_le h1 hS.1) (fun z => h2 (hF q z))]; exact hS.2.1 q h1 h2, fun q hq => by
      rcases List.mem_append.mp hq with h | h
      · exact hS.2.2 q h
      · exact hF _ (hL q h)⟩ hW hvv T' rfl X'
  exact ⟨t2, st t2 a1, b1⟩
end XC
