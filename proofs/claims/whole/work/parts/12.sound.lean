/-! THE LITTLE MACHINE IS SOUND, whole runs: what a run answers is what the method's contract says -/
theorem xz_plain : ∀ w, w < 200 → w ≠ q_JD_max → plainName (xz_mn w).cls = true := by decide +kernel
theorem xz_pc0 : ∀ w, w < 200 → xz_pcA (xz_code w) 0 0 = true := by decide +kernel
theorem xz_mocls : ∀ w, w < 200 → 0 < w → (xz_mn w).cls = xz_RN (xz_mo w) := by decide +kernel
theorem xz_VL_args (ad : Nat → Nat) : ∀ (vs : List Value) (i : Nat), xz_VL ad (lv_args i vs) = lv_args i (vs.map (xz_V ad))
  | [], _ => rfl
  | v :: vs, i => by
    show (i, xz_V ad v) :: xz_VL ad (lv_args _ vs) = (i, xz_V ad v) :: lv_args _ (vs.map (xz_V ad))
    rw [xz_VL_args ad vs, xz_V_cat]
theorem xz_args_mem : ∀ (vs : List Value) (i : Nat) (q : Nat × Value), q ∈ lv_args i vs → q.2 ∈ vs
  | [], _, _, h => by cases h
  | v :: vs, i, q, h => by
    rcases List.mem_cons.mp h with rfl | h
    · exact List.mem_cons_self
    · exact List.mem_cons_of_mem _ (xz_args_mem vs _ q h)
theorem xz_sl_len : ∀ vs : List Value, (lg_sl vs).length = xz_aw vs := by
  intro vs
  induction vs with
  | nil => rfl
  | cons v vs ih =>
    have e : xz_aw (v :: vs) = v.category + xz_aw vs := by simp [xz_aw]
    rw [e, ← ih]
    cases v <;> simp [lg_sl, Value.category] <;> omega
theorem xz_aw_V (ad : Nat → Nat) (vs : List Value) : xz_aw (vs.map (xz_V ad)) = xz_aw vs := by
  unfold xz_aw
  rw [List.map_map, show ((fun v : Value => v.category) ∘ xz_V ad) = fun v => v.category from funext fun v => xz_V_cat ad v]
def xz_PR (l : Launch) (D : va_G) (n : Nat) : Prop := ∀ (p : Program) (e : Env) (R : Room) (s : State) (m : MethodId) (args : Array Value) (below : List Frame) (meth : Method) (c : Code) (Q : State → Prop) (y d mc ms n0 : Nat) (X : xz_X) (r : Option Value × xz_M) (A : Nat → Prop) (ad0 : Nat → Nat),
    xz_Fx p R s m args meth c y d mc ms → (∀ q, s.heap.size ≤ q → A q) → xz_En ad0 A s s.heap → r.2.1.length ≤ 900 →
    (∀ q, X = some q → va_X (ad0 1000) q.1 q.2 s s.heap ∧ ad0 1000 < s.heap.size ∧ ¬ A (ad0 1000)) →
    (∀ (ins : Instr) (pc : Nat) (ls : Array Slot) (H : Heap) (locs : List Loc) (tys : List (ClassId × FieldType)) (ad : Nat → Nat) (cA : Nat → ClassId), decode (xz_mb y) pc = .ok (ins, 1) → xz_Ri y ins r.1 → (∀ v ∈ r.1.toList, xz_vv r.2.1.length v) →
      va_P D vwCl (xz_ws ad cA r.2) H → va_K D vwCl tys s → va_D A (xz_ws ad cA r.2) → va_S A s.heap H locs → xz_Wf cA tys r.2 → (∀ k, k < n0 ∨ 1000 ≤ k → ad k = ad0 k) → W p l e R s m args below meth c H locs mc ms Q (F0 m pc ls (r.1.toList.map (xz_V ad)))) →
    ∀ (k pc : Nat) (L : xz_L) (S : List Value) (M : xz_M) (ls : Array Slot) (H : Heap) (locs : List Loc) (cells slots : Nat) (tys : List (ClassId × FieldType)) (ad : Nat → Nat) (cA : Nat → ClassId), xz_pcA (xz_code y) k pc = true → xz_run xz_code xz_lc xz_ml n d y X k L S M = some r → lv_has ls (xz_ml y) (xz_VL ad L) → (∀ q ∈ L, xz_vv M.1.length q.2) → (∀ v ∈ S, xz_vv M.1.length v) →
      va_P D vwCl (xz_ws ad cA M) H → va_K D vwCl tys s → va_D A (xz_ws ad cA M) → va_S A s.heap H locs → xz_Wf cA tys M → (∀ k, k < n0 ∨ 1000 ≤ k → ad k = ad0 k) → n0 ≤ M.1.length → cells + r.2.1.length = mc + M.1.length → slots + xz_slt r.2 = ms + xz_slt M → W p l e R s m args below meth c H locs cells slots Q (F0 m pc ls (S.map (xz_V ad)))
theorem xz_Ct_of {l : Launch} {D : va_G} {n : Nat} (ih : xz_PR l D n) {d w : Nat} {as : List Value} {M : xz_M} {r : Option Value × xz_M} (h0 : 0 < w) (h200 : w < 200) (hmx : w ≠ q_JD_max) (hok : xz_okm w = true) (haw : xz_aw as ≤ xz_ml w) (h : xz_run xz_code xz_lc xz_ml n d w none 0 (lv_args 0 as) [] M = some r) (hcap : r.2.1.length ≤ 900) : xz_Ct l D d w as M r := by
  intro tys ad cA sz hvas hW
  have hmono := xz_run_mono xz_code xz_lc xz_ml n d w none 0 (lv_args 0 as) [] M r h
  refine Met.ofW (cc := xz_mb w) (maxL := xz_ml w) (ret := xz_mr w) (xz_plain w h200 hmx) rfl ?_
  intro p e s m args below meth c s₁ B hml hv
  obtain ⟨rfl, hsz, hP, hK, hD0, hE⟩ := hv
  have hx := B.exec
  have hb := B.bytes
  have hr := B.returns
  have hts0 := atoms_spec (ws := xz_wsy w) B.pre
  have hts : ∀ z ∈ xz_TB, z.before (as.map (xz_V ad)).toArray s = true := fun z hz => hts0 z (List.mem_cons_of_mem _ hz)
  have hown : s.vm.findClass (xz_RN (xz_mo w)) = some m.cls := by rw [← xz_mocls w h200 h0]; exact findClass_of_methodNamed B.named
  have hlocks := B.notSynchronized
  have hin : meth.name = (xz_mn w).name := (name_of_methodNamed B.named B.method).1
  subst hsz
  have hD : va_D (va_A (xz_ws ad cA M) s.heap.size) (xz_ws ad cA M) := hD0.self
  have hA : ∀ q : Nat, s.heap.size ≤ q → va_A (xz_ws ad cA M) s.heap.size q := fun q hq => Or.inr hq
  rw [lg_entry_eq]
  have hl := lv_entry (as.map (xz_V ad)) (n := xz_ml w) (by rw [xz_sl_len, xz_aw_V]; exact haw)
  rw [← xz_VL_args] at hl
  obtain ⟨hm1, hm2⟩ := hmono
  refine ih p e _ s m _ below meth c _ w d (r.2.1.length - M.1.length) (xz_slt r.2 - xz_slt M) M.1.length none r (va_A (xz_ws ad cA M) s.heap.size) ad ⟨hx, hb, hml, hown, hts, fun _ => hin, ?_, ?_, ?_, ?_, hok⟩ hA hE hcap (fun q hq => by cases hq) ?_ 0 0 (lv_args 0 as) [] M _ s.heap [] 0 0 tys ad cA (xz_pc0 w h200) h hl (fun q hq => hvas q.2 (xz_args_mem as 0 q hq)) (fun v hv => by cases hv) hP hK hD va_S.rf hW (fun _ _ => rfl) (Nat.le_refl _) (by omega) (by omega)
  · exact Nat.le_refl _
  · exact Nat.le_refl _
  · exact Nat.le_refl _
  · exact Nat.le_refl _
  · intro ins pc ls H locs tys' ad' cA' hdg hri hvv hP' hK' hD' hS' hW' hag'
    have hq : ∀ t : State, t.heap = H → s.WarmedH t.vm → xz_Qc D ad cA M s.heap.size r (as.map (xz_V ad)).toArray s (.returned (r.1.map (xz_V ad'))) t := fun t ht hwm =>
      ⟨⟨tys', ad', cA', rfl, hag', by rw [ht]; exact hP', va_K.moved hwm.alike hK', hD', hW', hvv⟩, hS'.F ht⟩
    rcases hri with ⟨rfl, x1, ty, he, hty, hn⟩ | ⟨rfl, x1, he, hty⟩ | ⟨rfl, q1, ty, he, hty, hto⟩ | ⟨rfl, he, hty⟩
    · rw [he] at hq ⊢
      exact W.zret hx hb (hr.trans hty) hn hq hS'.2.2 hdg
    · rw [he] at hq ⊢
      exact W.lret hx hb (hr.trans hty) hq hS'.2.2 hdg
    · rw [he] at hq ⊢
      exact W.aret hx hb (hr.trans hty) hto (Or.inr ⟨_, rfl⟩) hq hS'.2.2 hdg
    · rw [he] at hq ⊢
      exact W.vret hx hb (hr.trans hty) hq hS'.2.2 hdg
theorem xz_sound (hok : ∀ w, w < 200 → xz_okm w = true) (l : Launch) (D : va_G) : ∀ n, xz_PR l D n := by
  intro n
  induction n with
  | zero => intro p e R s m args below meth c Q y d mc ms n0 X r A ad0 F hA hE hcap hX K k pc L S M ls H locs cells slots tys ad cA hpc h; cases h
  | succ n ih =>
    intro p e R s m args below meth c Q y d mc ms n0 X r A ad0 F hA hE hcap hX K k pc L S M ls H locs cells slots tys ad cA hpc h
    refine xz_snd_blk (RR := xz_cal xz_ml (xz_run xz_code xz_lc xz_ml n) d) (Lp := fun k L S M => xz_run xz_code xz_lc xz_ml n d y X k L S M) F hA hE hcap hX ?_ (fun k L S M => xz_run_mono _ _ _ n d y X k L S M) K (fun k pc L S M ls H locs cells slots tys ad cA h1 h2 => ih p e R s m args below meth c Q y d mc ms n0 X r A ad0 F hA hE hcap hX K k pc L S M ls H locs cells slots tys ad cA h1 h2) ?_ 400 k pc L S M ls H locs cells slots tys ad cA hpc h
    · intro y as M
      cases d with
      | zero => exact xz_Mo_none _
      | succ d => exact xz_Mo_b (xz_run_mono _ _ _ n d y none 0 (lv_args 0 as) [] M)
    · intro w as M ov M1 h0 h200 hmx hR hc1
      cases d with
      | zero => cases hR
      | succ d =>
        obtain ⟨h1, h2⟩ := xz_b_i hR
        exact ⟨d, rfl, xz_Ct_of ih h0 h200 hmx (hok w h200) (Nat.le_of_ble_eq_true h1) h2 hc1⟩
