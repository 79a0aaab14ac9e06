/-! THE CLAIM OUT OF ONE WALK OF THE LAW'S BODY. Your part is whole_start (and what it stands on); all else here is the same for every law, but numbers. -/
def R_law : String := "HandRelayLaw"
def lw_P (b : Addr) (xs : List Int32) (args : Array Value) (s : State) : Prop := args = #[.ref b] ∧ s.IntsAt b xs ∧ xs.length ≤ 3072 ∧ (Jvm.Cond.and given_1 narrow_1).before args s = true
def lw_Q (_ : Array Value) (s : State) (o : Outcome) (t : State) : Prop := o = .returned (some (.int 1)) ∧ Framed s o t [] 600000 7302250
def lw_Z (below : List Frame) (a : Array Value) (s : State) : State → Prop := fun t => ∃ o, t.status = .running ∧ Ended t below o ∧ lw_Q a s o t
/-- the law's own end, with 1 on the stack, nothing written that was there before, its room as the claim has it -/
theorem lw_ret {p : Program} {l : Launch} {e : Env} {s : State} {m : MethodId} {below : List Frame} {meth : Method} {c : Code} {b : Nat} (hx : p.tables.exec = Jvm.exec) (hb : c.code = code) (hr : meth.sig.returnType = ret) (hlocks : meth.locks = false) {pc : Nat} {H : Heap} {ls : Array Slot} (hdg : decode code pc = .ok (.ireturn, 1)) : W p l e room_1 s m #[Value.ref b] below meth c H [] 600000 7302250 (lw_Z below #[Value.ref b] s) (F0 m pc ls [.int 1]) := by
  intro T hT X
  obtain ⟨fs, hret, hrun, hended, hW, hframe⟩ := X.leave (v := some (.int 1)) (hlocks := hlocks) (fun h => by rw [hr] at h; cases h)
  have hmeth' : T.vm.method? m = some meth := X.method'
  refine ⟨T.setFrames fs, ?_, .returned (some (.int 1)), hrun, hended, rfl, ⟨_, rfl⟩, hW, hframe⟩
  jvm_step X.here [X.here.top, hx, hb, hdg, hmeth', hr, ret, narrow_b1]
  (try refine ⟨rfl, ?_⟩); (try refine ⟨rfl, ?_⟩)
  first | (intro acts; rw [hret _ acts rfl rfl rfl]) | rw [hret _ _ rfl rfl rfl]
  exact Steps.refl _
/-- what holds at the law's entry: the machine, the code, the tables' words (any of lw_tbl by 'hts w (by decide +kernel)'), the script of L ints xs at the cell b, what the Statement gives of the start (any of its parts by flat_of_before) -/
def lw_At (p : Program) (s : State) (m : MethodId) (meth : Method) (c : Code) (b L : Nat) (xs : Nat → Int32) : Prop :=
  p.tables.exec = Jvm.exec ∧ c.code = code ∧ meth.sig.returnType = ret ∧ c.maxLocals = 4 ∧ s.vm.findClass R_law = some m.cls ∧ (∀ w ∈ lw_tbl, w.before #[Value.ref b] s = true) ∧ va_X b L xs s s.heap ∧ b < s.heap.size ∧ meth.locks = false ∧ (Jvm.Cond.and given_1 narrow_1).before #[Value.ref b] s = true
theorem xz_exact_ref {args : Array Value} {s : State} {t : Term} {C : String} (h : (Cond.exactly t C).before args s = true) : ∃ a, t.eval args s none [] s = some (.ref a) := by
  simp only [Cond.before, Cond.holds, Cond.value] at h
  cases ht : t.eval args s none [] s with
  | none => rw [ht] at h; simp at h
  | some v =>
    rw [ht] at h
    cases v with
    | ref a => exact ⟨a, rfl⟩
    | null => cases hf : s.vm.findClass C <;> rw [hf] at h <;> simp at h
    | _ => simp at h
theorem xz_env {args : Array Value} {s : State} {A : Nat → Prop} (hts : ∀ w ∈ lw_tbl, w.before args s = true) (hg : (Jvm.Cond.and given_1 narrow_1).before args s = true) (hA : ∀ a : Nat, a < s.heap.size → ¬ A a) (b : Nat) : ∃ ad0 : Nat → Nat, ad0 1000 = b ∧ xz_En ad0 A s s.heap := by
  have hs := flat_of_before _ hg
  obtain ⟨adK, adV, hS, hK⟩ := vk_Sof (args := args) (s := s) (N := 9) (tm := xz_tm) (len := xz_slen) (byt := xz_sbyt) (A := A) (by decide +kernel) (fun i hi => hs _ (xz_pr_ex i hi)) (fun i hi => hs _ (xz_pr_co i hi)) (fun i hi => hs _ (xz_pr_ar i hi)) (fun i hi => hs _ (xz_pr_le i hi)) (fun i hi j hj => hs _ (xz_pr_el i hi j hj)) (fun i j hi hj hij => (xz_pr_ne i hi j hj hij).imp (hs _) (hs _)) hA
  have hz := va_Zqof (A := A) (hts (.laysStatic "jdk/internal/util/Preconditions" "SIOOBE_FORMATTER" "Ljava/util/function/BiFunction;") (by decide +kernel)) (hts (.initialized "jdk/internal/util/Preconditions") (by decide +kernel)) (hs _ xz_pr_sf) hA
  obtain ⟨sv, hsv⟩ : ∃ sv : Nat, va_Z RJ3 "SIOOBE_FORMATTER" "Ljava/util/function/BiFunction;" (match sv with | 0 => Value.null | t + 1 => .ref t) A s s.heap := by
    rcases hz with h | ⟨t, h⟩
    · exact ⟨0, h⟩
    · exact ⟨t + 1, h⟩
  have hcs : (Term.static "java/lang/String" "COMPACT_STRINGS" "Z").eval args s none [] s = some (.int 1) := by
    have h := hs _ xz_pr_cs
    simp only [Cond.before, Cond.holds, Cond.value] at h
    cases ht : (Term.static "java/lang/String" "COMPACT_STRINGS" "Z").eval args s none [] s with
    | none => rw [ht] at h; simp [Term.eval] at h
    | some v =>
      rw [ht] at h
      cases v <;> simp [Term.eval] at h
      rw [h]
  refine ⟨fun k => if k = 1000 then b else if k = 2200 then sv else if 2100 ≤ k then adV (k - 2100) else adK (k - 2000), by simp, ?_, ?_, ?_, ?_, ?_, ?_, ?_⟩
  · intro q hq
    obtain ⟨q', hq', rfl⟩ := List.mem_map.mp hq
    have h1 := List.all_eq_true.mp xz_MXc q' hq'
    exact va_Nw.of rfl (hts _ (List.mem_of_getElem? (of_decide_eq_true h1)))
  · intro q hq
    obtain ⟨q', hq', rfl⟩ := List.mem_map.mp hq
    have h1 := List.all_eq_true.mp xz_SWc q' hq'
    have hw := hts _ (List.mem_of_getElem? (of_decide_eq_true h1))
    refine vk_R.of hw ?_
    have hcase : ∀ q' ∈ xz_SWp, (xz_RN q'.1.1 = "HandRelay$Text" ∧ q'.1.2.2 < 9 ∧ q'.1.2.1 = xz_tix.getD q'.1.2.2 0) ∨ (xz_RN q'.1.1 = "HandRelayModel" ∧ q'.1.2.2 < 5 ∧ q'.1.2.1 = xz_mix.getD q'.1.2.2 0) := by decide +kernel
    have hval : ∀ i, i < 9 → (if 2000 + i = 1000 then b else if 2000 + i = 2200 then sv else if 2100 ≤ 2000 + i then adV (2000 + i - 2100) else adK (2000 + i - 2000)) = adK i := by
      intro i hi
      rw [if_neg (by omega), if_neg (by omega), if_neg (by omega), show 2000 + i - 2000 = i by omega]
    rcases hcase q' hq' with ⟨e1, e2, e3⟩ | ⟨e1, e2, e3⟩
    · rw [e1, e3]
      dsimp only
      rw [hval _ e2]
      exact hK _ e2
    · rw [e1, e3]
      dsimp only
      rw [hval q'.1.2.2 (by omega)]
      obtain ⟨g1, g2⟩ := xz_pr_m _ e2
      obtain ⟨a2, ha2⟩ := xz_exact_ref (hs _ g2)
      have h3 := Cond.eq_refs (hs _ g1) ha2 rfl
      rw [hK _ (by omega)] at h3
      cases h3
      exact ha2
  · have e1 : (fun i => (fun k => if k = 1000 then b else if k = 2200 then sv else if 2100 ≤ k then adV (k - 2100) else adK (k - 2000)) (2000 + i)) = fun i => if i < 9 then adK i else (fun k => if k = 1000 then b else if k = 2200 then sv else if 2100 ≤ k then adV (k - 2100) else adK (k - 2000)) (2000 + i) := by
      funext i
      by_cases hi : i < 9
      · rw [if_pos hi]
        show (if 2000 + i = 1000 then b else if 2000 + i = 2200 then sv else if 2100 ≤ 2000 + i then adV (2000 + i - 2100) else adK (2000 + i - 2000)) = adK i
        rw [if_neg (by omega), if_neg (by omega), if_neg (by omega), show 2000 + i - 2000 = i by omega]
      · rw [if_neg hi]
    refine ⟨fun i hi => ?_, fun i j hi hj hij => ?_⟩
    · have k1 : (if 2000 + i = 1000 then b else if 2000 + i = 2200 then sv else if 2100 ≤ 2000 + i then adV (2000 + i - 2100) else adK (2000 + i - 2000)) = adK i := by
        rw [if_neg (by omega), if_neg (by omega), if_neg (by omega), show 2000 + i - 2000 = i by omega]
      have k2 : (if 2100 + i = 1000 then b else if 2100 + i = 2200 then sv else if 2100 ≤ 2100 + i then adV (2100 + i - 2100) else adK (2100 + i - 2000)) = adV i := by
        rw [if_neg (by omega), if_neg (by omega), if_pos (by omega), show 2100 + i - 2100 = i by omega]
      dsimp only
      rw [k1, k2]
      exact hS.1 i hi
    · have k1 : ∀ i, i < 9 → (if 2000 + i = 1000 then b else if 2000 + i = 2200 then sv else if 2100 ≤ 2000 + i then adV (2000 + i - 2100) else adK (2000 + i - 2000)) = adK i := by
        intro i hi
        rw [if_neg (by omega), if_neg (by omega), if_neg (by omega), show 2000 + i - 2000 = i by omega]
      dsimp only at hij
      rw [k1 i hi, k1 j hj] at hij
      exact hS.2 i j hi hj hij
  · exact va_Zof (hts (.laysStatic "java/lang/String" "COMPACT_STRINGS" "Z") (by decide +kernel)) (hts (.initialized "java/lang/String") (by decide +kernel)) hcs hA
  · exact hsv
  · exact va_AOA.of (hts _ (List.mem_of_getElem? xz_wOI))
  · exact va_AOA.of (hts _ (List.mem_of_getElem? xz_wOJ))
set_option maxHeartbeats 4000000 in
set_option maxRecDepth 100000 in
/-- THE LAW out of the little machine's run of it -/
theorem xz_start (hok : ∀ w, w < 200 → xz_okm w = true) {p : Program} {e : Env} {s : State} {m : MethodId} {below : List Frame} {meth : Method} {c : Code} (l : Launch) {b L : Nat} {xs : Nat → Int32} (C0 : lw_At p s m meth c b L xs)
    {M1 : xz_M} (hrun : ∃ n, xz_run xz_code xz_lc xz_ml n 60 0 (some (L, xs)) 0 [(0, .ref 1000)] [] ([], fun _ _ => 0, fun _ _ => 0) = some (some (.int 1), M1)) (hc1 : M1.1.length ≤ 900) (hc2 : xz_slt M1 ≤ 7302250) :
    W p l e room_1 s m #[Value.ref b] below meth c s.heap [] 0 0 (lw_Z below #[Value.ref b] s) (entryFrame m ([Value.ref b] : List Value).toArray 4) := by
  obtain ⟨hx, hb, hr, hml, hown, hts, hX, hbl, hlocks, hgv⟩ := id C0
  obtain ⟨n, hrun⟩ := hrun
  have hAn : ∀ a : Nat, a < s.heap.size → ¬ s.heap.size ≤ a := fun a h => Nat.not_le.mpr h
  obtain ⟨ad0, hb0, hE⟩ := xz_env (A := fun q => s.heap.size ≤ q) hts hgv hAn b
  have hts' : ∀ w ∈ xz_TB, w.before #[Value.ref b] s = true := fun w hw => hts w (xz_TBsub w hw)
  have h9 : ∀ a : Nat, ∃ q : ClassId × (Nat → Nat), a < 9 → u_Kn s (xz_RN a) (xz_T a) (xz_NC a) q.1 q.2 := by
    intro a
    by_cases ha : a < 9
    · obtain ⟨c1, i1, h1⟩ := u_known hts' (xz_inT ha) (hts' _ (xz_wIn a ha))
      exact ⟨(c1, i1), fun _ => h1⟩
    · exact ⟨(0, fun _ => 0), fun h => absurd h ha⟩
  have hK : va_K (fun a => (Classical.choose (h9 a)).1, fun a => (Classical.choose (h9 a)).2) vwCl [] s := by
    refine ⟨fun a q hq => ?_, fun k q h => by simp at h⟩
    have ha : a < 9 := (List.getElem?_eq_some_iff.mp hq).1
    rw [xz_cl a ha] at hq
    cases hq
    exact Classical.choose_spec (h9 a) ha
  have hP : va_P (fun a => (Classical.choose (h9 a)).1, fun a => (Classical.choose (h9 a)).2) vwCl (xz_ws ad0 (fun _ => 0) ([], fun _ _ => 0, fun _ _ => 0)) s.heap := fun k q h => by simp [xz_ws] at h
  have hD : va_D (fun q : Nat => s.heap.size ≤ q) (xz_ws ad0 (fun _ => 0) ([], fun _ _ => 0, fun _ _ => 0)) := ⟨fun i j p q h => by simp [xz_ws] at h, fun k q h => by simp [xz_ws] at h⟩
  rw [lg_entry_eq]
  have hl := lv_entry ([.ref b]) (n := 4) (Nat.le_of_ble_eq_true rfl)
  have hlv : lv_args 0 [Value.ref b] = xz_VL ad0 [(0, .ref 1000)] := by
    show [(0, Value.ref b)] = [(0, Value.ref (ad0 1000))]
    rw [hb0]
  rw [hlv] at hl
  have hWf : xz_Wf (fun _ => 0) [] ([], fun _ _ => 0, fun _ _ => 0) := ⟨fun k q h => by simp at h, fun k q i h => by simp at h, fun k q h => by simp at h, Nat.zero_le _⟩
  refine xz_sound hok l (fun a => (Classical.choose (h9 a)).1, fun a => (Classical.choose (h9 a)).2) n p e room_1 s m #[Value.ref b] below meth c (lw_Z below #[Value.ref b] s) 0 60 M1.1.length (xz_slt M1) 0 (some (L, xs)) (some (.int 1), M1) (fun q => s.heap.size ≤ q) ad0 ⟨hx, hb, hml, hown, hts', fun h => absurd rfl h, by decide +kernel, by decide +kernel, Nat.le_trans hc1 (by decide +kernel), Nat.le_trans hc2 (by decide +kernel), hok 0 (by decide)⟩ (fun _ h => h) hE hc1 ?_ ?_ 0 0 [(0, .ref 1000)] [] ([], fun _ _ => 0, fun _ _ => 0) _ s.heap [] 0 0 [] ad0 (fun _ => 0) (xz_pc0 0 (by decide)) hrun hl ?_ (fun v hv => by cases hv) hP hK hD va_S.rf hWf (fun _ _ => rfl) (Nat.le_refl _) ?_ ?_
  · intro q hq
    cases hq
    rw [hb0]
    exact ⟨hX, hbl, Nat.not_le.mpr hbl⟩
  · intro ins pc ls H locs tys ad cA hdg hri hvv hP1 hK1 hD1 hS1 hW1 hag
    rcases hri with ⟨rfl, x1, ty, he, hty, hn⟩ | ⟨rfl, x1, he, hty⟩ | ⟨rfl, q1, ty, he, hty, hto⟩ | ⟨rfl, he, hty⟩
    · refine va_forget (fun q hq => hS1.2.2 q hq) ?_
      refine W.widen (k := 600000) (n := 7302250) (Nat.le_trans hc1 (by decide)) hc2 ?_
      exact lw_ret hx hb hr hlocks hdg
    · cases he
    · cases he
    · cases he
  · intro q hq
    cases hq with
    | head => exact Or.inr (Nat.le_refl _)
    | tail _ h => cases h
  · show 0 + M1.1.length = M1.1.length + 0
    omega
  · show 0 + xz_slt M1 = xz_slt M1 + 0
    omega
