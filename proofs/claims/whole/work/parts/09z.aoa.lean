/-! arrays of arrays: the words that stand behind new T[n][m], kept from state to state -/
theorem va_AOA.moved {t : FieldType} {u U : State} (hvm : u.vm.Alike U.vm) (h : va_AOA t u) : va_AOA t U := by
  obtain ⟨comp, c, k, h1, h2, h3, h4, h5⟩ := Jvm.Stand.arrayOver_specB h
  obtain ⟨k', hk', he⟩ := hvm.2.2 _ _ h3
  have hi : (U.vm.classes.findIdx? fun (x : Class) => match x.kind with | .array component _ => component == comp | _ => false) = some c := by
    have e1 := va_idx_bare U.vm comp
    have e2 := va_idx_bare u.vm comp
    have e3 : U.vm.bare = u.vm.bare := by first | exact hvm.bare_eq | exact hvm.bare_eq.symm
    rw [e3] at e1
    exact (e1.symm.trans e2).trans h2
  have hkind : k'.kind = .array comp (.array t) := by rw [he]; exact h4
  have f1 : U.vm.findClass (FieldType.array t).toString = some comp := by rw [hvm.findClass]; exact h1
  have f2 : U.vm.findClass ("[" ++ (FieldType.array t).toString) = some c := by rw [hvm.findClass]; exact h5
  unfold va_AOA Cond.before Cond.holds
  simp only [Cond.value]
  rw [f1, Option.bind_some]
  refine (congrArg (fun o : Option Nat => (o.bind (fun c => (U.vm.classes[c]?).map fun (k : Class) => match k.kind with | .array _ ty => decide (ty = FieldType.array t) && decide (U.vm.findClass ("[" ++ (FieldType.array t).toString) = some c) | _ => false) == some true)) hi).trans ?_
  simp [hk', hkind, f2]
theorem va_AOA.same {t : FieldType} {u U : State} (h : u.vm = U.vm) (hZ : va_AOA t u) : va_AOA t U := va_AOA.moved (by rw [h]; exact Vm.Alike.refl U.vm) hZ
/-- the class of a row of numbers, by its word -/
theorem xz_arrC {args : Array Value} {s : State} {t : FieldType} (h : (Cond.arrayClass t).before args s = true) (ht : ∀ n, t ≠ .object n) : ∃ cy, s.vm.findClass ("[" ++ t.toString) = some cy ∧ ArrOfT s cy t ∧ va_RA s cy t := by
  obtain ⟨cB, kB, comp, h1, h2, h3⟩ := Cond.arrayClass_spec h
  refine ⟨cB, h1, fun n z => ⟨fun k h => (by cases h), kB, h2, comp, h3⟩, ?_⟩
  cases t with
  | object n => exact absurd rfl (ht n)
  | _ => exact h1
section XM
variable {ad : Nat → Nat} {cA : Nat → ClassId} {M : xz_M} {tys : List (ClassId × FieldType)}
theorem xz_ws_app (s : xz_Sh) : xz_ws ad cA (xz_new M s) = xz_ws ad cA M ++ [(ad M.1.length, xz_ce ad cA (xz_new M s) M.1.length s)] := by
  apply List.ext_getElem?
  intro i
  rcases Nat.lt_trichotomy i M.1.length with hi | hi | hi
  · rw [List.getElem?_append_left (by rw [xz_ws_len]; exact hi)]
    simp only [xz_ws, List.getElem?_mapIdx, xz_new_get_lt hi]
    have hne : i ≠ M.1.length := by omega
    cases hx : M.1[i]? with
    | none => rfl
    | some x =>
      simp only [Option.map_some, xz_ce, xz_new, xz_row_ne hne]
  · subst hi
    rw [List.getElem?_append_right (by rw [xz_ws_len]; exact Nat.le_refl _), xz_ws_len, Nat.sub_self]
    rw [xz_ws_get xz_new_get_eq]
    rfl
  · rw [List.getElem?_append_right (by rw [xz_ws_len]; omega), xz_ws_len]
    have h1 : (xz_ws ad cA (xz_new M s))[i]? = none := List.getElem?_eq_none (by rw [xz_ws_len, xz_new_len]; omega)
    rw [h1]
    exact (List.getElem?_eq_none (by simp; omega)).symm
theorem xz_news_1 (M : xz_M) (s : xz_Sh) : ∀ j, (xz_news M s j).1 = M.1 ++ List.replicate j s
  | 0 => by simp [xz_news]
  | j + 1 => by
    show (xz_news M s j).1 ++ [s] = _
    rw [xz_news_1 M s j, List.append_assoc, ← List.replicate_succ']
theorem xz_news_len (M : xz_M) (s : xz_Sh) (j : Nat) : (xz_news M s j).1.length = M.1.length + j := by rw [xz_news_1]; simp
theorem xz_news_I (M : xz_M) (s : xz_Sh) {k : Nat} (hk : k < M.1.length) : ∀ j, (xz_news M s j).2.1 k = M.2.1 k
  | 0 => rfl
  | j + 1 => by
    show xz_row (xz_news M s j).2.1 (xz_news M s j).1.length (fun _ => 0) k = _
    rw [xz_row_ne (by rw [xz_news_len]; omega), xz_news_I M s hk j]
theorem xz_news_slt (M : xz_M) (s : xz_Sh) : ∀ j, xz_slt (xz_news M s j) = xz_slt M + j * s.2.1
  | 0 => by simp [xz_news]
  | j + 1 => by
    show xz_slt (xz_new (xz_news M s j) s) = _
    rw [xz_new_slt, xz_news_slt M s j, Nat.succ_mul]
    omega
/-- new T[n][k]: the outer row, then the inner ones, at their addresses -/
def xz_ad2 (ad : Nat → Nat) (n N q : Nat) (rr : Nat → Nat) : Nat → Nat := fun k => if k = n then q else if n < k ∧ k ≤ n + N then rr (k - n - 1) else ad k
def xz_cA2 (cA : Nat → ClassId) (n N : Nat) (c1 cy : ClassId) : Nat → ClassId := fun k => if k = n then c1 else if n < k ∧ k ≤ n + N then cy else cA k
theorem xz_ad2_ag {n N q : Nat} {rr : Nat → Nat} (h : n + N < 1000) : ∀ k, k < n ∨ 1000 ≤ k → xz_ad2 ad n N q rr k = ad k := by
  intro k hk
  unfold xz_ad2
  rw [if_neg (by omega), if_neg (by omega)]
theorem xz_cA2_ag {n N : Nat} {c1 cy : ClassId} : ∀ k, k < n → xz_cA2 cA n N c1 cy k = cA k := by
  intro k hk
  unfold xz_cA2
  rw [if_neg (by omega), if_neg (by omega)]
theorem xz_ws_multi (hW : xz_Wf cA tys M) {kd ik N K q : Nat} {rr : Nat → Nat} {c1 cy : ClassId} {z : vp_A} (hkd : kd = 3 ∨ kd = 4) (hcap : M.1.length + N < 1000) (f : Nat → va_E)
    (hz : ∀ (ad : Nat → Nat) (cA : Nat → ClassId) (M : xz_M) (k : Nat), M.2.1 k = (fun _ => 0) → M.2.2 k = (fun _ => 0) → xz_ce ad cA M k (ik, K, []) = .inl (cA k, z)) :
    xz_ws (xz_ad2 ad M.1.length N q rr) (xz_cA2 cA M.1.length N c1 cy) (xz_news (xz_new M (kd, N, (List.range N).map fun i => some (M.1.length + 1 + i))) (ik, K, []) N) =
      (xz_ws ad cA M ++ [(q, .inl (c1, N, .inr (.inr (.inr (.inr (fun i => if i < N then some (rr i) else none))))))]) ++ va_pl ([] ++ (List.range N).map rr) (vr_up f ((List.range N).map rr) (.inl (cy, z))) := by
  have e1 := xz_ws_congr (cA := cA) (cA' := xz_cA2 cA M.1.length N c1 cy) (M := M) (xz_ad2_ag (ad := ad) (q := q) (rr := rr) hcap) xz_cA2_ag (fun k q hq => (hW.2.2.1 k q hq).1)
  have hn0 : (xz_new M (kd, N, (List.range N).map fun i => some (M.1.length + 1 + i))).1.length = M.1.length + 1 := xz_new_len _ _
  have key : ∀ j, j < N → xz_ce (xz_ad2 ad M.1.length N q rr) (xz_cA2 cA M.1.length N c1 cy) (xz_new (xz_news (xz_new M (kd, N, (List.range N).map fun i => some (M.1.length + 1 + i))) (ik, K, []) j) (ik, K, [])) (M.1.length + 1 + j) (ik, K, []) = .inl (cy, z) := by
    intro j hj
    have hl : (xz_news (xz_new M (kd, N, (List.range N).map fun i => some (M.1.length + 1 + i))) (ik, K, []) j).1.length = M.1.length + 1 + j := by rw [xz_news_len, hn0]
    rw [hz _ _ _ _ (by rw [← hl]; exact xz_row_eq) (by rw [← hl]; exact xz_row_eq)]
    unfold xz_cA2
    rw [if_neg (by omega), if_pos (by omega)]
  have all : ∀ j, j ≤ N → xz_ws (xz_ad2 ad M.1.length N q rr) (xz_cA2 cA M.1.length N c1 cy) (xz_news (xz_new M (kd, N, (List.range N).map fun i => some (M.1.length + 1 + i))) (ik, K, []) j) = (xz_ws ad cA M ++ [(q, .inl (c1, N, .inr (.inr (.inr (.inr (fun i => if i < N then some (rr i) else none))))))]) ++ (List.range j).map (fun i => (rr i, .inl (cy, z))) := by
    intro j
    induction j with
    | zero =>
      intro _
      show xz_ws _ _ (xz_new M _) = _
      rw [xz_ws_app, e1]
      have e2 : xz_ad2 ad M.1.length N q rr M.1.length = q := by simp [xz_ad2]
      have e3 : xz_cA2 cA M.1.length N c1 cy M.1.length = c1 := by simp [xz_cA2]
      rw [e2, xz_ce_r hkd, e3]
      have e4 : (fun i => (((List.range N).map fun i => some (M.1.length + 1 + i)).getD i none).map (xz_ad2 ad M.1.length N q rr)) = fun i => if i < N then some (rr i) else none := by
        funext i
        rw [List.getD_eq_getElem?_getD, List.getElem?_map]
        by_cases hi : i < N
        · rw [List.getElem?_range hi, if_pos hi]
          show some (xz_ad2 ad M.1.length N q rr (M.1.length + 1 + i)) = some (rr i)
          unfold xz_ad2
          rw [if_neg (by omega), if_pos (by omega), show M.1.length + 1 + i - M.1.length - 1 = i by omega]
        · rw [List.getElem?_eq_none (by simp; omega), if_neg hi]
          rfl
      simp only [List.range_zero, List.map_nil, List.append_nil]
      rw [e4]
    | succ j ih =>
      intro hj
      show xz_ws _ _ (xz_new (xz_news (xz_new M (kd, N, (List.range N).map fun i => some (M.1.length + 1 + i))) (ik, K, []) j) (ik, K, [])) = _
      have hl : (xz_news (xz_new M (kd, N, (List.range N).map fun i => some (M.1.length + 1 + i))) (ik, K, []) j).1.length = M.1.length + 1 + j := by rw [xz_news_len, hn0]
      rw [xz_ws_app, ih (by omega), hl, key j (by omega), List.range_succ, List.map_append, ← List.append_assoc]
      have e2 : xz_ad2 ad M.1.length N q rr (M.1.length + 1 + j) = rr j := by
        unfold xz_ad2
        rw [if_neg (by omega), if_pos (by omega), show M.1.length + 1 + j - M.1.length - 1 = j by omega]
      rw [e2]
      rfl
  rw [all N (Nat.le_refl _)]
  congr 1
  show _ = ([] ++ (List.range N).map rr).map (fun a => (a, vr_up f ((List.range N).map rr) (.inl (cy, z)) a))
  rw [List.nil_append, List.map_map]
  apply List.map_congr_left
  intro i hi
  show (rr i, _) = (rr i, vr_up f ((List.range N).map rr) (.inl (cy, z)) (rr i))
  rw [vr_up_in (List.mem_map.mpr ⟨i, hi, rfl⟩)]
theorem xz_Wf_multi (hW : xz_Wf cA tys M) {kd ik N K : Nat} {c1 cy : ClassId} (hkd : kd = 3 ∨ kd = 4) (hik : ik = 0 ∨ ik = 2) (hcap : M.1.length + 1 + N ≤ 900) :
    xz_Wf (xz_cA2 cA M.1.length N c1 cy) (tys ++ [(c1, xz_aT kd)] ++ [(cy, xz_aT ik)]) (xz_news (xz_new M (kd, N, (List.range N).map fun i => some (M.1.length + 1 + i))) (ik, K, []) N) := by
  obtain ⟨h1, h2, h3, h4⟩ := hW
  have hM1 : (xz_news (xz_new M (kd, N, (List.range N).map fun i => some (M.1.length + 1 + i))) (ik, K, []) N).1 = (M.1 ++ [(kd, N, (List.range N).map fun i => some (M.1.length + 1 + i))]) ++ List.replicate N (ik, K, []) := xz_news_1 _ _ N
  have hlen : (xz_news (xz_new M (kd, N, (List.range N).map fun i => some (M.1.length + 1 + i))) (ik, K, []) N).1.length = M.1.length + 1 + N := by rw [xz_news_len, xz_new_len]
  have key : ∀ (k : Nat) (w : xz_Sh), (xz_news (xz_new M (kd, N, (List.range N).map fun i => some (M.1.length + 1 + i))) (ik, K, []) N).1[k]? = some w → (k < M.1.length ∧ M.1[k]? = some w) ∨ (k = M.1.length ∧ w = (kd, N, (List.range N).map fun i => some (M.1.length + 1 + i))) ∨ (M.1.length < k ∧ k ≤ M.1.length + N ∧ w = (ik, K, [])) := by
    intro k w hw
    have hk : k < M.1.length + 1 + N := by rw [← hlen]; exact (List.getElem?_eq_some_iff.mp hw).1
    rw [hM1] at hw
    rcases Nat.lt_trichotomy k M.1.length with z | z | z
    · rw [List.getElem?_append_left (by simp; omega), List.getElem?_append_left z] at hw
      exact Or.inl ⟨z, hw⟩
    · subst z
      rw [List.getElem?_append_left (by simp), List.getElem?_append_right (Nat.le_refl _), Nat.sub_self] at hw
      cases hw
      exact Or.inr (Or.inl ⟨rfl, rfl⟩)
    · rw [List.getElem?_append_right (by simp; omega)] at hw
      exact Or.inr (Or.inr ⟨z, by omega, List.eq_of_mem_replicate (List.mem_of_getElem? hw)⟩)
  refine ⟨fun k w hw hw5 => ?_, fun k w i hw hw1 => ?_, fun k w hw => ?_, by rw [hlen]; exact hcap⟩
  · rcases key k w hw with ⟨hk, hw'⟩ | ⟨rfl, rfl⟩ | ⟨hk1, hk2, rfl⟩
    · obtain ⟨t0, ht0⟩ := h1 k w hw' hw5
      have hl := (List.getElem?_eq_some_iff.mp ht0).1
      exact ⟨t0, by rw [xz_cA2_ag k hk, List.getElem?_append_left (by simp; omega), List.getElem?_append_left hl]; exact ht0⟩
    · refine ⟨tys.length, ?_⟩
      rw [List.getElem?_append_left (by simp), List.getElem?_append_right (Nat.le_refl _), Nat.sub_self]
      show some (c1, xz_aT kd) = some (xz_cA2 cA M.1.length N c1 cy M.1.length, xz_aT kd)
      simp [xz_cA2]
    · refine ⟨tys.length + 1, ?_⟩
      rw [List.getElem?_append_right (by simp)]
      have : tys.length + 1 - (tys ++ [(c1, xz_aT kd)]).length = 0 := by simp
      rw [this]
      show some (cy, xz_aT ik) = some (xz_cA2 cA M.1.length N c1 cy k, xz_aT ik)
      unfold xz_cA2
      rw [if_neg (by omega), if_pos ⟨hk1, hk2⟩]
  · rcases key k w hw with ⟨hk, hw'⟩ | ⟨rfl, rfl⟩ | ⟨hk1, hk2, rfl⟩
    · rw [xz_news_I _ _ (by rw [xz_new_len]; omega)]
      show xz_row M.2.1 M.1.length (fun _ => 0) k i &&& 1 = xz_row M.2.1 M.1.length (fun _ => 0) k i
      rw [xz_row_ne (by omega)]
      exact h2 k w i hw' hw1
    · have hw1 : kd = 1 := hw1
      omega
    · have hw1 : ik = 1 := hw1
      omega
  · rw [hlen]
    rcases key k w hw with ⟨hk, hw'⟩ | ⟨rfl, rfl⟩ | ⟨hk1, hk2, rfl⟩
    · exact ⟨fun r hr => by have := (h3 k w hw').1 r hr; omega, (h3 k w hw').2⟩
    · refine ⟨fun r hr => ?_, fun a ha => ?_⟩
      · obtain ⟨i, hi, he⟩ := List.mem_map.mp hr
        cases he
        have := List.mem_range.mp hi
        omega
      · have ha : kd = a + 5 := ha
        omega
    · exact ⟨fun r hr => (by cases hr), fun a ha => by have ha : ik = a + 5 := ha; omega⟩
end XM
