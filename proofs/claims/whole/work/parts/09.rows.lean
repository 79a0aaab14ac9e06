/-! ROWS OF THE KIT, at the little machine's world -/
theorem xz_ce_o {ad : Nat → Nat} {cA : Nat → ClassId} {M : xz_M} {k a : Nat} {q : xz_Sh} (h : q.1 = a + 5) : xz_ce ad cA M k q = .inr (a, xz_fs ad (M.2.1 k) (M.2.2 k) q.2.2 a) := by
  unfold xz_ce; rw [h]
theorem xz_ce_0 {ad : Nat → Nat} {cA : Nat → ClassId} {M : xz_M} {k : Nat} {q : xz_Sh} (h : q.1 = 0) : xz_ce ad cA M k q = .inl (cA k, q.2.1, .inl (M.2.1 k)) := by
  unfold xz_ce; rw [h]
theorem xz_ce_1 {ad : Nat → Nat} {cA : Nat → ClassId} {M : xz_M} {k : Nat} {q : xz_Sh} (h : q.1 = 1) : xz_ce ad cA M k q = .inl (cA k, q.2.1, .inl (M.2.1 k)) := by
  unfold xz_ce; rw [h]
theorem xz_ce_2 {ad : Nat → Nat} {cA : Nat → ClassId} {M : xz_M} {k : Nat} {q : xz_Sh} (h : q.1 = 2) : xz_ce ad cA M k q = .inl (cA k, q.2.1, .inr (.inl (M.2.2 k))) := by
  unfold xz_ce; rw [h]
theorem xz_ce_r {ad : Nat → Nat} {cA : Nat → ClassId} {M : xz_M} {k : Nat} {q : xz_Sh} (h : q.1 = 3 ∨ q.1 = 4) : xz_ce ad cA M k q = .inl (cA k, q.2.1, .inr (.inr (.inr (.inr fun i => (q.2.2.getD i none).map ad)))) := by
  unfold xz_ce; rcases h with h | h <;> rw [h]
theorem xz_vp_in {i : Int32} {n : Nat} (h : xz_in i n = true) : vp_in i n := by
  unfold xz_in at h
  exact (of_decide_eq_true h : ¬ (i < 0 ∨ n ≤ i.toNatClampNeg))
section XR
variable {p : Program} {l : Launch} {e : Env} {R : Room} {s : State} {m : MethodId} {args : Array Value} {below : List Frame} {meth : Method} {c : Code} {H H0 : Heap} {locs : List Loc} {cells slots : Nat} {Q : State → Prop}
variable {cc : ByteArray} {pc : Nat} {ls : Array Slot} {rest : List Value} {D : va_G} {A : Nat → Prop} {tys : List (ClassId × FieldType)} {ad : Nat → Nat} {cA : Nat → ClassId} {M : xz_M} {o i r a b : Nat} {q : xz_Sh}
theorem xz_fw (h : (o, i, a, b) ∈ xz_FWl) (hts : ∀ w ∈ xz_TB, w.before args s = true) : (Cond.fieldLink (xz_RN o) i (xz_T a b).1 (xz_T a b).2.1 (xz_T a b).2.2.1).before args s = true :=
  hts _ (xz_pl_ok (f := fun (q : Nat × Nat × Nat × Nat) => .fieldLink (xz_RN q.1) q.2.1 (xz_T q.2.2.1 q.2.2.2).1 (xz_T q.2.2.1 q.2.2.2).2.1 (xz_T q.2.2.1 q.2.2.2).2.2.1) xz_FWc (o, i, a, b) h)
theorem xz_Wget (hx : p.tables.exec = Jvm.exec) (hb : c.code = cc) (hts : ∀ w ∈ xz_TB, w.before args s = true) (hown : s.vm.findClass (xz_RN o) = some m.cls) (hK : va_K D vwCl tys s) (hP : va_P D vwCl (xz_ws ad cA M) H)
    (hq : M.1[r]? = some q) (hqa : q.1 = a + 5) (ha : a < 9) (hbN : b < xz_NC a) (hfw : (o, i, a, b) ∈ xz_FWl) (hdg : decode cc pc = .ok (.getfield i, 3))
    (kk : W p l e R s m args below meth c H locs cells slots Q (F0 m (pc + 3) ls (xz_fv ad (M.2.1 r) (M.2.2 r) q.2.2 b (xz_kty (xz_ty a b)) :: rest))) : W p l e R s m args below meth c H locs cells slots Q (F0 m pc ls (.ref (ad r) :: rest)) :=
  va_get (own := xz_RN o) (ref := (xz_T a b).1) (C := xz_RN a) (T := xz_T a) (N := xz_NC a) (ci := a) hx hb hts (xz_inT ha) hown hK hP r (by rw [xz_ws_get hq, xz_ce_o hqa]) (xz_cl a ha) b hbN (xz_fw hfw hts) (fun _ h => h) (xz_fs_get (xz_fkok a ha b hbN)) hdg kk
theorem xz_Wput (hx : p.tables.exec = Jvm.exec) (hb : c.code = cc) (hts : ∀ w ∈ xz_TB, w.before args s = true) (hown : s.vm.findClass (xz_RN o) = some m.cls) (hK : va_K D vwCl tys s) (hP : va_P D vwCl (xz_ws ad cA M) H) (hD : va_D A (xz_ws ad cA M)) (hS : va_S A H0 H locs)
    (hq : M.1[r]? = some q) (hqa : q.1 = a + 5) (ha : a < 9) (hbN : b < xz_NC a) (hfw : (o, i, a, b) ∈ xz_FWl) (hfin : (xz_T a b).2.2.2 = true → meth.name = "<init>" ∧ (xz_T a b).1 = xz_RN o) {v : Value} (hn : narrow (xz_ty a b) v = v) (hfit : fits (xz_ty a b) v = true) (hdg : decode cc pc = .ok (.putfield i, 3))
    (kk : ∀ (H1 : Heap) (locs1 : List Loc), va_P D vwCl ((xz_ws ad cA M).set r (ad r, .inr (a, (xz_fs ad (M.2.1 r) (M.2.2 r) q.2.2 a).set b v))) H1 → va_D A ((xz_ws ad cA M).set r (ad r, .inr (a, (xz_fs ad (M.2.1 r) (M.2.2 r) q.2.2 a).set b v))) → va_S A H0 H1 locs1 → W p l e R s m args below meth c H1 locs1 cells slots Q (F0 m (pc + 3) ls rest)) : W p l e R s m args below meth c H locs cells slots Q (F0 m pc ls (v :: .ref (ad r) :: rest)) := by
  have he : (xz_ws ad cA M)[r]? = some (ad r, .inr (a, xz_fs ad (M.2.1 r) (M.2.2 r) q.2.2 a)) := by rw [xz_ws_get hq, xz_ce_o hqa]
  have hl : b < (xz_fs ad (M.2.1 r) (M.2.2 r) q.2.2 a).length := by rw [xz_fs_len, xz_fklen a ha]; exact hbN
  cases hf : (xz_T a b).2.2.2 with
  | false => exact va_put (own := xz_RN o) (ref := (xz_T a b).1) (C := xz_RN a) (T := xz_T a) (N := xz_NC a) (ci := a) hx hb hts (xz_inT ha) (xz_ty a) (xz_tyok a ha) (xz_nm a ha) hown hK hP hD hS r he (xz_cl a ha) b hbN (xz_fw hfw hts) (fun _ h => h) hf (xz_tyok a ha b hbN) hn hfit hl hdg kk
  | true =>
    obtain ⟨h1, h2⟩ := hfin hf
    exact va_putF (own := xz_RN o) (ref := (xz_T a b).1) (C := xz_RN a) (T := xz_T a) (N := xz_NC a) (ci := a) hx hb hts (xz_inT ha) (xz_ty a) (xz_tyok a ha) (xz_nm a ha) hown hK hP hD hS r he (xz_cl a ha) b hbN (xz_fw hfw hts) (fun _ h => h) hf h1 h2 (xz_tyok a ha b hbN) hn hfit hl hdg kk
theorem xz_Waald (hx : p.tables.exec = Jvm.exec) (hb : c.code = cc) (hK : va_K D vwCl tys s) (hP : va_P D vwCl (xz_ws ad cA M) H) (hq : M.1[r]? = some q) (hqa : q.1 = 3 ∨ q.1 = 4) {t0 : Nat} (ht : tys[t0]? = some (cA r, xz_aT q.1)) {j : Int32} (hin : xz_in j q.2.1 = true) (hdg : decode cc pc = .ok (.aaload, 1))
    (kk : W p l e R s m args below meth c H locs cells slots Q (F0 m (pc + 1) ls (va_rf ((q.2.2.getD j.toNatClampNeg none).map ad) :: rest))) : W p l e R s m args below meth c H locs cells slots Q (F0 m pc ls (.int j :: .ref (ad r) :: rest)) := by
  have hin := xz_vp_in hin
  have hlt : j.toNatClampNeg < q.2.1 := Nat.not_le.mp fun z => hin (Or.inr z)
  have he : (xz_ws ad cA M)[r]? = some (ad r, .inl (cA r, q.2.1, .inr (.inr (.inr (.inr fun i => (q.2.2.getD i none).map ad))))) := by rw [xz_ws_get hq, xz_ce_r hqa]
  rcases hqa with hqa | hqa <;> rw [hqa] at ht
  · exact W.aald (v := va_rf ((q.2.2.getD j.toNatClampNeg none).map ad)) (ty := .array .int) hx hb (hP r _ he) ((hK.2 t0 _ ht).1 q.2.1 (fun i => va_rf ((q.2.2.getD i none).map ad))) rfl (fun z => by cases z) (by show ¬ (j < 0 ∨ (arrV _ _ _).slots.size ≤ _); rw [arrV_size]; exact hin) (by show (arrV _ _ _).slots[_]? = _; rw [arrV_read _ _ hlt]) rfl rfl hdg kk
  · exact W.aald (v := va_rf ((q.2.2.getD j.toNatClampNeg none).map ad)) (ty := .array .long) hx hb (hP r _ he) ((hK.2 t0 _ ht).1 q.2.1 (fun i => va_rf ((q.2.2.getD i none).map ad))) rfl (fun z => by cases z) (by show ¬ (j < 0 ∨ (arrV _ _ _).slots.size ≤ _); rw [arrV_size]; exact hin) (by show (arrV _ _ _).slots[_]? = _; rw [arrV_read _ _ hlt]) rfl rfl hdg kk
end XR
theorem xz_cm {α : Type} [BEq α] [LawfulBEq α] {l : List α} {a : α} (h : l.contains a = true) : a ∈ l := by simpa using h
theorem xz_kty0 {t : FieldType} (h : xz_kty t = 0) : t = .int := by cases t <;> first | rfl | (simp [xz_kty] at h)
theorem xz_kty1 {t : FieldType} (h : xz_kty t = 1) : t = .long := by cases t <;> first | rfl | (simp [xz_kty] at h)
theorem xz_kty3 {t : FieldType} (h : xz_kty t = 3) : t = .boolean := by cases t <;> first | rfl | (simp [xz_kty] at h)
theorem xz_kty2 {t : FieldType} (h : xz_kty t = 2) : (∃ n, t = .object n) ∨ ∃ u, t = .array u := by
  cases t <;> first | exact Or.inl ⟨_, rfl⟩ | exact Or.inr ⟨_, rfl⟩ | (simp [xz_kty] at h)
theorem xz_narB {x : Int32} (h : x &&& 1 = x) : narrow .boolean (.int x) = .int x := by
  show Value.int (x &&& 1) = .int x
  rw [h]
theorem xz_fitB {x : Int32} (h : x &&& 1 = x) : fits .boolean (.int x) = true := by
  have e := pk_and x (m := 1) 1 rfl
  rw [h] at e
  show (x == 0 || x == 1) = true
  rcases Nat.mod_two_eq_zero_or_one x.toBitVec.toNat with z | z
  · rw [show (2 : Nat) ^ 1 = 2 from rfl, z] at e
    rw [e]; rfl
  · rw [show (2 : Nat) ^ 1 = 2 from rfl, z] at e
    rw [e]; rfl
theorem xz_narR {t : FieldType} (h : xz_kty t = 2) (q : Nat) : narrow t (.ref q) = .ref q := by
  rcases xz_kty2 h with ⟨n, rfl⟩ | ⟨u, rfl⟩ <;> rfl
theorem xz_fitR {t : FieldType} (h : xz_kty t = 2) (q : Nat) : fits t (.ref q) = true := by
  rcases xz_kty2 h with ⟨n, rfl⟩ | ⟨u, rfl⟩ <;> rfl
section XW
variable {ad : Nat → Nat} {cA : Nat → ClassId} {M : xz_M} {r a b : Nat} {q : xz_Sh} {tys : List (ClassId × FieldType)}
theorem xz_ws_putI (hq : M.1[r]? = some q) (hqa : q.1 = a + 5) (ha : a < 9) (hbN : b < xz_NC a) (hk : xz_kty (xz_ty a b) = 0 ∨ xz_kty (xz_ty a b) = 3) (x : Int32) :
    xz_ws ad cA (M.1, xz_up M.2.1 r b x, M.2.2) = (xz_ws ad cA M).set r (ad r, .inr (a, (xz_fs ad (M.2.1 r) (M.2.2 r) q.2.2 a).set b (.int x))) := by
  rw [xz_ws_upd (M' := (M.1, xz_up M.2.1 r b x, M.2.2)) (M := M) (r := r) (q := q) (q' := q) (xz_set_self hq).symm (fun k h => xz_up_ne h) (fun _ _ => rfl) hq, xz_ce_o hqa]
  have e := xz_fs_set (ad := ad) (I := M.2.1 r) (I' := xz_up M.2.1 r b x r) (J := M.2.2 r) (J' := M.2.2 r) (rs := q.2.2) (rs' := q.2.2) (xz_fkok a ha b hbN) (fun j h => by rw [xz_up_eq]; simp [h]) (fun _ _ => rfl) (fun _ _ => rfl)
  have ev : xz_fv ad (xz_up M.2.1 r b x r) (M.2.2 r) q.2.2 b (xz_kty (xz_ty a b)) = .int x := by
    rcases hk with hk | hk <;> rw [hk] <;> show Value.int (xz_up M.2.1 r b x r b) = .int x <;> rw [xz_up_eq] <;> simp
  rw [ev] at e
  rw [← e]
theorem xz_ws_putJ (hq : M.1[r]? = some q) (hqa : q.1 = a + 5) (ha : a < 9) (hbN : b < xz_NC a) (hk : xz_kty (xz_ty a b) = 1) (x : Int64) :
    xz_ws ad cA (M.1, M.2.1, xz_up M.2.2 r b x) = (xz_ws ad cA M).set r (ad r, .inr (a, (xz_fs ad (M.2.1 r) (M.2.2 r) q.2.2 a).set b (.long x))) := by
  rw [xz_ws_upd (M' := (M.1, M.2.1, xz_up M.2.2 r b x)) (M := M) (r := r) (q := q) (q' := q) (xz_set_self hq).symm (fun _ _ => rfl) (fun k h => xz_up_ne h) hq, xz_ce_o hqa]
  have e := xz_fs_set (ad := ad) (I := M.2.1 r) (I' := M.2.1 r) (J := M.2.2 r) (J' := xz_up M.2.2 r b x r) (rs := q.2.2) (rs' := q.2.2) (xz_fkok a ha b hbN) (fun _ _ => rfl) (fun j h => by rw [xz_up_eq]; simp [h]) (fun _ _ => rfl)
  have ev : xz_fv ad (M.2.1 r) (xz_up M.2.2 r b x r) q.2.2 b (xz_kty (xz_ty a b)) = .long x := by
    rw [hk]
    show Value.long (xz_up M.2.2 r b x r b) = .long x
    rw [xz_up_eq]
    simp
  rw [ev] at e
  rw [← e]
theorem xz_ws_putR (hq : M.1[r]? = some q) (hqa : q.1 = a + 5) (ha : a < 9) (hbN : b < xz_NC a) (hk : xz_kty (xz_ty a b) = 2) (hl : b < q.2.2.length) (x : Nat) :
    xz_ws ad cA (M.1.set r (q.1, q.2.1, q.2.2.set b (some x)), M.2) = (xz_ws ad cA M).set r (ad r, .inr (a, (xz_fs ad (M.2.1 r) (M.2.2 r) q.2.2 a).set b (.ref (ad x)))) := by
  rw [xz_ws_upd (M' := (M.1.set r (q.1, q.2.1, q.2.2.set b (some x)), M.2)) (M := M) (r := r) (q := q) (q' := (q.1, q.2.1, q.2.2.set b (some x))) rfl (fun _ _ => rfl) (fun _ _ => rfl) hq, xz_ce_o (q := (q.1, q.2.1, q.2.2.set b (some x))) (a := a) hqa]
  have e := xz_fs_set (ad := ad) (I := M.2.1 r) (I' := M.2.1 r) (J := M.2.2 r) (J' := M.2.2 r) (rs := q.2.2) (rs' := q.2.2.set b (some x)) (xz_fkok a ha b hbN) (fun _ _ => rfl) (fun _ _ => rfl) (fun j h => by
    rw [List.getD_eq_getElem?_getD, List.getD_eq_getElem?_getD, List.getElem?_set_ne (Ne.symm h)])
  have ev : xz_fv ad (M.2.1 r) (M.2.2 r) (q.2.2.set b (some x)) b (xz_kty (xz_ty a b)) = .ref (ad x) := by
    rw [hk]
    show va_rf (((q.2.2.set b (some x)).getD b none).map ad) = .ref (ad x)
    rw [List.getD_eq_getElem?_getD, List.getElem?_set_self hl]
    rfl
  rw [ev] at e
  rw [← e]
theorem xz_ws_stI (hq : M.1[r]? = some q) (hqa : q.1 = 0 ∨ q.1 = 1) (i : Nat) (x : Int32) :
    xz_ws ad cA (M.1, xz_up M.2.1 r i x, M.2.2) = (xz_ws ad cA M).set r (ad r, .inl (cA r, q.2.1, .inl (upd (M.2.1 r) i x))) := by
  rw [xz_ws_upd (M' := (M.1, xz_up M.2.1 r i x, M.2.2)) (M := M) (r := r) (q := q) (q' := q) (xz_set_self hq).symm (fun k h => xz_up_ne h) (fun _ _ => rfl) hq]
  rcases hqa with h | h
  · rw [xz_ce_0 h]; show (xz_ws ad cA M).set r (ad r, .inl (cA r, q.2.1, .inl (xz_up M.2.1 r i x r))) = _; rw [xz_up_eq]; rfl
  · rw [xz_ce_1 h]; show (xz_ws ad cA M).set r (ad r, .inl (cA r, q.2.1, .inl (xz_up M.2.1 r i x r))) = _; rw [xz_up_eq]; rfl
theorem xz_ws_stJ (hq : M.1[r]? = some q) (hqa : q.1 = 2) (i : Nat) (x : Int64) :
    xz_ws ad cA (M.1, M.2.1, xz_up M.2.2 r i x) = (xz_ws ad cA M).set r (ad r, .inl (cA r, q.2.1, .inr (.inl (vp_updL (M.2.2 r) i x)))) := by
  rw [xz_ws_upd (M' := (M.1, M.2.1, xz_up M.2.2 r i x)) (M := M) (r := r) (q := q) (q' := q) (xz_set_self hq).symm (fun _ _ => rfl) (fun k h => xz_up_ne h) hq, xz_ce_2 hqa]
  show (xz_ws ad cA M).set r (ad r, .inl (cA r, q.2.1, .inr (.inl (xz_up M.2.2 r i x r)))) = _
  rw [xz_up_eq]
  rfl
theorem xz_ws_rowI (hq : M.1[r]? = some q) (hqa : q.1 = 0 ∨ q.1 = 1) (g : Nat → Int32) :
    xz_ws ad cA (M.1, xz_row M.2.1 r g, M.2.2) = (xz_ws ad cA M).set r (ad r, .inl (cA r, q.2.1, .inl g)) := by
  rw [xz_ws_upd (M' := (M.1, xz_row M.2.1 r g, M.2.2)) (M := M) (r := r) (q := q) (q' := q) (xz_set_self hq).symm (fun k h => xz_row_ne h) (fun _ _ => rfl) hq]
  rcases hqa with h | h
  · rw [xz_ce_0 h]; show (xz_ws ad cA M).set r (ad r, .inl (cA r, q.2.1, .inl (xz_row M.2.1 r g r))) = _; rw [xz_row_eq]
  · rw [xz_ce_1 h]; show (xz_ws ad cA M).set r (ad r, .inl (cA r, q.2.1, .inl (xz_row M.2.1 r g r))) = _; rw [xz_row_eq]
theorem xz_ws_rowJ (hq : M.1[r]? = some q) (hqa : q.1 = 2) (g : Nat → Int64) :
    xz_ws ad cA (M.1, M.2.1, xz_row M.2.2 r g) = (xz_ws ad cA M).set r (ad r, .inl (cA r, q.2.1, .inr (.inl g))) := by
  rw [xz_ws_upd (M' := (M.1, M.2.1, xz_row M.2.2 r g)) (M := M) (r := r) (q := q) (q' := q) (xz_set_self hq).symm (fun _ _ => rfl) (fun k h => xz_row_ne h) hq, xz_ce_2 hqa]
  show (xz_ws ad cA M).set r (ad r, .inl (cA r, q.2.1, .inr (.inl (xz_row M.2.2 r g r)))) = _
  rw [xz_row_eq]
theorem xz_Wf_same (h : xz_Wf cA tys M) {I' : Nat → Nat → Int32} {J' : Nat → Nat → Int64} (hb : ∀ (k : Nat) (q : xz_Sh) (i : Nat), M.1[k]? = some q → q.1 = 1 → I' k i &&& 1 = I' k i) : xz_Wf cA tys (M.1, I', J') := ⟨h.1, hb, h.2.2.1, h.2.2.2⟩
theorem xz_Wf_putI (h : xz_Wf cA tys M) (hq : M.1[r]? = some q) (hqa : q.1 ≠ 1) (i : Nat) (x : Int32) : xz_Wf cA tys (M.1, xz_up M.2.1 r i x, M.2.2) := by
  refine xz_Wf_same h fun k z j hz h1 => ?_
  have hkr : k ≠ r := by
    rintro rfl
    rw [hq] at hz
    cases hz
    exact hqa h1
  rw [xz_up_ne hkr]
  exact h.2.1 k z j hz h1
theorem xz_and1 (x : Int32) : x &&& 1 &&& 1 = x &&& 1 := by
  rw [Int32.and_assoc]
  rfl
theorem xz_Wf_putZ (h : xz_Wf cA tys M) (i : Nat) (x : Int32) (hx : x &&& 1 = x) : xz_Wf cA tys (M.1, xz_up M.2.1 r i x, M.2.2) := by
  refine xz_Wf_same h fun k z j hz h1 => ?_
  by_cases hkr : k = r
  · subst hkr
    rw [xz_up_eq]
    by_cases hj : j = i
    · simp only [hj, if_true]; exact hx
    · simp only [hj, if_false]; exact h.2.1 k z j hz h1
  · rw [xz_up_ne hkr]
    exact h.2.1 k z j hz h1
theorem xz_Wf_putR (h : xz_Wf cA tys M) (hq : M.1[r]? = some q) (b x : Nat) (hx : x < M.1.length) : xz_Wf cA tys (M.1.set r (q.1, q.2.1, q.2.2.set b (some x)), M.2) := by
  obtain ⟨h1, h2, h3, h4⟩ := h
  have hl : r < M.1.length := (List.getElem?_eq_some_iff.mp hq).1
  have key : ∀ (k : Nat) (z : xz_Sh), (M.1.set r (q.1, q.2.1, q.2.2.set b (some x)))[k]? = some z → ∃ z0, M.1[k]? = some z0 ∧ z.1 = z0.1 ∧ (z = z0 ∨ z.2.2 = z0.2.2.set b (some x)) := by
    intro k z hz
    by_cases hk : k = r
    · subst hk
      rw [List.getElem?_set_self hl] at hz
      cases hz
      exact ⟨q, hq, rfl, Or.inr rfl⟩
    · rw [List.getElem?_set_ne (Ne.symm hk)] at hz
      exact ⟨z, hz, rfl, Or.inl rfl⟩
  refine ⟨fun k z hz hz5 => ?_, fun k z i hz h1z => ?_, fun k z hz => ?_, ?_⟩
  · obtain ⟨z0, hz0, e, -⟩ := key k z hz
    rw [e]
    exact h1 k z0 hz0 (by rw [← e]; exact hz5)
  · obtain ⟨z0, hz0, e, -⟩ := key k z hz
    exact h2 k z0 i hz0 (by rw [← e]; exact h1z)
  · obtain ⟨z0, hz0, e, e2⟩ := key k z hz
    obtain ⟨g1, g2⟩ := h3 k z0 hz0
    have hlen : (M.1.set r (q.1, q.2.1, q.2.2.set b (some x))).length = M.1.length := by simp
    show (∀ w : Nat, some w ∈ z.2.2 → w < (M.1.set r (q.1, q.2.1, q.2.2.set b (some x))).length) ∧ _
    rw [hlen]
    rcases e2 with rfl | e2
    · exact ⟨g1, g2⟩
    · refine ⟨fun w hw => ?_, fun a' ha' => ?_⟩
      · rw [e2] at hw
        rcases List.mem_or_eq_of_mem_set hw with hw | hw
        · exact g1 w hw
        · cases hw; exact hx
      · rw [e2, List.length_set]
        exact g2 a' (by rw [← e]; exact ha')
  · show (M.1.set r (q.1, q.2.1, q.2.2.set b (some x))).length ≤ 900
    simpa using h4
theorem xz_new_get_lt {s : xz_Sh} {k : Nat} (h : k < M.1.length) : (xz_new M s).1[k]? = M.1[k]? := List.getElem?_append_left h
theorem xz_new_get_eq {s : xz_Sh} : (xz_new M s).1[M.1.length]? = some s := by
  show (M.1 ++ [s])[M.1.length]? = some s
  simp
theorem xz_new_len (M : xz_M) (s : xz_Sh) : (xz_new M s).1.length = M.1.length + 1 := by
  show (M.1 ++ [s]).length = _
  simp
theorem xz_new_slt (M : xz_M) (s : xz_Sh) : xz_slt (xz_new M s) = xz_slt M + s.2.1 := by
  show ((M.1 ++ [s]).map fun q => q.2.1).sum = _
  simp [xz_slt]
theorem xz_up_ag {z : Nat} (hlen : M.1.length ≤ 900) : ∀ k, k < M.1.length ∨ 1000 ≤ k → va_up ad M.1.length z k = ad k := by
  intro k hk
  unfold va_up
  rw [if_neg (by omega)]
/-- one more cell -/
theorem xz_ws_new (h3 : ∀ (k : Nat) (q : xz_Sh), M.1[k]? = some q → ∀ r : Nat, some r ∈ q.2.2 → r < M.1.length) (s : xz_Sh) {ad' : Nat → Nat} {cA' : Nat → ClassId} (ha : ∀ k, k < M.1.length ∨ 1000 ≤ k → ad' k = ad k) (hc : ∀ k, k < M.1.length → cA' k = cA k) :
    xz_ws ad' cA' (xz_new M s) = xz_ws ad cA M ++ [(ad' M.1.length, xz_ce ad' cA' (xz_new M s) M.1.length s)] := by
  rw [← xz_ws_congr ha hc h3]
  apply List.ext_getElem?
  intro i
  rcases Nat.lt_trichotomy i M.1.length with hi | hi | hi
  · rw [List.getElem?_append_left (by rw [xz_ws_len]; exact hi)]
    simp only [xz_ws, List.getElem?_mapIdx, xz_new_get_lt hi]
    have hne : i ≠ M.1.length := by omega
    cases hx : M.1[i]? with
    | none => rfl
    | some x =>
      simp only [Option.map_some, xz_ce, xz_new, xz_row_ne hne]
  · subst hi
    rw [List.getElem?_append_right (by rw [xz_ws_len]; exact Nat.le_refl _), xz_ws_len, Nat.sub_self]
    rw [xz_ws_get xz_new_get_eq]
    rfl
  · rw [List.getElem?_append_right (by rw [xz_ws_len]; omega), xz_ws_len]
    have h1 : (xz_ws ad' cA' (xz_new M s))[i]? = none := List.getElem?_eq_none (by rw [xz_ws_len, xz_new_len]; omega)
    rw [h1]
    exact (List.getElem?_eq_none (by simp; omega)).symm
theorem xz_Wf_new (h : xz_Wf cA tys M) {s : xz_Sh} {cA' : Nat → ClassId} {tl : List (ClassId × FieldType)} (hc : ∀ k, k < M.1.length → cA' k = cA k) (hty : s.1 < 5 → ∃ t0 : Nat, (tys ++ tl)[t0]? = some (cA' M.1.length, xz_aT s.1)) (hs1 : ∀ r : Nat, some r ∈ s.2.2 → r < M.1.length + 1) (hs2 : ∀ a, s.1 = a + 5 → s.2.2.length = xz_NC a) (hl : M.1.length + 1 ≤ 900) : xz_Wf cA' (tys ++ tl) (xz_new M s) := by
  obtain ⟨h1, h2, h3, h4⟩ := h
  have key : ∀ (k : Nat) (q : xz_Sh), (xz_new M s).1[k]? = some q → (k < M.1.length ∧ M.1[k]? = some q) ∨ (k = M.1.length ∧ q = s) := by
    intro k q hq
    have hk : k < (xz_new M s).1.length := (List.getElem?_eq_some_iff.mp hq).1
    rw [xz_new_len] at hk
    rcases Nat.lt_or_ge k M.1.length with z | z
    · rw [xz_new_get_lt z] at hq
      exact Or.inl ⟨z, hq⟩
    · obtain rfl : k = M.1.length := by omega
      rw [xz_new_get_eq] at hq
      cases hq
      exact Or.inr ⟨rfl, rfl⟩
  refine ⟨fun k q hq hq5 => ?_, fun k q i hq hq1 => ?_, fun k q hq => ?_, by rw [xz_new_len]; exact hl⟩
  · rcases key k q hq with ⟨hk, hq'⟩ | ⟨rfl, rfl⟩
    · obtain ⟨t0, ht0⟩ := h1 k q hq' hq5
      exact ⟨t0, by rw [hc k hk, List.getElem?_append_left (List.getElem?_eq_some_iff.mp ht0).1]; exact ht0⟩
    · exact hty hq5
  · show xz_row M.2.1 M.1.length (fun _ => 0) k i &&& 1 = xz_row M.2.1 M.1.length (fun _ => 0) k i
    rcases key k q hq with ⟨hk, hq'⟩ | ⟨rfl, rfl⟩
    · rw [xz_row_ne (by omega)]
      exact h2 k q i hq' hq1
    · rw [xz_row_eq]
      rfl
  · rw [xz_new_len]
    rcases key k q hq with ⟨hk, hq'⟩ | ⟨rfl, rfl⟩
    · exact ⟨fun r hr => Nat.lt_succ_of_lt ((h3 k q hq').1 r hr), (h3 k q hq').2⟩
    · exact ⟨hs1, hs2⟩
end XW
