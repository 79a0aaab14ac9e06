theorem y_start (hok : ∀ w, w < 200 → xz_okm w = true) {p : Program} {e : Env} {s : State} {m : MethodId} {below : List Frame} {meth : Method} {c : Code} (l : Launch) {b L : Nat} {xs : Nat → Int32} (hL : L ≤ 3072) (C0 : lw_At p s m meth c b L xs) : W p l e room_1 s m #[Value.ref b] below meth c s.heap [] 0 0 (lw_Z below #[Value.ref b] s) (entryFrame m ([Value.ref b] : List Value).toArray 4) := by
  obtain ⟨M3, ⟨S, I, J, rfl, _⟩, h2⟩ := y_law hL xs
  obtain ⟨n0, hn⟩ := xz_Run_runs h2
  have e1 : xz_SH.length ≤ 900 := by decide +kernel
  have e2 : (xz_SH.map fun q => q.2.1).sum ≤ 7302250 := by decide +kernel
  exact xz_start hok l C0 (M1 := (xz_SH, I, J)) ⟨n0, hn n0 (Nat.le_refl _)⟩ e1 e2
