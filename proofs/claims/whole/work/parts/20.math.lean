/-! THE MATHEMATICS, over numbers alone: ways as lists of meetings; who is reached. S: 0 (n, delay, from, to, start), 1 (came), 2 times, 3 first, 4 second, 5 sure, 6 dropped -/
abbrev y_S : Type := Nat → Nat → Nat
abbrev y_A : Type := Nat → Option Nat
def y_ot (S : y_S) (m h : Nat) : Option Nat := if S 3 m = h then some (S 4 m) else if S 4 m = h then some (S 3 m) else none
def y_tk (S : y_S) (B m h r v : Nat) : Option Nat :=
  if S 6 m = 0 ∧ r ≤ S 2 m then
    match y_ot S m h with
    | some x => if v.testBit x = true ∨ B.testBit x = true then none else some x
    | none => none
  else none
def y_wm (f : Nat → Nat → List (List Nat)) (tk : Nat → Option Nat) : Nat → Nat → List (List Nat)
  | 0, _ => []
  | j + 1, m => (match tk m with
    | none => []
    | some x => (f m x).map (m :: ·)) ++ y_wm f tk j (m + 1)
/-- all ways from h on to g by at most k hands, ready at r, who had it: v; without those of B -/
def y_wl (S : y_S) (g B : Nat) : Nat → Nat → Nat → Nat → List (List Nat)
  | 0, h, _, _ => if h = g then [[]] else []
  | k + 1, h, r, v => if h = g then [[]] else y_wm (fun m x => y_wl S g B k x (S 2 m + S 0 1) (v ||| 1 <<< x)) (fun m => y_tk S B m h r v) (S 1 0) 0
theorem y_wm_mem {f : Nat → Nat → List (List Nat)} {tk : Nat → Option Nat} {p : List Nat} : ∀ {j m : Nat}, p ∈ y_wm f tk j m ↔ ∃ i x q, m ≤ i ∧ i < m + j ∧ tk i = some x ∧ q ∈ f i x ∧ p = i :: q
  | 0, m => by
    constructor
    · intro h
      cases h
    · rintro ⟨i, x, q, h1, h2, _⟩
      omega
  | j + 1, m => by
    unfold y_wm
    rw [List.mem_append, y_wm_mem (j := j) (m := m + 1)]
    constructor
    · rintro (h | ⟨i, x, q, h1, h2, h3⟩)
      · cases ht : tk m with
        | none => rw [ht] at h; cases h
        | some x =>
          rw [ht] at h
          obtain ⟨q, hq, rfl⟩ := List.mem_map.mp h
          exact ⟨m, x, q, Nat.le_refl _, by omega, ht, hq, rfl⟩
      · exact ⟨i, x, q, by omega, by omega, h3⟩
    · rintro ⟨i, x, q, h1, h2, h3, h4, rfl⟩
      by_cases hi : i = m
      · subst hi
        left
        rw [h3]
        exact List.mem_map.mpr ⟨q, h4, rfl⟩
      · exact Or.inr ⟨i, x, q, by omega, by omega, h3, h4, rfl⟩
theorem y_wm_congr {f f' : Nat → Nat → List (List Nat)} {tk : Nat → Option Nat} : ∀ {j m : Nat}, (∀ i x, m ≤ i → i < m + j → tk i = some x → f i x = f' i x) → y_wm f tk j m = y_wm f' tk j m
  | 0, _, _ => rfl
  | j + 1, m, h => by
    unfold y_wm
    rw [y_wm_congr (j := j) (m := m + 1) fun i x h1 h2 h3 => h i x (by omega) (by omega) h3]
    cases ht : tk m with
    | none => rfl
    | some x =>
      dsimp only
      rw [h m x (by omega) (by omega) ht]
/-- a row of meetings gone through: who holds it then, ready when, who had it -/
def y_run (S : y_S) (B : Nat) : List Nat → Nat → Nat → Nat → Option (Nat × Nat × Nat)
  | [], h, r, v => some (h, r, v)
  | m :: p, h, r, v => if m < S 1 0 then
      match y_tk S B m h r v with
      | none => none
      | some x => y_run S B p x (S 2 m + S 0 1) (v ||| 1 <<< x)
    else none
theorem y_run_c {S : y_S} {B m h r v x : Nat} (p : List Nat) (hm : m < S 1 0) (ht : y_tk S B m h r v = some x) : y_run S B (m :: p) h r v = y_run S B p x (S 2 m + S 0 1) (v ||| 1 <<< x) := by
  show (if m < S 1 0 then _ else _) = _
  rw [if_pos hm, ht]
theorem y_run_ci {S : y_S} {B m h r v : Nat} {p : List Nat} {q : Nat × Nat × Nat} (e : y_run S B (m :: p) h r v = some q) : m < S 1 0 ∧ ∃ x, y_tk S B m h r v = some x ∧ y_run S B p x (S 2 m + S 0 1) (v ||| 1 <<< x) = some q := by
  have e' : (if m < S 1 0 then (match y_tk S B m h r v with
      | none => none
      | some x => y_run S B p x (S 2 m + S 0 1) (v ||| 1 <<< x)) else none) = some q := e
  by_cases hm : m < S 1 0
  · rw [if_pos hm] at e'
    cases ht : y_tk S B m h r v with
    | none => rw [ht] at e'; cases e'
    | some x =>
      rw [ht] at e'
      exact ⟨hm, x, rfl, e'⟩
  · rw [if_neg hm] at e'
    cases e'
theorem y_tk_i {S : y_S} {B m h r v x : Nat} (e : y_tk S B m h r v = some x) : S 6 m = 0 ∧ r ≤ S 2 m ∧ y_ot S m h = some x ∧ v.testBit x = false ∧ B.testBit x = false := by
  unfold y_tk at e
  by_cases h1 : S 6 m = 0 ∧ r ≤ S 2 m
  · rw [if_pos h1] at e
    cases h2 : y_ot S m h with
    | none => rw [h2] at e; cases e
    | some y =>
      rw [h2] at e
      dsimp only at e
      by_cases h3 : v.testBit y = true ∨ B.testBit y = true
      · rw [if_pos h3] at e; cases e
      · rw [if_neg h3] at e
        cases e
        refine ⟨h1.1, h1.2, rfl, ?_, ?_⟩
        · cases h4 : v.testBit x
          · rfl
          · exact absurd (Or.inl h4) h3
        · cases h4 : B.testBit x
          · rfl
          · exact absurd (Or.inr h4) h3
  · rw [if_neg h1] at e; cases e
theorem y_tk_o {S : y_S} {B m h r v x : Nat} (h1 : S 6 m = 0) (h2 : r ≤ S 2 m) (h3 : y_ot S m h = some x) (h4 : v.testBit x = false) (h5 : B.testBit x = false) : y_tk S B m h r v = some x := by
  unfold y_tk
  rw [if_pos ⟨h1, h2⟩, h3]
  dsimp only
  rw [if_neg (by rw [h4, h5]; simp)]
theorem y_or_self (v x : Nat) : (v ||| 1 <<< x).testBit x = true := by
  simp [Nat.testBit_or, Nat.testBit_shiftLeft]
theorem y_or_old {v x y : Nat} (h : (v ||| 1 <<< x).testBit y = false) : v.testBit y = false := by
  rw [Nat.testBit_or] at h
  cases h1 : v.testBit y
  · rfl
  · rw [h1] at h; cases h
theorem y_one {f p : Nat} : (1 <<< f : Nat).testBit p = true ↔ p = f := by
  rw [Nat.testBit_shiftLeft]
  constructor
  · intro h
    simp only [Bool.and_eq_true, decide_eq_true_eq] at h
    obtain ⟨h1, h2⟩ := h
    have h3 : p - f = 0 := by
      rcases Nat.eq_zero_or_pos (p - f) with h | h
      · exact h
      · rw [Nat.testBit_one_eq_true_iff_self_eq_zero] at h2
        exact h2
    omega
  · rintro rfl
    simp
theorem y_orB {v x y : Nat} : (v ||| 1 <<< x).testBit y = true ↔ v.testBit y = true ∨ y = x := by
  rw [Nat.testBit_or, Bool.or_eq_true, y_one]
/-- who holds it at last hadn't had it at first -/
theorem y_run_new {S : y_S} {B : Nat} : ∀ {p : List Nat} {h r v g r' v' : Nat}, y_run S B p h r v = some (g, r', v') → p ≠ [] → v.testBit g = false
  | [], _, _, _, _, _, _, _, hp => absurd rfl hp
  | m :: p, h, r, v, g, r', v', e, _ => by
    obtain ⟨hm, x, hx, e1⟩ := y_run_ci e
    have hv := (y_tk_i hx).2.2.2.1
    cases p with
    | nil =>
      cases e1
      exact hv
    | cons m' p => exact y_or_old (y_run_new e1 (by simp))
theorem y_wl_mem {S : y_S} {g B : Nat} : ∀ {k h r v : Nat} {p : List Nat}, v.testBit h = true → (p ∈ y_wl S g B k h r v ↔ p.length ≤ k ∧ ∃ r' v', y_run S B p h r v = some (g, r', v'))
  | 0, h, r, v, p, hv => by
    show p ∈ (if h = g then [[]] else []) ↔ _
    by_cases hg : h = g
    · rw [if_pos hg]
      constructor
      · intro hp
        rw [List.mem_singleton] at hp
        subst hp hg
        exact ⟨Nat.le_refl _, r, v, rfl⟩
      · rintro ⟨hl, _⟩
        rw [List.mem_singleton]
        exact List.eq_nil_of_length_eq_zero (by omega)
    · rw [if_neg hg]
      constructor
      · intro hp
        cases hp
      · rintro ⟨hl, r', v', e⟩
        have := List.eq_nil_of_length_eq_zero (Nat.le_zero.mp hl)
        subst this
        cases e
        exact absurd rfl hg
  | k + 1, h, r, v, p, hv => by
    show p ∈ (if h = g then [[]] else y_wm (fun m x => y_wl S g B k x (S 2 m + S 0 1) (v ||| 1 <<< x)) (fun m => y_tk S B m h r v) (S 1 0) 0) ↔ _
    by_cases hg : h = g
    · rw [if_pos hg]
      constructor
      · intro hp
        rw [List.mem_singleton] at hp
        subst hp hg
        exact ⟨Nat.zero_le _, r, v, rfl⟩
      · rintro ⟨hl, r', v', e⟩
        rw [List.mem_singleton]
        rcases Classical.em (p = []) with h0 | h0
        · exact h0
        · have := y_run_new e h0
          rw [← hg, hv] at this
          cases this
    · rw [if_neg hg, y_wm_mem]
      constructor
      · rintro ⟨i, x, q, _, hi, hx, hq, rfl⟩
        obtain ⟨hl, r', v', e⟩ := (y_wl_mem (y_or_self v x)).mp hq
        exact ⟨by simp only [List.length_cons]; omega, r', v', by rw [y_run_c q (by omega) hx]; exact e⟩
      · rintro ⟨hl, r', v', e⟩
        cases p with
        | nil =>
          cases e
          exact absurd rfl hg
        | cons m q =>
          obtain ⟨hm, x, hx, e1⟩ := y_run_ci e
          refine ⟨m, x, q, Nat.zero_le _, by omega, hx, (y_wl_mem (y_or_self v x)).mpr ⟨?_, r', v', e1⟩, rfl⟩
          simp only [List.length_cons] at hl
          omega
/-- how many of six bits -/
def y_pc (v : Nat) : Nat := v % 2 + v / 2 % 2 + v / 4 % 2 + v / 8 % 2 + v / 16 % 2 + v / 32 % 2
theorem y_pc_or : ∀ v, v < 64 → ∀ x, x < 6 → v.testBit x = false → (v ||| 1 <<< x) < 64 ∧ y_pc (v ||| 1 <<< x) = y_pc v + 1 := by decide +kernel
theorem y_pc_le : ∀ v, v < 64 → y_pc v ≤ 6 := by decide +kernel
theorem y_pc_6 : ∀ v, v < 64 → 6 ≤ y_pc v → ∀ x, x < 6 → v.testBit x = true := by decide +kernel
theorem y_pc_1 : ∀ x, x < 6 → (1 <<< x : Nat) < 64 ∧ y_pc (1 <<< x) = 1 := by decide +kernel
/-- the first and the second PERSON of all that came are below 6 -/
def y_six (S : y_S) : Prop := ∀ m, m < S 1 0 → S 3 m < 6 ∧ S 4 m < 6
theorem y_ot_6 {S : y_S} (h6 : y_six S) {m h x : Nat} (hm : m < S 1 0) (e : y_ot S m h = some x) : x < 6 := by
  unfold y_ot at e
  have := h6 m hm
  split at e
  · cases e; exact this.2
  · split at e
    · cases e; exact this.1
    · cases e
theorem y_run_pc {S : y_S} (h6 : y_six S) {B : Nat} : ∀ {p : List Nat} {h r v g r' v' : Nat}, v < 64 → y_run S B p h r v = some (g, r', v') → v' < 64 ∧ y_pc v' = y_pc v + p.length
  | [], _, _, _, _, _, _, hv, e => by
    cases e
    exact ⟨hv, rfl⟩
  | m :: p, h, r, v, g, r', v', hv, e => by
    obtain ⟨hm, x, hx, e1⟩ := y_run_ci e
    obtain ⟨_, _, h3, h4, _⟩ := y_tk_i hx
    have h5 := y_pc_or v hv x (y_ot_6 h6 hm h3) h4
    have := y_run_pc h6 h5.1 e1
    refine ⟨this.1, ?_⟩
    rw [this.2, h5.2, List.length_cons]
    omega
theorem y_run_len {S : y_S} (h6 : y_six S) {B : Nat} {p : List Nat} {f r g r' v' : Nat} (hf : f < 6) (e : y_run S B p f r (1 <<< f) = some (g, r', v')) : p.length ≤ 5 := by
  have h1 := y_pc_1 f hf
  have h2 := y_run_pc h6 h1.1 e
  have h3 := y_pc_le v' h2.1
  omega
theorem y_wl_more {S : y_S} (h6 : y_six S) {g B : Nat} : ∀ {k h r v : Nat}, v < 64 → 6 ≤ y_pc v + k → y_wl S g B (k + 1) h r v = y_wl S g B k h r v
  | 0, h, r, v, hv, hk => by
    show (if h = g then [[]] else y_wm (fun m x => y_wl S g B 0 x (S 2 m + S 0 1) (v ||| 1 <<< x)) (fun m => y_tk S B m h r v) (S 1 0) 0) = if h = g then [[]] else []
    by_cases hg : h = g
    · rw [if_pos hg, if_pos hg]
    · rw [if_neg hg, if_neg hg]
      rw [List.eq_nil_iff_forall_not_mem]
      intro p hp
      obtain ⟨i, x, q, _, hi, hx, _⟩ := y_wm_mem.mp hp
      obtain ⟨_, _, h3, h4, _⟩ := y_tk_i hx
      have := y_pc_6 v hv (by omega) x (y_ot_6 h6 (by omega) h3)
      rw [this] at h4
      cases h4
  | k + 1, h, r, v, hv, hk => by
    show (if h = g then [[]] else y_wm (fun m x => y_wl S g B (k + 1) x (S 2 m + S 0 1) (v ||| 1 <<< x)) (fun m => y_tk S B m h r v) (S 1 0) 0) = if h = g then [[]] else y_wm (fun m x => y_wl S g B k x (S 2 m + S 0 1) (v ||| 1 <<< x)) (fun m => y_tk S B m h r v) (S 1 0) 0
    by_cases hg : h = g
    · rw [if_pos hg, if_pos hg]
    · rw [if_neg hg, if_neg hg]
      refine y_wm_congr fun i x _ hi hx => ?_
      obtain ⟨_, _, h3, h4, _⟩ := y_tk_i hx
      have h5 := y_pc_or v hv x (y_ot_6 h6 (by omega) h3) h4
      exact y_wl_more h6 h5.1 (by omega)
theorem y_run_app {S : y_S} {B : Nat} : ∀ {p q : List Nat} {h r v : Nat}, y_run S B (p ++ q) h r v = (y_run S B p h r v).bind fun z => y_run S B q z.1 z.2.1 z.2.2
  | [], q, h, r, v => rfl
  | m :: p, q, h, r, v => by
    show (if m < S 1 0 then _ else _) = Option.bind (if m < S 1 0 then _ else _) _
    by_cases hm : m < S 1 0
    · rw [if_pos hm, if_pos hm]
      cases ht : y_tk S B m h r v with
      | none => rfl
      | some x => exact y_run_app
    · rw [if_neg hm, if_neg hm]
      rfl
/-- ARRIVAL: TIME of the last one -/
def y_ar (S : y_S) : Nat → List Nat → Nat
  | st, [] => st
  | _, m :: p => y_ar S (S 2 m) p
theorem y_run_r {S : y_S} {B : Nat} : ∀ {p : List Nat} {h r v g r' v' st : Nat}, y_run S B p h r v = some (g, r', v') → (p = [] ∧ r' = r ∧ g = h ∧ v' = v) ∨ (p ≠ [] ∧ r' = y_ar S st p + S 0 1)
  | [], _, _, _, _, _, _, _, e => by
    cases e
    exact Or.inl ⟨rfl, rfl, rfl, rfl⟩
  | m :: p, h, r, v, g, r', v', st, e => by
    obtain ⟨hm, x, hx, e1⟩ := y_run_ci e
    refine Or.inr ⟨by simp, ?_⟩
    rcases y_run_r (st := S 2 m) e1 with ⟨rfl, rfl, rfl, _⟩ | ⟨_, h2⟩
    · rfl
    · exact h2
/-- on the road nobody is ready earlier than those ahead; whoever had it held it on the road -/
theorem y_run_pre {S : y_S} {B : Nat} : ∀ {p : List Nat} {h r v g r' v' : Nat}, y_run S B p h r v = some (g, r', v') → r ≤ r' ∧ ∀ x, v'.testBit x = true → v.testBit x = true ∨ ∃ w r0 v0, y_run S B w h r v = some (x, r0, v0) ∧ r0 ≤ r'
  | [], _, _, _, _, _, _, e => by
    cases e
    exact ⟨Nat.le_refl _, fun x hx => Or.inl hx⟩
  | m :: p, h, r, v, g, r', v', e => by
    obtain ⟨hm, y, hy, e1⟩ := y_run_ci e
    obtain ⟨h1, h2⟩ := y_run_pre e1
    obtain ⟨_, g2, _⟩ := y_tk_i hy
    refine ⟨by omega, fun x hx => ?_⟩
    rcases h2 x hx with h3 | ⟨w, r0, v0, h3, h4⟩
    · rcases y_orB.mp h3 with h3 | rfl
      · exact Or.inl h3
      · refine Or.inr ⟨[m], S 2 m + S 0 1, v ||| 1 <<< x, ?_, h1⟩
        rw [y_run_c [] hm hy]
        rfl
    · exact Or.inr ⟨m :: w, r0, v0, by rw [y_run_c w hm hy]; exact h3, h4⟩
theorem y_run_bar {S : y_S} {B : Nat} : ∀ {p : List Nat} {h r v g r' v' : Nat}, y_run S B p h r v = some (g, r', v') → B.testBit h = false → B.testBit g = false
  | [], _, _, _, _, _, _, e, hb => by
    cases e
    exact hb
  | m :: p, h, r, v, g, r', v', e, hb => by
    obtain ⟨hm, y, hy, e1⟩ := y_run_ci e
    exact y_run_bar e1 (y_tk_i hy).2.2.2.2
/-- REACH -/
def y_rc (S : y_S) (B st g : Nat) : Option Nat := ((y_wl S g B 5 (S 0 2) st (1 <<< S 0 2)).map (y_ar S st)).min?
def y_rdy (S : y_S) (g t : Nat) : Nat := if g = S 0 2 then t else t + S 0 1
theorem y_rdy_le (S : y_S) (g : Nat) {t u : Nat} (h : t ≤ u) : y_rdy S g t ≤ y_rdy S g u := by
  unfold y_rdy
  split <;> omega
theorem y_rdy_ge (S : y_S) (g t : Nat) : t ≤ y_rdy S g t := by
  unfold y_rdy
  split <;> omega
def y_snd (S : y_S) (B st : Nat) (a : y_A) : Prop := ∀ p t, a p = some t → ∃ w r' v', y_run S B w (S 0 2) st (1 <<< S 0 2) = some (p, r', v') ∧ r' ≤ y_rdy S p t
def y_sat (S : y_S) (B st : Nat) (a : y_A) (j : Nat) : Prop := ∀ w p r' v', w.length ≤ j → y_run S B w (S 0 2) st (1 <<< S 0 2) = some (p, r', v') → ∃ t, a p = some t ∧ y_rdy S p t ≤ r'
theorem y_relax {S : y_S} (h6 : y_six S) (hf : S 0 2 < 6) {B st : Nat} {a : y_A} (hs : y_snd S B st a) (hc : y_sat S B st a 5) (p : Nat) : a p = y_rc S B st p := by
  have hv : (1 <<< S 0 2 : Nat).testBit (S 0 2) = true := y_one.mpr rfl
  have hall : ∀ w, w ∈ y_wl S p B 5 (S 0 2) st (1 <<< S 0 2) → ∃ t, a p = some t ∧ t ≤ y_ar S st w := by
    intro w hw
    obtain ⟨hl, r', v', e⟩ := (y_wl_mem hv).mp hw
    obtain ⟨t, h1, h2⟩ := hc w p r' v' hl e
    refine ⟨t, h1, ?_⟩
    rcases y_run_r (st := st) e with ⟨hw0, hr0, _⟩ | ⟨h3, h4⟩
    · have := y_rdy_ge S p t
      rw [hw0]
      show t ≤ st
      omega
    · have h5 := y_run_new e h3
      have h6 : p ≠ S 0 2 := by
        rintro rfl
        rw [hv] at h5
        cases h5
      unfold y_rdy at h2
      rw [if_neg h6] at h2
      omega
  cases hp : a p with
  | none =>
    symm
    unfold y_rc
    rw [List.min?_eq_none_iff, List.map_eq_nil_iff, List.eq_nil_iff_forall_not_mem]
    intro w hw
    obtain ⟨t, h1, _⟩ := hall w hw
    rw [hp] at h1
    cases h1
  | some t =>
    symm
    unfold y_rc
    rw [List.min?_eq_some_iff']
    refine ⟨?_, ?_⟩
    · obtain ⟨w, r', v', e, h1⟩ := hs p t hp
      have hl := y_run_len h6 hf e
      have hw := (y_wl_mem (g := p) (k := 5) hv).mpr ⟨hl, r', v', e⟩
      obtain ⟨t', h2, h3⟩ := hall w hw
      rw [hp] at h2
      cases h2
      refine List.mem_map.mpr ⟨w, hw, ?_⟩
      rcases y_run_r (st := st) e with ⟨hw0, hr0, hp0, _⟩ | ⟨h4, h5⟩
      · unfold y_rdy at h1
        rw [if_pos hp0] at h1
        rw [hw0] at h3 ⊢
        have : t ≤ st := h3
        show st = t
        omega
      · have h6 := y_run_new e h4
        have h7 : p ≠ S 0 2 := by
          rintro rfl
          rw [hv] at h6
          cases h6
        unfold y_rdy at h1
        rw [if_neg h7] at h1
        omega
    · intro b hb
      obtain ⟨w, hw, rfl⟩ := List.mem_map.mp hb
      obtain ⟨t', h2, h3⟩ := hall w hw
      rw [hp] at h2
      cases h2
      exact h3
