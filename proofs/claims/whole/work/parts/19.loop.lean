/-! THE LAW'S LOOP over a relation of heaps (by program: wip/whole/emitloop.py) -/
/-- on heaps that stand in zR the class's call and the reference's answer the same, and the heap behind both stands in zR -/
def zSI (zR : xz_M → Prop) (q q' : Nat) (as : List Value) : Prop := ∀ M, zR M → ∃ (v : Int32) (M1 M2 : xz_M), zC 60 q (.ref 0 :: as) M = some (some (.int v), M1) ∧ xz_is M1 92 8 = true ∧ zC 60 q' (.ref 92 :: as) M1 = some (some (.int v), M2) ∧ zR M2
def zSJ (zR : xz_M → Prop) (q q' : Nat) (as : List Value) : Prop := ∀ M, zR M → ∃ (v : Int64) (M1 M2 : xz_M), zC 60 q (.ref 0 :: as) M = some (some (.long v), M1) ∧ xz_is M1 92 8 = true ∧ zC 60 q' (.ref 92 :: as) M1 = some (some (.long v), M2) ∧ zR M2
theorem z_cmp (x : Int64) : lg_cmp x x = 0 := (lg_cmp_eq x x).mpr rfl
theorem z_in {L i k : Nat} (hL : L ≤ 3072) (hi : i + k < L) : xz_in (nI i + nI k) L = true := by
  rw [nI_add]
  unfold xz_in
  exact decide_eq_true (nI_in hi (by omega))
set_option maxRecDepth 100000 in
theorem z_l24 {zR : xz_M → Prop} (h0 : ∀ M, zR M → xz_is M 0 7 = true) {L i : Nat} {xs : Nat → Int32} (hL : L ≤ 3072) (hi : i + 6 ≤ L) (hs : zSI zR q_HR_people q_Mo_people [.int (xs (Int32.toNatClampNeg (nI i + (1 : Int32))))]) {M : xz_M} (hM : zR M) : ∃ M2, zR M2 ∧ ∀ r, zX 60 L xs 910 [(0, .ref 1000), (1, .ref 0), (2, .ref 92), (3, .int (nI i))] M2 = some r → zX 60 L xs 24 [(0, .ref 1000), (1, .ref 0), (2, .ref 92), (3, .int (nI i))] M = some r := by
  obtain ⟨v, M1, M2, h1, h2, h3, h4⟩ := hs M hM
  refine ⟨M2, h4, fun r hr => b_La_l24 _ _ _ _ _ _ _ _ ?_⟩
  have g1 : xz_in (nI i + (1 : Int32)) L = true := z_in (k := 1) hL (by omega)
  simp only [xz_b, h0 M hM, h1, xz_bI, xz_bJ, h2, h3, z_cmp, if_true, g1]
  exact hr
set_option maxRecDepth 100000 in
theorem z_l42 {zR : xz_M → Prop} (h0 : ∀ M, zR M → xz_is M 0 7 = true) {L i : Nat} {xs : Nat → Int32} (hL : L ≤ 3072) (hi : i + 6 ≤ L) (hs : zSI zR q_HR_meet q_Mo_meet [.int (xs (Int32.toNatClampNeg (nI i + (1 : Int32)))), .int (xs (Int32.toNatClampNeg (nI i + (2 : Int32)))), .int (xs (Int32.toNatClampNeg (nI i + (3 : Int32)))), .int (xs (Int32.toNatClampNeg (nI i + (4 : Int32))))]) {M : xz_M} (hM : zR M) : ∃ M2, zR M2 ∧ ∀ r, zX 60 L xs 910 [(0, .ref 1000), (1, .ref 0), (2, .ref 92), (3, .int (nI i))] M2 = some r → zX 60 L xs 42 [(0, .ref 1000), (1, .ref 0), (2, .ref 92), (3, .int (nI i))] M = some r := by
  obtain ⟨v, M1, M2, h1, h2, h3, h4⟩ := hs M hM
  refine ⟨M2, h4, fun r hr => b_La_l42 _ _ _ _ _ _ _ _ ?_⟩
  have g1 : xz_in (nI i + (1 : Int32)) L = true := z_in (k := 1) hL (by omega)
  have g2 : xz_in (nI i + (2 : Int32)) L = true := z_in (k := 2) hL (by omega)
  have g3 : xz_in (nI i + (3 : Int32)) L = true := z_in (k := 3) hL (by omega)
  have g4 : xz_in (nI i + (4 : Int32)) L = true := z_in (k := 4) hL (by omega)
  simp only [xz_b, h0 M hM, h1, xz_bI, xz_bJ, h2, h3, z_cmp, if_true, g1, g2, g3, g4]
  exact hr
set_option maxRecDepth 100000 in
theorem z_l90 {zR : xz_M → Prop} (h0 : ∀ M, zR M → xz_is M 0 7 = true) {L i : Nat} {xs : Nat → Int32} (hL : L ≤ 3072) (hi : i + 6 ≤ L) (hs : zSI zR q_HR_drop q_Mo_drop [.int (xs (Int32.toNatClampNeg (nI i + (1 : Int32))))]) {M : xz_M} (hM : zR M) : ∃ M2, zR M2 ∧ ∀ r, zX 60 L xs 910 [(0, .ref 1000), (1, .ref 0), (2, .ref 92), (3, .int (nI i))] M2 = some r → zX 60 L xs 90 [(0, .ref 1000), (1, .ref 0), (2, .ref 92), (3, .int (nI i))] M = some r := by
  obtain ⟨v, M1, M2, h1, h2, h3, h4⟩ := hs M hM
  refine ⟨M2, h4, fun r hr => b_La_l90 _ _ _ _ _ _ _ _ ?_⟩
  have g1 : xz_in (nI i + (1 : Int32)) L = true := z_in (k := 1) hL (by omega)
  simp only [xz_b, h0 M hM, h1, xz_bI, xz_bJ, h2, h3, z_cmp, if_true, g1]
  exact hr
set_option maxRecDepth 100000 in
theorem z_l108 {zR : xz_M → Prop} (h0 : ∀ M, zR M → xz_is M 0 7 = true) {L i : Nat} {xs : Nat → Int32} (hL : L ≤ 3072) (hi : i + 6 ≤ L) (hs : zSI zR q_HR_renew q_Mo_renew [.int (xs (Int32.toNatClampNeg (nI i + (1 : Int32)))), .int (xs (Int32.toNatClampNeg (nI i + (2 : Int32)))), .int (xs (Int32.toNatClampNeg (nI i + (3 : Int32))))]) {M : xz_M} (hM : zR M) : ∃ M2, zR M2 ∧ ∀ r, zX 60 L xs 910 [(0, .ref 1000), (1, .ref 0), (2, .ref 92), (3, .int (nI i))] M2 = some r → zX 60 L xs 108 [(0, .ref 1000), (1, .ref 0), (2, .ref 92), (3, .int (nI i))] M = some r := by
  obtain ⟨v, M1, M2, h1, h2, h3, h4⟩ := hs M hM
  refine ⟨M2, h4, fun r hr => b_La_l108 _ _ _ _ _ _ _ _ ?_⟩
  have g1 : xz_in (nI i + (1 : Int32)) L = true := z_in (k := 1) hL (by omega)
  have g2 : xz_in (nI i + (2 : Int32)) L = true := z_in (k := 2) hL (by omega)
  have g3 : xz_in (nI i + (3 : Int32)) L = true := z_in (k := 3) hL (by omega)
  simp only [xz_b, h0 M hM, h1, xz_bI, xz_bJ, h2, h3, z_cmp, if_true, g1, g2, g3]
  exact hr
set_option maxRecDepth 100000 in
theorem z_l146 {zR : xz_M → Prop} (h0 : ∀ M, zR M → xz_is M 0 7 = true) {L i : Nat} {xs : Nat → Int32} (hL : L ≤ 3072) (hi : i + 6 ≤ L) (hs : zSI zR q_HR_meeting q_Mo_meeting [.int (xs (Int32.toNatClampNeg (nI i + (1 : Int32)))), .int (xs (Int32.toNatClampNeg (nI i + (2 : Int32))))]) {M : xz_M} (hM : zR M) : ∃ M2, zR M2 ∧ ∀ r, zX 60 L xs 910 [(0, .ref 1000), (1, .ref 0), (2, .ref 92), (3, .int (nI i))] M2 = some r → zX 60 L xs 146 [(0, .ref 1000), (1, .ref 0), (2, .ref 92), (3, .int (nI i))] M = some r := by
  obtain ⟨v, M1, M2, h1, h2, h3, h4⟩ := hs M hM
  refine ⟨M2, h4, fun r hr => b_La_l146 _ _ _ _ _ _ _ _ ?_⟩
  have g1 : xz_in (nI i + (1 : Int32)) L = true := z_in (k := 1) hL (by omega)
  have g2 : xz_in (nI i + (2 : Int32)) L = true := z_in (k := 2) hL (by omega)
  simp only [xz_b, h0 M hM, h1, xz_bI, xz_bJ, h2, h3, z_cmp, if_true, g1, g2]
  exact hr
set_option maxRecDepth 100000 in
theorem z_l174 {zR : xz_M → Prop} (h0 : ∀ M, zR M → xz_is M 0 7 = true) {L i : Nat} {xs : Nat → Int32} (hL : L ≤ 3072) (hi : i + 6 ≤ L) (hs : zSI zR q_HR_delay q_Mo_delay [.int (xs (Int32.toNatClampNeg (nI i + (1 : Int32))))]) {M : xz_M} (hM : zR M) : ∃ M2, zR M2 ∧ ∀ r, zX 60 L xs 910 [(0, .ref 1000), (1, .ref 0), (2, .ref 92), (3, .int (nI i))] M2 = some r → zX 60 L xs 174 [(0, .ref 1000), (1, .ref 0), (2, .ref 92), (3, .int (nI i))] M = some r := by
  obtain ⟨v, M1, M2, h1, h2, h3, h4⟩ := hs M hM
  refine ⟨M2, h4, fun r hr => b_La_l174 _ _ _ _ _ _ _ _ ?_⟩
  have g1 : xz_in (nI i + (1 : Int32)) L = true := z_in (k := 1) hL (by omega)
  simp only [xz_b, h0 M hM, h1, xz_bI, xz_bJ, h2, h3, z_cmp, if_true, g1]
  exact hr
set_option maxRecDepth 100000 in
theorem z_l192 {zR : xz_M → Prop} (h0 : ∀ M, zR M → xz_is M 0 7 = true) {L i : Nat} {xs : Nat → Int32} (hL : L ≤ 3072) (hi : i + 6 ≤ L) (hs : zSI zR q_HR_ask q_Mo_ask [.int (xs (Int32.toNatClampNeg (nI i + (1 : Int32)))), .int (xs (Int32.toNatClampNeg (nI i + (2 : Int32)))), .int (xs (Int32.toNatClampNeg (nI i + (3 : Int32))))]) {M : xz_M} (hM : zR M) : ∃ M2, zR M2 ∧ ∀ r, zX 60 L xs 910 [(0, .ref 1000), (1, .ref 0), (2, .ref 92), (3, .int (nI i))] M2 = some r → zX 60 L xs 192 [(0, .ref 1000), (1, .ref 0), (2, .ref 92), (3, .int (nI i))] M = some r := by
  obtain ⟨v, M1, M2, h1, h2, h3, h4⟩ := hs M hM
  refine ⟨M2, h4, fun r hr => b_La_l192 _ _ _ _ _ _ _ _ ?_⟩
  have g1 : xz_in (nI i + (1 : Int32)) L = true := z_in (k := 1) hL (by omega)
  have g2 : xz_in (nI i + (2 : Int32)) L = true := z_in (k := 2) hL (by omega)
  have g3 : xz_in (nI i + (3 : Int32)) L = true := z_in (k := 3) hL (by omega)
  simp only [xz_b, h0 M hM, h1, xz_bI, xz_bJ, h2, h3, z_cmp, if_true, g1, g2, g3]
  exact hr
set_option maxRecDepth 100000 in
theorem z_l230 {zR : xz_M → Prop} (h0 : ∀ M, zR M → xz_is M 0 7 = true) {L i : Nat} {xs : Nat → Int32} (hL : L ≤ 3072) (hi : i + 6 ≤ L) (hs : zSI zR q_HR_feed q_Mo_feed [.int (xs (Int32.toNatClampNeg (nI i + (1 : Int32))))]) {M : xz_M} (hM : zR M) : ∃ M2, zR M2 ∧ ∀ r, zX 60 L xs 910 [(0, .ref 1000), (1, .ref 0), (2, .ref 92), (3, .int (nI i))] M2 = some r → zX 60 L xs 230 [(0, .ref 1000), (1, .ref 0), (2, .ref 92), (3, .int (nI i))] M = some r := by
  obtain ⟨v, M1, M2, h1, h2, h3, h4⟩ := hs M hM
  refine ⟨M2, h4, fun r hr => b_La_l230 _ _ _ _ _ _ _ _ ?_⟩
  have g1 : xz_in (nI i + (1 : Int32)) L = true := z_in (k := 1) hL (by omega)
  simp only [xz_b, h0 M hM, h1, xz_bI, xz_bJ, h2, h3, z_cmp, if_true, g1]
  exact hr
set_option maxRecDepth 100000 in
theorem z_l248 {zR : xz_M → Prop} (h0 : ∀ M, zR M → xz_is M 0 7 = true) {L i : Nat} {xs : Nat → Int32} (hL : L ≤ 3072) (hi : i + 6 ≤ L) (hs : zSI zR q_HR_read q_Mo_read []) {M : xz_M} (hM : zR M) : ∃ M2, zR M2 ∧ ∀ r, zX 60 L xs 910 [(0, .ref 1000), (1, .ref 0), (2, .ref 92), (3, .int (nI i))] M2 = some r → zX 60 L xs 248 [(0, .ref 1000), (1, .ref 0), (2, .ref 92), (3, .int (nI i))] M = some r := by
  obtain ⟨v, M1, M2, h1, h2, h3, h4⟩ := hs M hM
  refine ⟨M2, h4, fun r hr => b_La_l248 _ _ _ _ _ _ _ _ ?_⟩
  simp only [xz_b, h0 M hM, h1, xz_bI, xz_bJ, h2, h3, z_cmp, if_true]
  exact hr
set_option maxRecDepth 100000 in
theorem z_l256 {zR : xz_M → Prop} (h0 : ∀ M, zR M → xz_is M 0 7 = true) {L i : Nat} {xs : Nat → Int32} (hL : L ≤ 3072) (hi : i + 6 ≤ L) (hs : zSI zR q_HR_way q_Mo_way [.int (xs (Int32.toNatClampNeg (nI i + (1 : Int32)))), .int (xs (Int32.toNatClampNeg (nI i + (2 : Int32))))]) {M : xz_M} (hM : zR M) : ∃ M2, zR M2 ∧ ∀ r, zX 60 L xs 910 [(0, .ref 1000), (1, .ref 0), (2, .ref 92), (3, .int (nI i))] M2 = some r → zX 60 L xs 256 [(0, .ref 1000), (1, .ref 0), (2, .ref 92), (3, .int (nI i))] M = some r := by
  obtain ⟨v, M1, M2, h1, h2, h3, h4⟩ := hs M hM
  refine ⟨M2, h4, fun r hr => b_La_l256 _ _ _ _ _ _ _ _ ?_⟩
  have g1 : xz_in (nI i + (1 : Int32)) L = true := z_in (k := 1) hL (by omega)
  have g2 : xz_in (nI i + (2 : Int32)) L = true := z_in (k := 2) hL (by omega)
  simp only [xz_b, h0 M hM, h1, xz_bI, xz_bJ, h2, h3, z_cmp, if_true, g1, g2]
  exact hr
set_option maxRecDepth 100000 in
theorem z_l284 {zR : xz_M → Prop} (h0 : ∀ M, zR M → xz_is M 0 7 = true) {L i : Nat} {xs : Nat → Int32} (hL : L ≤ 3072) (hi : i + 6 ≤ L) (hs : zSI zR q_HR_holder q_Mo_holder [.int (xs (Int32.toNatClampNeg (nI i + (1 : Int32)))), .int (xs (Int32.toNatClampNeg (nI i + (2 : Int32))))]) {M : xz_M} (hM : zR M) : ∃ M2, zR M2 ∧ ∀ r, zX 60 L xs 910 [(0, .ref 1000), (1, .ref 0), (2, .ref 92), (3, .int (nI i))] M2 = some r → zX 60 L xs 284 [(0, .ref 1000), (1, .ref 0), (2, .ref 92), (3, .int (nI i))] M = some r := by
  obtain ⟨v, M1, M2, h1, h2, h3, h4⟩ := hs M hM
  refine ⟨M2, h4, fun r hr => b_La_l284 _ _ _ _ _ _ _ _ ?_⟩
  have g1 : xz_in (nI i + (1 : Int32)) L = true := z_in (k := 1) hL (by omega)
  have g2 : xz_in (nI i + (2 : Int32)) L = true := z_in (k := 2) hL (by omega)
  simp only [xz_b, h0 M hM, h1, xz_bI, xz_bJ, h2, h3, z_cmp, if_true, g1, g2]
  exact hr
set_option maxRecDepth 100000 in
theorem z_l312 {zR : xz_M → Prop} (h0 : ∀ M, zR M → xz_is M 0 7 = true) {L i : Nat} {xs : Nat → Int32} (hL : L ≤ 3072) (hi : i + 6 ≤ L) (hs : zSJ zR q_HR_sureness q_Mo_sureness [.int (xs (Int32.toNatClampNeg (nI i + (1 : Int32)))), .int (xs (Int32.toNatClampNeg (nI i + (2 : Int32))))]) {M : xz_M} (hM : zR M) : ∃ M2, zR M2 ∧ ∀ r, zX 60 L xs 910 [(0, .ref 1000), (1, .ref 0), (2, .ref 92), (3, .int (nI i))] M2 = some r → zX 60 L xs 312 [(0, .ref 1000), (1, .ref 0), (2, .ref 92), (3, .int (nI i))] M = some r := by
  obtain ⟨v, M1, M2, h1, h2, h3, h4⟩ := hs M hM
  refine ⟨M2, h4, fun r hr => b_La_l312 _ _ _ _ _ _ _ _ ?_⟩
  have g1 : xz_in (nI i + (1 : Int32)) L = true := z_in (k := 1) hL (by omega)
  have g2 : xz_in (nI i + (2 : Int32)) L = true := z_in (k := 2) hL (by omega)
  simp only [xz_b, h0 M hM, h1, xz_bI, xz_bJ, h2, h3, z_cmp, if_true, g1, g2]
  exact hr
set_option maxRecDepth 100000 in
theorem z_l341 {zR : xz_M → Prop} (h0 : ∀ M, zR M → xz_is M 0 7 = true) {L i : Nat} {xs : Nat → Int32} (hL : L ≤ 3072) (hi : i + 6 ≤ L) (hs : zSI zR q_HR_reach q_Mo_reach [.int (xs (Int32.toNatClampNeg (nI i + (1 : Int32))))]) {M : xz_M} (hM : zR M) : ∃ M2, zR M2 ∧ ∀ r, zX 60 L xs 910 [(0, .ref 1000), (1, .ref 0), (2, .ref 92), (3, .int (nI i))] M2 = some r → zX 60 L xs 341 [(0, .ref 1000), (1, .ref 0), (2, .ref 92), (3, .int (nI i))] M = some r := by
  obtain ⟨v, M1, M2, h1, h2, h3, h4⟩ := hs M hM
  refine ⟨M2, h4, fun r hr => b_La_l341 _ _ _ _ _ _ _ _ ?_⟩
  have g1 : xz_in (nI i + (1 : Int32)) L = true := z_in (k := 1) hL (by omega)
  simp only [xz_b, h0 M hM, h1, xz_bI, xz_bJ, h2, h3, z_cmp, if_true, g1]
  exact hr
set_option maxRecDepth 100000 in
theorem z_l359 {zR : xz_M → Prop} (h0 : ∀ M, zR M → xz_is M 0 7 = true) {L i : Nat} {xs : Nat → Int32} (hL : L ≤ 3072) (hi : i + 6 ≤ L) (hs : zSI zR q_HR_by q_Mo_by [.int (xs (Int32.toNatClampNeg (nI i + (1 : Int32))))]) {M : xz_M} (hM : zR M) : ∃ M2, zR M2 ∧ ∀ r, zX 60 L xs 910 [(0, .ref 1000), (1, .ref 0), (2, .ref 92), (3, .int (nI i))] M2 = some r → zX 60 L xs 359 [(0, .ref 1000), (1, .ref 0), (2, .ref 92), (3, .int (nI i))] M = some r := by
  obtain ⟨v, M1, M2, h1, h2, h3, h4⟩ := hs M hM
  refine ⟨M2, h4, fun r hr => b_La_l359 _ _ _ _ _ _ _ _ ?_⟩
  have g1 : xz_in (nI i + (1 : Int32)) L = true := z_in (k := 1) hL (by omega)
  simp only [xz_b, h0 M hM, h1, xz_bI, xz_bJ, h2, h3, z_cmp, if_true, g1]
  exact hr
set_option maxRecDepth 100000 in
theorem z_l377 {zR : xz_M → Prop} (h0 : ∀ M, zR M → xz_is M 0 7 = true) {L i : Nat} {xs : Nat → Int32} (hL : L ≤ 3072) (hi : i + 6 ≤ L) (hs : zSI zR q_HR_agenda q_Mo_agenda [.int (xs (Int32.toNatClampNeg (nI i + (1 : Int32))))]) {M : xz_M} (hM : zR M) : ∃ M2, zR M2 ∧ ∀ r, zX 60 L xs 910 [(0, .ref 1000), (1, .ref 0), (2, .ref 92), (3, .int (nI i))] M2 = some r → zX 60 L xs 377 [(0, .ref 1000), (1, .ref 0), (2, .ref 92), (3, .int (nI i))] M = some r := by
  obtain ⟨v, M1, M2, h1, h2, h3, h4⟩ := hs M hM
  refine ⟨M2, h4, fun r hr => b_La_l377 _ _ _ _ _ _ _ _ ?_⟩
  have g1 : xz_in (nI i + (1 : Int32)) L = true := z_in (k := 1) hL (by omega)
  simp only [xz_b, h0 M hM, h1, xz_bI, xz_bJ, h2, h3, z_cmp, if_true, g1]
  exact hr
set_option maxRecDepth 100000 in
theorem z_l395 {zR : xz_M → Prop} (h0 : ∀ M, zR M → xz_is M 0 7 = true) {L i : Nat} {xs : Nat → Int32} (hL : L ≤ 3072) (hi : i + 6 ≤ L) (hs : zSI zR q_HR_rank q_Mo_rank [.int (xs (Int32.toNatClampNeg (nI i + (1 : Int32))))]) {M : xz_M} (hM : zR M) : ∃ M2, zR M2 ∧ ∀ r, zX 60 L xs 910 [(0, .ref 1000), (1, .ref 0), (2, .ref 92), (3, .int (nI i))] M2 = some r → zX 60 L xs 395 [(0, .ref 1000), (1, .ref 0), (2, .ref 92), (3, .int (nI i))] M = some r := by
  obtain ⟨v, M1, M2, h1, h2, h3, h4⟩ := hs M hM
  refine ⟨M2, h4, fun r hr => b_La_l395 _ _ _ _ _ _ _ _ ?_⟩
  have g1 : xz_in (nI i + (1 : Int32)) L = true := z_in (k := 1) hL (by omega)
  simp only [xz_b, h0 M hM, h1, xz_bI, xz_bJ, h2, h3, z_cmp, if_true, g1]
  exact hr
set_option maxRecDepth 100000 in
theorem z_l413 {zR : xz_M → Prop} (h0 : ∀ M, zR M → xz_is M 0 7 = true) {L i : Nat} {xs : Nat → Int32} (hL : L ≤ 3072) (hi : i + 6 ≤ L) (hs : zSI zR q_HR_between q_Mo_between [.int (xs (Int32.toNatClampNeg (nI i + (1 : Int32)))), .int (xs (Int32.toNatClampNeg (nI i + (2 : Int32))))]) {M : xz_M} (hM : zR M) : ∃ M2, zR M2 ∧ ∀ r, zX 60 L xs 910 [(0, .ref 1000), (1, .ref 0), (2, .ref 92), (3, .int (nI i))] M2 = some r → zX 60 L xs 413 [(0, .ref 1000), (1, .ref 0), (2, .ref 92), (3, .int (nI i))] M = some r := by
  obtain ⟨v, M1, M2, h1, h2, h3, h4⟩ := hs M hM
  refine ⟨M2, h4, fun r hr => b_La_l413 _ _ _ _ _ _ _ _ ?_⟩
  have g1 : xz_in (nI i + (1 : Int32)) L = true := z_in (k := 1) hL (by omega)
  have g2 : xz_in (nI i + (2 : Int32)) L = true := z_in (k := 2) hL (by omega)
  simp only [xz_b, h0 M hM, h1, xz_bI, xz_bJ, h2, h3, z_cmp, if_true, g1, g2]
  exact hr
set_option maxRecDepth 100000 in
theorem z_l441 {zR : xz_M → Prop} (h0 : ∀ M, zR M → xz_is M 0 7 = true) {L i : Nat} {xs : Nat → Int32} (hL : L ≤ 3072) (hi : i + 6 ≤ L) (hs : zSI zR q_HR_told q_Mo_told [.int (xs (Int32.toNatClampNeg (nI i + (1 : Int32))))]) {M : xz_M} (hM : zR M) : ∃ M2, zR M2 ∧ ∀ r, zX 60 L xs 910 [(0, .ref 1000), (1, .ref 0), (2, .ref 92), (3, .int (nI i))] M2 = some r → zX 60 L xs 441 [(0, .ref 1000), (1, .ref 0), (2, .ref 92), (3, .int (nI i))] M = some r := by
  obtain ⟨v, M1, M2, h1, h2, h3, h4⟩ := hs M hM
  refine ⟨M2, h4, fun r hr => b_La_l441 _ _ _ _ _ _ _ _ ?_⟩
  have g1 : xz_in (nI i + (1 : Int32)) L = true := z_in (k := 1) hL (by omega)
  simp only [xz_b, h0 M hM, h1, xz_bI, xz_bJ, h2, h3, z_cmp, if_true, g1]
  exact hr
set_option maxRecDepth 100000 in
theorem z_l459 {zR : xz_M → Prop} (h0 : ∀ M, zR M → xz_is M 0 7 = true) {L i : Nat} {xs : Nat → Int32} (hL : L ≤ 3072) (hi : i + 6 ≤ L) (hs : zSI zR q_HR_cut q_Mo_cut [.int (xs (Int32.toNatClampNeg (nI i + (1 : Int32))))]) {M : xz_M} (hM : zR M) : ∃ M2, zR M2 ∧ ∀ r, zX 60 L xs 910 [(0, .ref 1000), (1, .ref 0), (2, .ref 92), (3, .int (nI i))] M2 = some r → zX 60 L xs 459 [(0, .ref 1000), (1, .ref 0), (2, .ref 92), (3, .int (nI i))] M = some r := by
  obtain ⟨v, M1, M2, h1, h2, h3, h4⟩ := hs M hM
  refine ⟨M2, h4, fun r hr => b_La_l459 _ _ _ _ _ _ _ _ ?_⟩
  have g1 : xz_in (nI i + (1 : Int32)) L = true := z_in (k := 1) hL (by omega)
  simp only [xz_b, h0 M hM, h1, xz_bI, xz_bJ, h2, h3, z_cmp, if_true, g1]
  exact hr
set_option maxRecDepth 100000 in
theorem z_l523 {zR : xz_M → Prop} (h0 : ∀ M, zR M → xz_is M 0 7 = true) {L i : Nat} {xs : Nat → Int32} (hL : L ≤ 3072) (hi : i + 6 ≤ L) (hs : zSI zR q_HR_fits q_Mo_fits [.int (xs (Int32.toNatClampNeg (nI i + (1 : Int32))))]) {M : xz_M} (hM : zR M) : ∃ M2, zR M2 ∧ ∀ r, zX 60 L xs 910 [(0, .ref 1000), (1, .ref 0), (2, .ref 92), (3, .int (nI i))] M2 = some r → zX 60 L xs 523 [(0, .ref 1000), (1, .ref 0), (2, .ref 92), (3, .int (nI i))] M = some r := by
  obtain ⟨v, M1, M2, h1, h2, h3, h4⟩ := hs M hM
  refine ⟨M2, h4, fun r hr => b_La_l523 _ _ _ _ _ _ _ _ ?_⟩
  have g1 : xz_in (nI i + (1 : Int32)) L = true := z_in (k := 1) hL (by omega)
  simp only [xz_b, h0 M hM, h1, xz_bI, xz_bJ, h2, h3, z_cmp, if_true, g1]
  exact hr
set_option maxRecDepth 100000 in
theorem z_l541 {zR : xz_M → Prop} (h0 : ∀ M, zR M → xz_is M 0 7 = true) {L i : Nat} {xs : Nat → Int32} (hL : L ≤ 3072) (hi : i + 6 ≤ L) (hs : zSJ zR q_HR_odds q_Mo_odds [.int (xs (Int32.toNatClampNeg (nI i + (1 : Int32))))]) {M : xz_M} (hM : zR M) : ∃ M2, zR M2 ∧ ∀ r, zX 60 L xs 910 [(0, .ref 1000), (1, .ref 0), (2, .ref 92), (3, .int (nI i))] M2 = some r → zX 60 L xs 541 [(0, .ref 1000), (1, .ref 0), (2, .ref 92), (3, .int (nI i))] M = some r := by
  obtain ⟨v, M1, M2, h1, h2, h3, h4⟩ := hs M hM
  refine ⟨M2, h4, fun r hr => b_La_l541 _ _ _ _ _ _ _ _ ?_⟩
  have g1 : xz_in (nI i + (1 : Int32)) L = true := z_in (k := 1) hL (by omega)
  simp only [xz_b, h0 M hM, h1, xz_bI, xz_bJ, h2, h3, z_cmp, if_true, g1]
  exact hr
set_option maxRecDepth 100000 in
theorem z_l560 {zR : xz_M → Prop} (h0 : ∀ M, zR M → xz_is M 0 7 = true) {L i : Nat} {xs : Nat → Int32} (hL : L ≤ 3072) (hi : i + 6 ≤ L) (hs : zSJ zR q_HR_mean q_Mo_mean [.int (xs (Int32.toNatClampNeg (nI i + (1 : Int32))))]) {M : xz_M} (hM : zR M) : ∃ M2, zR M2 ∧ ∀ r, zX 60 L xs 910 [(0, .ref 1000), (1, .ref 0), (2, .ref 92), (3, .int (nI i))] M2 = some r → zX 60 L xs 560 [(0, .ref 1000), (1, .ref 0), (2, .ref 92), (3, .int (nI i))] M = some r := by
  obtain ⟨v, M1, M2, h1, h2, h3, h4⟩ := hs M hM
  refine ⟨M2, h4, fun r hr => b_La_l560 _ _ _ _ _ _ _ _ ?_⟩
  have g1 : xz_in (nI i + (1 : Int32)) L = true := z_in (k := 1) hL (by omega)
  simp only [xz_b, h0 M hM, h1, xz_bI, xz_bJ, h2, h3, z_cmp, if_true, g1]
  exact hr
set_option maxRecDepth 100000 in
theorem z_l579 {zR : xz_M → Prop} (h0 : ∀ M, zR M → xz_is M 0 7 = true) {L i : Nat} {xs : Nat → Int32} (hL : L ≤ 3072) (hi : i + 6 ≤ L) (hs : zSI zR q_HR_event q_Mo_event [.int (xs (Int32.toNatClampNeg (nI i + (1 : Int32)))), .int (xs (Int32.toNatClampNeg (nI i + (2 : Int32))))]) {M : xz_M} (hM : zR M) : ∃ M2, zR M2 ∧ ∀ r, zX 60 L xs 910 [(0, .ref 1000), (1, .ref 0), (2, .ref 92), (3, .int (nI i))] M2 = some r → zX 60 L xs 579 [(0, .ref 1000), (1, .ref 0), (2, .ref 92), (3, .int (nI i))] M = some r := by
  obtain ⟨v, M1, M2, h1, h2, h3, h4⟩ := hs M hM
  refine ⟨M2, h4, fun r hr => b_La_l579 _ _ _ _ _ _ _ _ ?_⟩
  have g1 : xz_in (nI i + (1 : Int32)) L = true := z_in (k := 1) hL (by omega)
  have g2 : xz_in (nI i + (2 : Int32)) L = true := z_in (k := 2) hL (by omega)
  simp only [xz_b, h0 M hM, h1, xz_bI, xz_bJ, h2, h3, z_cmp, if_true, g1, g2]
  exact hr
set_option maxRecDepth 100000 in
theorem z_l607 {zR : xz_M → Prop} (h0 : ∀ M, zR M → xz_is M 0 7 = true) {L i : Nat} {xs : Nat → Int32} (hL : L ≤ 3072) (hi : i + 6 ≤ L) (hs : zSI zR q_HR_after q_Mo_after [.int (xs (Int32.toNatClampNeg (nI i + (1 : Int32))))]) {M : xz_M} (hM : zR M) : ∃ M2, zR M2 ∧ ∀ r, zX 60 L xs 910 [(0, .ref 1000), (1, .ref 0), (2, .ref 92), (3, .int (nI i))] M2 = some r → zX 60 L xs 607 [(0, .ref 1000), (1, .ref 0), (2, .ref 92), (3, .int (nI i))] M = some r := by
  obtain ⟨v, M1, M2, h1, h2, h3, h4⟩ := hs M hM
  refine ⟨M2, h4, fun r hr => b_La_l607 _ _ _ _ _ _ _ _ ?_⟩
  have g1 : xz_in (nI i + (1 : Int32)) L = true := z_in (k := 1) hL (by omega)
  simp only [xz_b, h0 M hM, h1, xz_bI, xz_bJ, h2, h3, z_cmp, if_true, g1]
  exact hr
set_option maxRecDepth 100000 in
theorem z_l625 {zR : xz_M → Prop} (h0 : ∀ M, zR M → xz_is M 0 7 = true) {L i : Nat} {xs : Nat → Int32} (hL : L ≤ 3072) (hi : i + 6 ≤ L) (hs : zSI zR q_HR_book q_Mo_book [.int (xs (Int32.toNatClampNeg (nI i + (1 : Int32)))), .int (xs (Int32.toNatClampNeg (nI i + (2 : Int32))))]) {M : xz_M} (hM : zR M) : ∃ M2, zR M2 ∧ ∀ r, zX 60 L xs 910 [(0, .ref 1000), (1, .ref 0), (2, .ref 92), (3, .int (nI i))] M2 = some r → zX 60 L xs 625 [(0, .ref 1000), (1, .ref 0), (2, .ref 92), (3, .int (nI i))] M = some r := by
  obtain ⟨v, M1, M2, h1, h2, h3, h4⟩ := hs M hM
  refine ⟨M2, h4, fun r hr => b_La_l625 _ _ _ _ _ _ _ _ ?_⟩
  have g1 : xz_in (nI i + (1 : Int32)) L = true := z_in (k := 1) hL (by omega)
  have g2 : xz_in (nI i + (2 : Int32)) L = true := z_in (k := 2) hL (by omega)
  simp only [xz_b, h0 M hM, h1, xz_bI, xz_bJ, h2, h3, z_cmp, if_true, g1, g2]
  exact hr
set_option maxRecDepth 100000 in
theorem z_l653 {zR : xz_M → Prop} (h0 : ∀ M, zR M → xz_is M 0 7 = true) {L i : Nat} {xs : Nat → Int32} (hL : L ≤ 3072) (hi : i + 6 ≤ L) (hs : zSI zR q_HR_looked q_Mo_looked []) {M : xz_M} (hM : zR M) : ∃ M2, zR M2 ∧ ∀ r, zX 60 L xs 910 [(0, .ref 1000), (1, .ref 0), (2, .ref 92), (3, .int (nI i))] M2 = some r → zX 60 L xs 653 [(0, .ref 1000), (1, .ref 0), (2, .ref 92), (3, .int (nI i))] M = some r := by
  obtain ⟨v, M1, M2, h1, h2, h3, h4⟩ := hs M hM
  refine ⟨M2, h4, fun r hr => b_La_l653 _ _ _ _ _ _ _ _ ?_⟩
  simp only [xz_b, h0 M hM, h1, xz_bI, xz_bJ, h2, h3, z_cmp, if_true]
  exact hr
set_option maxRecDepth 100000 in
theorem z_l661 {zR : xz_M → Prop} (h0 : ∀ M, zR M → xz_is M 0 7 = true) {L i : Nat} {xs : Nat → Int32} (hL : L ≤ 3072) (hi : i + 6 ≤ L) (hs : zSI zR q_HR_judge q_Mo_judge [.int (xs (Int32.toNatClampNeg (nI i + (1 : Int32)))), .int (xs (Int32.toNatClampNeg (nI i + (2 : Int32))))]) {M : xz_M} (hM : zR M) : ∃ M2, zR M2 ∧ ∀ r, zX 60 L xs 910 [(0, .ref 1000), (1, .ref 0), (2, .ref 92), (3, .int (nI i))] M2 = some r → zX 60 L xs 661 [(0, .ref 1000), (1, .ref 0), (2, .ref 92), (3, .int (nI i))] M = some r := by
  obtain ⟨v, M1, M2, h1, h2, h3, h4⟩ := hs M hM
  refine ⟨M2, h4, fun r hr => b_La_l661 _ _ _ _ _ _ _ _ ?_⟩
  have g1 : xz_in (nI i + (1 : Int32)) L = true := z_in (k := 1) hL (by omega)
  have g2 : xz_in (nI i + (2 : Int32)) L = true := z_in (k := 2) hL (by omega)
  simp only [xz_b, h0 M hM, h1, xz_bI, xz_bJ, h2, h3, z_cmp, if_true, g1, g2]
  exact hr
set_option maxRecDepth 100000 in
theorem z_l689 {zR : xz_M → Prop} (h0 : ∀ M, zR M → xz_is M 0 7 = true) {L i : Nat} {xs : Nat → Int32} (hL : L ≤ 3072) (hi : i + 6 ≤ L) (hs : zSI zR q_HR_image q_Mo_image []) {M : xz_M} (hM : zR M) : ∃ M2, zR M2 ∧ ∀ r, zX 60 L xs 910 [(0, .ref 1000), (1, .ref 0), (2, .ref 92), (3, .int (nI i))] M2 = some r → zX 60 L xs 689 [(0, .ref 1000), (1, .ref 0), (2, .ref 92), (3, .int (nI i))] M = some r := by
  obtain ⟨v, M1, M2, h1, h2, h3, h4⟩ := hs M hM
  refine ⟨M2, h4, fun r hr => b_La_l689 _ _ _ _ _ _ _ _ ?_⟩
  simp only [xz_b, h0 M hM, h1, xz_bI, xz_bJ, h2, h3, z_cmp, if_true]
  exact hr
set_option maxRecDepth 100000 in
theorem z_l697 {zR : xz_M → Prop} (h0 : ∀ M, zR M → xz_is M 0 7 = true) {L i : Nat} {xs : Nat → Int32} (hL : L ≤ 3072) (hi : i + 6 ≤ L) (hs : zSI zR q_HR_undo q_Mo_undo []) {M : xz_M} (hM : zR M) : ∃ M2, zR M2 ∧ ∀ r, zX 60 L xs 910 [(0, .ref 1000), (1, .ref 0), (2, .ref 92), (3, .int (nI i))] M2 = some r → zX 60 L xs 697 [(0, .ref 1000), (1, .ref 0), (2, .ref 92), (3, .int (nI i))] M = some r := by
  obtain ⟨v, M1, M2, h1, h2, h3, h4⟩ := hs M hM
  refine ⟨M2, h4, fun r hr => b_La_l697 _ _ _ _ _ _ _ _ ?_⟩
  simp only [xz_b, h0 M hM, h1, xz_bI, xz_bJ, h2, h3, z_cmp, if_true]
  exact hr
set_option maxRecDepth 100000 in
theorem z_l705 {zR : xz_M → Prop} (h0 : ∀ M, zR M → xz_is M 0 7 = true) {L i : Nat} {xs : Nat → Int32} (hL : L ≤ 3072) (hi : i + 6 ≤ L) (hs : zSI zR q_HR_count q_Mo_count [.int (xs (Int32.toNatClampNeg (nI i + (1 : Int32))))]) {M : xz_M} (hM : zR M) : ∃ M2, zR M2 ∧ ∀ r, zX 60 L xs 910 [(0, .ref 1000), (1, .ref 0), (2, .ref 92), (3, .int (nI i))] M2 = some r → zX 60 L xs 705 [(0, .ref 1000), (1, .ref 0), (2, .ref 92), (3, .int (nI i))] M = some r := by
  obtain ⟨v, M1, M2, h1, h2, h3, h4⟩ := hs M hM
  refine ⟨M2, h4, fun r hr => b_La_l705 _ _ _ _ _ _ _ _ ?_⟩
  have g1 : xz_in (nI i + (1 : Int32)) L = true := z_in (k := 1) hL (by omega)
  simp only [xz_b, h0 M hM, h1, xz_bI, xz_bJ, h2, h3, z_cmp, if_true, g1]
  exact hr
set_option maxRecDepth 100000 in
theorem z_l723 {zR : xz_M → Prop} (h0 : ∀ M, zR M → xz_is M 0 7 = true) {L i : Nat} {xs : Nat → Int32} (hL : L ≤ 3072) (hi : i + 6 ≤ L) (hs : zSI zR q_HR_tape q_Mo_tape [.int (xs (Int32.toNatClampNeg (nI i + (1 : Int32)))), .int (xs (Int32.toNatClampNeg (nI i + (2 : Int32)))), .int (xs (Int32.toNatClampNeg (nI i + (3 : Int32))))]) {M : xz_M} (hM : zR M) : ∃ M2, zR M2 ∧ ∀ r, zX 60 L xs 910 [(0, .ref 1000), (1, .ref 0), (2, .ref 92), (3, .int (nI i))] M2 = some r → zX 60 L xs 723 [(0, .ref 1000), (1, .ref 0), (2, .ref 92), (3, .int (nI i))] M = some r := by
  obtain ⟨v, M1, M2, h1, h2, h3, h4⟩ := hs M hM
  refine ⟨M2, h4, fun r hr => b_La_l723 _ _ _ _ _ _ _ _ ?_⟩
  have g1 : xz_in (nI i + (1 : Int32)) L = true := z_in (k := 1) hL (by omega)
  have g2 : xz_in (nI i + (2 : Int32)) L = true := z_in (k := 2) hL (by omega)
  have g3 : xz_in (nI i + (3 : Int32)) L = true := z_in (k := 3) hL (by omega)
  simp only [xz_b, h0 M hM, h1, xz_bI, xz_bJ, h2, h3, z_cmp, if_true, g1, g2, g3]
  exact hr
set_option maxRecDepth 100000 in
theorem z_l761 {zR : xz_M → Prop} (h0 : ∀ M, zR M → xz_is M 0 7 = true) {L i : Nat} {xs : Nat → Int32} (hL : L ≤ 3072) (hi : i + 6 ≤ L) (hs : zSI zR q_HR_item q_Mo_item [.int (xs (Int32.toNatClampNeg (nI i + (1 : Int32)))), .int (xs (Int32.toNatClampNeg (nI i + (2 : Int32)))), .long (((Int32.toInt64 (xs (Int32.toNatClampNeg (nI i + (3 : Int32))))) <<< (((32 : Int32)).toInt64 &&& 63)) ||| ((Int32.toInt64 (xs (Int32.toNatClampNeg (nI i + (4 : Int32))))) &&& (4294967295 : Int64)))]) {M : xz_M} (hM : zR M) : ∃ M2, zR M2 ∧ ∀ r, zX 60 L xs 910 [(0, .ref 1000), (1, .ref 0), (2, .ref 92), (3, .int (nI i))] M2 = some r → zX 60 L xs 761 [(0, .ref 1000), (1, .ref 0), (2, .ref 92), (3, .int (nI i))] M = some r := by
  obtain ⟨v, M1, M2, h1, h2, h3, h4⟩ := hs M hM
  refine ⟨M2, h4, fun r hr => b_La_l761 _ _ _ _ _ _ _ _ ?_⟩
  have g1 : xz_in (nI i + (1 : Int32)) L = true := z_in (k := 1) hL (by omega)
  have g2 : xz_in (nI i + (2 : Int32)) L = true := z_in (k := 2) hL (by omega)
  have g3 : xz_in (nI i + (3 : Int32)) L = true := z_in (k := 3) hL (by omega)
  have g4 : xz_in (nI i + (4 : Int32)) L = true := z_in (k := 4) hL (by omega)
  simp only [xz_b, h0 M hM, h1, xz_bI, xz_bJ, h2, h3, z_cmp, if_true, g1, g2, g3, g4]
  exact hr
set_option maxRecDepth 100000 in
theorem z_l823 {zR : xz_M → Prop} (h0 : ∀ M, zR M → xz_is M 0 7 = true) {L i : Nat} {xs : Nat → Int32} (hL : L ≤ 3072) (hi : i + 6 ≤ L) (hs : zSJ zR q_HR_peek q_Mo_peek [.int (xs (Int32.toNatClampNeg (nI i + (1 : Int32)))), .int (xs (Int32.toNatClampNeg (nI i + (2 : Int32))))]) {M : xz_M} (hM : zR M) : ∃ M2, zR M2 ∧ ∀ r, zX 60 L xs 910 [(0, .ref 1000), (1, .ref 0), (2, .ref 92), (3, .int (nI i))] M2 = some r → zX 60 L xs 823 [(0, .ref 1000), (1, .ref 0), (2, .ref 92), (3, .int (nI i))] M = some r := by
  obtain ⟨v, M1, M2, h1, h2, h3, h4⟩ := hs M hM
  refine ⟨M2, h4, fun r hr => b_La_l823 _ _ _ _ _ _ _ _ ?_⟩
  have g1 : xz_in (nI i + (1 : Int32)) L = true := z_in (k := 1) hL (by omega)
  have g2 : xz_in (nI i + (2 : Int32)) L = true := z_in (k := 2) hL (by omega)
  simp only [xz_b, h0 M hM, h1, xz_bI, xz_bJ, h2, h3, z_cmp, if_true, g1, g2]
  exact hr
set_option maxRecDepth 100000 in
theorem z_l852 {zR : xz_M → Prop} (h0 : ∀ M, zR M → xz_is M 0 7 = true) {L i : Nat} {xs : Nat → Int32} (hL : L ≤ 3072) (hi : i + 6 ≤ L) (hs : zSI zR q_HR_shift q_Mo_shift [.int (xs (Int32.toNatClampNeg (nI i + (1 : Int32)))), .int (xs (Int32.toNatClampNeg (nI i + (2 : Int32)))), .int (xs (Int32.toNatClampNeg (nI i + (3 : Int32)))), .int (xs (Int32.toNatClampNeg (nI i + (4 : Int32)))), .int (xs (Int32.toNatClampNeg (nI i + (5 : Int32))))]) {M : xz_M} (hM : zR M) : ∃ M2, zR M2 ∧ ∀ r, zX 60 L xs 910 [(0, .ref 1000), (1, .ref 0), (2, .ref 92), (3, .int (nI i))] M2 = some r → zX 60 L xs 852 [(0, .ref 1000), (1, .ref 0), (2, .ref 92), (3, .int (nI i))] M = some r := by
  obtain ⟨v, M1, M2, h1, h2, h3, h4⟩ := hs M hM
  refine ⟨M2, h4, fun r hr => b_La_l852 _ _ _ _ _ _ _ _ ?_⟩
  have g1 : xz_in (nI i + (1 : Int32)) L = true := z_in (k := 1) hL (by omega)
  have g2 : xz_in (nI i + (2 : Int32)) L = true := z_in (k := 2) hL (by omega)
  have g3 : xz_in (nI i + (3 : Int32)) L = true := z_in (k := 3) hL (by omega)
  have g4 : xz_in (nI i + (4 : Int32)) L = true := z_in (k := 4) hL (by omega)
  have g5 : xz_in (nI i + (5 : Int32)) L = true := z_in (k := 5) hL (by omega)
  simp only [xz_b, h0 M hM, h1, xz_bI, xz_bJ, h2, h3, z_cmp, if_true, g1, g2, g3, g4, g5]
  exact hr
set_option maxRecDepth 100000 in
theorem z_l477 {zR : xz_M → Prop} (h0 : ∀ M, zR M → xz_is M 0 7 = true) {L i : Nat} {xs : Nat → Int32} (hL : L ≤ 3072) (hi : i + 6 ≤ L) (hs : ∀ b : Int32, b = 0 ∨ b = 1 → zSI zR q_HR_see q_Mo_see [.int (xs (Int32.toNatClampNeg (nI i + (1 : Int32)))), .int (xs (Int32.toNatClampNeg (nI i + (2 : Int32)))), .int b]) {M : xz_M} (hM : zR M) : ∃ M2, zR M2 ∧ ∀ r, zX 60 L xs 910 [(0, .ref 1000), (1, .ref 0), (2, .ref 92), (3, .int (nI i))] M2 = some r → zX 60 L xs 477 [(0, .ref 1000), (1, .ref 0), (2, .ref 92), (3, .int (nI i))] M = some r := by
  have g1 : xz_in (nI i + (1 : Int32)) L = true := z_in (k := 1) hL (by omega)
  have g2 : xz_in (nI i + (2 : Int32)) L = true := z_in (k := 2) hL (by omega)
  have g3 : xz_in (nI i + (3 : Int32)) L = true := z_in (k := 3) hL (by omega)
  by_cases hb : xs (Int32.toNatClampNeg (nI i + (3 : Int32))) = 0
  · obtain ⟨v, M1, M2, h1, h2, h3, h4⟩ := hs 0 (Or.inl rfl) M hM
    refine ⟨M2, h4, fun r hr => b_La_l477 _ _ _ _ _ _ _ _ ?_⟩
    simp only [xz_b, h0 M hM, hb, h1, xz_bI, h2, h3, if_true, g1, g2, g3]
    exact hr
  · obtain ⟨v, M1, M2, h1, h2, h3, h4⟩ := hs 1 (Or.inr rfl) M hM
    refine ⟨M2, h4, fun r hr => b_La_l477 _ _ _ _ _ _ _ _ ?_⟩
    simp only [xz_b, h0 M hM, if_neg hb, h1, xz_bI, h2, h3, if_true, g1, g2, g3]
    exact hr
set_option maxRecDepth 100000 in
set_option maxHeartbeats 4000000 in
theorem z_loop {zR : xz_M → Prop} (h0 : ∀ M, zR M → xz_is M 0 7 = true) (h24 : ∀ (x1 : Int32), zSI zR q_HR_people q_Mo_people [.int x1]) (h42 : ∀ (x1 : Int32) (x2 : Int32) (x3 : Int32) (x4 : Int32), zSI zR q_HR_meet q_Mo_meet [.int x1, .int x2, .int x3, .int x4]) (h90 : ∀ (x1 : Int32), zSI zR q_HR_drop q_Mo_drop [.int x1]) (h108 : ∀ (x1 : Int32) (x2 : Int32) (x3 : Int32), zSI zR q_HR_renew q_Mo_renew [.int x1, .int x2, .int x3]) (h146 : ∀ (x1 : Int32) (x2 : Int32), zSI zR q_HR_meeting q_Mo_meeting [.int x1, .int x2]) (h174 : ∀ (x1 : Int32), zSI zR q_HR_delay q_Mo_delay [.int x1]) (h192 : ∀ (x1 : Int32) (x2 : Int32) (x3 : Int32), zSI zR q_HR_ask q_Mo_ask [.int x1, .int x2, .int x3]) (h230 : ∀ (x1 : Int32), zSI zR q_HR_feed q_Mo_feed [.int x1]) (h248 : zSI zR q_HR_read q_Mo_read []) (h256 : ∀ (x1 : Int32) (x2 : Int32), zSI zR q_HR_way q_Mo_way [.int x1, .int x2]) (h284 : ∀ (x1 : Int32) (x2 : Int32), zSI zR q_HR_holder q_Mo_holder [.int x1, .int x2]) (h312 : ∀ (x1 : Int32) (x2 : Int32), zSJ zR q_HR_sureness q_Mo_sureness [.int x1, .int x2]) (h341 : ∀ (x1 : Int32), zSI zR q_HR_reach q_Mo_reach [.int x1]) (h359 : ∀ (x1 : Int32), zSI zR q_HR_by q_Mo_by [.int x1]) (h377 : ∀ (x1 : Int32), zSI zR q_HR_agenda q_Mo_agenda [.int x1]) (h395 : ∀ (x1 : Int32), zSI zR q_HR_rank q_Mo_rank [.int x1]) (h413 : ∀ (x1 : Int32) (x2 : Int32), zSI zR q_HR_between q_Mo_between [.int x1, .int x2]) (h441 : ∀ (x1 : Int32), zSI zR q_HR_told q_Mo_told [.int x1]) (h459 : ∀ (x1 : Int32), zSI zR q_HR_cut q_Mo_cut [.int x1]) (h477 : ∀ x1 x2 b : Int32, b = 0 ∨ b = 1 → zSI zR q_HR_see q_Mo_see [.int x1, .int x2, .int b]) (h523 : ∀ (x1 : Int32), zSI zR q_HR_fits q_Mo_fits [.int x1]) (h541 : ∀ (x1 : Int32), zSJ zR q_HR_odds q_Mo_odds [.int x1]) (h560 : ∀ (x1 : Int32), zSJ zR q_HR_mean q_Mo_mean [.int x1]) (h579 : ∀ (x1 : Int32) (x2 : Int32), zSI zR q_HR_event q_Mo_event [.int x1, .int x2]) (h607 : ∀ (x1 : Int32), zSI zR q_HR_after q_Mo_after [.int x1]) (h625 : ∀ (x1 : Int32) (x2 : Int32), zSI zR q_HR_book q_Mo_book [.int x1, .int x2]) (h653 : zSI zR q_HR_looked q_Mo_looked []) (h661 : ∀ (x1 : Int32) (x2 : Int32), zSI zR q_HR_judge q_Mo_judge [.int x1, .int x2]) (h689 : zSI zR q_HR_image q_Mo_image []) (h697 : zSI zR q_HR_undo q_Mo_undo []) (h705 : ∀ (x1 : Int32), zSI zR q_HR_count q_Mo_count [.int x1]) (h723 : ∀ (x1 : Int32) (x2 : Int32) (x3 : Int32), zSI zR q_HR_tape q_Mo_tape [.int x1, .int x2, .int x3]) (h761 : ∀ (x1 : Int32) (x2 : Int32) (x3 : Int64), zSI zR q_HR_item q_Mo_item [.int x1, .int x2, .long x3]) (h823 : ∀ (x1 : Int32) (x2 : Int32), zSJ zR q_HR_peek q_Mo_peek [.int x1, .int x2]) (h852 : ∀ (x1 : Int32) (x2 : Int32) (x3 : Int32) (x4 : Int32) (x5 : Int32), zSI zR q_HR_shift q_Mo_shift [.int x1, .int x2, .int x3, .int x4, .int x5]) {L : Nat} {xs : Nat → Int32} (hL : L ≤ 3072) : ∀ (n i : Nat), L + 6 ≤ i + n → i ≤ L + 6 → ∀ M, zR M → ∃ M3, zR M3 ∧ zX 60 L xs 11 [(0, .ref 1000), (1, .ref 0), (2, .ref 92), (3, .int (nI i))] M = some (some (.int 1), M3) := by
  intro n
  induction n using Nat.strongRecOn with
  | _ n ih =>
  intro i hn hi M hM
  have hcond : (Int32.ofNat L - (6 : Int32) < nI i) ↔ (L : Int) - 6 < i := by
    rw [Int32.lt_iff_toInt_lt, show Int32.ofNat L - (6 : Int32) = nI L - nI 6 from rfl, pk_sub_toInt (by omega) (by omega), nI_toInt (by omega)]
    omega
  by_cases hc : Int32.ofNat L - (6 : Int32) < nI i
  · exact ⟨M, hM, b_La_l11 _ _ _ _ _ _ _ _ (by rw [if_pos hc])⟩
  · have hi6 : i + 6 ≤ L := by
      have := mt hcond.mpr hc
      omega
    have hin : xz_in (nI i) L = true := by
      unfold xz_in
      exact decide_eq_true (nI_in (by omega) (by omega))
    have next : ∀ M2, zR M2 → ∃ M3, zR M3 ∧ zX 60 L xs 910 [(0, .ref 1000), (1, .ref 0), (2, .ref 92), (3, .int (nI i))] M2 = some (some (.int 1), M3) := by
      intro M2 hM2
      obtain ⟨M3, h3, hr⟩ := ih (n - 6) (by omega) (i + 6) (by omega) (by omega) M2 hM2
      refine ⟨M3, h3, b_La_l910 _ _ _ _ _ _ _ _ ?_⟩
      rw [show nI i + (6 : Int32) = nI (i + 6) from nI_add i 6]
      exact hr
    have hsuf : ∃ M3, zR M3 ∧ ((if ((xs (Int32.toNatClampNeg (nI i))) &&& (63 : Int32)) = (0 : Int32) then zX 60 L xs 24 [(0, .ref 1000), (1, .ref 0), (2, .ref 92), (3, .int (nI i))] M else (if ((xs (Int32.toNatClampNeg (nI i))) &&& (63 : Int32)) = (1 : Int32) then zX 60 L xs 42 [(0, .ref 1000), (1, .ref 0), (2, .ref 92), (3, .int (nI i))] M else (if ((xs (Int32.toNatClampNeg (nI i))) &&& (63 : Int32)) = (2 : Int32) then zX 60 L xs 90 [(0, .ref 1000), (1, .ref 0), (2, .ref 92), (3, .int (nI i))] M else (if ((xs (Int32.toNatClampNeg (nI i))) &&& (63 : Int32)) = (3 : Int32) then zX 60 L xs 108 [(0, .ref 1000), (1, .ref 0), (2, .ref 92), (3, .int (nI i))] M else (if ((xs (Int32.toNatClampNeg (nI i))) &&& (63 : Int32)) = (4 : Int32) then zX 60 L xs 146 [(0, .ref 1000), (1, .ref 0), (2, .ref 92), (3, .int (nI i))] M else (if ((xs (Int32.toNatClampNeg (nI i))) &&& (63 : Int32)) = (5 : Int32) then zX 60 L xs 174 [(0, .ref 1000), (1, .ref 0), (2, .ref 92), (3, .int (nI i))] M else (if ((xs (Int32.toNatClampNeg (nI i))) &&& (63 : Int32)) = (6 : Int32) then zX 60 L xs 192 [(0, .ref 1000), (1, .ref 0), (2, .ref 92), (3, .int (nI i))] M else (if ((xs (Int32.toNatClampNeg (nI i))) &&& (63 : Int32)) = (7 : Int32) then zX 60 L xs 230 [(0, .ref 1000), (1, .ref 0), (2, .ref 92), (3, .int (nI i))] M else (if ((xs (Int32.toNatClampNeg (nI i))) &&& (63 : Int32)) = (8 : Int32) then zX 60 L xs 248 [(0, .ref 1000), (1, .ref 0), (2, .ref 92), (3, .int (nI i))] M else (if ((xs (Int32.toNatClampNeg (nI i))) &&& (63 : Int32)) = (9 : Int32) then zX 60 L xs 256 [(0, .ref 1000), (1, .ref 0), (2, .ref 92), (3, .int (nI i))] M else (if ((xs (Int32.toNatClampNeg (nI i))) &&& (63 : Int32)) = (10 : Int32) then zX 60 L xs 284 [(0, .ref 1000), (1, .ref 0), (2, .ref 92), (3, .int (nI i))] M else (if ((xs (Int32.toNatClampNeg (nI i))) &&& (63 : Int32)) = (11 : Int32) then zX 60 L xs 312 [(0, .ref 1000), (1, .ref 0), (2, .ref 92), (3, .int (nI i))] M else (if ((xs (Int32.toNatClampNeg (nI i))) &&& (63 : Int32)) = (12 : Int32) then zX 60 L xs 341 [(0, .ref 1000), (1, .ref 0), (2, .ref 92), (3, .int (nI i))] M else (if ((xs (Int32.toNatClampNeg (nI i))) &&& (63 : Int32)) = (13 : Int32) then zX 60 L xs 359 [(0, .ref 1000), (1, .ref 0), (2, .ref 92), (3, .int (nI i))] M else (if ((xs (Int32.toNatClampNeg (nI i))) &&& (63 : Int32)) = (14 : Int32) then zX 60 L xs 377 [(0, .ref 1000), (1, .ref 0), (2, .ref 92), (3, .int (nI i))] M else (if ((xs (Int32.toNatClampNeg (nI i))) &&& (63 : Int32)) = (15 : Int32) then zX 60 L xs 395 [(0, .ref 1000), (1, .ref 0), (2, .ref 92), (3, .int (nI i))] M else (if ((xs (Int32.toNatClampNeg (nI i))) &&& (63 : Int32)) = (16 : Int32) then zX 60 L xs 413 [(0, .ref 1000), (1, .ref 0), (2, .ref 92), (3, .int (nI i))] M else (if ((xs (Int32.toNatClampNeg (nI i))) &&& (63 : Int32)) = (17 : Int32) then zX 60 L xs 441 [(0, .ref 1000), (1, .ref 0), (2, .ref 92), (3, .int (nI i))] M else (if ((xs (Int32.toNatClampNeg (nI i))) &&& (63 : Int32)) = (18 : Int32) then zX 60 L xs 459 [(0, .ref 1000), (1, .ref 0), (2, .ref 92), (3, .int (nI i))] M else (if ((xs (Int32.toNatClampNeg (nI i))) &&& (63 : Int32)) = (19 : Int32) then zX 60 L xs 477 [(0, .ref 1000), (1, .ref 0), (2, .ref 92), (3, .int (nI i))] M else (if ((xs (Int32.toNatClampNeg (nI i))) &&& (63 : Int32)) = (20 : Int32) then zX 60 L xs 523 [(0, .ref 1000), (1, .ref 0), (2, .ref 92), (3, .int (nI i))] M else (if ((xs (Int32.toNatClampNeg (nI i))) &&& (63 : Int32)) = (21 : Int32) then zX 60 L xs 541 [(0, .ref 1000), (1, .ref 0), (2, .ref 92), (3, .int (nI i))] M else (if ((xs (Int32.toNatClampNeg (nI i))) &&& (63 : Int32)) = (22 : Int32) then zX 60 L xs 560 [(0, .ref 1000), (1, .ref 0), (2, .ref 92), (3, .int (nI i))] M else (if ((xs (Int32.toNatClampNeg (nI i))) &&& (63 : Int32)) = (23 : Int32) then zX 60 L xs 579 [(0, .ref 1000), (1, .ref 0), (2, .ref 92), (3, .int (nI i))] M else (if ((xs (Int32.toNatClampNeg (nI i))) &&& (63 : Int32)) = (24 : Int32) then zX 60 L xs 607 [(0, .ref 1000), (1, .ref 0), (2, .ref 92), (3, .int (nI i))] M else (if ((xs (Int32.toNatClampNeg (nI i))) &&& (63 : Int32)) = (25 : Int32) then zX 60 L xs 625 [(0, .ref 1000), (1, .ref 0), (2, .ref 92), (3, .int (nI i))] M else (if ((xs (Int32.toNatClampNeg (nI i))) &&& (63 : Int32)) = (26 : Int32) then zX 60 L xs 653 [(0, .ref 1000), (1, .ref 0), (2, .ref 92), (3, .int (nI i))] M else (if ((xs (Int32.toNatClampNeg (nI i))) &&& (63 : Int32)) = (27 : Int32) then zX 60 L xs 661 [(0, .ref 1000), (1, .ref 0), (2, .ref 92), (3, .int (nI i))] M else (if ((xs (Int32.toNatClampNeg (nI i))) &&& (63 : Int32)) = (28 : Int32) then zX 60 L xs 689 [(0, .ref 1000), (1, .ref 0), (2, .ref 92), (3, .int (nI i))] M else (if ((xs (Int32.toNatClampNeg (nI i))) &&& (63 : Int32)) = (29 : Int32) then zX 60 L xs 697 [(0, .ref 1000), (1, .ref 0), (2, .ref 92), (3, .int (nI i))] M else (if ((xs (Int32.toNatClampNeg (nI i))) &&& (63 : Int32)) = (30 : Int32) then zX 60 L xs 705 [(0, .ref 1000), (1, .ref 0), (2, .ref 92), (3, .int (nI i))] M else (if ((xs (Int32.toNatClampNeg (nI i))) &&& (63 : Int32)) = (31 : Int32) then zX 60 L xs 723 [(0, .ref 1000), (1, .ref 0), (2, .ref 92), (3, .int (nI i))] M else (if ((xs (Int32.toNatClampNeg (nI i))) &&& (63 : Int32)) = (32 : Int32) then zX 60 L xs 761 [(0, .ref 1000), (1, .ref 0), (2, .ref 92), (3, .int (nI i))] M else (if ((xs (Int32.toNatClampNeg (nI i))) &&& (63 : Int32)) = (33 : Int32) then zX 60 L xs 823 [(0, .ref 1000), (1, .ref 0), (2, .ref 92), (3, .int (nI i))] M else (if ((xs (Int32.toNatClampNeg (nI i))) &&& (63 : Int32)) = (34 : Int32) then zX 60 L xs 852 [(0, .ref 1000), (1, .ref 0), (2, .ref 92), (3, .int (nI i))] M else zX 60 L xs 910 [(0, .ref 1000), (1, .ref 0), (2, .ref 92), (3, .int (nI i))] M)))))))))))))))))))))))))))))))))))) = some (some (Value.int 1), M3) := by
      by_cases k0 : xs (Int32.toNatClampNeg (nI i)) &&& (63 : Int32) = (0 : Int32)
      · rw [if_pos k0]
        obtain ⟨M2, hM2, hk⟩ := z_l24 (xs := xs) h0 hL (i := i) (by omega) (h24 _) hM
        obtain ⟨M3, hM3, hr⟩ := next M2 hM2
        exact ⟨M3, hM3, hk _ hr⟩
      rw [if_neg k0]
      by_cases k1 : xs (Int32.toNatClampNeg (nI i)) &&& (63 : Int32) = (1 : Int32)
      · rw [if_pos k1]
        obtain ⟨M2, hM2, hk⟩ := z_l42 (xs := xs) h0 hL (i := i) (by omega) (h42 _ _ _ _) hM
        obtain ⟨M3, hM3, hr⟩ := next M2 hM2
        exact ⟨M3, hM3, hk _ hr⟩
      rw [if_neg k1]
      by_cases k2 : xs (Int32.toNatClampNeg (nI i)) &&& (63 : Int32) = (2 : Int32)
      · rw [if_pos k2]
        obtain ⟨M2, hM2, hk⟩ := z_l90 (xs := xs) h0 hL (i := i) (by omega) (h90 _) hM
        obtain ⟨M3, hM3, hr⟩ := next M2 hM2
        exact ⟨M3, hM3, hk _ hr⟩
      rw [if_neg k2]
      by_cases k3 : xs (Int32.toNatClampNeg (nI i)) &&& (63 : Int32) = (3 : Int32)
      · rw [if_pos k3]
        obtain ⟨M2, hM2, hk⟩ := z_l108 (xs := xs) h0 hL (i := i) (by omega) (h108 _ _ _) hM
        obtain ⟨M3, hM3, hr⟩ := next M2 hM2
        exact ⟨M3, hM3, hk _ hr⟩
      rw [if_neg k3]
      by_cases k4 : xs (Int32.toNatClampNeg (nI i)) &&& (63 : Int32) = (4 : Int32)
      · rw [if_pos k4]
        obtain ⟨M2, hM2, hk⟩ := z_l146 (xs := xs) h0 hL (i := i) (by omega) (h146 _ _) hM
        obtain ⟨M3, hM3, hr⟩ := next M2 hM2
        exact ⟨M3, hM3, hk _ hr⟩
      rw [if_neg k4]
      by_cases k5 : xs (Int32.toNatClampNeg (nI i)) &&& (63 : Int32) = (5 : Int32)
      · rw [if_pos k5]
        obtain ⟨M2, hM2, hk⟩ := z_l174 (xs := xs) h0 hL (i := i) (by omega) (h174 _) hM
        obtain ⟨M3, hM3, hr⟩ := next M2 hM2
        exact ⟨M3, hM3, hk _ hr⟩
      rw [if_neg k5]
      by_cases k6 : xs (Int32.toNatClampNeg (nI i)) &&& (63 : Int32) = (6 : Int32)
      · rw [if_pos k6]
        obtain ⟨M2, hM2, hk⟩ := z_l192 (xs := xs) h0 hL (i := i) (by omega) (h192 _ _ _) hM
        obtain ⟨M3, hM3, hr⟩ := next M2 hM2
        exact ⟨M3, hM3, hk _ hr⟩
      rw [if_neg k6]
      by_cases k7 : xs (Int32.toNatClampNeg (nI i)) &&& (63 : Int32) = (7 : Int32)
      · rw [if_pos k7]
        obtain ⟨M2, hM2, hk⟩ := z_l230 (xs := xs) h0 hL (i := i) (by omega) (h230 _) hM
        obtain ⟨M3, hM3, hr⟩ := next M2 hM2
        exact ⟨M3, hM3, hk _ hr⟩
      rw [if_neg k7]
      by_cases k8 : xs (Int32.toNatClampNeg (nI i)) &&& (63 : Int32) = (8 : Int32)
      · rw [if_pos k8]
        obtain ⟨M2, hM2, hk⟩ := z_l248 (xs := xs) h0 hL (i := i) (by omega) (h248) hM
        obtain ⟨M3, hM3, hr⟩ := next M2 hM2
        exact ⟨M3, hM3, hk _ hr⟩
      rw [if_neg k8]
      by_cases k9 : xs (Int32.toNatClampNeg (nI i)) &&& (63 : Int32) = (9 : Int32)
      · rw [if_pos k9]
        obtain ⟨M2, hM2, hk⟩ := z_l256 (xs := xs) h0 hL (i := i) (by omega) (h256 _ _) hM
        obtain ⟨M3, hM3, hr⟩ := next M2 hM2
        exact ⟨M3, hM3, hk _ hr⟩
      rw [if_neg k9]
      by_cases k10 : xs (Int32.toNatClampNeg (nI i)) &&& (63 : Int32) = (10 : Int32)
      · rw [if_pos k10]
        obtain ⟨M2, hM2, hk⟩ := z_l284 (xs := xs) h0 hL (i := i) (by omega) (h284 _ _) hM
        obtain ⟨M3, hM3, hr⟩ := next M2 hM2
        exact ⟨M3, hM3, hk _ hr⟩
      rw [if_neg k10]
      by_cases k11 : xs (Int32.toNatClampNeg (nI i)) &&& (63 : Int32) = (11 : Int32)
      · rw [if_pos k11]
        obtain ⟨M2, hM2, hk⟩ := z_l312 (xs := xs) h0 hL (i := i) (by omega) (h312 _ _) hM
        obtain ⟨M3, hM3, hr⟩ := next M2 hM2
        exact ⟨M3, hM3, hk _ hr⟩
      rw [if_neg k11]
      by_cases k12 : xs (Int32.toNatClampNeg (nI i)) &&& (63 : Int32) = (12 : Int32)
      · rw [if_pos k12]
        obtain ⟨M2, hM2, hk⟩ := z_l341 (xs := xs) h0 hL (i := i) (by omega) (h341 _) hM
        obtain ⟨M3, hM3, hr⟩ := next M2 hM2
        exact ⟨M3, hM3, hk _ hr⟩
      rw [if_neg k12]
      by_cases k13 : xs (Int32.toNatClampNeg (nI i)) &&& (63 : Int32) = (13 : Int32)
      · rw [if_pos k13]
        obtain ⟨M2, hM2, hk⟩ := z_l359 (xs := xs) h0 hL (i := i) (by omega) (h359 _) hM
        obtain ⟨M3, hM3, hr⟩ := next M2 hM2
        exact ⟨M3, hM3, hk _ hr⟩
      rw [if_neg k13]
      by_cases k14 : xs (Int32.toNatClampNeg (nI i)) &&& (63 : Int32) = (14 : Int32)
      · rw [if_pos k14]
        obtain ⟨M2, hM2, hk⟩ := z_l377 (xs := xs) h0 hL (i := i) (by omega) (h377 _) hM
        obtain ⟨M3, hM3, hr⟩ := next M2 hM2
        exact ⟨M3, hM3, hk _ hr⟩
      rw [if_neg k14]
      by_cases k15 : xs (Int32.toNatClampNeg (nI i)) &&& (63 : Int32) = (15 : Int32)
      · rw [if_pos k15]
        obtain ⟨M2, hM2, hk⟩ := z_l395 (xs := xs) h0 hL (i := i) (by omega) (h395 _) hM
        obtain ⟨M3, hM3, hr⟩ := next M2 hM2
        exact ⟨M3, hM3, hk _ hr⟩
      rw [if_neg k15]
      by_cases k16 : xs (Int32.toNatClampNeg (nI i)) &&& (63 : Int32) = (16 : Int32)
      · rw [if_pos k16]
        obtain ⟨M2, hM2, hk⟩ := z_l413 (xs := xs) h0 hL (i := i) (by omega) (h413 _ _) hM
        obtain ⟨M3, hM3, hr⟩ := next M2 hM2
        exact ⟨M3, hM3, hk _ hr⟩
      rw [if_neg k16]
      by_cases k17 : xs (Int32.toNatClampNeg (nI i)) &&& (63 : Int32) = (17 : Int32)
      · rw [if_pos k17]
        obtain ⟨M2, hM2, hk⟩ := z_l441 (xs := xs) h0 hL (i := i) (by omega) (h441 _) hM
        obtain ⟨M3, hM3, hr⟩ := next M2 hM2
        exact ⟨M3, hM3, hk _ hr⟩
      rw [if_neg k17]
      by_cases k18 : xs (Int32.toNatClampNeg (nI i)) &&& (63 : Int32) = (18 : Int32)
      · rw [if_pos k18]
        obtain ⟨M2, hM2, hk⟩ := z_l459 (xs := xs) h0 hL (i := i) (by omega) (h459 _) hM
        obtain ⟨M3, hM3, hr⟩ := next M2 hM2
        exact ⟨M3, hM3, hk _ hr⟩
      rw [if_neg k18]
      by_cases k19 : xs (Int32.toNatClampNeg (nI i)) &&& (63 : Int32) = (19 : Int32)
      · rw [if_pos k19]
        obtain ⟨M2, hM2, hk⟩ := z_l477 (xs := xs) h0 hL (i := i) (by omega) (fun b hb => h477 _ _ b hb) hM
        obtain ⟨M3, hM3, hr⟩ := next M2 hM2
        exact ⟨M3, hM3, hk _ hr⟩
      rw [if_neg k19]
      by_cases k20 : xs (Int32.toNatClampNeg (nI i)) &&& (63 : Int32) = (20 : Int32)
      · rw [if_pos k20]
        obtain ⟨M2, hM2, hk⟩ := z_l523 (xs := xs) h0 hL (i := i) (by omega) (h523 _) hM
        obtain ⟨M3, hM3, hr⟩ := next M2 hM2
        exact ⟨M3, hM3, hk _ hr⟩
      rw [if_neg k20]
      by_cases k21 : xs (Int32.toNatClampNeg (nI i)) &&& (63 : Int32) = (21 : Int32)
      · rw [if_pos k21]
        obtain ⟨M2, hM2, hk⟩ := z_l541 (xs := xs) h0 hL (i := i) (by omega) (h541 _) hM
        obtain ⟨M3, hM3, hr⟩ := next M2 hM2
        exact ⟨M3, hM3, hk _ hr⟩
      rw [if_neg k21]
      by_cases k22 : xs (Int32.toNatClampNeg (nI i)) &&& (63 : Int32) = (22 : Int32)
      · rw [if_pos k22]
        obtain ⟨M2, hM2, hk⟩ := z_l560 (xs := xs) h0 hL (i := i) (by omega) (h560 _) hM
        obtain ⟨M3, hM3, hr⟩ := next M2 hM2
        exact ⟨M3, hM3, hk _ hr⟩
      rw [if_neg k22]
      by_cases k23 : xs (Int32.toNatClampNeg (nI i)) &&& (63 : Int32) = (23 : Int32)
      · rw [if_pos k23]
        obtain ⟨M2, hM2, hk⟩ := z_l579 (xs := xs) h0 hL (i := i) (by omega) (h579 _ _) hM
        obtain ⟨M3, hM3, hr⟩ := next M2 hM2
        exact ⟨M3, hM3, hk _ hr⟩
      rw [if_neg k23]
      by_cases k24 : xs (Int32.toNatClampNeg (nI i)) &&& (63 : Int32) = (24 : Int32)
      · rw [if_pos k24]
        obtain ⟨M2, hM2, hk⟩ := z_l607 (xs := xs) h0 hL (i := i) (by omega) (h607 _) hM
        obtain ⟨M3, hM3, hr⟩ := next M2 hM2
        exact ⟨M3, hM3, hk _ hr⟩
      rw [if_neg k24]
      by_cases k25 : xs (Int32.toNatClampNeg (nI i)) &&& (63 : Int32) = (25 : Int32)
      · rw [if_pos k25]
        obtain ⟨M2, hM2, hk⟩ := z_l625 (xs := xs) h0 hL (i := i) (by omega) (h625 _ _) hM
        obtain ⟨M3, hM3, hr⟩ := next M2 hM2
        exact ⟨M3, hM3, hk _ hr⟩
      rw [if_neg k25]
      by_cases k26 : xs (Int32.toNatClampNeg (nI i)) &&& (63 : Int32) = (26 : Int32)
      · rw [if_pos k26]
        obtain ⟨M2, hM2, hk⟩ := z_l653 (xs := xs) h0 hL (i := i) (by omega) (h653) hM
        obtain ⟨M3, hM3, hr⟩ := next M2 hM2
        exact ⟨M3, hM3, hk _ hr⟩
      rw [if_neg k26]
      by_cases k27 : xs (Int32.toNatClampNeg (nI i)) &&& (63 : Int32) = (27 : Int32)
      · rw [if_pos k27]
        obtain ⟨M2, hM2, hk⟩ := z_l661 (xs := xs) h0 hL (i := i) (by omega) (h661 _ _) hM
        obtain ⟨M3, hM3, hr⟩ := next M2 hM2
        exact ⟨M3, hM3, hk _ hr⟩
      rw [if_neg k27]
      by_cases k28 : xs (Int32.toNatClampNeg (nI i)) &&& (63 : Int32) = (28 : Int32)
      · rw [if_pos k28]
        obtain ⟨M2, hM2, hk⟩ := z_l689 (xs := xs) h0 hL (i := i) (by omega) (h689) hM
        obtain ⟨M3, hM3, hr⟩ := next M2 hM2
        exact ⟨M3, hM3, hk _ hr⟩
      rw [if_neg k28]
      by_cases k29 : xs (Int32.toNatClampNeg (nI i)) &&& (63 : Int32) = (29 : Int32)
      · rw [if_pos k29]
        obtain ⟨M2, hM2, hk⟩ := z_l697 (xs := xs) h0 hL (i := i) (by omega) (h697) hM
        obtain ⟨M3, hM3, hr⟩ := next M2 hM2
        exact ⟨M3, hM3, hk _ hr⟩
      rw [if_neg k29]
      by_cases k30 : xs (Int32.toNatClampNeg (nI i)) &&& (63 : Int32) = (30 : Int32)
      · rw [if_pos k30]
        obtain ⟨M2, hM2, hk⟩ := z_l705 (xs := xs) h0 hL (i := i) (by omega) (h705 _) hM
        obtain ⟨M3, hM3, hr⟩ := next M2 hM2
        exact ⟨M3, hM3, hk _ hr⟩
      rw [if_neg k30]
      by_cases k31 : xs (Int32.toNatClampNeg (nI i)) &&& (63 : Int32) = (31 : Int32)
      · rw [if_pos k31]
        obtain ⟨M2, hM2, hk⟩ := z_l723 (xs := xs) h0 hL (i := i) (by omega) (h723 _ _ _) hM
        obtain ⟨M3, hM3, hr⟩ := next M2 hM2
        exact ⟨M3, hM3, hk _ hr⟩
      rw [if_neg k31]
      by_cases k32 : xs (Int32.toNatClampNeg (nI i)) &&& (63 : Int32) = (32 : Int32)
      · rw [if_pos k32]
        obtain ⟨M2, hM2, hk⟩ := z_l761 (xs := xs) h0 hL (i := i) (by omega) (h761 _ _ _) hM
        obtain ⟨M3, hM3, hr⟩ := next M2 hM2
        exact ⟨M3, hM3, hk _ hr⟩
      rw [if_neg k32]
      by_cases k33 : xs (Int32.toNatClampNeg (nI i)) &&& (63 : Int32) = (33 : Int32)
      · rw [if_pos k33]
        obtain ⟨M2, hM2, hk⟩ := z_l823 (xs := xs) h0 hL (i := i) (by omega) (h823 _ _) hM
        obtain ⟨M3, hM3, hr⟩ := next M2 hM2
        exact ⟨M3, hM3, hk _ hr⟩
      rw [if_neg k33]
      by_cases k34 : xs (Int32.toNatClampNeg (nI i)) &&& (63 : Int32) = (34 : Int32)
      · rw [if_pos k34]
        obtain ⟨M2, hM2, hk⟩ := z_l852 (xs := xs) h0 hL (i := i) (by omega) (h852 _ _ _ _ _) hM
        obtain ⟨M3, hM3, hr⟩ := next M2 hM2
        exact ⟨M3, hM3, hk _ hr⟩
      rw [if_neg k34]
      exact next M hM
    obtain ⟨M3, h3, hr⟩ := hsuf
    exact ⟨M3, h3, b_La_l11 _ _ _ _ _ _ _ _ (by rw [if_neg hc, hin]; exact hr)⟩
