/-! THE LAW'S LOOP over a relation of heaps (by program: wip/whole/emitloop.py) -/
/-- on heaps that stand in zR the class's call and the reference's answer the same, and the heap behind both stands in zR -/
def zSI (zR : xz_M → Prop) (q q' : Nat) (as : List Value) : Prop := ∀ M, zR M → ∃ (v : Int32) (M1 M2 : xz_M), zC 60 q (.ref 0 :: as) M = some (some (.int v), M1) ∧ xz_is M1 92 8 = true ∧ zC 60 q' (.ref 92 :: as) M1 = some (some (.int v), M2) ∧ zR M2
def zSJ (zR : xz_M → Prop) (q q' : Nat) (as : List Value) : Prop := ∀ M, zR M → ∃ (v : Int64) (M1 M2 : xz_M), zC 60 q (.ref 0 :: as) M = some (some (.long v), M1) ∧ xz_is M1 92 8 = true ∧ zC 60 q' (.ref 92 :: as) M1 = some (some (.long v), M2) ∧ zR M2
theorem z_cmp (x : Int64) : lg_cmp x x = 0 := (lg_cmp_eq x x).mpr rfl
theorem z_in {L i k : Nat} (hL : L ≤ 3072) (hi : i + k < L) : xz_in (nI i + nI k) L = true := by
  rw [nI_add]
  unfold xz_in
  exact decide_eq_true (nI_in hi (by omega))
set_option maxRecDepth 100000 in
theorem z_l24 {zR : xz_M → Prop} (h0 : ∀ M, zR M → xz_is M 0 7 = true) {L i : Nat} {xs : Nat → Int32} (hL : L ≤ 3072) (hi : i + 6 ≤ L) (hs : zSI zR q_HR_people q_Mo_people [.int (xs (Int32.toNatClampNeg (nI i + (1 : Int32))))]) {M : xz_M} (hM : zR M) : ∃ M2, zR M2 ∧ ∀ r, zX 60 L xs 910 [(0, .ref 1000), (1, .ref 0), (2, .ref 92), (3, .int (nI i))] M2 = some r → zX 60 L xs 24 [(0, .ref 1000), (1, .ref 0), (2, .ref 92), (3, .int (nI i))] M = some r := by
  obtain ⟨v, M1, M2, h1, h2, h3, h4⟩ := hs M hM
  refine ⟨M2, h4, fun r hr => b_La_l24 _ _ _ _ _ _ _ _ ?_⟩
  have g1 : xz_in (nI i + (1 : Int32)) L = true := z_in (k := 1) hL (by omega)
  simp only [xz_b, h0 M hM, h1, xz_bI, xz_bJ, h2, h3, z_cmp, if_true, g1]
  exact hr
set_option maxRecDepth 100000 in
theorem z_l42 {zR : xz_M → Prop} (h0 : ∀ M, zR M → xz_is M 0 7 = true) {L i : Nat} {xs : Nat → Int32} (hL : L ≤ 3072) (hi : i + 6 ≤ L) (hs : zSI zR q_HR_meet q_Mo_meet [.int (xs (Int32.toNatClampNeg (nI i + (1 : Int32)))), .int (xs (Int32.toNatClampNeg (nI i + (2 : Int32)))), .int (xs (Int32.toNatClampNeg (nI i + (3 : Int32)))), .int (xs (Int32.toNatClampNeg (nI i + (4 : Int32))))]) {M : xz_M} (hM : zR M) : ∃ M2, zR M2 ∧ ∀ r, zX 60 L xs 910 [(0, .ref 1000), (1, .ref 0), (2, .ref 92), (3, .int (nI i))] M2 = some r → zX 60 L xs 42 [(0, .ref 1000), (1, .ref 0), (2, .ref 92), (3, .int (nI i))] M = some r := by
  obtain ⟨v, M1, M2, h1, h2, h3, h4⟩ := hs M hM
  refine ⟨M2, h4, fun r hr => b_La_l42 _ _ _ _ _ _ _ _ ?_⟩
  have g1 : xz_in (nI i + (1 : Int32)) L = true := z_in (k := 1) hL (by omega)
  have g2 : xz_in (nI i + (2 : Int32)) L = true := z_in (k := 2) hL (by omega)
  have g3 : xz_in (nI i + (3 : Int32)) L = true := z_in (k := 3) hL (by omega)
  have g4 : xz_in (nI i + (4 : Int32)) L = true := z_in (k := 4) hL (by omega)
  simp only [xz_b, h0 M hM, h1, xz_bI, xz_bJ, h2, h3, z_cmp, if_true, g1, g2, g3, g4]
  exact hr
set_option maxRecDepth 100000 in
theorem z_l90 {zR : xz_M → Prop} (h0 : ∀ M, zR M → xz_is M 0 7 = true) {L i : Nat} {xs : Nat → Int32} (hL : L ≤ 3072) (hi : i + 6 ≤ L) (hs : zSI zR q_HR_drop q_Mo_drop [.int (xs (Int32.toNatClampNeg (nI i + (1 : Int32))))]) {M : xz_M} (hM : zR M) : ∃ M2, zR M2 ∧ ∀ r, zX 60 L xs 910 [(0, .ref 1000), (1, .ref 0), (2, .ref 92), (3, .int (nI i))] M2 = some r → zX 60 L xs 90 [(0, .ref 1000), (1, .ref 0), (2, .ref 92), (3, .int (nI i))] M = some r := by
  obtain ⟨v, M1, M2, h1, h2, h3, h4⟩ := hs M hM
  refine ⟨M2, h4, fun r hr => b_La_l90 _ _ _ _ _ _ _ _ ?_⟩
  have g1 : xz_in (nI i + (1 : Int32)) L = true := z_in (k := 1) hL (by omega)
  simp only [xz_b, h0 M hM, h1, xz_bI, xz_bJ, h2, h3, z_cmp, if_true, g1]
  exact hr
set_option maxRecDepth 100000 in
theorem z_l108 {zR : xz_M → Prop} (h0 : ∀ M, zR M → xz_is M 0 7 = true) {L i : Nat} {xs : Nat → Int32} (hL : L ≤ 3072) (hi : i + 6 ≤ L) (hs : zSI zR q_HR_renew q_Mo_renew [.int (xs (Int32.toNatClampNeg (nI i + (1 : Int32)))), .int (xs (Int32.toNatClampNeg (nI i + (2 : Int32)))), .int (xs (Int32.toNatClampNeg (nI i + (3 : Int32))))]) {M : xz_M} (hM : zR M) : ∃ M2, zR M2 ∧ ∀ r, zX 60 L xs 910 [(0, .ref 1000), (1, .ref 0), (2, .ref 92), (3, .int (nI i))] M2 = some r → zX 60 L xs 108 [(0, .ref 1000), (1, .ref 0), (2, .ref 92), (3, .int (nI i))] M = some r := by
  obtain ⟨v, M1, M2, h1, h2, h3, h4⟩ := hs M hM
  refine ⟨M2, h4, fun r hr => b_La_l108 _ _ _ _ _ _ _ _ ?_⟩
  have g1 : xz_in (nI i + (1 : Int32)) L = true := z_in (k := 1) hL (by omega)
  have g2 : xz_in (nI i + (2 : Int32)) L = true := z_in (k := 2) hL (by omega)
  have g3 : xz_in (nI i + (3 : Int32)) L = true := z_in (k := 3) hL (by omega)
  simp only [xz_b, h0 M hM, h1, xz_bI, xz_bJ, h2, h3, z_cmp, if_true, g1, g2, g3]
  exact hr
set_option maxRecDepth 100000 in
theorem z_l146 {zR : xz_M → Prop} (h0 : ∀ M, zR M → xz_is M 0 7 = true) {L i : Nat} {xs : Nat → Int32} (hL : L ≤ 3072) (hi : i + 6 ≤ L) (hs : zSI zR q_HR_meeting q_Mo_meeting [.int (xs (Int32.toNatClampNeg (nI i + (1 : Int32)))), .int (xs (Int32.toNatClampNeg (nI i + (2 : Int32))))]) {M : xz_M} (hM : zR M) : ∃ M2, zR M2 ∧ ∀ r, zX 60 L xs 910 [(0, .ref 1000), (1, .ref 0), (2, .ref 92), (3, .int (nI i))] M2 = some r → zX 60 L xs 146 [(0, .ref 1000), (1, .ref 0), (2, .ref 92), (3, .int (nI i))] M = some r := by
  obtain ⟨v, M1, M2, h1, h2, h3, h4⟩ := hs M hM
  refine ⟨M2, h4, fun r hr => b_La_l146 _ _ _ _ _ _ _ _ ?_⟩
  have g1 : xz_in (nI i + (1 : Int32)) L = true := z_in (k := 1) hL (by omega)
  have g2 : xz_in (nI i + (2 : Int32)) L = true := z_in (k := 2) hL (by omega)
  simp only [xz_b, h0 M hM, h1, xz_bI, xz_bJ, h2, h3, z_cmp, if_true, g1, g2]
  exact hr
set_option maxRecDepth 100000 in
theorem z_l174 {zR : xz_M → Prop} (h0 : ∀ M, zR M → xz_is M 0 7 = true) {L i : Nat} {xs : Nat → Int32} (hL : L ≤ 3072) (hi : i + 6 ≤ L) (hs : zSI zR q_HR_delay q_Mo_delay [.int (xs (Int32.toNatClampNeg (nI i + (1 : Int32))))]) {M : xz_M} (hM : zR M) : ∃ M2, zR M2 ∧ ∀ r, zX 60 L xs 910 [(0, .ref 1000), (1, .ref 0), (2, .ref 92), (3, .int (nI i))] M2 = some r → zX 60 L xs 174 [(0, .ref 1000), (1, .ref 0), (2, .ref 92), (3, .int (nI i))] M = some r := by
  obtain ⟨v, M1, M2, h1, h2, h3, h4⟩ := hs M hM
  refine ⟨M2, h4, fun r hr => b_La_l174 _ _ _ _ _ _ _ _ ?_⟩
  have g1 : xz_in (nI i + (1 : Int32)) L = true := z_in (k := 1) hL (by omega)
  simp only [xz_b, h0 M hM, h1, xz_bI, xz_bJ, h2, h3, z_cmp, if_true, g1]
  exact hr
set_option maxRecDepth 100000 in
theorem z_l192 {zR : xz_M → Prop} (h0 : ∀ M, zR M → xz_is M 0 7 = true) {L i : Nat} {xs : Nat → Int32} (hL : L ≤ 3072) (hi : i + 6 ≤ L) (hs : zSI zR q_HR_ask q_Mo_ask [.int (xs (Int32.toNatClampNeg (nI i + (1 : Int32)))), .int (xs (Int32.toNatClampNeg (nI i + (2 : Int32)))), .int (xs (Int32.toNatClampNeg (nI i + (3 : Int32))))]) {M : xz_M} (hM : zR M) : ∃ M2, zR M2 ∧ ∀ r, zX 60 L xs 910 [(0, .ref 1000), (1, .ref 0), (2, .ref 92), (3, .int (nI i))] M2 = some r → zX 60 L xs 192 [(0, .ref 1000), (1, .ref 0), (2, .ref 92), (3, .int (nI i))] M = some r := by
  obtain ⟨v, M1, M2, h1, h2, h3, h4⟩ := hs M hM
  refine ⟨M2, h4, fun r hr => b_La_l192 _ _ _ _ _ _ _ _ ?_⟩
  have g1 : xz_in (nI i + (1 : Int32)) L = true := z_in (k := 1) hL (by omega)
  have g2 : xz_in (nI i + (2 : Int32)) L = true := z_in (k := 2) hL (by omega)
  have g3 : xz_in (nI i + (3 : Int32)) L = true := z_in (k := 3) hL (by omega)
  simp only [xz_b, h0 M hM, h1, xz_bI, xz_bJ, h2, h3, z_cmp, if_true, g1, g2, g3]
  exact hr
set_option maxRecDepth 100000 in
theorem z_l230 {zR : xz_M → Prop} (h0 : ∀ M, zR M → xz_is M 0 7 = true) {L i : Nat} {xs : Nat → Int32} (hL : L ≤ 3072) (hi : i + 6 ≤ L) (hs : zSI zR q_HR_feed q_Mo_feed [.int (xs (Int32.toNatClampNeg (nI i + (1 : Int32))))]) {M : xz_M} (hM : zR M) : ∃ M2, zR M2 ∧ ∀ r, zX 60 L xs 910 [(0, .ref 1000), (1, .ref 0), (2, .ref 92), (3, .int (nI i))] M2 = some r → zX 60 L xs 230 [(0, .ref 1000), (1, .ref 0), (2, .ref 92), (3, .int (nI i))] M = some r := by
  obtain ⟨v, M1, M2, h1, h2, h3, h4⟩ := hs M hM
  refine ⟨M2, h4, fun r hr => b_La_l230 _ _ _ _ _ _ _ _ ?_⟩
  have g1 : xz_in (nI i + (1 : Int32)) L = true := z_in (k := 1) hL (by omega)
  simp only [xz_b, h0 M hM, h1, xz_bI, xz_bJ, h2, h3, z_cmp, if_true, g1]
  exact hr
set_option maxRecDepth 100000 in
theorem z_l248 {zR : xz_M → Prop} (h0 : ∀ M, zR M → xz_is M 0 7 = true) {L i : Nat} {xs : Nat → Int32} (hL : L ≤ 3072) (hi : i + 6 ≤ L) (hs : zSI zR q_HR_read q_Mo_read []) {M : xz_M} (hM : zR M) : ∃ M2, zR M2 ∧ ∀ r, zX 60 L xs 910 [(0, .ref 1000), (1, .ref 0), (2, .ref 92), (3, .int (nI i))] M2 = some r → zX 60 L xs 248 [(0, .ref 1000), (1, .ref 0), (2, .ref 92), (3, .int (nI i))] M = some r := by
  obtain ⟨v, M1, M2, h1, h2, h3, h4⟩ := hs M hM
  refine ⟨M2, h4, fun r hr => b_La_l248 _ _ _ _ _ _ _ _ ?_⟩
  simp only [xz_b, h0 M hM, h1, xz_bI, xz_bJ, h2, h3, z_cmp, if_true]
  exact hr
set_option maxRecDepth 100000 in
theorem z_l256 {zR : xz_M → Prop} (h0 : ∀ M, zR M → xz_is M 0 7 = true) {L i : Nat} {xs : Nat → Int32} (hL : L ≤ 3072) (hi : i + 6 ≤ L) (hs : zSI zR q_HR_way q_Mo_way [.int (xs (Int32.toNatClampNeg (nI i + (1 : Int32)))), .int (xs (Int32.toNatClampNeg (nI i + (2 : Int32))))]) {M : xz_M} (hM : zR M) : ∃ M2, zR M2 ∧ ∀ r, zX 60 L xs 910 [(0, .ref 1000), (1, .ref 0), (2, .ref 92), (3, .int (nI i))] M2 = some r → zX 60 L xs 256 [(0, .ref 1000), (1, .ref 0), (2, .ref 92), (3, .int (nI i))] M = some r := by
  obtain ⟨v, M1, M2, h1, h2, h3, h4⟩ := hs M hM
  refine ⟨M2, h4, fun r hr => b_La_l256 _ _ _ _ _ _ _ _ ?_⟩
  have g1 : xz_in (nI i + (1 : Int32)) L = true := z_in (k := 1) hL (by omega)
  have g2 : xz_in (nI i + (2 : Int32)) L = true := z_in (k := 2) hL (by omega)
  simp only [xz_b, h0 M hM, h1, xz_bI, xz_bJ, h2, h3, z_cmp, if_true, g1, g2]
  exact hr
set_option maxRecDepth 100000 in
theorem z_l284 {zR : xz_M → Prop} (h0 : ∀ M, zR M → xz_is M 0 7 = true) {L i : Nat} {xs : Nat → Int32} (hL : L ≤ 3072) (hi : i + 6 ≤ L) (hs : zSI zR q_HR_holder q_Mo_holder [.int (xs (Int32.toNatClampNeg (nI i + (1 : Int32)))), .int (xs (Int32.toNatClampNeg (nI i + (2 : Int32))))]) {M : xz_M} (hM : zR M) : ∃ M2, zR M2 ∧ ∀ r, zX 60 L xs 910 [(0, .ref 1000), (1, .ref 0), (2, .ref 92), (3, .int (nI i))] M2 = some r → zX 60 L xs 284 [(0, .ref 1000), (1, .ref 0), (2, .ref 92), (3, .int (nI i))] M = some r := by
  obtain ⟨v, M1, M2, h1, h2, h3, h4⟩ := hs M hM
  refine ⟨M2, h4, fun r hr => b_La_l284 _ _ _ _ _ _ _ _ ?_⟩
  have g1 : xz_in (nI i + (1 : Int32)) L = true := z_in (k := 1) hL (by omega)
  have g2 : xz_in (nI i + (2 : Int32)) L = true := z_in (k := 2) hL (by omega)
  simp only [xz_b, h0 M hM, h1, xz_bI, xz_bJ, h2, h3, z_cmp, if_true, g1, g2]
  exact hr
set_option maxRecDepth 100000 in
theorem z_l312 {zR : xz_M → Prop} (h0 : ∀ M, zR M → xz_is M 0 7 = true) {L i : Nat} {xs : Nat → Int32} (hL : L ≤ 3072) (hi : i + 6 ≤ L) (hs : zSJ zR q_HR_sureness q_Mo_sureness [.int (xs (Int32.toNatClampNeg (nI i + (1 : Int32)))), .int (xs (Int32.toNatClampNeg (nI i + (2 : Int32))))]) {M : xz_M} (hM : zR M) : ∃ M2, zR M2 ∧ ∀ r, zX 60 L xs 910 [(0, .ref 1000), (1, .ref 0), (2, .ref 92), (3, .int (nI i))] M2 = some r → zX 60 L xs 312 [(0, .ref 1000), (1, .ref 0), (2, .ref 92), (3, .int (nI i))] M = some r := by
  obtain ⟨v, M1, M2, h1, h2, h3, h4⟩ := hs M hM
  refine ⟨M2, h4, fun r hr => b_La_l312 _ _ _ _ _ _ _ _ ?_⟩
  have g1 : xz_in (nI i + (1 : Int32)) L = true := z_in (k := 1) hL (by omega)
  have g2 : xz_in (nI i + (2 : Int32)) L = true := z_in (k := 2) hL (by omega)
  simp only [xz_b, h0 M hM, h1, xz_bI, xz_bJ, h2, h3, z_cmp, if_true, g1, g2]
  exact hr
set_option maxRecDepth 100000 in
theorem z_l341 {zR : xz_M → Prop} (h0 : ∀ M, zR M → xz_is M 0 7 = true) {L i : Nat} {xs : Nat → Int32} (hL : L ≤ 3072) (hi : i + 6 ≤ L) (hs : zSI zR q_HR_reach q_Mo_reach [.int (xs (Int32.toNatClampNeg (nI i + (1 : Int32))))]) {M : xz_M} (hM : zR M) : ∃ M2, zR M2 ∧ ∀ r, zX 60 L xs 910 [(0, .ref 1000), (1, .ref 0), (2, .ref 92), (3, .int (nI i))] M2 = some r → zX 60 L xs 341 [(0, .ref 1000), (1, .ref 0), (2, .ref 92), (3, .int (nI i))] M = some r := by
  obtain ⟨v, M1, M2, h1, h2, h3, h4⟩ := hs M hM
  refine ⟨M2, h4, fun r hr => b_La_l341 _ _ _ _ _ _ _ _ ?_⟩
  have g1 : xz_in (nI i + (1 : Int32)) L = true := z_in (k := 1) hL (by omega)
  simp only [xz_b, h0 M hM, h1, xz_bI, xz_bJ, h2, h3, z_cmp, if_true, g1]
  exact hr
set_option maxRecDepth 100000 in
theorem z_l359 {zR : xz_M → Prop} (h0 : ∀ M, zR M → xz_is M 0 7 = true) {L i : Nat} {xs : Nat → Int32} (hL : L ≤ 3072) (hi : i + 6 ≤ L) (hs : zSI zR q_HR_by q_Mo_by [.int (xs (Int32.toNatClampNeg (nI i + (1 : Int32))))]) {M : xz_M} (hM : zR M) : ∃ M2, zR M2 ∧ ∀ r, zX 60 L xs 910 [(0, .ref 1000), (1, .ref 0), (2, .ref 92), (3, .int (nI i))] M2 = some r → zX 60 L xs 359 [(0, .ref 1000), (1, .ref 0), (2, .ref 92), (3, .int (nI i))] M = some r := by
  obtain ⟨v, M1, M2, h1, h2, h3, h4⟩ := hs M hM
  refine ⟨M2, h4, fun r hr => b_La_l359 _ _ _ _ _ _ _ _ ?_⟩
  have g1 : xz_in (nI i + (1 : Int32)) L = true := z_in (k := 1) hL (by omega)
  simp only [xz_b, h0 M hM, h1, xz_bI, xz_bJ, h2, h3, z_cmp, if_true, g1]
  exact hr
set_option maxRecDepth 100000 in
theorem z_l377 {zR : xz_M → Prop} (h0 : ∀ M, zR M → xz_is M 0 7 = true) {L i : Nat} {xs : Nat → Int32} (hL : L ≤ 3072) (hi : i + 6 ≤ L) (hs : zSI zR q_HR_agenda q_Mo_agenda [.int (xs (Int32.toNatClampNeg (nI i + (1 : Int32))))]) {M : xz_M} (hM : zR M) : ∃ M2, zR M2 ∧ ∀ r, zX 60 L xs 910 [(0, .ref 1000), (1, .ref 0), (2, .ref 92), (3, .int (nI i))] M2 = some r → zX 60 L xs 377 [(0, .ref 1000), (1, .ref 0), (2, .ref 92), (3, .int (nI i))] M = some r := by
  obtain ⟨v, M1, M2, h1, h2, h3, h4⟩ := hs M hM
  refine ⟨M2, h4, fun r hr => b_La_l377 _ _ _ _ _ _ _ _ ?_⟩
  have g1 : xz_in (nI i + (1 : Int32)) L = true := z_in (k := 1) hL (by omega)
  simp only [xz_b, h0 M hM, h1, xz_bI, xz_bJ, h2, h3, z_cmp, if_true, g1]
  exact hr
set_option maxRecDepth 100000 in
theorem z_l395 {zR : xz_M → Prop} (h0 : ∀ M, zR M → xz_is M 0 7 = true) {L i : Nat} {xs : Nat → Int32} (hL : L ≤ 3072) (hi : i + 6 ≤ L) (hs : zSI zR q_HR_rank q_Mo_rank [.int (xs (Int32.toNatClampNeg (nI i + (1 : Int32))))]) {M : xz_M} (hM : zR M) : ∃ M2, zR M2 ∧ ∀ r, zX 60 L xs 910 [(0, .ref 1000), (1, .ref 0), (2, .ref 92), (3, .int (nI i))] M2 = some r → zX 60 L xs 395 [(0, .ref 1000), (1, .ref 0), (2, .ref 92), (3, .int (nI i))] M = some r := by
  obtain ⟨v, M1, M2, h1, h2, h3, h4⟩ := hs M hM
  refine ⟨M2, h4, fun r hr => b_La_l395 _ _ _ _ _ _ _ _ ?_⟩
  have g1 : xz_in (nI i + (1 : Int32)) L = true := z_in (k := 1) hL (by omega)
  simp only [xz_b, h0 M hM, h1, xz_bI, xz_bJ, h2, h3, z_cmp, if_true, g1]
  exact hr
set_option maxRecDepth 100000 in
theorem z_l413 {zR : xz_M → Prop} (h0 : ∀ M, zR M → xz_is M 0 7 = true) {L i : Nat} {xs : Nat → Int32} (hL : L ≤ 3072) (hi : i + 6 ≤ L) (hs : zSI zR q_HR_between q_Mo_between [.int (xs (Int32.toNatClampNeg (nI i + (1 : Int32)))), .int (xs (Int32.toNatClampNeg (nI i + (2 : Int32))))]) {M : xz_M} (hM : zR M) : ∃ M2, zR M2 ∧ ∀ r, zX 60 L xs 910 [(0, .ref 1000), (1, .ref 0), (2, .ref 92), (3, .int (nI i))] M2 = some r → zX 60 L xs 413 [(0, .ref 1000), (1, .ref 0), (2, .ref 92), (3, .int (nI i))] M = some r := by
  obtain ⟨v, M1, M2, h1, h2, h3, h4⟩ := hs M hM
  refine ⟨M2, h4, fun r hr => b_La_l413 _ _ _ _ _ _ _ _ ?_⟩
  have g1 : xz_in (nI i + (1 : Int32)) L = true := z_in (k := 1) hL (by omega)
  have g2 : xz_in (nI i + (2 : Int32)) L = true := z_in (k := 2) hL (by omega)
  simp only [xz_b, h0 M hM, h1, xz_bI, xz_bJ, h2, h3, z_cmp, if_true, g1, g2]
  exact hr
set_option maxRecDepth 100000 in
theorem z_l441 {zR : xz_M → Prop} (h0 : ∀ M, zR M → xz_is M 0 7 = true) {L i : Nat} {xs : Nat → Int32} (hL : L ≤ 3072) (hi : i + 6 ≤ L) (hs : zSI zR q_HR_told q_Mo_told [.int (xs (Int32.toNatClampNeg (nI i + (1 : Int32))))]) {M : xz_M} (hM : zR M) : ∃ M2, zR M2 ∧ ∀ r, zX 60 L xs 910 [(0, .ref 1000), (1, .ref 0), (2, .ref 92), (3, .int (nI i))] M2 = some r → zX 60 L xs 441 [(0, .ref 1000), (1, .ref 0), (2, .ref 92), (3, .int (nI i))] M = some r := by
  obtain ⟨v, M1, M2, h1, h2, h3, h4⟩ := hs M hM
  refine ⟨M2, h4, fun r hr => b_La_l441 _ _ _ _ _ _ _ _ ?_⟩
  have g1 : xz_in (nI i + (1 : Int32)) L = true := z_in (k := 1) hL (by omega)
  simp only [xz_b, h0 M hM, h1, xz_bI, xz_bJ, h2, h3, z_cmp, if_true, g1]
  exact hr
set_option maxRecDepth 100000 in
theorem z_l459 {zR : xz_M → Prop} (h0 : ∀ M, zR M → xz_is M 0 7 = true) {L i : Nat} {xs : Nat → Int32} (hL : L ≤ 3072) (hi : i + 6 ≤ L) (hs : zSI zR q_HR_cut q_Mo_cut [.int (xs (Int32.toNatClampNeg (nI i + (1 : Int32))))]) {M : xz_M} (hM : zR M) : ∃ M2, zR M2 ∧ ∀ r, zX 60 L xs 910 [(0, .ref 1000), (1, .ref 0), (2, .ref 92), (3, .int (nI i))] M2 = some r → zX 60 L xs 459 [(0, .ref 1000), (1, .ref 0), (2, .ref 92), (3, .int (nI i))] M = some r := by
  obtain ⟨v, M1, M2, h1, h2, h3, h4⟩ := hs M hM
  refine ⟨M2, h4, fun r hr => b_La_l459 _ _ _ _ _ _ _ _ ?_⟩
  have g1 : xz_in (nI i + (1 : Int32)) L = true := z_in (k := 1) hL (by omega)
  simp only [xz_b, h0 M hM, h1, xz_bI, xz_bJ, h2, h3, z_cmp, if_true, g1]
  exact hr
set_option maxRecDepth 100000 in
theorem z_l523 {zR : xz_M → Prop} (h0 : ∀ M, zR M → xz_is M 0 7 = true) {L i : Nat} {xs : Nat → Int32} (hL : L ≤ 3072) (hi : i + 6 ≤ L) (hs : zSI zR q_HR_fits q_Mo_fits [.int (xs (Int32.toNatClampNeg (nI i + (1 : Int32))))]) {M : xz_M} (hM : zR M) : ∃ M2, zR M2 ∧ ∀ r, zX 60 L xs 910 [(0, .ref 1000), (1, .ref 0), (2, .ref 92), (3, .int (nI i))] M2 = some r → zX 60 L xs 523 [(0, .ref 1000), (1, .ref 0), (2, .ref 92), (3, .int (nI i))] M = some r := by
  obtain ⟨v, M1, M2, h1, h2, h3, h4⟩ := hs M hM
  refine ⟨M2, h4, fun r hr => b_La_l523 _ _ _ _ _ _ _ _ ?_⟩
  have g1 : xz_in (nI i + (1 : Int32)) L = true := z_in (k := 1) hL (by omega)
  simp only [xz_b, h0 M hM, h1, xz_bI, xz_bJ, h2, h3, z_cmp, if_true, g1]
  exact hr
set_option maxRecDepth 100000 in
theorem z_l541 {zR : xz_M → Prop} (h0 : ∀ M, zR M → xz_is M 0 7 = true) {L i : Nat} {xs : Nat → Int32} (hL : L ≤ 3072) (hi : i + 6 ≤ L) (hs : zSJ zR q_HR_odds q_Mo_odds [.int (xs (Int32.toNatClampNeg (nI i + (1 : Int32))))]) {M : xz_M} (hM : zR M) : ∃ M2, zR M2 ∧ ∀ r, zX 60 L xs 910 [(0, .ref 1000), (1, .ref 0), (2, .ref 92), (3, .int (nI i))] M2 = some r → zX 60 L xs 541 [(0, .ref 1000), (1, .ref 0), (2, .ref 92), (3, .int (nI i))] M = some r := by
  obtain ⟨v, M1, M2, h1, h2, h3, h4⟩ := hs M hM
  refine ⟨M2, h4, fun r hr => b_La_l541 _ _ _ _ _ _ _ _ ?_⟩
  have g1 : xz_in (nI i + (1 : Int32)) L = true := z_in (k := 1) hL (by omega)
  simp only [xz_b, h0 M hM, h1, xz_bI, xz_bJ, h2, h3, z_cmp, if_true, g1]
  exact hr
set_option maxRecDepth 100000 in
theorem z_l560 {zR : xz_M → Prop} (h0 : ∀ M, zR M → xz_is M 0 7 = true) {L i : Nat} {xs : Nat → Int32} (hL : L ≤ 3072) (hi : i + 6 ≤ L) (hs : zSJ zR q_HR_mean q_Mo_mean [.int (xs (Int32.toNatClampNeg (nI i + (1 : Int32))))]) {M : xz_M} (hM : zR M) : ∃ M2, zR M2 ∧ ∀ r, zX 60 L xs 910 [(0, .ref 1000), (1, .ref 0), (2, .ref 92), (3, .int (nI i))] M2 = some r → zX 60 L xs 560 [(0, .ref 1000), (1, .ref 0), (2, .ref 92), (3, .int (nI i))] M = some r := by
  obtain ⟨v, M1, M2, h1, h2, h3, h4⟩ := hs M hM
  refine ⟨M2, h4, fun r hr => b_La_l560 _ _ _ _ _ _ _ _ ?_⟩
  have g1 : xz_in (nI i + (1 : Int32)) L = true := z_in (k := 1) hL (by omega)
  simp only [xz_b, h0 M hM, h1, xz_bI, xz_bJ, h2, h3, z_cmp, if_true, g1]
  exact hr
set_option maxRecDepth 100000 in
theorem z_l579 {zR : xz_M → Prop} (h0 : ∀ M, zR M → xz_is M 0 7 = true) {L i : Nat} {xs : Nat → Int32} (hL : L ≤ 3072) (hi : i + 6 ≤ L) (hs : zSI zR q_HR_event q_Mo_event [.int (xs (Int32.toNatClampNeg (nI i + (1 : Int32)))), .int (xs (Int32.toNatClampNeg (nI i + (2 : Int32))))]) {M : xz_M} (hM : zR M) : ∃ M2, zR M2 ∧ ∀ r, zX 60 L xs 910 [(0, .ref 1000), (1, .ref 0), (2, .ref 92), (3, .int (nI i))] M2 = some r → zX 60 L xs 579 [(0, .ref 1000), (1, .ref 0), (2, .ref 92), (3, .int (nI i))] M = some r := by
  obtain ⟨v, M1, M2, h1, h2, h3, h4⟩ := hs M hM
  refine ⟨M2, h4, fun r hr => b_La_l579 _ _ _ _ _ _ _ _ ?_⟩
  have g1 : xz_in (nI i + (1 : Int32)) L = true := z_in (k := 1) hL (by omega)
  have g2 : xz_in (nI i + (2 : Int32)) L = true := z_in (k := 2) hL (by omega)
  simp only [xz_b, h0 M hM, h1, xz_bI, xz_bJ, h2, h3, z_cmp, if_true, g1, g2]
  exact hr
set_option maxRecDepth 100000 in
theorem z_l607 {zR : xz_M → Prop} (h0 : ∀ M, zR M → xz_is M 0 7 = true) {L i : Nat} {xs : Nat → Int32} (hL : L ≤ 3072) (hi : i + 6 ≤ L) (hs : zSI zR q_HR_after q_Mo_after [.int (xs (Int32.toNatClampNeg (nI i + (1 : Int32))))]) {M : xz_M} (hM : zR M) : ∃ M2, zR M2 ∧ ∀ r, zX 60 L xs 910 [(0, .ref 1000), (1, .ref 0), (2, .ref 92), (3, .int (nI i))] M2 = some r → zX 60 L xs 607 [(0, .ref 1000), (1, .ref 0), (2, .ref 92), (3, .int (nI i))] M = some r := by
  obtain ⟨v, M1, M2, h1, h2, h3, h4⟩ := hs M hM
  refine ⟨M2, h4, fun r hr => b_La_l607 _ _ _ _ _ _ _ _ ?_⟩
  have g1 : xz_in (nI i + (1 : Int32)) L = true := z_in (k := 1) hL (by omega)
  simp only [xz_b, h0 M hM, h1, xz_bI, xz_bJ, h2, h3, z_cmp, if_true, g1]
  exact hr
set_option maxRecDepth 100000 in
theorem z_l625 {zR : xz_M → Prop} (h0 : ∀ M, zR M → xz_is M 0 7 = true) {L i : Nat} {xs : Nat → Int32} (hL : L ≤ 3072) (hi : i + 6 ≤ L) (hs : zSI zR q_HR_book q_Mo_book [.int (xs (Int32.toNatClampNeg (nI i + (1 : Int32)))), .int (xs (Int32.toNatClampNeg (nI i + (2 : Int32))))]) {M : xz_M} (hM : zR M) : ∃ M2, zR M2 ∧ ∀ r, zX 60 L xs 910 [(0, .ref 1000), (1, .ref 0), (2, .ref 92), (3, .int (nI i))] M2 = some r → zX 60 L xs 625 [(0, .ref 1000), (1, .ref 0), (2, .ref 92), (3, .int (nI i))] M = some r := by
  obtain ⟨v, M1, M2, h1, h2, h3, h4⟩ := hs M hM
  refine ⟨M2, h4, fun r hr => b_La_l625 _ _ _ _ _ _ _ _ ?_⟩
  have g1 : xz_in (nI i + (1 : Int32)) L = true := z_in (k := 1) hL (by omega)
  have g2 : xz_in (nI i + (2 : Int32)) L = true := z_in (k := 2) hL (by omega)
  simp only [xz_b, h0 M hM, h1, xz_bI, xz_bJ, h2, h3, z_cmp, if_true, g1, g2]
  exact hr
set_option maxRecDepth 100000 in
theorem z_l653 {zR : xz_M → Prop} (h0 : ∀ M, zR M → xz_is M 0 7 = true) {L i : Nat} {xs : Nat → Int32} (hL : L ≤ 3072) (hi : i + 6 ≤ L) (hs : zSI zR q_HR_looked q_Mo_looked []) {M : xz_M} (hM : zR M) : ∃ M2, zR M2 ∧ ∀ r, zX 60 L xs 910 [(0, .ref 1000), (1, .ref 0), (2, .ref 92), (3, .int (nI i))] M2 = some r → zX 60 L xs 653 [(0, .ref 1000), (1, .ref 0), (2, .ref 92), (3, .int (nI i))] M = some r := by
  obtain ⟨v, M1, M2, h1, h2, h3, h4⟩ := hs M hM
  refine ⟨M2, h4, fun r hr => b_La_l653 _ _ _ _ _ _ _ _ ?_⟩
  simp only [xz_b, h0 M hM, h1, xz_bI, xz_bJ, h2, h3, z_cmp, if_true]
  exact hr
set_option maxRecDepth 100000 in
theorem z_l661 {zR : xz_M → Prop} (h0 : ∀ M, zR M → xz_is M 0 7 = true) {L i : Nat} {xs : Nat → Int32} (hL : L ≤ 3072) (hi : i + 6 ≤ L) (hs : zSI zR q_HR_judge q_Mo_judge [.int (xs (Int32.toNatClampNeg (nI i + (1 : Int32)))), .int (xs (Int32.toNatClampNeg (nI i + (2 : Int32))))]) {M : xz_M} (hM : zR M) : ∃ M2, zR M2 ∧ ∀ r, zX 60 L xs 910 [(0, .ref 1000), (1, .ref 0), (2, .ref 92), (3, .int (nI i))] M2 = some r → zX 60 L xs 661 [(0, .ref 1000), (1, .ref 0), (2, .ref 92), (3, .int (nI i))] M = some r := by
  obtain ⟨v, M1, M2, h1, h2, h3, h4⟩ := hs M hM
  refine ⟨M2, h4, fun r hr => b_La_l661 _ _ _ _ _ _ _ _ ?_⟩
  have g1 : xz_in (nI i + (1 : Int32)) L = true := z_in (k := 1) hL (by omega)
  have g2 : xz_in (nI i + (2 : Int32)) L = true := z_in (k := 2) hL (by omega)
  simp only [xz_b, h0 M hM, h1, xz_bI, xz_bJ, h2, h3, z_cmp, if_true, g1, g2]
  exact hr
set_option maxRecDepth 100000 in
theorem z_l689 {zR : xz_M → Prop} (h0 : ∀ M, zR M → xz_is M 0 7 = true) {L i : Nat} {xs : Nat → Int32} (hL : L ≤ 3072) (hi : i + 6 ≤ L) (hs : zSI zR q_HR_image q_Mo_image []) {M : xz_M} (hM : zR M) : ∃ M2, zR M2 ∧ ∀ r, zX 60 L xs 910 [(0, .ref 1000), (1, .ref 0), (2, .ref 92), (3, .int (nI i))] M2 = some r → zX 60 L xs 689 [(0, .ref 1000), (1, .ref 0), (2, .ref 92), (3, .int (nI i))] M = some r := by
  obtain ⟨v, M1, M2, h1, h2, h3, h4⟩ := hs M hM
  refine ⟨M2, h4, fun r hr => b_La_l689 _ _ _ _ _ _ _ _ ?_⟩
  simp only [xz_b, h0 M hM, h1, xz_bI, xz_bJ, h2, h3, z_cmp, if_true]
  exact hr
set_option maxRecDepth 100000 in
theorem z_l697 {zR : xz_M → Prop} (h0 : ∀ M, zR M → xz_is M 0 7 = true) {L i : Nat} {xs : Nat → Int32} (hL : L ≤ 3072) (hi : i + 6 ≤ L) (hs : zSI zR q_HR_undo q_Mo_undo []) {M : xz_M} (hM : zR M) : ∃ M2, zR M2 ∧ ∀ r, zX 60 L xs 910 [(0, .ref 1000), (1, .ref 0), (2, .ref 92), (3, .int (nI i))] M2 = some r → zX 60 L xs 697 [(0, .ref 1000), (1, .ref 0), (2, .ref 92), (3, .int (nI i))] M = some r := by
  obtain ⟨v, M1, M2, h1, h2, h3, h4⟩ := hs M hM
  refine ⟨M2, h4, fun r hr => b_La_l697 _ _ _ _ _ _ _ _ ?_⟩
  simp only [xz_b, h0 M hM, h1, xz_bI, xz_bJ, h2, h3, z_cmp, if_true]
  exact hr
set_option maxRecDepth 100000 in
theorem z_l705 {zR : xz_M → Prop} (h0 : ∀ M, zR M → xz_is M 0 7 = true) {L i : Nat} {xs : Nat → Int32} (hL : L ≤ 3072) (hi : i + 6 ≤ L) (hs : zSI zR q_HR_count q_Mo_count [.int (xs (Int32.toNatClampNeg (nI i + (1 : Int32))))]) {M : xz_M} (hM : zR M) : ∃ M2, zR M2 ∧ ∀ r, zX 60 L xs 910 [(0, .ref 1000), (1, .ref 0), (2, .ref 92), (3, .int (nI i))] M2 = some r → zX 60 L xs 705 [(0, .ref 1000), (1, .ref 0), (2, .ref 92), (3, .int (nI i))] M = some r := by
  obtain ⟨v, M1, M2, h1, h2, h3, h4⟩ := hs M hM
  refine ⟨M2, h4, fun r hr => b_La_l705 _ _ _ _ _ _ _ _ ?_⟩
  have g1 : xz_in (nI i + (1 : Int32)) L = true := z_in (k := 1) hL (by omega)
  simp only [xz_b, h0 M hM, h1, xz_bI, xz_bJ, h2, h3, z_cmp, if_true, g1]
  exact hr
set_option maxRecDepth 100000 in
theorem z_l723 {zR : xz_M → Prop} (h0 : ∀ M, zR M → xz_is M 0 7 = true) {L i : Nat} {xs : Nat → Int32} (hL : L ≤ 3072) (hi : i + 6 ≤ L) (hs : zSI zR q_HR_tape q_Mo_tape [.int (xs (Int32.toNatClampNeg (nI i + (1 : Int32)))), .int (xs (Int32.toNatClampNeg (nI i + (2 : Int32)))), .int (xs (Int32.toNatClampNeg (nI i + (3 : Int32))))]) {M : xz_M} (hM : zR M) : ∃ M2, zR M2 ∧ ∀ r, zX 60 L xs 910 [(0, .ref 1000), (1, .ref 0), (2, .ref 92), (3, .int (nI i))] M2 = some r → zX 60 L xs 723 [(0, .ref 1000), (1, .ref 0), (2, .ref 92), (3, .int (nI i))] M = some r := by
  obtain ⟨v, M1, M2, h1, h2, h3, h4⟩ := hs M hM
  refine ⟨M2, h4, fun r hr => b_La_l723 _ _ _ _ _ _ _ _ ?_⟩
  have g1 : xz_in (nI i + (1 : Int32)) L = true := z_in (k := 1) hL (by omega)
  have g2 : xz_in (nI i + (2 : Int32)) L = true := z_in (k := 2) hL (by omega)
  have g3 : xz_in (nI i + (3 : Int32)) L = true := z_in (k := 3) hL (by omega)
  simp only [xz_b, h0 M hM, h1, xz_bI, xz_bJ, h2, h3, z_cmp, if_true, g1, g2, g3]
  exact hr
set_option maxRecDepth 100000 in
theorem z_l761 {zR : xz_M → Prop} (h0 : ∀ M, zR M → xz_is M 0 7 = true) {L i : Nat} {xs : Nat → Int32} (hL : L ≤ 3072) (hi : i + 6 ≤ L) (hs : zSI zR q_HR_item q_Mo_item [.int (xs (Int32.toNatClampNeg (nI i + (1 : Int32)))), .int (xs (Int32.toNatClampNeg (nI i + (2 : Int32)))), .long (((Int32.toInt64 (xs (Int32.toNatClampNeg (nI i + (3 : Int32))))) <<< (((32 : Int32)).toInt64 &&& 63)) ||| ((Int32.toInt64 (xs (Int32.toNatClampNeg (nI i + (4 : Int32))))) &&& (4294967295 : Int64)))]) {M : xz_M} (hM : zR M) : ∃ M2, zR M2 ∧ ∀ r, zX 60 L xs 910 [(0, .ref 1000), (1, .ref 0), (2, .ref 92), (3, .int (nI i))] M2 = some r → zX 60 L xs 761 [(0, .ref 1000), (1, .ref 0), (2, .ref 92), (3, .int (nI i))] M = some r := by
  obtain ⟨v, M1, M2, h1, h2, h3, h4⟩ := hs M hM
  refine ⟨M2, h4, fun r hr => b_La_l761 _ _ _ _ _ _ _ _ ?_⟩
  have g1 : xz_in (nI i + (1 : Int32)) L = true := z_in (k := 1) hL (by omega)
  have g2 : xz_in (nI i + (2 : Int32)) L = true := z_in (k := 2) hL (by omega)
  have g3 : xz_in (nI i + (3 : Int32)) L = true := z_in (k := 3) hL (by omega)
  have g4 : xz_in (nI i + (4 : Int32)) L = true := z_in (k := 4) hL (by omega)
  simp only [xz_b, h0 M hM, h1, xz_bI, xz_bJ, h2, h3, z_cmp, if_true, g1, g2, g3, g4]
  exact hr
set_option maxRecDepth 100000 in
theorem z_l823 {zR : xz_M → Prop} (h0 : ∀ M, zR M → xz_is M 0 7 = true) {L i : Nat} {xs : Nat → Int32} (hL : L ≤ 3072) (hi : i + 6 ≤ L) (hs : zSJ zR q_HR_peek q_Mo_peek [.int (xs (Int32.toNatClampNeg (nI i + (1 : Int32)))), .int (xs (Int32.toNatClampNeg (nI i + (2 : Int32))))]) {M : xz_M} (hM : zR M) : ∃ M2, zR M2 ∧ ∀ r, zX 60 L xs 910 [(0, .ref 1000), (1, .ref 0), (2, .ref 92), (3, .int (nI i))] M2 = some r → zX 60 L xs 823 [(0, .ref 1000), (1, .ref 0), (2, .ref 92), (3, .int (nI i))] M = some r := by
  obtain ⟨v, M1, M2, h1, h2, h3, h4⟩ := hs M hM
  refine ⟨M2, h4, fun r hr => b_La_l823 _ _ _ _ _ _ _ _ ?_⟩
  have g1 : xz_in (nI i + (1 : Int32)) L = true := z_in (k := 1) hL (by omega)
  have g2 : xz_in (nI i + (2 : Int32)) L = true := z_in (k := 2) hL (by omega)
  simp only [xz_b, h0 M hM, h1, xz_bI, xz_bJ, h2, h3, z_cmp, if_true, g1, g2]
  exact hr
set_option maxRecDepth 100000 in
theorem z_l852 {zR : xz_M → Prop} (h0 : ∀ M, zR M → xz_is M 0 7 = true) {L i : Nat} {xs : Nat → Int32} (hL : L ≤ 3072) (hi : i + 6 ≤ L) (hs : zSI zR q_HR_shift q_Mo_shift [.int (xs (Int32.toNatClampNeg (nI i + (1 : Int32)))), .int (xs (Int32.toNatClampNeg (nI i + (2 : Int32)))), .int (xs (Int32.toNatClampNeg (nI i + (3 : Int32)))), .int (xs (Int32.toNatClampNeg (nI i + (4 : Int32)))), .int (xs (Int32.toNatClampNeg (nI i + (5 : Int32))))]) {M : xz_M} (hM : zR M) : ∃ M2, zR M2 ∧ ∀ r, zX 60 L xs 910 [(0, .ref 1000), (1, .ref 0), (2, .ref 92), (3, .int (nI i))] M2 = some r → zX 60 L xs 852 [(0, .ref 1000), (1, .ref 0), (2, .ref 92), (3, .int (nI i))] M = some r := by
  obtain ⟨v, M1, M2, h1, h2, h3, h4⟩ := hs M hM
  refine ⟨M2, h4, fun r hr => b_La_l852 _ _ _ _ _ _ _ _ ?_⟩
  have g1 : xz_in (nI i + (1 : Int32)) L = true := z_in (k := 1) hL (by omega)
  have g2 : xz_in (nI i + (2 : Int32)) L = true := z_in (k := 2) hL (by omega)
  have g3 : xz_in (nI i + (3 : Int32)) L = true := z_in (k := 3) hL (by omega)
  have g4 : xz_in (nI i + (4 : Int32)) L = true := z_in (k := 4) hL (by omega)
  have g5 : xz_in (nI i + (5 : Int32)) L = true := z_in (k := 5) hL (by omega)
  simp only [xz_b, h0 M hM, h1, xz_bI, xz_bJ, h2, h3, z_cmp, if_true, g1, g2, g3, g4, g5]
  exact hr
