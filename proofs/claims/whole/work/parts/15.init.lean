/-! AFTER THE TWO CONSTRUCTORS: the shape of the heap, and its numbers (by program: wip/whole/sim.py) -/
theorem xz_run_le (cd : Nat → List xz_Op) (lc : Nat → Int64) (ml : Nat → Nat) : ∀ (n d y : Nat) (X : xz_X) (k : Nat) (L : xz_L) (S : List Value) (M : xz_M) (r : Option Value × xz_M), xz_run cd lc ml n d y X k L S M = some r → xz_run cd lc ml (n + 1) d y X k L S M = some r
  | 0, _, _, _, _, _, _, _, _, h => by cases h
  | n + 1, d, y, X, k, L, S, M, r, h => by
    obtain ⟨n0, h0⟩ := xz_Cn_blk (R := fun _ => xz_cal ml (xz_run cd lc ml (n + 1)) d) (R' := xz_cal ml (xz_run cd lc ml n) d) (Lp := fun _ k L S M => xz_run cd lc ml (n + 1) d y X k L S M) (Lp' := fun k L S M => xz_run cd lc ml n d y X k L S M)
      (fun y as M => by
        cases d with
        | zero => exact xz_Cn_none _
        | succ d => exact xz_Cn_b fun r hr => ⟨0, fun _ _ => xz_run_le cd lc ml n d y none 0 (lv_args 0 as) [] M r hr⟩) (fun k L S M r hr => ⟨0, fun _ _ => xz_run_le cd lc ml n d y X k L S M r hr⟩) true X lc (cd y) 400 ((cd y).drop k) L S M r h
    exact h0 n0 (Nat.le_refl _)
theorem xz_Run_comp {cd : Nat → List xz_Op} {lc : Nat → Int64} {ml : Nat → Nat} {n d y : Nat} {X : xz_X} {k : Nat} {L : xz_L} {S : List Value} {M : xz_M} {r : Option Value × xz_M} (h : xz_run cd lc ml n d y X k L S M = some r) : xz_Run cd lc ml d y X k L S M = some r := by
  have key : ∀ j, xz_run cd lc ml (n + j) d y X k L S M = some r := by
    intro j
    induction j with
    | zero => exact h
    | succ j ih => exact xz_run_le cd lc ml (n + j) d y X k L S M r ih
  exact xz_Run_in ⟨n, fun q hq => by
    obtain ⟨j, rfl⟩ := Nat.exists_eq_add_of_le hq
    exact key j⟩
def xz_SH : List xz_Sh := [(12, 8, [some 1, some 20, some 39, some 58, some 60, some 66, some 82, none]),
  (8, 9, [none, none, none, none, none, some 2, some 8, some 12, some 16]),
  (5, 6, [none, some 3, some 4, some 5, some 6, some 7]),
  (0, 14, []),
  (0, 14, []),
  (0, 14, []),
  (0, 14, []),
  (1, 14, []),
  (7, 5, [none, none, some 9, some 10, some 11]),
  (0, 6, []),
  (0, 6, []),
  (0, 6, []),
  (7, 5, [none, none, some 13, some 14, some 15]),
  (0, 8, []),
  (0, 8, []),
  (0, 8, []),
  (7, 5, [none, none, some 17, some 18, some 19]),
  (0, 8, []),
  (0, 8, []),
  (0, 8, []),
  (8, 9, [none, none, none, none, none, some 21, some 27, some 31, some 35]),
  (5, 6, [none, some 22, some 23, some 24, some 25, some 26]),
  (0, 14, []),
  (0, 14, []),
  (0, 14, []),
  (0, 14, []),
  (1, 14, []),
  (7, 5, [none, none, some 28, some 29, some 30]),
  (0, 6, []),
  (0, 6, []),
  (0, 6, []),
  (7, 5, [none, none, some 32, some 33, some 34]),
  (0, 8, []),
  (0, 8, []),
  (0, 8, []),
  (7, 5, [none, none, some 36, some 37, some 38]),
  (0, 8, []),
  (0, 8, []),
  (0, 8, []),
  (8, 9, [none, none, none, none, none, some 40, some 46, some 50, some 54]),
  (5, 6, [none, some 41, some 42, some 43, some 44, some 45]),
  (0, 14, []),
  (0, 14, []),
  (0, 14, []),
  (0, 14, []),
  (1, 14, []),
  (7, 5, [none, none, some 47, some 48, some 49]),
  (0, 6, []),
  (0, 6, []),
  (0, 6, []),
  (7, 5, [none, none, some 51, some 52, some 53]),
  (0, 8, []),
  (0, 8, []),
  (0, 8, []),
  (7, 5, [none, none, some 55, some 56, some 57]),
  (0, 8, []),
  (0, 8, []),
  (0, 8, []),
  (6, 1, [some 59]),
  (0, 6, []),
  (11, 10, [none, none, none, none, none, some 61, some 62, some 63, some 64, some 65]),
  (0, 5, []),
  (0, 6, []),
  (0, 6, []),
  (0, 5, []),
  (0, 6, []),
  (10, 6, [none, none, some 67, some 68, some 69, none]),
  (0, 100, []),
  (0, 12, []),
  (3, 12, [some 70, some 71, some 72, some 73, some 74, some 75, some 76, some 77, some 78, some 79, some 80, some 81]),
  (0, 4, []),
  (0, 4, []),
  (0, 4, []),
  (0, 4, []),
  (0, 4, []),
  (0, 4, []),
  (0, 4, []),
  (0, 4, []),
  (0, 4, []),
  (0, 4, []),
  (0, 4, []),
  (0, 4, []),
  (9, 3, [some 83, some 84, some 85]),
  (0, 6, []),
  (0, 6, []),
  (4, 6, [some 86, some 87, some 88, some 89, some 90, some 91]),
  (2, 60, []),
  (2, 60, []),
  (2, 60, []),
  (2, 60, []),
  (2, 60, []),
  (2, 60, []),
  (13, 51, [none, none, some 93, some 94, some 95, some 96, some 97, none, none, none, none, none, none, none, some 98, some 99, some 100, some 101, some 102, some 103, some 104, some 105, none, none, none, none, some 106, some 107, none, none, none, none, none, none, none, none, none, none, some 108, some 109, some 110, some 111, none, some 112, some 113, some 114, some 115, some 126, some 127, some 128, some 135]),
  (1, 14, []),
  (0, 14, []),
  (0, 14, []),
  (0, 14, []),
  (0, 14, []),
  (0, 6, []),
  (0, 6, []),
  (0, 8, []),
  (0, 8, []),
  (0, 8, []),
  (0, 8, []),
  (1, 6, []),
  (0, 100, []),
  (0, 12, []),
  (0, 48, []),
  (0, 6, []),
  (0, 6, []),
  (0, 6, []),
  (1, 14, []),
  (0, 9, []),
  (1, 14, []),
  (1, 6, []),
  (3, 10, [some 116, some 117, some 118, some 119, some 120, some 121, some 122, some 123, some 124, some 125]),
  (0, 14, []),
  (0, 14, []),
  (0, 14, []),
  (0, 14, []),
  (0, 14, []),
  (0, 14, []),
  (0, 14, []),
  (0, 14, []),
  (0, 14, []),
  (0, 14, []),
  (0, 6, []),
  (0, 6, []),
  (4, 6, [some 129, some 130, some 131, some 132, some 133, some 134]),
  (2, 60, []),
  (2, 60, []),
  (2, 60, []),
  (2, 60, []),
  (2, 60, []),
  (2, 60, []),
  (2, 60, [])]
def xz_I0 : List (Nat × Nat × Int32) := [(1, 0, 3), (1, 1, 1), (1, 3, 1), (8, 1, 6), (12, 1, 8), (16, 1, 8), (20, 0, 3), (20, 1, 1), (20, 3, 1), (27, 1, 6), (31, 1, 8), (35, 1, 8), (39, 0, 3), (39, 1, 1), (39, 3, 1), (46, 1, 6), (50, 1, 8), (54, 1, 8), (83, 0, (-1)), (83, 1, (-1)), (83, 2, (-1)), (83, 3, (-1)), (83, 4, (-1)), (83, 5, (-1)), (92, 0, 3), (92, 7, 1), (92, 9, 1), (126, 0, (-1)), (126, 1, (-1)), (126, 2, (-1)), (126, 3, (-1)), (126, 4, (-1)), (126, 5, (-1))]
/-- a number of the heap after the constructors -/
def xz_i0 (k j : Nat) : Int32 := match xz_I0.find? (fun q => q.1 == k && q.2.1 == j) with
  | some q => q.2.2
  | none => 0
def xz_e0 : xz_M := xz_new ([], fun _ _ => 0, fun _ _ => 0) (12, 8, List.replicate 8 none)
def xz_r1 : xz_Res := xz_run xz_code xz_lc xz_ml 20 59 q_HR_init none 0 [(0, .ref 0)] [] xz_e0
def xz_e1 : xz_M := match xz_r1 with
  | some r => xz_new r.2 (13, 51, List.replicate 51 none)
  | none => xz_e0
def xz_r2 : xz_Res := xz_run xz_code xz_lc xz_ml 20 59 q_Mo_init none 0 [(0, .ref 92)] [] xz_e1
def xz_e2 : xz_M := match xz_r2 with
  | some r => r.2
  | none => xz_e0
theorem xz_r1_ok : (match xz_r1 with | some r => r.1 == none && r.2.1.length == 92 | none => false) = true := by decide +kernel
theorem xz_r2_ok : (match xz_r2 with | some r => r.1 == none | none => false) = true := by decide +kernel
theorem xz_e2_sh : xz_e2.1 = xz_SH := by decide +kernel
def xz_pts : List (Nat × Nat) := [(0, 8), (1, 9), (2, 6), (8, 5), (12, 5), (16, 5), (20, 9), (21, 6), (27, 5), (31, 5), (35, 5), (39, 9), (40, 6), (46, 5), (50, 5), (54, 5), (60, 10), (66, 6), (83, 6), (84, 6), (92, 51), (126, 6), (127, 6)]
theorem xz_e2_I : (xz_pts.all fun q => (List.range q.2).all fun j => xz_e2.2.1 q.1 j == xz_i0 q.1 j) = true := by decide +kernel
theorem xz_e2_J : (([86, 87, 88, 89, 90, 91] : List Nat).all fun k => (List.range 60).all fun j => xz_e2.2.2 k j == 0) = true := by decide +kernel
theorem xz_e2_J2 : (([129, 130, 131, 132, 133, 134] : List Nat).all fun k => (List.range 60).all fun j => xz_e2.2.2 k j == 0) = true := by decide +kernel
