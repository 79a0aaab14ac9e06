/-! THE LITTLE MACHINE: the bytecode, resolved, over a heap whose references are places; no word of the JVM here but its instructions and values -/
abbrev xz_Sh : Type := Nat × Nat × List (Option Nat)
abbrev xz_M : Type := List xz_Sh × (Nat → Nat → Int32) × (Nat → Nat → Int64)
abbrev xz_L : Type := List (Nat × Value)
/-- the instruction, (its pc, its length), (a, b, c, e) resolved operands, a number, places -/
abbrev xz_Op : Type := Instr × (Nat × Nat) × (Nat × Nat × Nat × Nat) × Int32 × List Nat
abbrev xz_Res : Type := Option (Option Value × xz_M)
abbrev xz_X : Type := Option (Nat × (Nat → Int32))
def xz_get : xz_L → Nat → Option Value
  | [], _ => none
  | q :: L, i => bif q.1 == i then some q.2 else xz_get L i
def xz_s1 (L : xz_L) (i : Nat) (v : Value) : xz_L := (i, v) :: L.filter (fun q => !(q.1 == i) && !(q.1 + 1 == i && q.2.category == 2))
def xz_s2 (L : xz_L) (i : Nat) (v : Value) : xz_L := (i, v) :: L.filter (fun q => !(q.1 == i) && (!(q.1 == i + 1) && !(q.1 + 1 == i && q.2.category == 2)))
def xz_pick (L : xz_L) (ts : List Nat) : xz_L := ts.filterMap fun i => (xz_get L i).map fun v => (i, v)
def xz_pI (S : List Value) (k : Int32 → List Value → xz_Res) : xz_Res := match S with
  | .int x :: S => k x S
  | _ => none
def xz_pJ (S : List Value) (k : Int64 → List Value → xz_Res) : xz_Res := match S with
  | .long x :: S => k x S
  | _ => none
def xz_pR (S : List Value) (k : Nat → List Value → xz_Res) : xz_Res := match S with
  | .ref x :: S => k x S
  | _ => none
/-- a value of one slot on top -/
def xz_p1 (S : List Value) (k : Value → List Value → xz_Res) : xz_Res := match S with
  | .int x :: S => k (.int x) S
  | .ref x :: S => k (.ref x) S
  | _ => none
def xz_lI (L : xz_L) (i : Nat) (k : Int32 → xz_Res) : xz_Res := match xz_get L i with
  | some (.int x) => k x
  | _ => none
def xz_lJ (L : xz_L) (i : Nat) (k : Int64 → xz_Res) : xz_Res := match xz_get L i with
  | some (.long x) => k x
  | _ => none
def xz_lR (L : xz_L) (i : Nat) (k : Nat → xz_Res) : xz_Res := match xz_get L i with
  | some (.ref x) => k x
  | _ => none
/-- behind a call: an int, a long, a reference, nothing -/
def xz_bI (o : xz_Res) (k : Int32 → xz_M → xz_Res) : xz_Res := match o with
  | some (some (.int x), M) => k x M
  | _ => none
def xz_bJ (o : xz_Res) (k : Int64 → xz_M → xz_Res) : xz_Res := match o with
  | some (some (.long x), M) => k x M
  | _ => none
def xz_bR (o : xz_Res) (k : Nat → xz_M → xz_Res) : xz_Res := match o with
  | some (some (.ref x), M) => k x M
  | _ => none
def xz_bV (o : xz_Res) (k : xz_M → xz_Res) : xz_Res := match o with
  | some (none, M) => k M
  | _ => none
def xz_o {α : Type} (o : Option α) (k : α → xz_Res) : xz_Res := match o with
  | some x => k x
  | none => none
def xz_b (c : Bool) (k : xz_Res) : xz_Res := match c with
  | true => k
  | false => none
def xz_up {α : Type} (f : Nat → Nat → α) (r k : Nat) (v : α) : Nat → Nat → α := fun r' k' => bif r' == r && k' == k then v else f r' k'
def xz_row {α : Type} (f : Nat → Nat → α) (r : Nat) (g : Nat → α) : Nat → Nat → α := fun r' => bif r' == r then g else f r'
def xz_in (i : Int32) (n : Nat) : Bool := decide (¬ (i < 0 ∨ n ≤ i.toNatClampNeg))
def xz_is (M : xz_M) (r e : Nat) : Bool := bif e == 20 then Nat.ble 2000 r && Nat.blt r 2009 else match M.1[r]? with
  | some q => q.1 == e + 5
  | none => false
def xz_gI (M : xz_M) (r a b : Nat) : Option Int32 := match M.1[r]? with
  | some q => bif q.1 == a + 5 then some (M.2.1 r b) else none
  | none => none
def xz_gJ (M : xz_M) (r a b : Nat) : Option Int64 := match M.1[r]? with
  | some q => bif q.1 == a + 5 then some (M.2.2 r b) else none
  | none => none
def xz_gR (M : xz_M) (r a b : Nat) : Option Nat := match M.1[r]? with
  | some q => bif q.1 == a + 5 then q.2.2.getD b none else none
  | none => none
def xz_wI (M : xz_M) (r a b : Nat) (v : Int32) : Option xz_M := match M.1[r]? with
  | some q => bif q.1 == a + 5 then some (M.1, xz_up M.2.1 r b v, M.2.2) else none
  | none => none
def xz_wZ (M : xz_M) (r a b : Nat) (v : Int32) : Option xz_M := match M.1[r]? with
  | some q => bif q.1 == a + 5 && v &&& 1 == v then some (M.1, xz_up M.2.1 r b v, M.2.2) else none
  | none => none
def xz_wJ (M : xz_M) (r a b : Nat) (v : Int64) : Option xz_M := match M.1[r]? with
  | some q => bif q.1 == a + 5 then some (M.1, M.2.1, xz_up M.2.2 r b v) else none
  | none => none
def xz_wR (M : xz_M) (r a b : Nat) (v : Nat) : Option xz_M := match M.1[r]? with
  | some q => bif q.1 == a + 5 && Nat.blt v M.1.length then some (M.1.set r (q.1, q.2.1, q.2.2.set b (some v)), M.2) else none
  | none => none
/-- arrays: kinds 0 int, 1 boolean, 2 long, 3 of int arrays, 4 of long arrays -/
def xz_lI0 (M : xz_M) (kd r : Nat) (i : Int32) : Option Int32 := match M.1[r]? with
  | some q => bif q.1 == kd && xz_in i q.2.1 then some (M.2.1 r i.toNatClampNeg) else none
  | none => none
def xz_lJ0 (M : xz_M) (r : Nat) (i : Int32) : Option Int64 := match M.1[r]? with
  | some q => bif q.1 == 2 && xz_in i q.2.1 then some (M.2.2 r i.toNatClampNeg) else none
  | none => none
def xz_lR0 (M : xz_M) (r : Nat) (i : Int32) : Option Nat := match M.1[r]? with
  | some q => bif (q.1 == 3 || q.1 == 4) && xz_in i q.2.1 then q.2.2.getD i.toNatClampNeg none else none
  | none => none
def xz_sI0 (M : xz_M) (r : Nat) (i v : Int32) : Option xz_M := match M.1[r]? with
  | some q => bif q.1 == 0 && xz_in i q.2.1 then some (M.1, xz_up M.2.1 r i.toNatClampNeg v, M.2.2) else none
  | none => none
def xz_sZ0 (M : xz_M) (r : Nat) (i v : Int32) : Option xz_M := match M.1[r]? with
  | some q => bif q.1 == 1 && xz_in i q.2.1 then some (M.1, xz_up M.2.1 r i.toNatClampNeg (v &&& 1), M.2.2) else none
  | none => none
def xz_sJ0 (M : xz_M) (r : Nat) (i : Int32) (v : Int64) : Option xz_M := match M.1[r]? with
  | some q => bif q.1 == 2 && xz_in i q.2.1 then some (M.1, M.2.1, xz_up M.2.2 r i.toNatClampNeg v) else none
  | none => none
def xz_len (M : xz_M) (r : Nat) : Option Int32 := match M.1[r]? with
  | some q => bif Nat.ble q.1 4 then some (Int32.ofNat q.2.1) else none
  | none => none
/-- new cells: an object, an array, an array of arrays -/
def xz_new (M : xz_M) (s : xz_Sh) : xz_M := (M.1 ++ [s], xz_row M.2.1 M.1.length (fun _ => 0), xz_row M.2.2 M.1.length (fun _ => 0))
def xz_newA (M : xz_M) (kd : Nat) (n : Int32) : Option xz_M := bif decide (¬ n < 0) && Nat.ble n.toNatClampNeg 1000 then some (xz_new M (kd, n.toNatClampNeg, [])) else none
def xz_news (M : xz_M) (s : xz_Sh) : Nat → xz_M
  | 0 => M
  | n + 1 => xz_new (xz_news M s n) s
def xz_newM (M : xz_M) (kd : Nat) (n k : Int32) : Option xz_M :=
  bif decide (¬ n < 0) && Nat.ble n.toNatClampNeg 100 && decide (¬ k < 0) && Nat.ble k.toNatClampNeg 100 then
    some (xz_news (xz_new M (kd, n.toNatClampNeg, (List.range n.toNatClampNeg).map fun i => some (M.1.length + 1 + i))) (bif kd == 3 then 0 else 2, k.toNatClampNeg, []) n.toNatClampNeg) else none
/-- System.arraycopy -/
def xz_copy (M : xz_M) (r : Nat) (sp : Int32) (r' : Nat) (dp n : Int32) : Option xz_M := match M.1[r]?, M.1[r']? with
  | some q, some q' =>
    bif decide (¬ sp < 0) && decide (¬ dp < 0) && decide (¬ n < 0) && Nat.ble (sp.toNatClampNeg + n.toNatClampNeg) q.2.1 && Nat.ble (dp.toNatClampNeg + n.toNatClampNeg) q'.2.1 && q.1 == q'.1 && Nat.ble q.1 2 then
      bif q.1 == 2 then some (M.1, M.2.1, xz_row M.2.2 r' (va_cpy (M.2.2 r) (M.2.2 r') sp.toNatClampNeg dp.toNatClampNeg n.toNatClampNeg))
      else some (M.1, xz_row M.2.1 r' (va_cpy (M.2.1 r) (M.2.1 r') sp.toNatClampNeg dp.toNatClampNeg n.toNatClampNeg), M.2.2)
    else none
  | _, _ => none
/-- text constants: their references stand from 2000 on -/
def xz_str : List (List Nat) := [[112, 101, 111, 112, 108, 101], [109, 101, 101, 116], [100, 114, 111, 112], [100, 101, 108, 97, 121], [97, 115, 107], [50, 49, 49, 51], [50], [49, 49, 50], [49]]
def xz_sval (r : Nat) : Option Nat := bif Nat.ble 2000 r && Nat.blt r 2009 then some (r + 100) else none
def xz_scod (r : Nat) : Option Int32 := bif Nat.ble 2000 r && Nat.blt r 2009 then some 0 else none
def xz_sln (r : Nat) : Option Int32 := bif Nat.ble 2100 r then (xz_str[r - 2100]?).map fun l => Int32.ofNat l.length else none
def xz_sby (r : Nat) (i : Int32) : Option Int32 := bif Nat.ble 2100 r then match xz_str[r - 2100]? with
  | some l => bif xz_in i l.length then some (Int32.ofNat (l.getD i.toNatClampNeg 0)) else none
  | none => none
  else none
def xz_cat (S : List Value) : Bool := Nat.ble (S.map fun v => v.category).sum 8
def xz_args (b : Nat) (S : List Value) (k : List Value → List Value → xz_Res) : xz_Res := bif Nat.ble b S.length then k (S.take b).reverse (S.drop b) else none
def xz_ret (c : Nat) (o : xz_Res) (k : List Value → xz_M → xz_Res) : xz_Res := match c with
  | 0 => xz_bI o fun x M => k [.int x] M
  | 1 => xz_bJ o fun x M => k [.long x] M
  | 2 => xz_bR o fun x M => k [.ref x] M
  | _ => xz_bV o fun M => k [] M
/-- an int that a return of that kind leaves as it is: int, boolean, char, byte -/
def xz_nr (a : Nat) (x : Int32) : Bool := match a with
  | 0 => true
  | 1 => x &&& 1 == x
  | 2 => (x.toUInt32 % 65536).toInt32 == x
  | _ => x.toInt8.toInt32 == x
def xz_sw (x lo : Int32) (d : Nat) (go : Nat → xz_Res) : List Nat → xz_Res
  | [] => go d
  | t :: ts => if x = lo then go t else xz_sw x (lo + 1) d go ts
def xz_aty (t : ArrayType) : Nat := match t with
  | .int => 0
  | .boolean => 1
  | .long => 2
  | _ => 9
def xz_blk (R : Nat → List Value → xz_M → xz_Res) (Lp : Nat → xz_L → List Value → xz_M → xz_Res) (nat : Bool) (X : xz_X) (lc : Nat → Int64) (C : List xz_Op) : Nat → List xz_Op → xz_L → List Value → xz_M → xz_Res
  | 0, _, _, _, _ => none
  | _ + 1, [], _, _, _ => none
  | s + 1, (ins, (_, _), (a, b, c, e), v, ts) :: C', L, S, M =>
    match ins with
    | .nop => Lp a (xz_pick L ts) S M
    | .iconst _ => xz_blk R Lp nat X lc C s C' L (.int v :: S) M
    | .bipush _ => xz_blk R Lp nat X lc C s C' L (.int v :: S) M
    | .sipush _ => xz_blk R Lp nat X lc C s C' L (.int v :: S) M
    | .ldc _ => bif b == 1 then xz_blk R Lp nat X lc C s C' L (.ref (2000 + a) :: S) M else xz_blk R Lp nat X lc C s C' L (.int v :: S) M
    | .ldc_w _ => xz_blk R Lp nat X lc C s C' L (.int v :: S) M
    | .lconst _ => xz_blk R Lp nat X lc C s C' L (.long (lc a) :: S) M
    | .ldc2_w _ => xz_blk R Lp nat X lc C s C' L (.long (lc a) :: S) M
    | .iload_n k => xz_lI L k.val fun x => xz_blk R Lp nat X lc C s C' L (.int x :: S) M
    | .iload i => xz_lI L i fun x => xz_blk R Lp nat X lc C s C' L (.int x :: S) M
    | .lload_n k => xz_lJ L k.val fun x => xz_blk R Lp nat X lc C s C' L (.long x :: S) M
    | .lload i => xz_lJ L i fun x => xz_blk R Lp nat X lc C s C' L (.long x :: S) M
    | .aload_n k => xz_lR L k.val fun x => xz_blk R Lp nat X lc C s C' L (.ref x :: S) M
    | .aload i => xz_lR L i fun x => xz_blk R Lp nat X lc C s C' L (.ref x :: S) M
    | .istore_n k => xz_pI S fun x S => xz_blk R Lp nat X lc C s C' (xz_s1 L k.val (.int x)) S M
    | .istore i => xz_pI S fun x S => xz_blk R Lp nat X lc C s C' (xz_s1 L i (.int x)) S M
    | .lstore_n k => xz_pJ S fun x S => xz_blk R Lp nat X lc C s C' (xz_s2 L k.val (.long x)) S M
    | .lstore i => xz_pJ S fun x S => xz_blk R Lp nat X lc C s C' (xz_s2 L i (.long x)) S M
    | .astore_n k => xz_pR S fun x S => xz_blk R Lp nat X lc C s C' (xz_s1 L k.val (.ref x)) S M
    | .astore i => xz_pR S fun x S => xz_blk R Lp nat X lc C s C' (xz_s1 L i (.ref x)) S M
    | .iinc i _ => xz_lI L i fun x => xz_blk R Lp nat X lc C s C' (xz_s1 L i (.int (x + v))) S M
    | .iadd => xz_pI S fun y S => xz_pI S fun x S => xz_blk R Lp nat X lc C s C' L (.int (x + y) :: S) M
    | .isub => xz_pI S fun y S => xz_pI S fun x S => xz_blk R Lp nat X lc C s C' L (.int (x - y) :: S) M
    | .imul => xz_pI S fun y S => xz_pI S fun x S => xz_blk R Lp nat X lc C s C' L (.int (x * y) :: S) M
    | .iand => xz_pI S fun y S => xz_pI S fun x S => xz_blk R Lp nat X lc C s C' L (.int (x &&& y) :: S) M
    | .ior => xz_pI S fun y S => xz_pI S fun x S => xz_blk R Lp nat X lc C s C' L (.int (x ||| y) :: S) M
    | .ishl => xz_pI S fun y S => xz_pI S fun x S => xz_blk R Lp nat X lc C s C' L (.int (x <<< (y &&& 31)) :: S) M
    | .ishr => xz_pI S fun y S => xz_pI S fun x S => xz_blk R Lp nat X lc C s C' L (.int (x >>> (y &&& 31)) :: S) M
    | .iushr => xz_pI S fun y S => xz_pI S fun x S => xz_blk R Lp nat X lc C s C' L (.int (x.toUInt32 >>> (y.toUInt32 &&& Int32.toUInt32 31)).toInt32 :: S) M
    | .ladd => xz_pJ S fun y S => xz_pJ S fun x S => xz_blk R Lp nat X lc C s C' L (.long (x + y) :: S) M
    | .lmul => xz_pJ S fun y S => xz_pJ S fun x S => xz_blk R Lp nat X lc C s C' L (.long (x * y) :: S) M
    | .land => xz_pJ S fun y S => xz_pJ S fun x S => xz_blk R Lp nat X lc C s C' L (.long (x &&& y) :: S) M
    | .lor => xz_pJ S fun y S => xz_pJ S fun x S => xz_blk R Lp nat X lc C s C' L (.long (x ||| y) :: S) M
    | .ldiv => xz_pJ S fun y S => xz_pJ S fun x S => if y = 0 then none else xz_blk R Lp nat X lc C s C' L (.long (x / y) :: S) M
    | .lrem => xz_pJ S fun y S => xz_pJ S fun x S => if y = 0 then none else xz_blk R Lp nat X lc C s C' L (.long (x - x / y * y) :: S) M
    | .lshl => xz_pI S fun y S => xz_pJ S fun x S => xz_blk R Lp nat X lc C s C' L (.long (x <<< (y.toInt64 &&& 63)) :: S) M
    | .lcmp => xz_pJ S fun y S => xz_pJ S fun x S => xz_blk R Lp nat X lc C s C' L (.int (lg_cmp x y) :: S) M
    | .i2l => xz_pI S fun x S => xz_blk R Lp nat X lc C s C' L (.long x.toInt64 :: S) M
    | .l2i => xz_pJ S fun x S => xz_blk R Lp nat X lc C s C' L (.int x.toInt32 :: S) M
    | .i2b => xz_pI S fun x S => xz_blk R Lp nat X lc C s C' L (.int x.toInt8.toInt32 :: S) M
    | .i2s => xz_pI S fun x S => xz_blk R Lp nat X lc C s C' L (.int x.toInt16.toInt32 :: S) M
    | .dup => xz_p1 S fun x S => xz_blk R Lp nat X lc C s C' L (x :: x :: S) M
    | .pop => xz_p1 S fun _ S => xz_blk R Lp nat X lc C s C' L S M
    | .ifCond .eq _ => xz_pI S fun x S => if x = 0 then xz_blk R Lp nat X lc C s (C.drop a) L S M else xz_blk R Lp nat X lc C s C' L S M
    | .ifCond .ne _ => xz_pI S fun x S => if x = 0 then xz_blk R Lp nat X lc C s C' L S M else xz_blk R Lp nat X lc C s (C.drop a) L S M
    | .ifCond .lt _ => xz_pI S fun x S => if x < 0 then xz_blk R Lp nat X lc C s (C.drop a) L S M else xz_blk R Lp nat X lc C s C' L S M
    | .ifCond .ge _ => xz_pI S fun x S => if 0 ≤ x then xz_blk R Lp nat X lc C s (C.drop a) L S M else xz_blk R Lp nat X lc C s C' L S M
    | .ifCond .gt _ => xz_pI S fun x S => if 0 < x then xz_blk R Lp nat X lc C s (C.drop a) L S M else xz_blk R Lp nat X lc C s C' L S M
    | .ifCond .le _ => xz_pI S fun x S => if x ≤ 0 then xz_blk R Lp nat X lc C s (C.drop a) L S M else xz_blk R Lp nat X lc C s C' L S M
    | .if_icmp .eq _ => xz_pI S fun y S => xz_pI S fun x S => if x = y then xz_blk R Lp nat X lc C s (C.drop a) L S M else xz_blk R Lp nat X lc C s C' L S M
    | .if_icmp .ne _ => xz_pI S fun y S => xz_pI S fun x S => if x = y then xz_blk R Lp nat X lc C s C' L S M else xz_blk R Lp nat X lc C s (C.drop a) L S M
    | .if_icmp .lt _ => xz_pI S fun y S => xz_pI S fun x S => if x < y then xz_blk R Lp nat X lc C s (C.drop a) L S M else xz_blk R Lp nat X lc C s C' L S M
    | .if_icmp .ge _ => xz_pI S fun y S => xz_pI S fun x S => if y ≤ x then xz_blk R Lp nat X lc C s (C.drop a) L S M else xz_blk R Lp nat X lc C s C' L S M
    | .if_icmp .gt _ => xz_pI S fun y S => xz_pI S fun x S => if y < x then xz_blk R Lp nat X lc C s (C.drop a) L S M else xz_blk R Lp nat X lc C s C' L S M
    | .if_icmp .le _ => xz_pI S fun y S => xz_pI S fun x S => if x ≤ y then xz_blk R Lp nat X lc C s (C.drop a) L S M else xz_blk R Lp nat X lc C s C' L S M
    | .goto _ => xz_blk R Lp nat X lc C s (C.drop a) L S M
    | .tableswitch _ _ _ _ => xz_pI S fun x S => xz_sw x v a (fun t => xz_blk R Lp nat X lc C s (C.drop t) L S M) ts
    | .ireturn => xz_pI S fun x S => match S with
      | [] => xz_b (xz_nr a x) (some (some (.int x), M))
      | _ => none
    | .lreturn => xz_pJ S fun x S => match S with
      | [] => some (some (.long x), M)
      | _ => none
    | .areturn => xz_pR S fun x S => match S with
      | [] => some (some (.ref x), M)
      | _ => none
    | .return_ => match S with
      | [] => some (none, M)
      | _ => none
    | .getfield _ => xz_pR S fun r S => match c with
      | 0 => xz_o (xz_gI M r a b) fun x => xz_blk R Lp nat X lc C s C' L (.int x :: S) M
      | 1 => xz_o (xz_gJ M r a b) fun x => xz_blk R Lp nat X lc C s C' L (.long x :: S) M
      | 4 => xz_o (xz_sval r) fun x => xz_blk R Lp nat X lc C s C' L (.ref x :: S) M
      | 5 => xz_o (xz_scod r) fun x => xz_blk R Lp nat X lc C s C' L (.int x :: S) M
      | _ => xz_o (xz_gR M r a b) fun x => xz_blk R Lp nat X lc C s C' L (.ref x :: S) M
    | .putfield _ => match c with
      | 0 => xz_pI S fun x S => xz_pR S fun r S => xz_o (xz_wI M r a b x) fun M => xz_blk R Lp nat X lc C s C' L S M
      | 1 => xz_pJ S fun x S => xz_pR S fun r S => xz_o (xz_wJ M r a b x) fun M => xz_blk R Lp nat X lc C s C' L S M
      | 2 => xz_pR S fun x S => xz_pR S fun r S => xz_o (xz_wR M r a b x) fun M => xz_blk R Lp nat X lc C s C' L S M
      | _ => xz_pI S fun x S => xz_pR S fun r S => xz_o (xz_wZ M r a b x) fun M => xz_blk R Lp nat X lc C s C' L S M
    | .iaload => xz_pI S fun i S => xz_pR S fun r S => bif c == 1 then
        xz_o X fun q => xz_b (r == 1000 && xz_in i q.1) (xz_blk R Lp nat X lc C s C' L (.int (q.2 i.toNatClampNeg) :: S) M)
      else xz_o (xz_lI0 M 0 r i) fun x => xz_blk R Lp nat X lc C s C' L (.int x :: S) M
    | .baload => xz_pI S fun i S => xz_pR S fun r S => xz_o (bif c == 1 then xz_sby r i else xz_lI0 M 1 r i) fun x => xz_blk R Lp nat X lc C s C' L (.int x :: S) M
    | .getstatic _ => bif c == 0 then xz_blk R Lp nat X lc C s C' L (.int v :: S) M else xz_blk R Lp nat X lc C s C' L (.retAddr 0 :: S) M
    | .i2c => xz_pI S fun x S => xz_blk R Lp nat X lc C s C' L (.int (x.toUInt32 % 65536).toInt32 :: S) M
    | .laload => xz_pI S fun i S => xz_pR S fun r S => xz_o (xz_lJ0 M r i) fun x => xz_blk R Lp nat X lc C s C' L (.long x :: S) M
    | .aaload => xz_pI S fun i S => xz_pR S fun r S => xz_o (xz_lR0 M r i) fun x => xz_blk R Lp nat X lc C s C' L (.ref x :: S) M
    | .iastore => xz_pI S fun x S => xz_pI S fun i S => xz_pR S fun r S => xz_o (xz_sI0 M r i x) fun M => xz_blk R Lp nat X lc C s C' L S M
    | .bastore => xz_pI S fun x S => xz_pI S fun i S => xz_pR S fun r S => xz_o (xz_sZ0 M r i x) fun M => xz_blk R Lp nat X lc C s C' L S M
    | .lastore => xz_pJ S fun x S => xz_pI S fun i S => xz_pR S fun r S => xz_o (xz_sJ0 M r i x) fun M => xz_blk R Lp nat X lc C s C' L S M
    | .arraylength => xz_pR S fun r S => bif c == 1 then
        xz_o X fun q => xz_b (r == 1000) (xz_blk R Lp nat X lc C s C' L (.int (Int32.ofNat q.1) :: S) M)
      else xz_o (bif c == 2 then xz_sln r else xz_len M r) fun x => xz_blk R Lp nat X lc C s C' L (.int x :: S) M
    | .newarray t => xz_pI S fun n S => xz_o (xz_newA M (xz_aty t) n) fun M' => xz_blk R Lp nat X lc C s C' L (.ref M.1.length :: S) M'
    | .multianewarray _ _ => xz_pI S fun k S => xz_pI S fun n S => xz_o (xz_newM M a n k) fun M' => xz_blk R Lp nat X lc C s C' L (.ref M.1.length :: S) M'
    | .new _ => xz_blk R Lp nat X lc C s C' L (.ref M.1.length :: S) (xz_new M (a + 5, b, List.replicate b none))
    | .invokestatic _ => match c with
      | 99 => none
      | 14 => xz_pJ S fun y S => xz_pJ S fun x S => xz_b (xz_cat S) (xz_blk R Lp nat X lc C s C' L (.long (if y < x then x else y) :: S) M)
      | 10 => xz_pI S fun n S => xz_pI S fun dp S => xz_pR S fun r' S => xz_pI S fun sp S => xz_pR S fun r S => xz_b (xz_cat S) (xz_o (xz_copy M r sp r' dp n) fun M => xz_blk R Lp nat X lc C s C' L S M)
      | _ => xz_args b S fun as S => xz_b (xz_cat S) (xz_ret c (R a as M) fun vs M => xz_blk R Lp nat X lc C s C' L (vs ++ S) M)
    | .invokevirtual _ => xz_args b S fun as S => xz_pR S fun r S => xz_b (xz_cat S && xz_is M r e) (xz_ret c (R a (.ref r :: as) M) fun vs M => xz_blk R Lp nat X lc C s C' L (vs ++ S) M)
    | .invokespecial _ => match c with
      | 13 => xz_pR S fun _ S => xz_b (xz_cat S) (xz_blk R Lp nat X lc C s C' L S M)
      | _ => xz_args b S fun as S => xz_pR S fun r S => xz_b (xz_cat S && xz_is M r e) (xz_ret c (R a (.ref r :: as) M) fun vs M => xz_blk R Lp nat X lc C s C' L (vs ++ S) M)
    | _ => none
