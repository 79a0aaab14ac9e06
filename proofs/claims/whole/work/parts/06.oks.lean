/-! WHAT EACH RESOLVED INSTRUCTION RESTS ON, as a program; it says yes to all of them -/
def xz_pcA (C : List xz_Op) (k q : Nat) : Bool := match C[k]? with
  | some op => op.2.1.1 == q
  | none => false
def xz_pcJ (C : List xz_Op) (a pc : Nat) (off : Int) : Bool := match C[a]? with
  | some op => decide ((pc : Int) + off = (op.2.1.1 : Int))
  | none => false
def xz_pcs (C : List xz_Op) (pc : Nat) : List Nat → List Int → Bool
  | [], [] => true
  | t :: ts, o :: os => xz_pcJ C t pc o && xz_pcs C pc ts os
  | _, _ => false
def xz_FWl : List (Nat × Nat × Nat × Nat) := xz_FWp.map (·.1)
def xz_MWl : List (Nat × Nat × Nat) := xz_MWp.map (·.1)
def xz_MXl : List (Nat × Nat × Nat) := xz_MXp.map (·.1)
def xz_IWl : List (Nat × Nat × Int32) := xz_IWp.map (·.1)
def xz_JWl : List (Nat × Nat × Nat) := xz_JWp.map (·.1)
def xz_SWl : List (Nat × Nat × Nat) := xz_SWp.map (·.1)
def xz_CWl : List (Nat × Nat × Nat) := xz_CWp.map (·.1)
def xz_AWl : List (Nat × Nat × Nat) := xz_AWp.map (·.1)
/-- the return's kind: 0 int, 4 boolean, 1 long, 2 a reference, 3 none -/
def xz_rk (t : Option FieldType) : Nat := match t with
  | none => 3
  | some .int => 0
  | some .boolean => 4
  | some .char => 5
  | some .byte => 6
  | some .long => 1
  | some (.object _) => 2
  | some (.array _) => 2
  | _ => 9
noncomputable def xz_oks (y : Nat) (C : List xz_Op) (k : Nat) (op : xz_Op) : Bool := match op with
  | (ins, (pc, len), (a, b, c, e), v, ts) => match ins with
    | .nop => a == k + 1 && xz_pcA C (k + 1) pc
    | .iconst n => len == 1 && xz_pcA C (k + 1) (pc + 1) && decide (Int32.ofInt n = v)
    | .bipush n => len == 2 && xz_pcA C (k + 1) (pc + 2) && decide ((Int8.ofInt n).toInt32 = v)
    | .sipush n => len == 3 && xz_pcA C (k + 1) (pc + 3) && decide ((Int16.ofInt n).toInt32 = v)
    | .ldc i => len == 2 && xz_pcA C (k + 1) (pc + 2) && (bif b == 1 then xz_SWl.contains (xz_mo y, i, a) else xz_IWl.contains (xz_mo y, i, v))
    | .ldc_w i => len == 3 && xz_pcA C (k + 1) (pc + 3) && xz_IWl.contains (xz_mo y, i, v)
    | .lconst n => len == 1 && xz_pcA C (k + 1) (pc + 1) && decide (Int64.ofNat n.val = xz_lc a)
    | .ldc2_w i => len == 3 && xz_pcA C (k + 1) (pc + 3) && xz_JWl.contains (xz_mo y, i, a)
    | .iload_n _ => len == 1 && xz_pcA C (k + 1) (pc + 1)
    | .lload_n _ => len == 1 && xz_pcA C (k + 1) (pc + 1)
    | .aload_n _ => len == 1 && xz_pcA C (k + 1) (pc + 1)
    | .iload _ => len == 2 && xz_pcA C (k + 1) (pc + 2)
    | .lload _ => len == 2 && xz_pcA C (k + 1) (pc + 2)
    | .aload _ => len == 2 && xz_pcA C (k + 1) (pc + 2)
    | .istore_n i => len == 1 && xz_pcA C (k + 1) (pc + 1) && Nat.blt i.val (xz_ml y)
    | .astore_n i => len == 1 && xz_pcA C (k + 1) (pc + 1) && Nat.blt i.val (xz_ml y)
    | .lstore_n i => len == 1 && xz_pcA C (k + 1) (pc + 1) && Nat.blt (i.val + 1) (xz_ml y)
    | .istore i => len == 2 && xz_pcA C (k + 1) (pc + 2) && Nat.blt i (xz_ml y)
    | .astore i => len == 2 && xz_pcA C (k + 1) (pc + 2) && Nat.blt i (xz_ml y)
    | .lstore i => len == 2 && xz_pcA C (k + 1) (pc + 2) && Nat.blt (i + 1) (xz_ml y)
    | .iinc i n => len == 3 && xz_pcA C (k + 1) (pc + 3) && Nat.blt i (xz_ml y) && decide (Int32.ofInt n = v)
    | .ifCond _ off => len == 3 && xz_pcA C (k + 1) (pc + 3) && xz_pcJ C a pc off
    | .if_icmp _ off => len == 3 && xz_pcA C (k + 1) (pc + 3) && xz_pcJ C a pc off
    | .goto off => len == 3 && xz_pcJ C a pc off
    | .tableswitch d lo hi offs => xz_pcJ C a pc d && xz_pcs C pc ts offs.toList && decide (Int32.ofInt lo = v) && decide (hi = lo + (ts.length : Int) - 1) && decide (0 ≤ lo) && decide (hi < 1000)
    | .ireturn => len == 1 && ((xz_rk (xz_mr y) == 0 && a == 0) || (xz_rk (xz_mr y) == 4 && a == 1) || (xz_rk (xz_mr y) == 5 && a == 2) || (xz_rk (xz_mr y) == 6 && a == 3))
    | .lreturn => len == 1 && xz_rk (xz_mr y) == 1
    | .areturn => len == 1 && xz_rk (xz_mr y) == 2
    | .return_ => len == 1 && xz_rk (xz_mr y) == 3
    | .getfield i => len == 3 && xz_pcA C (k + 1) (pc + 3) && (match c with
      | 4 => xz_mo y == 13 && i == 9
      | 5 => xz_mo y == 13 && i == 15
      | _ => Nat.blt a 9 && Nat.blt b (xz_NC a) && xz_FWl.contains (xz_mo y, i, a, b) && (match c with
        | 0 => xz_kty (xz_ty a b) == 0 || xz_kty (xz_ty a b) == 3
        | 1 => xz_kty (xz_ty a b) == 1
        | _ => xz_kty (xz_ty a b) == 2))
    | .putfield i => len == 3 && xz_pcA C (k + 1) (pc + 3) && Nat.blt a 9 && Nat.blt b (xz_NC a) && xz_FWl.contains (xz_mo y, i, a, b) && ((match c with
        | 0 => xz_kty (xz_ty a b) == 0
        | 1 => xz_kty (xz_ty a b) == 1
        | 2 => xz_kty (xz_ty a b) == 2
        | _ => xz_kty (xz_ty a b) == 3) && (bif (xz_T a b).2.2.2 then decide ((xz_mn y).name = "<init>") && decide ((xz_T a b).1 = xz_RN (xz_mo y)) else true))
    | .getstatic i => len == 3 && xz_pcA C (k + 1) (pc + 3) && xz_mo y == 13 && (bif c == 0 then i == 38 && decide (v = 1) else i == 1053)
    | .arraylength => len == 1 && xz_pcA C (k + 1) (pc + 1) && (c != 1 || y == 0)
    | .iaload => len == 1 && xz_pcA C (k + 1) (pc + 1) && (c != 1 || y == 0)
    | .newarray t => len == 2 && xz_pcA C (k + 1) (pc + 2) && Nat.blt (xz_aty t) 3
    | .multianewarray i dm => len == 4 && dm == 2 && xz_pcA C (k + 1) (pc + 4) && (a == 3 || a == 4) && xz_AWl.contains (xz_mo y, i, a)
    | .new i => len == 3 && xz_pcA C (k + 1) (pc + 3) && Nat.blt a 9 && b == xz_NC a && xz_CWl.contains (xz_mo y, i, a)
    | .invokestatic i => len == 3 && (c == 99 || (xz_pcA C (k + 1) (pc + 3) && (match c with
      | 14 => a == q_JD_max && (xz_stwp.map (·.1)).contains a && (xz_nwp.map (·.1)).contains a && xz_MWl.contains (xz_mo y, i, a)
      | 10 => (xz_mo y == 6 && i == 98) || (xz_mo y == 7 && i == 299) || (xz_mo y == 8 && i == 263)
      | _ => Nat.blt 0 a && (Nat.blt a 200 && a != q_JD_max) && (xz_stwp.map (·.1)).contains a && ((xz_nwp.map (·.1)).contains a && (xz_MWl.contains (xz_mo y, i, a) || xz_MXl.contains (xz_mo y, i, a))) && decide ((parseMethodDescriptor (xz_mn a).desc).map (fun d => d.parameters.length) = some b) && Nat.ble (xz_ml a) 40)))
    | .invokevirtual i => len == 3 && xz_pcA C (k + 1) (pc + 3) && Nat.blt 0 a && (Nat.blt a 200 && a != q_JD_max) && (xz_iwp.map (·.1)).contains a && (xz_swp.map (·.1)).contains a && (xz_nwp.map (·.1)).contains a && xz_MWl.contains (xz_mo y, i, a) && decide ((parseMethodDescriptor (xz_mn a).desc).map (fun d => d.parameters.length) = some b) && Nat.ble (xz_ml a) 40 && (bif e == 20 then decide ((xz_mn a).cls = "java/lang/String") else Nat.blt e 9 && decide ((xz_mn a).cls = xz_RN e))
    | .invokespecial i => len == 3 && xz_pcA C (k + 1) (pc + 3) && (match c with
      | 13 => Nat.blt (xz_mo y) 9 && i == (bif xz_mo y == 4 then 1 else 3)
      | _ => Nat.blt 0 a && (Nat.blt a 200 && a != q_JD_max) && (xz_iwp.map (·.1)).contains a && (xz_nwp.map (·.1)).contains a && xz_MWl.contains (xz_mo y, i, a) && decide ((parseMethodDescriptor (xz_mn a).desc).map (fun d => d.parameters.length) = some b) && Nat.ble (xz_ml a) 40 && decide ((xz_mn a).name = "<init>") && xz_rk (xz_mr a) == 3 && Nat.blt e 9)
    | _ => len == 1 && xz_pcA C (k + 1) (pc + 1)
noncomputable def xz_okd (y : Nat) (op : xz_Op) : Bool := decide (op.1 = .nop) || decide (decode (xz_mb y) op.2.1.1 = .ok (op.1, op.2.1.2))
noncomputable def xz_okm (y : Nat) : Bool := ((xz_code y).zipIdx).all fun q => xz_okd y q.1 && xz_oks y (xz_code y) q.2 q.1
/-- one method in pieces -/
noncomputable def xz_okr (y lo n : Nat) : Bool := ((((xz_code y).zipIdx).drop lo).take n).all fun q => xz_okd y q.1 && xz_oks y (xz_code y) q.2 q.1
theorem xz_okr_split {α : Type} (f : α → Bool) (l : List α) (n : Nat) (h : (l.take n).all f = true) (h2 : (l.drop n).all f = true) : l.all f = true := by
  rw [← List.take_append_drop n l, List.all_append, h, h2]
  rfl
