/-! WHAT AN INSTRUCTION NEEDS OF THE TABLES, decided by program -/
def wdAt (w : Nat) (k : Jvm.Cond) : Bool := decide (lw_tbl[w]? = some k) && (goodWord k || isDC k)
theorem wdAt_ok {w : Nat} {k : Jvm.Cond} {s : State} (h : wdAt w k = true) (hW : WT s) (args : Array Value) : k.before args s = true := by
  simp only [wdAt, Bool.and_eq_true, decide_eq_true_eq] at h
  exact hW k (List.mem_of_getElem? h.1) h.2 args
def dcd (cc : ByteArray) (pc : Nat) (i : Instr) (n : Nat) : Bool := decide (decode cc pc = .ok (i, n))
theorem dcd_ok {cc : ByteArray} {pc n : Nat} {i : Instr} (h : dcd cc pc i n = true) : decode cc pc = .ok (i, n) := of_decide_eq_true h
/-- the length of an instruction -/
def ilen : Instr → Nat
  | .iload _ => 2
  | .aload _ => 2
  | .lload _ => 2
  | .istore _ => 2
  | .astore _ => 2
  | .lstore _ => 2
  | .bipush _ => 2
  | .ldc _ => 2
  | .newarray _ => 2
  | .sipush _ => 3
  | .iinc .. => 3
  | .goto _ => 3
  | .ifCond .. => 3
  | .if_icmp .. => 3
  | .getfield _ => 3
  | .putfield _ => 3
  | .checkcast _ => 3
  | .invokestatic _ => 3
  | .invokevirtual _ => 3
  | .invokespecial _ => 3
  | _ => 1
/-- 'throw new E("text")' of HeavyHaul, whole: class link, 'initialized', the text's and the constructor's places -/
def chkT (cc : ByteArray) (own : String) (pc i x : Nat) (len : Nat) (xl : List Nat) : Bool := match xl with
  | [w1, w2, si, ic] => decide (own = "HeavyHaul") && wdAt w1 (.classLink own i (exn x)) && wdAt w2 (.initialized (exn x)) && ((x == 0 && ic == 229) || (x == 1 && ic == 61) || (x == 2 && ic == 135)) && strs.any (fun q => q.1 == si) &&
    dcd cc pc (.new i) 3 && dcd cc (pc + 3) .dup 1 &&
    ((len == 10 && dcd cc (pc + 4) (.ldc si) 2 && dcd cc (pc + 6) (.invokespecial ic) 3 && dcd cc (pc + 9) .athrow 1) || (len == 11 && dcd cc (pc + 4) (.ldc_w si) 3 && dcd cc (pc + 7) (.invokespecial ic) 3 && dcd cc (pc + 10) .athrow 1))
  | _ => false
/-- 'new ArrayList()', whole -/
def chkL (cc : ByteArray) (own : String) (pc i len : Nat) (xl : List Nat) : Bool := match xl with
  | [w1, ic] => wdAt w1 (.classLink own i "java/util/ArrayList") && dcd cc pc (.new i) 3 && dcd cc (pc + 3) .dup 1 && dcd cc (pc + 4) (.invokespecial ic) 3 && decide (Cond.methodLink own ic yJx4a65c_init_da8c8 ∈ lw_tbl) && len == 7
  | _ => false
def chkI (cc : ByteArray) (own : String) (ini : Bool) (pc : Nat) (ins : Instr) (len xa xb : Nat) (xv : Int32) (xl : List Nat) : Bool := match ins with
  | .tableswitch d lo hi offs => dcd cc pc ins len && decide ((pc : Int) + d = (xa : Int)) && decide (offs.toList.map (fun o => (pc : Int) + o) = xl.map (fun (t : Nat) => (t : Int))) && decide (hi + 1 = lo + (xl.length : Int))
  | .new i => if 50 ≤ xa then chkT cc own pc i (xa - 50) len xl else if xa = 13 then chkL cc own pc i len xl else match xl with
    | [w1, w2, w3] => dcd cc pc ins 3 && len == 3 && !(xa == 0) && !(xa == 1) && wdAt w1 (.classLink own i (vC (ci xa)).1) && wdAt w2 (.instantiable (vC (ci xa)).1 (vC (ci xa)).2.2) && wdAt w3 (.initialized (vC (ci xa)).1)
    | _ => false
  | _ => dcd cc pc ins len && len == ilen ins && match ins with
    | .iconst n => decide (Int32.ofInt n = xv)
    | .bipush n => decide ((Int8.ofInt n).toInt32 = xv)
    | .sipush n => decide ((Int16.ofInt n).toInt32 = xv)
    | .iinc _ n => decide (Int32.ofInt n = xv)
    | .ldc i => (match xl with
      | [w] => wdAt w (.constant own i xv)
      | _ => false)
    | .goto off => decide ((pc : Int) + off = (xa : Int))
    | .ifCond _ off => decide ((pc : Int) + off = (xa : Int))
    | .if_icmp _ off => decide ((pc : Int) + off = (xa : Int))
    | .getfield i => (match xl with
      | [w] => Nat.blt xb (vC xa).2.2 && decide (((vC xa).2.1 xb).1 = (vC xa).1) && wdAt w (.fieldLink own i (vC xa).1 ((vC xa).2.1 xb).2.1 ((vC xa).2.1 xb).2.2.1)
      | _ => false)
    | .putfield i => (match xl with
      | [w] => Nat.blt xb (vC xa).2.2 && decide (((vC xa).2.1 xb).1 = (vC xa).1) && wdAt w (.fieldLink own i (vC xa).1 ((vC xa).2.1 xb).2.1 ((vC xa).2.1 xb).2.2.1) && (!((vC xa).2.1 xb).2.2.2 || (ini && decide ((vC xa).1 = own)))
      | _ => false)
    | .newarray t => (match xl with
      | [w] => ((xa == 10 && decide (t = .int)) || (xa == 11 && decide (t = .boolean)) || (xa == 12 && decide (t = .long))) && wdAt w (.arrayClass (newarray.typeOf t))
      | _ => false)
    | .checkcast i => (match xl with
      | [w1] => wdAt w1 (.classLink own i (vC xa).1)
      | _ => false)
    | _ => true
/-- the rows follow each other -/
def chn : Tb → Bool
  | [] => true
  | q :: r => (match r with
    | [] => true
    | q' :: _ => q'.1 == q.1 + q.2.2.1) && chn r
def chkTb (cc : ByteArray) (own : String) (ini : Bool) (tb : Tb) : Bool := chn tb && tb.all fun q => chkI cc own ini q.1 q.2.1 q.2.2.1 q.2.2.2.1.1 q.2.2.2.1.2.1 q.2.2.2.1.2.2 q.2.2.2.2.1
def sMax : SP := vS fun as _ k => match as with
  | [Sum.inl a, Sum.inl b] => k (some (aI (if a < b then b else a)))
  | _ => False
def sMin : SP := vS fun as _ k => match as with
  | [Sum.inl a, Sum.inl b] => k (some (aI (if b < a then b else a)))
  | _ => False
/-- a call's callee keeps its words -/
def CallOK (l : Launch) (own : String) (rk : Nat) (ins : Instr) (xa xb xu : Nat) (xs : SP) : Prop := match ins with
  | .invokestatic i => if xb = 7 then Cond.methodLink own i Lib.Math.max.name ∈ lw_tbl ∧ xa = 2 ∧ xu = 0 ∧ xs = sMax else if xb = 8 then Cond.methodLink own i Lib.Math.min.name ∈ lw_tbl ∧ xa = 2 ∧ xu = 0 ∧ xs = sMin else if xb = 9 then ∃ (y : MethodName) (cy : ByteArray) (maxL rz : Nat) (ret : Option FieldType) (hh : List (Nat × Nat × Nat × Nat)), CTW l y cy maxL ret hh rz xu xs ∧ LkW own i y cy maxL ret hh xa ∧ Cond.static y ∈ lw_tbl ∧ rz < rk else if xb = 6 then ∃ (y : MethodName) (cy : ByteArray) (maxL rz : Nat) (ret : Option FieldType), CT l y cy maxL ret rz xu xs ∧ LkB own i y cy maxL ret xa ∧ Cond.static y ∈ lw_tbl ∧ rz < rk ∧ maxL ≤ 13 else ∃ (y : MethodName) (cy : ByteArray) (maxL rz : Nat) (ret : Option FieldType), CT l y cy maxL ret rz xu xs ∧ LkB own i y cy maxL ret xa ∧ Cond.static y ∈ lw_tbl ∧ rz < rk
  | .invokevirtual i => ∃ (y : MethodName) (cy : ByteArray) (maxL rz : Nat) (ret : Option FieldType) (a : Nat), CT l y cy maxL ret rz xu xs ∧ LkB own i y cy maxL ret (xa - 1) ∧ Cond.instanceMethod y ∈ lw_tbl ∧ (Cond.selects (vC a).1 y y) ∈ lw_tbl ∧ rz < rk ∧ 1 ≤ xa ∧
      (∀ as S P, xs as S P → ∃ k i r, as = aR k i :: r ∧ ci k = a ∧ (obK k = true ∨ k = 13))
  | .invokespecial i => if xb = 9 then Cond.methodLink own i Lib.objectInit ∈ lw_tbl else ∃ (y : MethodName) (cy : ByteArray) (maxL rz : Nat), CT l y cy maxL none rz xu xs ∧ LkB own i y cy maxL none (xa - 1) ∧ Cond.instanceMethod y ∈ lw_tbl ∧ y.name = "<init>" ∧ rz < rk ∧ 1 ≤ xa ∧
      (∀ as S P, xs as S P → ∃ k i r, as = aR k i :: r ∧ (obK k = true ∨ k = 13))
  | _ => True
def CallsOK (l : Launch) (own : String) (rk : Nat) : Tb → Prop
  | [] => True
  | q :: r => CallOK l own rk q.2.1 q.2.2.2.1.1 q.2.2.2.1.2.1 q.2.2.2.2.2.1 q.2.2.2.2.2.2 ∧ CallsOK l own rk r
theorem atS_ok (x ic : Nat) (h : (x = 0 ∧ ic = 229) ∨ (x = 1 ∧ ic = 61) ∨ (x = 2 ∧ ic = 135)) : ((vx_atS "HeavyHaul" ic (exn x) ["java/lang/RuntimeException", "java/lang/Exception"]).all fun w => decide (w ∈ lw_tbl) && (goodWord w || isDC w) && vx_ot w) = true := by
  rcases h with ⟨rfl, rfl⟩ | ⟨rfl, rfl⟩ | ⟨rfl, rfl⟩ <;> decide +kernel
