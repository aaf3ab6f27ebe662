/-! THE PURE MACHINE: values, stores, and a weakest precondition of a method's code, by computation -/
/-- a value: an int, a long, or an object by its kind and number (kind 99: a raw cell) -/
abbrev AV : Type := Int32 ⊕ (Int64 ⊕ (Nat × Nat))
abbrev aI (x : Int32) : AV := Sum.inl x
abbrev aL (x : Int64) : AV := Sum.inr (Sum.inl x)
abbrev aR (k i : Nat) : AV := Sum.inr (Sum.inr (k, i))
abbrev Lo : Type := List (Option AV)
/-- a store: int columns by kind, field (array), place; longs by array and place; how many there are of a kind -/
abbrev Sto : Type := (Nat → Nat → Nat → Int32) × (Nat → Nat → Int64) × (Nat → Nat)
abbrev Out : Type := Option AV ⊕ Nat
abbrev SV : Type := List AV → Sto → (Option AV → Prop) → Prop
abbrev SP : Type := List AV → Sto → (Out → Sto → Prop) → Prop
/-- what an instruction's row says beside it: numbers, places of words or targets, a callee's words -/
abbrev Xi : Type := (Nat × Nat × Int32) × List Nat × (Nat × SP)
abbrev Tb : Type := List (Nat × Instr × Nat × Xi)
abbrev Gt : Type := Nat → Lo → List AV → Sto → Nat → Prop
def sp0 : SP := fun _ _ _ => False
abbrev x0 : Xi := ((0, 0, 0), [], (0, sp0))
abbrev xN (a : Nat) : Xi := ((a, 0, 0), [], (0, sp0))
abbrev xI (v : Int32) : Xi := ((0, 0, v), [], (0, sp0))
abbrev xF (a b : Nat) (ws : List Nat) : Xi := ((a, b, 0), ws, (0, sp0))
abbrev xC (a b : Nat) (v : Int32) (ws : List Nat) : Xi := ((a, b, v), ws, (0, sp0))
/-- a callee that only answers -/
def vS (sv : SV) : SP := fun as S Q => sv as S (fun r => Q (Sum.inl r) S)
abbrev xV (n : Nat) (sv : SV) : Xi := ((n, 0, 0), [], (0, vS sv))
abbrev xS (n u : Nat) (sp : SP) : Xi := ((n, 0, 0), [], (u, sp))
abbrev xO : Xi := ((1, 9, 0), [], (0, sp0))
/-- fields: 0 an int; (1, k, i) always the object i of kind k; (2, k, i) that or null; (3, k, _) the object of kind k of the same number, or null -/
def ftab : Nat → List (Nat × Nat × Nat)
  | 0 => [(1, 11, 0), (1, 10, 0), (1, 10, 1), (1, 13, 0), (1, 13, 1), (1, 13, 2), (1, 13, 3), (1, 13, 4), (1, 10, 2), (0, 0, 0)]
  | 2 => [(0, 0, 0), (0, 0, 0), (0, 0, 0), (0, 0, 0), (0, 0, 0), (0, 0, 0), (0, 0, 0), (0, 0, 0), (0, 0, 0), (0, 0, 0)]
  | 3 => [(0, 0, 0), (0, 0, 0), (0, 0, 0), (3, 7, 0)]
  | 4 => [(0, 0, 0), (0, 0, 0), (0, 0, 0), (0, 0, 0), (0, 0, 0), (0, 0, 0), (0, 0, 0), (0, 0, 0), (0, 0, 0), (0, 0, 0), (0, 0, 0), (0, 0, 0), (0, 0, 0)]
  | 5 => [(0, 0, 0), (0, 0, 0), (3, 8, 0)]
  | 6 => [(0, 0, 0), (3, 9, 0)]
  | 7 => [(0, 0, 0), (0, 0, 0)]
  | 8 => [(0, 0, 0), (0, 0, 0)]
  | 9 => [(0, 0, 0), (0, 0, 0)]
  | 17 => [(2, 11, 0), (2, 10, 0), (2, 10, 1), (2, 13, 0), (2, 13, 1), (2, 13, 2), (2, 13, 3), (2, 13, 4), (2, 10, 2), (0, 0, 0)]
  | _ => []
def ft (k f : Nat) : Nat × Nat × Nat := (ftab k).getD f (0, 0, 0)
def nf (k : Nat) : Nat := (ftab k).length
/-- the place of a kind's class in vwCl -/
def ci : Nat → Nat
  | 0 => 7
  | 2 => 5
  | 3 => 6
  | 4 => 4
  | 5 => 3
  | 6 => 1
  | 7 => 2
  | 8 => 2
  | 9 => 2
  | 17 => 7
  | _ => 0
def obK (k : Nat) : Bool := (Nat.ble k 9 && !(k == 1)) || k == 17
/-- the lengths of the arrays, in the order in which they are made -/
def al (k i : Nat) : Nat := match k with
  | 10 => ([4, 4, 288, 60, 30, 28, 48, 9, 8, 5] : List Nat).getD i 0
  | 11 => ([10] : List Nat).getD i 0
  | 12 => 25
  | _ => 1
/-- which objects a list holds -/
def lk : Nat → Nat
  | 0 => 2
  | 1 => 3
  | 2 => 4
  | 3 => 5
  | _ => 6
def wrI (S : Sto) (k f i : Nat) (v : Int32) : Sto := (fun k' f' => if k' = k ∧ f' = f then upd (S.1 k f) i v else S.1 k' f', S.2)
def wrJ (S : Sto) (i j : Nat) (v : Int64) : Sto := (S.1, fun i' j' => if i' = i ∧ j' = j then v else S.2.1 i' j', S.2.2)
def bump (N : Nat → Nat) (k : Nat) : Nat → Nat := fun k' => if k' = k then N k + 1 else N k'
/-- a new object of kind k, all its fields 0 or null -/
def mkO (S : Sto) (k : Nat) : Sto := (fun k' f' => if k' = k then upd (S.1 k f') (S.2.2 k) 0 else S.1 k' f', S.2.1, bump S.2.2 k)
/-- a new array of kind k, all 0 -/
def mkA (S : Sto) (k : Nat) : Sto := (fun k' f' => if k' = k ∧ f' = S.2.2 k then (fun _ => 0) else S.1 k' f', S.2.1, bump S.2.2 k)
/-- a new array of longs, all 0 -/
def mkJ (S : Sto) : Sto := (S.1, fun i' => if i' = S.2.2 12 then (fun _ => 0) else S.2.1 i', bump S.2.2 12)
/-- a new list -/
def mkL (S : Sto) : Sto := (S.1, S.2.1, bump S.2.2 13)
def popN : Nat → List AV → List AV → (List AV → List AV → Prop) → Prop
  | 0, st, acc, k => k acc st
  | n + 1, v :: st, acc, k => popN n st (v :: acc) k
  | _ + 1, [], _, _ => False
def getL : Lo → Nat → (AV → Prop) → Prop
  | [], _, _ => False
  | none :: _, 0, _ => False
  | some v :: _, 0, k => k v
  | _ :: r, n + 1, k => getL r n k
def clrP : Option AV → Option AV
  | some (Sum.inr (Sum.inl _)) => none
  | x => x
def setL : Lo → Nat → AV → Lo
  | [], _, _ => []
  | _ :: r, 0, v => some v :: r
  | x :: r, 1, v => clrP x :: setL r 0 v
  | x :: r, n + 2, v => x :: setL r (n + 1) v
def hN : Lo → Lo
  | [] => []
  | _ :: r => none :: r
def setL2 : Lo → Nat → AV → Lo
  | [], _, _ => []
  | _ :: r, 0, v => some v :: hN r
  | x :: r, 1, v => clrP x :: setL2 r 0 v
  | x :: r, n + 2, v => x :: setL2 r (n + 1) v
def forceL : Lo → (Lo → Prop) → Prop
  | [], k => k []
  | x :: r, k => forceL r (fun y => k (x :: y))
def catV : AV → Nat
  | Sum.inr (Sum.inl _) => 2
  | _ => 1
def catS : List AV → Nat
  | [] => 0
  | v :: r => catV v + catS r
def drp : Tb → Nat → Tb
  | [], _ => []
  | q :: r, t => bif q.1 == t then q :: r else drp r t
def fH : List (Nat × Nat × Nat × Nat) → Nat → Nat → Option Nat
  | [], _, _ => none
  | (a, b, t, e) :: r, pc, x => bif Nat.ble a pc && Nat.blt pc b && e == x then some t else fH r pc x
def swc (k : Nat → Prop) : List Nat → Int → Int32 → Prop
  | [], _, _ => True
  | t :: r, v, y => (y.toInt = v → k t) ∧ swc k r (v + 1) y
def i1 (st : List AV) (k : Int32 → List AV → Prop) : Prop := match st with
  | Sum.inl a :: r => k a r
  | _ => False
def i2 (st : List AV) (k : Int32 → Int32 → List AV → Prop) : Prop := match st with
  | Sum.inl b :: Sum.inl a :: r => k a b r
  | _ => False
def l2 (st : List AV) (k : Int64 → Int64 → List AV → Prop) : Prop := match st with
  | Sum.inr (Sum.inl b) :: Sum.inr (Sum.inl a) :: r => k a b r
  | _ => False
def il (st : List AV) (k : Int64 → Int32 → List AV → Prop) : Prop := match st with
  | Sum.inl b :: Sum.inr (Sum.inl a) :: r => k a b r
  | _ => False
def r1 (st : List AV) (k : Nat → Nat → List AV → Prop) : Prop := match st with
  | Sum.inr (Sum.inr (a, b)) :: r => k a b r
  | _ => False
def isI (v : AV) (k : Prop) : Prop := match v with
  | Sum.inl _ => k
  | _ => False
def isJ (v : AV) (k : Prop) : Prop := match v with
  | Sum.inr (Sum.inl _) => k
  | _ => False
def isR (v : AV) (k : Prop) : Prop := match v with
  | Sum.inr (Sum.inr _) => k
  | _ => False
/-- reading a field, writing it -/
def gF (S : Sto) (k f i : Nat) (c : AV → Prop) : Prop := match ft k f with
  | (0, _, _) => c (aI (S.1 k f i))
  | (1, k', i') => c (aR k' i')
  | (2, k', i') => S.1 k f i ≠ 0 ∧ c (aR k' i')
  | (_, k', _) => S.1 k f i ≠ 0 ∧ c (aR k' i)
def pF (S : Sto) (k f i : Nat) (v : AV) (c : Sto → Prop) : Prop := match ft k f, v with
  | (0, _, _), Sum.inl x => c (wrI S k f i x)
  | (2, k', i'), Sum.inr (Sum.inr (a, b)) => bif a == k' && b == i' then c (wrI S k f i 1) else False
  | (3, k', _), Sum.inr (Sum.inr (a, b)) => bif a == k' then b = i ∧ c (wrI S k f i 1) else False
  | _, _ => False
def br1 (o : ClassFile.Cond) (x : Int32) (a b : Prop) : Prop := match o with
  | .eq => (x = 0 → a) ∧ (¬ x = 0 → b)
  | .ne => (¬ x = 0 → a) ∧ (x = 0 → b)
  | .lt => (x < 0 → a) ∧ (¬ x < 0 → b)
  | .ge => (0 ≤ x → a) ∧ (¬ 0 ≤ x → b)
  | .gt => (0 < x → a) ∧ (¬ 0 < x → b)
  | .le => (x ≤ 0 → a) ∧ (¬ x ≤ 0 → b)
def br2 (o : ClassFile.Cond) (x y : Int32) (a b : Prop) : Prop := match o with
  | .eq => (x = y → a) ∧ (¬ x = y → b)
  | .ne => (¬ x = y → a) ∧ (x = y → b)
  | .lt => (x < y → a) ∧ (¬ x < y → b)
  | .ge => (y ≤ x → a) ∧ (¬ y ≤ x → b)
  | .gt => (y < x → a) ∧ (¬ y < x → b)
  | .le => (x ≤ y → a) ∧ (¬ x ≤ y → b)
section WP
variable (tb : Tb) (G : Gt) (Q : Out → Sto → Prop) (rb : Nat) (B : Nat) (hn : List (Nat × Nat × Nat × Nat)) (cuts : List Nat) (scr : Nat × (Nat → Int32))
/-- what one instruction asks, K behind it -/
def wpI (pc : Nat) (ins : Instr) (xa xb : Nat) (xv : Int32) (xl : List Nat) (xu : Nat) (xs : SP) (nx : Tb) (K : Tb → Lo → List AV → Sto → Nat → Prop) (L : Lo) (st : List AV) (S : Sto) (u : Nat) : Prop := match ins with
  | .iload_n i => getL L i.val fun v => isI v (K nx L (v :: st) S u)
  | .iload i => getL L i fun v => isI v (K nx L (v :: st) S u)
  | .aload_n i => getL L i.val fun v => isR v (K nx L (v :: st) S u)
  | .aload i => getL L i fun v => isR v (K nx L (v :: st) S u)
  | .lload_n i => getL L i.val fun v => isJ v (K nx L (v :: st) S u)
  | .lload i => getL L i fun v => isJ v (K nx L (v :: st) S u)
  | .istore_n i => i1 st fun a r => bif Nat.blt i.val L.length then forceL (setL L i.val (aI a)) fun L' => K nx L' r S u else False
  | .istore i => i1 st fun a r => bif Nat.blt i L.length then forceL (setL L i (aI a)) fun L' => K nx L' r S u else False
  | .astore_n i => r1 st fun a b r => bif Nat.blt i.val L.length then forceL (setL L i.val (aR a b)) fun L' => K nx L' r S u else False
  | .astore i => r1 st fun a b r => bif Nat.blt i L.length then forceL (setL L i (aR a b)) fun L' => K nx L' r S u else False
  | .lstore_n i => match st with
        | Sum.inr (Sum.inl a) :: r => bif Nat.blt (i.val + 1) L.length then forceL (setL2 L i.val (aL a)) fun L' => K nx L' r S u else False
        | _ => False
  | .lstore i => match st with
        | Sum.inr (Sum.inl a) :: r => bif Nat.blt (i + 1) L.length then forceL (setL2 L i (aL a)) fun L' => K nx L' r S u else False
        | _ => False
  | .iinc i _ => getL L i fun v => match v with
        | Sum.inl a => bif Nat.blt i L.length then forceL (setL L i (aI (a + xv))) fun L' => K nx L' st S u else False
        | _ => False
  | .iconst _ => K nx L (aI xv :: st) S u
  | .bipush _ => K nx L (aI xv :: st) S u
  | .sipush _ => K nx L (aI xv :: st) S u
  | .ldc _ => K nx L (aI xv :: st) S u
  | .lconst k => K nx L (aL (bif k.val == 0 then 0 else 1) :: st) S u
  | .iadd => i2 st fun a b r => K nx L (aI (a + b) :: r) S u
  | .isub => i2 st fun a b r => K nx L (aI (a - b) :: r) S u
  | .imul => i2 st fun a b r => K nx L (aI (a * b) :: r) S u
  | .iand => i2 st fun a b r => K nx L (aI (a &&& b) :: r) S u
  | .ior => i2 st fun a b r => K nx L (aI (a ||| b) :: r) S u
  | .ixor => i2 st fun a b r => K nx L (aI (a ^^^ b) :: r) S u
  | .ineg => i1 st fun a r => K nx L (aI (-a) :: r) S u
  | .ishl => i2 st fun a b r => K nx L (aI (a <<< (b &&& 31)) :: r) S u
  | .ishr => i2 st fun a b r => K nx L (aI (a >>> (b &&& 31)) :: r) S u
  | .idiv => i2 st fun a b r => ¬ b = 0 ∧ K nx L (aI (a / b) :: r) S u
  | .irem => i2 st fun a b r => ¬ b = 0 ∧ K nx L (aI (a - a / b * b) :: r) S u
  | .ladd => l2 st fun a b r => K nx L (aL (a + b) :: r) S u
  | .lsub => l2 st fun a b r => K nx L (aL (a - b) :: r) S u
  | .lmul => l2 st fun a b r => K nx L (aL (a * b) :: r) S u
  | .ldiv => l2 st fun a b r => ¬ b = 0 ∧ K nx L (aL (a / b) :: r) S u
  | .lrem => l2 st fun a b r => ¬ b = 0 ∧ K nx L (aL (a - a / b * b) :: r) S u
  | .land => l2 st fun a b r => K nx L (aL (a &&& b) :: r) S u
  | .lor => l2 st fun a b r => K nx L (aL (a ||| b) :: r) S u
  | .lshl => il st fun a b r => K nx L (aL (a <<< (b.toInt64 &&& 63)) :: r) S u
  | .lshr => il st fun a b r => K nx L (aL (a >>> (b.toInt64 &&& 63)) :: r) S u
  | .lcmp => l2 st fun a b r => K nx L (aI (lg_cmp a b) :: r) S u
  | .i2l => i1 st fun a r => K nx L (aL a.toInt64 :: r) S u
  | .l2i => match st with
        | Sum.inr (Sum.inl a) :: r => K nx L (aI a.toInt32 :: r) S u
        | _ => False
  | .dup => match st with
        | v :: r => bif catV v == 1 then K nx L (v :: v :: r) S u else False
        | _ => False
  | .dup2 => match st with
        | v :: w :: r => bif catV v == 1 && catV w == 1 then K nx L (v :: w :: v :: w :: r) S u else False
        | _ => False
  | .pop => match st with
        | v :: r => bif catV v == 1 then K nx L r S u else False
        | _ => False
  | .goto _ => K (drp tb xa) L st S u
  | .ifCond o _ => i1 st fun a r => br1 o a (K (drp tb xa) L r S u) (K nx L r S u)
  | .if_icmp o _ => i2 st fun a b r => br2 o a b (K (drp tb xa) L r S u) (K nx L r S u)
  | .tableswitch _ lo hi _ => i1 st fun a r => ((a.toInt < lo ∨ hi < a.toInt) → K (drp tb xa) L r S u) ∧ swc (fun t => K (drp tb t) L r S u) xl lo a
  | .getfield _ => r1 st fun k i r => bif obK k && ci k == xa then gF S k xb i fun v => K nx L (v :: r) S u else False
  | .putfield _ => match st with
        | v :: Sum.inr (Sum.inr (k, i)) :: r => bif obK k && ci k == xa then pF S k xb i v fun S' => K nx L r S' u else False
        | _ => False
  | .iaload => match st with
        | Sum.inl j :: Sum.inr (Sum.inr (k, i)) :: r => bif k == 10 then vp_in j (al 10 i) ∧ K nx L (aI (S.1 10 i j.toNatClampNeg) :: r) S u else
          bif k == 14 && i == 0 && Nat.blt 0 scr.1 then vp_in j (scr.1 - 1) ∧ K nx L (aI (scr.2 j.toNatClampNeg) :: r) S u else False
        | _ => False
  | .baload => match st with
        | Sum.inl j :: Sum.inr (Sum.inr (k, i)) :: r => bif k == 11 then vp_in j (al 11 i) ∧ K nx L (aI (S.1 11 i j.toNatClampNeg) :: r) S u else False
        | _ => False
  | .laload => match st with
        | Sum.inl j :: Sum.inr (Sum.inr (k, i)) :: r => bif k == 12 then vp_in j 25 ∧ K nx L (aL (S.2.1 i j.toNatClampNeg) :: r) S u else False
        | _ => False
  | .iastore => match st with
        | Sum.inl v :: Sum.inl j :: Sum.inr (Sum.inr (k, i)) :: r => bif k == 10 then vp_in j (al 10 i) ∧ K nx L r (wrI S 10 i j.toNatClampNeg v) u else False
        | _ => False
  | .bastore => match st with
        | Sum.inl v :: Sum.inl j :: Sum.inr (Sum.inr (k, i)) :: r => bif k == 11 then vp_in j (al 11 i) ∧ K nx L r (wrI S 11 i j.toNatClampNeg (v &&& 1)) u else False
        | _ => False
  | .lastore => match st with
        | Sum.inr (Sum.inl v) :: Sum.inl j :: Sum.inr (Sum.inr (k, i)) :: r => bif k == 12 then vp_in j 25 ∧ K nx L r (wrJ S i j.toNatClampNeg v) u else False
        | _ => False
  | .arraylength => r1 st fun k i r => bif k == 10 || k == 11 then K nx L (aI (Int32.ofNat (al k i)) :: r) S u else
          bif k == 14 && i == 0 && Nat.blt 0 scr.1 then K nx L (aI (Int32.ofNat (scr.1 - 1)) :: r) S u else False
  | .newarray _ => i1 st fun a r => bif xa == 10 || xa == 11 then a = Int32.ofNat (al xa (S.2.2 xa)) ∧ (bif Nat.ble (u + 30) B then K nx L (aR xa (S.2.2 xa) :: r) (mkA S xa) (u + 30) else False) else
          bif xa == 12 then a = 25 ∧ (bif Nat.ble (u + 30) B then K nx L (aR 12 (S.2.2 12) :: r) (mkJ S) (u + 30) else False) else False
  | .new _ => bif Nat.ble 50 xa then (bif Nat.ble (u + 1) B && Nat.ble (catS st) 8 then Q (Sum.inr (xa - 50)) S else False) else
          bif xa == 13 then (bif Nat.ble (u + 1) B && Nat.ble (catS st) 6 then S.2.2 13 < 5 ∧ S.2.2 (20 + S.2.2 13) = 0 ∧ K nx L (aR 13 (S.2.2 13) :: st) (mkL S) (u + 1) else False) else
          bif obK xa && Nat.ble (u + 1) B then K nx L (aR xa (S.2.2 xa) :: st) (mkO S xa) (u + 1) else False
  | .checkcast _ => r1 st fun k i r => bif obK k && ci k == xa then K nx L (aR k i :: r) S u else False
  | .ireturn => match st with
        | Sum.inl a :: [] => bif rb == 2 then (a &&& 1 = a ∧ Q (Sum.inl (some (aI a))) S) else bif rb == 1 then Q (Sum.inl (some (aI a))) S else False
        | _ => False
  | .areturn => match st with
        | Sum.inr (Sum.inr q) :: [] => bif rb == 3 then Q (Sum.inl (some (Sum.inr (Sum.inr q)))) S else False
        | _ => False
  | .return_ => match st with
        | [] => bif rb == 0 then Q (Sum.inl none) S else False
        | _ => False
  | .invokestatic _ => popN xa st [] fun as r => bif Nat.ble (catS r) (bif xb == 6 then 16 else 8) && Nat.ble (u + xu) B then xs as S fun o S' => match o with
            | Sum.inl (some v) => K nx L (v :: r) S' (u + xu)
            | Sum.inl none => K nx L r S' (u + xu)
            | Sum.inr e => match fH hn pc e with
              | some t => ∀ q : Nat, K (drp tb t) L (aR 99 q :: []) S' (u + xu)
              | none => Q (Sum.inr e) S'
           else False
  | .invokevirtual _ => popN xa st [] fun as r => bif Nat.ble (catS r) 8 && Nat.ble (u + xu) B then xs as S fun o S' => match o with
            | Sum.inl (some v) => K nx L (v :: r) S' (u + xu)
            | Sum.inl none => K nx L r S' (u + xu)
            | Sum.inr e => match fH hn pc e with
              | some t => ∀ q : Nat, K (drp tb t) L (aR 99 q :: []) S' (u + xu)
              | none => Q (Sum.inr e) S'
           else False
  | .invokespecial _ => bif xb == 9 then r1 st fun _ _ r => bif Nat.ble (catS r) 8 then K nx L r S u else False else
          popN xa st [] fun as r => bif Nat.ble (catS r) 8 && Nat.ble (u + xu) B then xs as S fun o S' => match o with
            | Sum.inl none => K nx L r S' (u + xu)
            | _ => False
           else False
  | _ => False
/-- what the code asks, from this row on: at a cut it is G -/
def wp : Nat → Bool → Tb → Lo → List AV → Sto → Nat → Prop
  | 0, _, _, _, _, _, _ => False
  | n + 1, fi, suf, L, st, S, u => match suf with
    | [] => False
    | (pc, ins, _, ((xa, xb, xv), xl, (xu, xs))) :: nx => bif !fi && cuts.elem pc then G pc L st S u else wpI tb Q rb B hn scr pc ins xa xb xv xl xu xs nx (wp n false) L st S u
end WP
/-- the code asks no more than G, from every row on -/
def Seg (tb : Tb) (G : Gt) (Q : Out → Sto → Prop) (rb : Nat) (B : Nat) (hn : List (Nat × Nat × Nat × Nat)) (scr : Nat × (Nat → Int32)) : Prop :=
  ∀ (cuts : List Nat) (n pc : Nat) (L : Lo) (st : List AV) (S : Sto) (u : Nat), wp tb G Q rb B hn cuts scr n true (drp tb pc) L st S u → G pc L st S u
def bI (c : Prop) [Decidable c] : Int32 := if c then 1 else 0
