section
-- ===== PART A: goes FIRST, ahead of the names: the tables' words, and 'selects' of the private methods out of them =====
/-- a private method of a class that the tables say can be made, by its rows of tables_1 -/
def lw_okq (q : MethodName × Nat) : Prop := (q.1.cls ≠ "java/lang/invoke/MethodHandle" ∧ q.1.cls ≠ "java/lang/invoke/VarHandle") ∧ Cond.instantiable q.1.cls q.2 ∈ tables_1 ∧ Cond.privateMethod q.1 ∈ tables_1 ∧ Cond.instanceMethod q.1 ∈ tables_1
theorem lw_p0 : lw_okq (⟨"java/lang/Throwable", "fillInStackTrace", "(I)Ljava/lang/Throwable;"⟩, 6) := ⟨⟨by decide +kernel, by decide +kernel⟩, List.mem_of_getElem? (i := 159) (by decide +kernel), List.mem_of_getElem? (i := 157) (by decide +kernel), List.mem_of_getElem? (i := 158) (by decide +kernel)⟩
theorem lw_p1 : lw_okq (⟨"java/util/ArrayList", "add", "(Ljava/lang/Object;[Ljava/lang/Object;I)V"⟩, 3) := ⟨⟨by decide +kernel, by decide +kernel⟩, List.mem_of_getElem? (i := 41) (by decide +kernel), List.mem_of_getElem? (i := 281) (by decide +kernel), List.mem_of_getElem? (i := 282) (by decide +kernel)⟩
theorem lw_p2 : lw_okq (⟨"java/util/ArrayList", "grow", "()[Ljava/lang/Object;"⟩, 3) := ⟨⟨by decide +kernel, by decide +kernel⟩, List.mem_of_getElem? (i := 41) (by decide +kernel), List.mem_of_getElem? (i := 285) (by decide +kernel), List.mem_of_getElem? (i := 286) (by decide +kernel)⟩
theorem lw_p3 : lw_okq (⟨"java/util/ArrayList", "grow", "(I)[Ljava/lang/Object;"⟩, 3) := ⟨⟨by decide +kernel, by decide +kernel⟩, List.mem_of_getElem? (i := 41) (by decide +kernel), List.mem_of_getElem? (i := 289) (by decide +kernel), List.mem_of_getElem? (i := 290) (by decide +kernel)⟩
theorem lw_p4 : lw_okq (⟨"HeavyHaul$Rig", "base", "()I"⟩, 13) := ⟨⟨by decide +kernel, by decide +kernel⟩, List.mem_of_getElem? (i := 341) (by decide +kernel), List.mem_of_getElem? (i := 400) (by decide +kernel), List.mem_of_getElem? (i := 401) (by decide +kernel)⟩
theorem lw_p5 : lw_okq (⟨"HeavyHaul$Rig", "leverOf", "(I)I"⟩, 13) := ⟨⟨by decide +kernel, by decide +kernel⟩, List.mem_of_getElem? (i := 341) (by decide +kernel), List.mem_of_getElem? (i := 404) (by decide +kernel), List.mem_of_getElem? (i := 405) (by decide +kernel)⟩
theorem lw_p6 : lw_okq (⟨"HeavyHaul$Rig", "share", "(I)I"⟩, 13) := ⟨⟨by decide +kernel, by decide +kernel⟩, List.mem_of_getElem? (i := 341) (by decide +kernel), List.mem_of_getElem? (i := 408) (by decide +kernel), List.mem_of_getElem? (i := 409) (by decide +kernel)⟩
theorem lw_p7 : lw_okq (⟨"HeavyHaul", "roadOf", "(I)LHeavyHaul$Road;"⟩, 10) := ⟨⟨by decide +kernel, by decide +kernel⟩, List.mem_of_getElem? (i := 33) (by decide +kernel), List.mem_of_getElem? (i := 488) (by decide +kernel), List.mem_of_getElem? (i := 489) (by decide +kernel)⟩
theorem lw_p8 : lw_okq (⟨"HeavyHaul", "rigOf", "(I)LHeavyHaul$Rig;"⟩, 10) := ⟨⟨by decide +kernel, by decide +kernel⟩, List.mem_of_getElem? (i := 33) (by decide +kernel), List.mem_of_getElem? (i := 551) (by decide +kernel), List.mem_of_getElem? (i := 552) (by decide +kernel)⟩
theorem lw_p9 : lw_okq (⟨"HeavyHaul", "reasonAgainst", "(III)I"⟩, 10) := ⟨⟨by decide +kernel, by decide +kernel⟩, List.mem_of_getElem? (i := 33) (by decide +kernel), List.mem_of_getElem? (i := 590) (by decide +kernel), List.mem_of_getElem? (i := 591) (by decide +kernel)⟩
theorem lw_p10 : lw_okq (⟨"HeavyHaul", "sizeReason", "(III)I"⟩, 10) := ⟨⟨by decide +kernel, by decide +kernel⟩, List.mem_of_getElem? (i := 33) (by decide +kernel), List.mem_of_getElem? (i := 594) (by decide +kernel), List.mem_of_getElem? (i := 595) (by decide +kernel)⟩
theorem lw_p11 : lw_okq (⟨"HeavyHaul", "gainByWorks", "(IZII)I"⟩, 10) := ⟨⟨by decide +kernel, by decide +kernel⟩, List.mem_of_getElem? (i := 33) (by decide +kernel), List.mem_of_getElem? (i := 598) (by decide +kernel), List.mem_of_getElem? (i := 599) (by decide +kernel)⟩
theorem lw_p12 : lw_okq (⟨"HeavyHaul", "lastingReason", "(LHeavyHaul$Rig;LHeavyHaul$Road;)I"⟩, 10) := ⟨⟨by decide +kernel, by decide +kernel⟩, List.mem_of_getElem? (i := 33) (by decide +kernel), List.mem_of_getElem? (i := 607) (by decide +kernel), List.mem_of_getElem? (i := 608) (by decide +kernel)⟩
theorem lw_p13 : lw_okq (⟨"HeavyHaul", "mostOfAxle", "(I)I"⟩, 10) := ⟨⟨by decide +kernel, by decide +kernel⟩, List.mem_of_getElem? (i := 33) (by decide +kernel), List.mem_of_getElem? (i := 630) (by decide +kernel), List.mem_of_getElem? (i := 631) (by decide +kernel)⟩
theorem lw_p14 : lw_okq (⟨"HeavyHaul", "leaveReason", "(III)I"⟩, 10) := ⟨⟨by decide +kernel, by decide +kernel⟩, List.mem_of_getElem? (i := 33) (by decide +kernel), List.mem_of_getElem? (i := 634) (by decide +kernel), List.mem_of_getElem? (i := 635) (by decide +kernel)⟩
theorem lw_p15 : lw_okq (⟨"HeavyHaul", "isPermitted", "(IIII)Z"⟩, 10) := ⟨⟨by decide +kernel, by decide +kernel⟩, List.mem_of_getElem? (i := 33) (by decide +kernel), List.mem_of_getElem? (i := 638) (by decide +kernel), List.mem_of_getElem? (i := 639) (by decide +kernel)⟩
def lw_privs_1 : List (MethodName × Nat) := [(⟨"java/lang/Throwable", "fillInStackTrace", "(I)Ljava/lang/Throwable;"⟩, 6), (⟨"java/util/ArrayList", "add", "(Ljava/lang/Object;[Ljava/lang/Object;I)V"⟩, 3), (⟨"java/util/ArrayList", "grow", "()[Ljava/lang/Object;"⟩, 3), (⟨"java/util/ArrayList", "grow", "(I)[Ljava/lang/Object;"⟩, 3), (⟨"HeavyHaul$Rig", "base", "()I"⟩, 13), (⟨"HeavyHaul$Rig", "leverOf", "(I)I"⟩, 13), (⟨"HeavyHaul$Rig", "share", "(I)I"⟩, 13), (⟨"HeavyHaul", "roadOf", "(I)LHeavyHaul$Road;"⟩, 10), (⟨"HeavyHaul", "rigOf", "(I)LHeavyHaul$Rig;"⟩, 10), (⟨"HeavyHaul", "reasonAgainst", "(III)I"⟩, 10), (⟨"HeavyHaul", "sizeReason", "(III)I"⟩, 10), (⟨"HeavyHaul", "gainByWorks", "(IZII)I"⟩, 10), (⟨"HeavyHaul", "lastingReason", "(LHeavyHaul$Rig;LHeavyHaul$Road;)I"⟩, 10), (⟨"HeavyHaul", "mostOfAxle", "(I)I"⟩, 10), (⟨"HeavyHaul", "leaveReason", "(III)I"⟩, 10), (⟨"HeavyHaul", "isPermitted", "(IIII)Z"⟩, 10)]
theorem lw_r1 : ∀ q ∈ lw_privs_1, lw_okq q := List.forall_mem_cons.mpr ⟨lw_p0, List.forall_mem_cons.mpr ⟨lw_p1, List.forall_mem_cons.mpr ⟨lw_p2, List.forall_mem_cons.mpr ⟨lw_p3, List.forall_mem_cons.mpr ⟨lw_p4, List.forall_mem_cons.mpr ⟨lw_p5, List.forall_mem_cons.mpr ⟨lw_p6, List.forall_mem_cons.mpr ⟨lw_p7, List.forall_mem_cons.mpr ⟨lw_p8, List.forall_mem_cons.mpr ⟨lw_p9, List.forall_mem_cons.mpr ⟨lw_p10, List.forall_mem_cons.mpr ⟨lw_p11, List.forall_mem_cons.mpr ⟨lw_p12, List.forall_mem_cons.mpr ⟨lw_p13, List.forall_mem_cons.mpr ⟨lw_p14, List.forall_mem_cons.mpr ⟨lw_p15, fun _ h => absurd h List.not_mem_nil⟩⟩⟩⟩⟩⟩⟩⟩⟩⟩⟩⟩⟩⟩⟩⟩
theorem lw_p16 : lw_okq (⟨"HeavyHaul", "isEmbargoed", "(III)Z"⟩, 10) := ⟨⟨by decide +kernel, by decide +kernel⟩, List.mem_of_getElem? (i := 33) (by decide +kernel), List.mem_of_getElem? (i := 642) (by decide +kernel), List.mem_of_getElem? (i := 643) (by decide +kernel)⟩
theorem lw_p17 : lw_okq (⟨"HeavyHaul", "isAnyRigOn", "(I)Z"⟩, 10) := ⟨⟨by decide +kernel, by decide +kernel⟩, List.mem_of_getElem? (i := 33) (by decide +kernel), List.mem_of_getElem? (i := 654) (by decide +kernel), List.mem_of_getElem? (i := 655) (by decide +kernel)⟩
theorem lw_p18 : lw_okq (⟨"HeavyHaul", "letTenGoBy", "()V"⟩, 10) := ⟨⟨by decide +kernel, by decide +kernel⟩, List.mem_of_getElem? (i := 33) (by decide +kernel), List.mem_of_getElem? (i := 675) (by decide +kernel), List.mem_of_getElem? (i := 676) (by decide +kernel)⟩
theorem lw_p19 : lw_okq (⟨"HeavyHaul", "hasBay", "(I)Z"⟩, 10) := ⟨⟨by decide +kernel, by decide +kernel⟩, List.mem_of_getElem? (i := 33) (by decide +kernel), List.mem_of_getElem? (i := 683) (by decide +kernel), List.mem_of_getElem? (i := 684) (by decide +kernel)⟩
theorem lw_p20 : lw_okq (⟨"HeavyHaul", "roadsFitFor", "(LHeavyHaul$Rig;)I"⟩, 10) := ⟨⟨by decide +kernel, by decide +kernel⟩, List.mem_of_getElem? (i := 33) (by decide +kernel), List.mem_of_getElem? (i := 714) (by decide +kernel), List.mem_of_getElem? (i := 715) (by decide +kernel)⟩
theorem lw_p21 : lw_okq (⟨"HeavyHaul", "placesWithBay", "()I"⟩, 10) := ⟨⟨by decide +kernel, by decide +kernel⟩, List.mem_of_getElem? (i := 33) (by decide +kernel), List.mem_of_getElem? (i := 718) (by decide +kernel), List.mem_of_getElem? (i := 719) (by decide +kernel)⟩
theorem lw_p22 : lw_okq (⟨"HeavyHaul", "reach", "(II)V"⟩, 10) := ⟨⟨by decide +kernel, by decide +kernel⟩, List.mem_of_getElem? (i := 33) (by decide +kernel), List.mem_of_getElem? (i := 722) (by decide +kernel), List.mem_of_getElem? (i := 723) (by decide +kernel)⟩
theorem lw_p23 : lw_okq (⟨"HeavyHaul", "driveOn", "(IIIII)V"⟩, 10) := ⟨⟨by decide +kernel, by decide +kernel⟩, List.mem_of_getElem? (i := 33) (by decide +kernel), List.mem_of_getElem? (i := 726) (by decide +kernel), List.mem_of_getElem? (i := 727) (by decide +kernel)⟩
theorem lw_p24 : lw_okq (⟨"HeavyHaul", "isOpen", "(III)Z"⟩, 10) := ⟨⟨by decide +kernel, by decide +kernel⟩, List.mem_of_getElem? (i := 33) (by decide +kernel), List.mem_of_getElem? (i := 733) (by decide +kernel), List.mem_of_getElem? (i := 734) (by decide +kernel)⟩
def lw_privs_2 : List (MethodName × Nat) := [(⟨"HeavyHaul", "isEmbargoed", "(III)Z"⟩, 10), (⟨"HeavyHaul", "isAnyRigOn", "(I)Z"⟩, 10), (⟨"HeavyHaul", "letTenGoBy", "()V"⟩, 10), (⟨"HeavyHaul", "hasBay", "(I)Z"⟩, 10), (⟨"HeavyHaul", "roadsFitFor", "(LHeavyHaul$Rig;)I"⟩, 10), (⟨"HeavyHaul", "placesWithBay", "()I"⟩, 10), (⟨"HeavyHaul", "reach", "(II)V"⟩, 10), (⟨"HeavyHaul", "driveOn", "(IIIII)V"⟩, 10), (⟨"HeavyHaul", "isOpen", "(III)Z"⟩, 10)]
theorem lw_r2 : ∀ q ∈ lw_privs_2, lw_okq q := List.forall_mem_cons.mpr ⟨lw_p16, List.forall_mem_cons.mpr ⟨lw_p17, List.forall_mem_cons.mpr ⟨lw_p18, List.forall_mem_cons.mpr ⟨lw_p19, List.forall_mem_cons.mpr ⟨lw_p20, List.forall_mem_cons.mpr ⟨lw_p21, List.forall_mem_cons.mpr ⟨lw_p22, List.forall_mem_cons.mpr ⟨lw_p23, List.forall_mem_cons.mpr ⟨lw_p24, fun _ h => absurd h List.not_mem_nil⟩⟩⟩⟩⟩⟩⟩⟩⟩
def lw_privs : List (MethodName × Nat) := lw_privs_1 ++ (lw_privs_2)
def lw_tbl : List Cond := k2_sels lw_privs ++ tables_1
theorem lw_privs_ok : ∀ q ∈ lw_privs, lw_okq q := by
  show ∀ q ∈ lw_privs_1 ++ (lw_privs_2), lw_okq q
  exact List.forall_mem_append.mpr ⟨lw_r1, lw_r2⟩
/-! ===== BEGIN words of one list among another's, by their places ===== -/
theorem goodIn_r {big : List Cond} (ws : List Cond) (ps : List Nat) (hp : ws = ps.filterMap (fun i => big[i]?)) (h : ws.all goodWord = true) : GoodIn big ws := by
  intro w hw
  have h1 := List.all_eq_true.mp h w hw
  rw [hp] at hw
  obtain ⟨i, -, hi⟩ := List.mem_filterMap.mp hw
  have hm : w ∈ big := by first | exact List.mem_of_getElem? hi | exact List.getElem?_mem hi
  exact ⟨hm, good_of_word h1⟩
theorem goodIn_app {big a b : List Cond} (ha : GoodIn big a) (hb : GoodIn big b) : GoodIn big (a ++ b) := fun w h => (List.mem_append.mp h).elim (ha w) (hb w)
theorem goodIn_ca {big a b : List Cond} {c : Cond} (ha : GoodIn big (c :: a)) (hb : GoodIn big b) : GoodIn big (c :: (a ++ b)) := fun w h => (List.mem_cons.mp h).elim (fun e => ha w (List.mem_cons.mpr (Or.inl e))) (fun h => (List.mem_append.mp h).elim (fun h => ha w (List.mem_cons.mpr (Or.inr h))) (hb w))
theorem goodIn_sub {big ws : List Cond} (hm : ∀ w ∈ ws, w ∈ big) (h : ws.all goodWord = true) : GoodIn big ws := fun w hw => ⟨hm w hw, good_of_word (List.all_eq_true.mp h w hw)⟩
/-! ===== END ===== -/

/-! ===== BEGIN exceptions that leave a method, and their catching by the caller (launches without stack traces) ===== -/
section VXA
/-! The laws vx_back, vx_callV, vx_callS, vx_callSW, vx_throw0, vx_throwS follow proofs of the library, with one case more: JvmDerived/Free/Laws.lean (Back.of_free), Shelf42/LK1.lean (callV, callS), Shelf/KitTraced.lean (throwNew0V, throwNewS). -/
/-- where a method has thrown q: the class by its name, the cell, what was written, the world -/
def vx_T (XC : String → State → State → Prop) (st : State) (q : Addr) (t : State) (mc ms : Nat) (free : Addr → Prop) : Prop :=
  ∃ (E : String) (ce : Cell) (L : List Loc), XC E st t ∧ t.heap[q]? = some ce ∧ ce.vm = .none ∧ st.vm.findClass E = some ce.cls ∧ st.WarmedH t.vm ∧ st.sameButNew ({ t with vm := st.vm } : State) L mc ms ∧ ∀ z ∈ L, free z.base
def vx_Q (Qc : Array Value → State → Outcome → State → Prop) (XC : String → State → State → Prop) (mc ms : Nat) (free : Addr → Prop) : Array Value → State → Outcome → State → Prop := fun a st o t =>
  (Qc a st o t ∧ ∃ L, FrameEnd st o t L mc ms ∧ ∀ q ∈ L, free q.base) ∨ ∃ q, o = .threw q ∧ vx_T XC st q t mc ms free
/-- a callee that returns or throws -/
def vx_Met (l : Launch) (y : MethodName) (ws : List Cond) (rm : Room) (Pc : Array Value → State → Prop) (Qc : Array Value → State → Outcome → State → Prop) (XC : String → State → State → Prop) (mc ms : Nat) (free : Addr → Prop) : Prop :=
  MetFree l y (headSpec ws rm) Pc (fun _ _ _ _ _ => True) (vx_Q Qc XC mc ms free)
def vx_Post (XC : String → State → State → Prop) (mc ms : Nat) (free : Addr → Prop) : Pt → Array Value → Addr → Pt → Prop := fun A a q B =>
  ∃ (g : JFrame) (mk : MethodId) (t : State) (L : List Loc) (E : String) (ce : Cell), B.U.heap = t.heap ∧ B.U.vm = t.vm ∧ XC E (A.U.calling g mk a) t ∧ t.heap[q]? = some ce ∧ ce.vm = .none ∧ A.U.vm.findClass E = some ce.cls ∧ B.locs = A.locs ++ L ∧ (∀ z ∈ L, free z.base) ∧ B.cells = A.cells + mc ∧ B.slots = A.slots + ms
def vx_Back (l : Launch) (R : Room) (p : Program) (e : Env) (below : List Frame) (s : State) (sargs : Array Value) (y : MethodName) (len W9 : Nat)
    (Pre : Pt → Array Value → Prop) (Post : Pt → Array Value → Option Value → Pt → Prop) (PostX : Pt → Array Value → Addr → Pt → Prop) : Prop :=
  ∀ (m : MethodId) (meth : Method) (c : Code) (A : Pt) (g : JFrame) (ig : Instr) (mk : MethodId) (a : Array Value),
    Stand p l e R s m sargs below meth c A.U A.locs A.cells A.slots → g.method = m → g.locals.size = c.maxLocals → decode c.code g.pc = .ok (ig, len) →
    2 * g.monitorRoom + (g.stack.map fun v => v.category).sum ≤ W9 → A.U.methodNamed? y = some mk → Pre A a →
    (∃ (v : Option Value) (B : Pt), Stand p l e R s m sargs below meth c B.U B.locs B.cells B.slots ∧ Post A a v B ∧
      Steps p.tables e below (doInvoke e (A.U.setTop g) [] mk a).1 (B.U.setTop { g with pc := g.pc + len, stack := v.toList ++ g.stack })) ∨
    (∃ (q : Addr) (B : Pt), Stand p l e R s m sargs below meth c B.U B.locs B.cells B.slots ∧ PostX A a q B ∧
      Steps p.tables e below (doInvoke e (A.U.setTop g) [] mk a).1 ((B.U.setTop g).pushFrame (.throwing q)))
section Payer
variable {l : Launch} {R : Room} {p : Program} {e : Env} {below : List Frame} {s : State} {sargs : Array Value} {y : MethodName} {len W9 : Nat}
theorem vx_back {ws : List Cond} {rm : Room} {Pc : Array Value → State → Prop} {Qc : Array Value → State → Outcome → State → Prop} {XC : String → State → State → Prop} {mc ms : Nat} {free : Addr → Prop} {bytes : ByteArray} {maxL : Nat} {ret : Option FieldType}
    (hM : vx_Met l y ws rm Pc Qc XC mc ms free) (hblind : FrameBlind Pc) (hrc : rm.cells = mc) (hrs : rm.slots = ms)
    (hframes : rm.frames + 1 ≤ R.frames) (hlocals : W9 + (maxL + 11) + rm.locals ≤ R.locals)
    (hws : ∀ w ∈ ws, ∀ a' U, s.WarmedH U.vm → w.before a' U = true) (hcode : Cond.code y bytes maxL ret ∈ ws) (hinit : ∀ a' U, s.WarmedH U.vm → (Cond.initialized y.cls).before a' U = true) :
    vx_Back l R p e below s sargs y len W9 (PreOf R mc ms Pc) (PostOf Qc mc ms free) (vx_Post XC mc ms free) := by
  intro m meth c A g ig mk a X hg hsize hdg hW hn hp
  have h1 : (headSpec ws rm).pre.before a A.U = true := atoms_intro fun w hw => hws w hw _ _ X.warmed
  have h2 : (Cond.code y bytes maxL ret).before a A.U = true := hws _ hcode _ _ X.warmed
  have h3 : (Cond.initialized y.cls).before a A.U = true := hinit _ _ X.warmed
  have h4 : A.cells + (headSpec ws rm).room.cells ≤ R.cells := by rw [show (headSpec ws rm).room.cells = mc from hrc]; exact hp.1
  have h5 : A.slots + (headSpec ws rm).room.slots ≤ R.slots := by rw [show (headSpec ws rm).room.slots = ms from hrs]; exact hp.2.1
  have hPc : Pc a (A.U.calling g mk a) := hblind _ _ _ _ hp.2.2
  obtain ⟨U, Ls, c0, s0⟩ := A
  dsimp only [Pt.U, Pt.locs, Pt.cells, Pt.slots] at h1 h2 h3 h4 h5 X hn hPc ⊢
  obtain ⟨methY, cY, hmY, hcY, -, hlY, -, -, -, -⟩ := Cond.code_spec hn h2
  obtain ⟨kY, hkY, -⟩ := className_of_methodNamed hn
  have hinitY : kY.init = .initialized := Cond.initialized_spec (findClass_of_methodNamed hn) hkY h3
  have h : At U g.method c below := by rw [hg]; exact X.here
  have hlocals9 : W9 + (maxL + 11) + (headSpec ws rm).room.locals ≤ R.locals := hlocals
  have happ : (headSpec ws rm).appliesLoose y e.platform (U.calling g mk a) = true :=
    Spec.appliesLoose_calling (g := g) h hdg hn hkY hinitY
      (X.room_calling (g := g) (R' := (headSpec ws rm).room) hsize hmY hcY hframes (by rw [hlY]; omega) h4 h5) h1
  obtain ⟨mid, hmid⟩ := h.above
  have hfr : (U.setTop g).frames = (.java g :: mid) ++ below := by rw [State.frames_setTop' g h.top, hmid]; rfl
  obtain ⟨o, s₂, hsteps, -, hend, hq⟩ := Steps.callFree hM p X.admits X.cas X.clock (acts := []) hfr happ hPc trivial
  have hq' : vx_Q Qc XC mc ms free a (U.calling g mk a) o s₂ := hq
  rw [State.frames_setTop' g h.top] at hend
  obtain ⟨g₀, hg0⟩ := Option.isSome_iff_exists.mp h.top
  obtain ⟨r, hr⟩ := State.topJava?_eq_some.mp hg0
  have hr' : (({ U with heap := s₂.heap, slotsUsed := s₂.slotsUsed } : State).setVm s₂.vm).frames = .java g₀ :: r := hr
  rcases hq' with ⟨hqc, L, hfe, hL⟩ | ⟨q, rfl, E, ce, L, hx, hce, hcv, hcl, hW₂, hsm, hL⟩
  · obtain ⟨⟨v, rfl⟩, hW₂, e2, q2, q3, q4, q5, q6⟩ := id hfe
    have e3 : s₂ = ({ (U.calling g mk a).setFrames s₂.frames with heap := s₂.heap, slotsUsed := s₂.slotsUsed } : State).setVm s₂.vm := by
      have : s₂ = ({ s₂ with vm := (U.calling g mk a).vm } : State).setVm s₂.vm := rfl
      rw [e2] at this
      exact this
    obtain ⟨c₂, i₂, len₂, hc₂, hd₂, hf₂⟩ := hend
    have hW' : U.WarmedH s₂.vm := hW₂
    have hcc : c₂ = c := by
      have h1 : s₂.code? g.method = U.code? g.method := by
        rw [State.code?_eq, State.code?_eq, hW'.alike.method?]
      exact Option.some.inj (hc₂.symm.trans (h1.trans h.code))
    subst hcc
    have hlen : len₂ = len := by rw [hdg] at hd₂; cases hd₂; rfl
    subst hlen
    have hs₂ : s₂ = (({ U with heap := s₂.heap, slotsUsed := s₂.slotsUsed } : State).setVm s₂.vm).setTop { g with pc := g.pc + len₂, stack := v.toList ++ g.stack } := by
      refine e3.trans ?_
      rw [hf₂, State.calling_eq h.top, State.setFrames_setFrames, State.setTop_of_frames _ hr', hr]
      rfl
    have hsame : U.sameButNew ({ U with heap := s₂.heap, slotsUsed := s₂.slotsUsed } : State) L mc ms := by
      refine ⟨?_, q2, q3, q4, q5, q6⟩
      obtain ⟨t, ht, -⟩ := State.frames_cons hr
      show ({ U with heap := s₂.heap, slotsUsed := s₂.slotsUsed } : State) = { U.setFrames U.frames with heap := s₂.heap, slotsUsed := s₂.slotsUsed }
      rw [State.setFrames_self ht]
    subst hg
    refine Or.inl ⟨v, ⟨(({ U with heap := s₂.heap, slotsUsed := s₂.slotsUsed } : State).setVm s₂.vm), Ls ++ L, c0 + mc, s0 + ms⟩,
      ⟨X.admits, X.cas, X.clock, X.frames, X.room, X.hears, X.method, X.code, (X.here.setHeapUsed s₂.heap s₂.slotsUsed).setVm hW'.alike, X.tail, State.WarmedH.trans X.warmed hW', X.limits, X.bytes, X.same.trans (hsame.setVm s.vm)⟩,
      ⟨g, mk, s₂, L, rfl, rfl, hqc, rfl, hL, rfl, rfl⟩, ?_⟩
    show Steps p.tables e below _ ((({ U with heap := s₂.heap, slotsUsed := s₂.slotsUsed } : State).setVm s₂.vm).setTop { g with pc := g.pc + len₂, stack := v.toList ++ g.stack })
    rw [← hs₂]
    exact hsteps
  · obtain ⟨e2, q2, q3, q4, q5, q6⟩ := id hsm
    have e3 : s₂ = ({ (U.calling g mk a).setFrames s₂.frames with heap := s₂.heap, slotsUsed := s₂.slotsUsed } : State).setVm s₂.vm := by
      have : s₂ = ({ s₂ with vm := (U.calling g mk a).vm } : State).setVm s₂.vm := rfl
      rw [e2] at this
      exact this
    have hf₂ : s₂.frames = .throwing q :: .java g :: U.frames.tail := hend
    have hW' : U.WarmedH s₂.vm := hW₂
    have hs₂ : s₂ = ((({ U with heap := s₂.heap, slotsUsed := s₂.slotsUsed } : State).setVm s₂.vm).setTop g).pushFrame (.throwing q) := by
      refine e3.trans ?_
      rw [hf₂, State.calling_eq h.top, State.setFrames_setFrames, State.pushFrame, State.frames_setTop _ hr', State.setTop_of_frames _ hr', State.setFrames_setFrames, hr]
      rfl
    have hsame : U.sameButNew ({ U with heap := s₂.heap, slotsUsed := s₂.slotsUsed } : State) L mc ms := by
      refine ⟨?_, q2, q3, q4, q5, q6⟩
      obtain ⟨t, ht, -⟩ := State.frames_cons hr
      show ({ U with heap := s₂.heap, slotsUsed := s₂.slotsUsed } : State) = { U.setFrames U.frames with heap := s₂.heap, slotsUsed := s₂.slotsUsed }
      rw [State.setFrames_self ht]
    subst hg
    refine Or.inr ⟨q, ⟨(({ U with heap := s₂.heap, slotsUsed := s₂.slotsUsed } : State).setVm s₂.vm), Ls ++ L, c0 + mc, s0 + ms⟩,
      ⟨X.admits, X.cas, X.clock, X.frames, X.room, X.hears, X.method, X.code, (X.here.setHeapUsed s₂.heap s₂.slotsUsed).setVm hW'.alike, X.tail, State.WarmedH.trans X.warmed hW', X.limits, X.bytes, X.same.trans (hsame.setVm s.vm)⟩,
      ⟨g, mk, s₂, L, E, ce, rfl, rfl, hx, hce, hcv, hcl, rfl, hL, rfl, rfl⟩, ?_⟩
    show Steps p.tables e below _ (((({ U with heap := s₂.heap, slotsUsed := s₂.slotsUsed } : State).setVm s₂.vm).setTop g).pushFrame (.throwing q))
    rw [← hs₂]
    exact hsteps
end Payer
section Calls
variable {p : Program} {l : Launch} {e : Env} {R : Room} {s : State} {m : MethodId} {args : Array Value} {below : List Frame} {meth : Method} {c : Code} {T : State} {locs : List Loc} {cells slots : Nat}
theorem vx_callV (X : Stand p l e R s m args below meth c T locs cells slots) (hexec : p.tables.exec = Jvm.exec) {own C : String} {index : Nat} {y : MethodName} {bytes : ByteArray} {maxL : Nat} {ret : Option FieldType}
    (hown : s.vm.findClass own = some m.cls) (hlink : (Cond.methodLink own index y).before args s = true) (hinst : (Cond.instanceMethod y).before args s = true) (hsel : (Cond.selects C y y).before args s = true)
    (hcode : (Cond.code y bytes maxL ret).before args s = true) (hy : y.cls ≠ "java/lang/invoke/MethodHandle" ∧ y.cls ≠ "java/lang/invoke/VarHandle")
    {W9 : Nat} {Pre : Pt → Array Value → Prop} {Post : Pt → Array Value → Option Value → Pt → Prop} {PostX : Pt → Array Value → Addr → Pt → Prop} (hK : vx_Back l R p e below s args y 3 W9 Pre Post PostX)
    {b : Addr} {cellB : Cell} (hcell : T.heap[b]? = some cellB) (hobj : cellB.vm.isStatics = false) (hcls : s.vm.findClass C = some cellB.cls)
    {g : JFrame} (hg : g.method = m) (hsize : g.locals.size = c.maxLocals) {argsL rest : List Value} (hlen : ∀ sig, parseMethodDescriptor y.desc = some sig → argsL.length = sig.parameters.length)
    (hstack : g.stack = argsL.reverse ++ .ref b :: rest) (hW : 2 * g.monitorRoom + (rest.map fun v => v.category).sum ≤ W9) (hdg : decode c.code g.pc = .ok (.invokevirtual index, 3))
    (hpre : ∀ vm₁, s.WarmedH vm₁ → Pre ⟨T.setVm vm₁, locs, cells, slots⟩ (Value.ref b :: argsL).toArray) :
    (∃ (v : Option Value) (vm₁ : Vm) (B : Pt), s.WarmedH vm₁ ∧ Stand p l e R s m args below meth c B.U B.locs B.cells B.slots ∧ Post ⟨T.setVm vm₁, locs, cells, slots⟩ (Value.ref b :: argsL).toArray v B ∧
      ∀ target, Steps p.tables e below (B.U.setTop { g with pc := g.pc + 3, stack := v.toList ++ rest }) target → Steps p.tables e below (T.setTop g) target) ∨
    (∃ (q : Addr) (vm₁ : Vm) (B : Pt), s.WarmedH vm₁ ∧ Stand p l e R s m args below meth c B.U B.locs B.cells B.slots ∧ PostX ⟨T.setVm vm₁, locs, cells, slots⟩ (Value.ref b :: argsL).toArray q B ∧
      Steps p.tables e below (T.setTop g) ((B.U.setTop { g with stack := rest }).pushFrame (.throwing q))) := by
  obtain ⟨mk, methM, hnamed, hmethM, hstM, habM⟩ := Cond.instanceMethod_spec hinst
  obtain ⟨methM', cM, hmethM', -, -, -, -, -, -, hsigM⟩ := Cond.code_spec hnamed hcode
  cases hmethM.symm.trans hmethM'
  obtain ⟨c2, r2, m2, q1, q2, q3, q4, kP, hkP, hkPi⟩ := Cond.selects_spec hsel
  cases hcls.symm.trans q1
  cases (State.methodFound?_of_named hnamed hy).symm.trans q2
  cases hnamed.symm.trans q3
  have hselP : selectMethod e.platform s.vm cellB.cls mk = .method mk := by rw [Launch.admits_selectMethod X.admits]; exact q4
  obtain ⟨vm₁, X₁, hstep₁⟩ := X.invokevirtual hexec hown hlink hnamed hmethM hstM hkP hkPi hy (a := b) (cell := cellB) hcell
    (fun z h => by rw [h] at hobj; cases hobj) hselP hmethM habM hkP hkPi (g := g) hg (argsL := argsL) (rest := rest) (hlen _ hsigM) hstack hdg
  rcases hK m meth c ⟨T.setVm vm₁, locs, cells, slots⟩ { g with stack := rest } (.invokevirtual index) mk (Value.ref b :: argsL).toArray X₁ hg hsize hdg hW (X₁.named hnamed) (hpre vm₁ X₁.warmed) with ⟨v, B, X', hpost, hsteps⟩ | ⟨q, B, X', hpost, hsteps⟩
  · exact Or.inl ⟨v, vm₁, B, X₁.warmed, X', hpost, fun target h => hstep₁ _ fun acts => by rw [doInvoke_state]; exact hsteps.trans h⟩
  · exact Or.inr ⟨q, vm₁, B, X₁.warmed, X', hpost, hstep₁ _ fun acts => by rw [doInvoke_state]; exact hsteps⟩
theorem vx_callS (X : Stand p l e R s m args below meth c T locs cells slots) (hexec : p.tables.exec = Jvm.exec) {own : String} {index : Nat} {y : MethodName} {bytes : ByteArray} {maxL : Nat} {ret : Option FieldType}
    (hown : s.vm.findClass own = some m.cls) (hlink : (Cond.methodLink own index y).before args s = true) (hstat : (Cond.static y).before args s = true) (hinit : (Cond.initialized y.cls).before args s = true)
    (hcode : (Cond.code y bytes maxL ret).before args s = true) (hy : y.cls ≠ "java/lang/invoke/MethodHandle" ∧ y.cls ≠ "java/lang/invoke/VarHandle")
    {W9 : Nat} {Pre : Pt → Array Value → Prop} {Post : Pt → Array Value → Option Value → Pt → Prop} {PostX : Pt → Array Value → Addr → Pt → Prop} (hK : vx_Back l R p e below s args y 3 W9 Pre Post PostX)
    {g : JFrame} (hg : g.method = m) (hsize : g.locals.size = c.maxLocals) {argsL rest : List Value} (hlen : ∀ sig, parseMethodDescriptor y.desc = some sig → argsL.length = sig.parameters.length)
    (hstack : g.stack = argsL.reverse ++ rest) (hW : 2 * g.monitorRoom + (rest.map fun v => v.category).sum ≤ W9) (hdg : decode c.code g.pc = .ok (.invokestatic index, 3))
    (hpre : ∀ vm₁, s.WarmedH vm₁ → Pre ⟨T.setVm vm₁, locs, cells, slots⟩ argsL.toArray) :
    (∃ (v : Option Value) (vm₁ : Vm) (B : Pt), s.WarmedH vm₁ ∧ Stand p l e R s m args below meth c B.U B.locs B.cells B.slots ∧ Post ⟨T.setVm vm₁, locs, cells, slots⟩ argsL.toArray v B ∧
      ∀ target, Steps p.tables e below (B.U.setTop { g with pc := g.pc + 3, stack := v.toList ++ rest }) target → Steps p.tables e below (T.setTop g) target) ∨
    (∃ (q : Addr) (vm₁ : Vm) (B : Pt), s.WarmedH vm₁ ∧ Stand p l e R s m args below meth c B.U B.locs B.cells B.slots ∧ PostX ⟨T.setVm vm₁, locs, cells, slots⟩ argsL.toArray q B ∧
      Steps p.tables e below (T.setTop g) ((B.U.setTop { g with stack := rest }).pushFrame (.throwing q))) := by
  obtain ⟨mk, hnamed⟩ := Cond.code_named hcode
  obtain ⟨methM, cM, hmethM, -, -, -, -, -, -, hsigM⟩ := Cond.code_spec hnamed hcode
  have hstatic : methM.isStatic = true := Cond.static_spec hnamed hmethM hstat
  obtain ⟨kP, hkP, -⟩ := className_of_methodNamed hnamed
  have hinitP : kP.init = .initialized := Cond.initialized_spec (findClass_of_methodNamed hnamed) hkP hinit
  obtain ⟨vm₁, X₁, hstep₁⟩ := X.invokestatic hexec hown hlink hnamed hmethM hstatic hkP hinitP hy (g := g) hg (argsL := argsL) (rest := rest) (hlen _ hsigM) hstack hdg
  rcases hK m meth c ⟨T.setVm vm₁, locs, cells, slots⟩ { g with stack := rest } (.invokestatic index) mk argsL.toArray X₁ hg hsize hdg hW (X₁.named hnamed) (hpre vm₁ X₁.warmed) with ⟨v, B, X', hpost, hsteps⟩ | ⟨q, B, X', hpost, hsteps⟩
  · exact Or.inl ⟨v, vm₁, B, X₁.warmed, X', hpost, fun target h => hstep₁ _ fun acts => by rw [doInvoke_state]; exact hsteps.trans h⟩
  · exact Or.inr ⟨q, vm₁, B, X₁.warmed, X', hpost, hstep₁ _ fun acts => by rw [doInvoke_state]; exact hsteps⟩
end Calls
theorem vx_cls {s : State} {T : State} {vm₁ : Vm} {E : String} {k : ClassId} (hW : s.WarmedH vm₁) (h : (T.setVm vm₁).vm.findClass E = some k) : s.vm.findClass E = some k := by
  have h1 : vm₁.findClass E = some k := h
  rw [hW.alike.findClass] at h1
  exact h1
/-- the method's frame g, with q thrown over it -/
def vx_W (p : Program) (l : Launch) (e : Env) (R : Room) (s : State) (m : MethodId) (args : Array Value) (below : List Frame) (meth : Method) (c : Code) (H : Heap) (locs : List Loc) (cells slots : Nat) (Q : State → Prop) (g : JFrame) (q : Addr) : Prop :=
  ∀ T : State, T.heap = H → Stand p l e R s m args below meth c T locs cells slots → ∃ t, Steps p.tables e below ((T.setTop g).pushFrame (.throwing q)) t ∧ Q t
def vx_Run (p : Program) (l : Launch) (e : Env) (R : Room) (s : State) (m : MethodId) (args : Array Value) (below : List Frame) (meth : Method) (c : Code) (H : Heap) (locs : List Loc) (cells slots mc ms : Nat) (g : JFrame) (rest : List Value) (Qa : State → Outcome → State → Prop) (XC : String → State → State → Prop) (free : Addr → Prop) : Prop :=
  ∀ T : State, T.heap = H → Stand p l e R s m args below meth c T locs cells slots →
    (∃ (v : Option Value) (st₀ t T' : State) (L : List Loc), st₀.heap = H ∧ Stand p l e R s m args below meth c T' (locs ++ L) (cells + mc) (slots + ms) ∧ (∀ q ∈ L, free q.base) ∧ T'.heap = t.heap ∧ T'.vm = t.vm ∧ Qa st₀ (.returned v) t ∧
      Goes p e below T g T' { g with pc := g.pc + 3, stack := v.toList ++ rest }) ∨
    (∃ (q : Addr) (st₀ t T' : State) (L : List Loc) (E : String) (ce : Cell), st₀.heap = H ∧ Stand p l e R s m args below meth c T' (locs ++ L) (cells + mc) (slots + ms) ∧ (∀ z ∈ L, free z.base) ∧ T'.heap = t.heap ∧ T'.vm = t.vm ∧ XC E st₀ t ∧ t.heap[q]? = some ce ∧ ce.vm = .none ∧ s.vm.findClass E = some ce.cls ∧
      Steps p.tables e below (T.setTop g) ((T'.setTop { g with stack := rest }).pushFrame (.throwing q)))
def vx_X {S : Type} (px : S → Prop) (B : String → S → State → Prop) (A : Nat → Prop) : String → State → State → Prop := fun E st t => ∃ u : S, px u ∧ B E u t ∧ va_F A st t
section Runs
variable {p : Program} {l : Launch} {e : Env} {R : Room} {s : State} {m : MethodId} {args : Array Value} {below : List Frame} {meth : Method} {c : Code} {H : Heap} {locs : List Loc} {cells slots : Nat}
variable {y : MethodName} {bytes cc : ByteArray} {maxL nL mc ms n index : Nat} {ret : Option FieldType} {ws : List Cond} {rm : Room} {Pc : Array Value → State → Prop} {Qc : Array Value → State → Outcome → State → Prop} {XC : String → State → State → Prop} {free : Addr → Prop} {Ts : List Cond} {own C : String} {b : Addr} {As rest : List Value} {g : JFrame}
theorem vx_callBack (cb : CallB R s args own index y bytes maxL ret ws rm mc ms n) (hM : vx_Met l y ws rm Pc Qc XC mc ms free) (hbl : FrameBlind Pc) : vx_Back l R p e below s args y 3 8 (PreOf R mc ms Pc) (PostOf Qc mc ms free) (vx_Post XC mc ms free) := by
  obtain ⟨hrc, hrs, hfr, hlo, hws, hcw, -, hini, -⟩ := cb
  exact vx_back (bytes := bytes) (maxL := maxL) (ret := ret) hM hbl hrc hrs hfr hlo hws hcw (fun a' U hW => word_at hW (Or.inl (by first | rfl | simp [Cond.onTables, Cond.keeps, Cond.steady])) hini)
theorem vx_runV (S : CallFix p m c cc nL s args Ts own) (hM : vx_Met l y ws rm Pc Qc XC mc ms free) (cw : CallW R s args own C index y bytes maxL ret ws rm mc ms n) (hp : PreV s H C b Pc As)
    (hg : g.method = m) (hn : As.length = n) (hsize : g.locals.size = nL) (hstack : g.stack = As.reverse ++ .ref b :: rest) (hW : 2 * g.monitorRoom + (rest.map fun v => v.category).sum ≤ 8) (hdg : decode cc g.pc = .ok (.invokevirtual index, 3)) (hf : cells + mc ≤ R.cells ∧ slots + ms ≤ R.slots) :
    vx_Run p l e R s m args below meth c H locs cells slots mc ms g rest (Qc (Value.ref b :: As).toArray) XC free := by
  have hK : vx_Back l R p e below s args y 3 8 (PreOf R mc ms Pc) (PostOf Qc mc ms free) (vx_Post XC mc ms free) := vx_callBack cw.1 hM hp.1
  obtain ⟨⟨-, -, -, -, -, -, hcode, -, hy, hlen, hl⟩, hin, hse⟩ := cw
  obtain ⟨hx, hb, hml, ho, -⟩ := S
  obtain ⟨-, ⟨cellB, hcB, hoB, hclB⟩, hPc⟩ := hp
  intro T hT X
  rcases vx_callV X hx (C := C) (bytes := bytes) (maxL := maxL) (ret := ret) ho hl hin hse hcode hy hK (by rw [hT]; exact hcB) hoB hclB hg (hsize.trans hml.symm) (argsL := As) (rest := rest) (fun sig h => hn.trans (hlen sig h)) hstack hW (by rw [hb]; exact hdg)
    (fun vm₁ hW₁ => ⟨hf.1, hf.2, hPc (T.setVm vm₁) hT hW₁⟩) with ⟨v, vm₁, ⟨U', l2, c2, s2⟩, hW₁, X', ⟨g', mk, t, L, e1, e2, hq, h1, hL, h2, h3⟩, st⟩ | ⟨q, vm₁, ⟨U', l2, c2, s2⟩, hW₁, X', ⟨g', mk, t, L, E, ce, e1, e2, hq, hce, hcv, hcl, h1, hL, h2, h3⟩, st⟩
  · dsimp only [Pt.U, Pt.locs, Pt.cells, Pt.slots] at X' e1 e2 h1 h2 h3 st
    subst h1; subst h2; subst h3
    exact Or.inl ⟨v, (T.setVm vm₁).calling g' mk (Value.ref b :: As).toArray, t, U', L, hT, X', hL, e1, e2, hq, st⟩
  · dsimp only [Pt.U, Pt.locs, Pt.cells, Pt.slots] at X' e1 e2 h1 h2 h3 st hcl
    subst h1; subst h2; subst h3
    exact Or.inr ⟨q, (T.setVm vm₁).calling g' mk (Value.ref b :: As).toArray, t, U', L, E, ce, hT, X', hL, e1, e2, hq, hce, hcv, vx_cls hW₁ hcl, st⟩
theorem vx_runS (S : CallFix p m c cc nL s args Ts own) (hM : vx_Met l y ws rm Pc Qc XC mc ms free) (cw : CallB R s args own index y bytes maxL ret ws rm mc ms n ∧ (Cond.static y).before args s = true) (hp : PreS s H Pc As)
    (hg : g.method = m) (hn : As.length = n) (hsize : g.locals.size = nL) (hstack : g.stack = As.reverse ++ rest) (hW : 2 * g.monitorRoom + (rest.map fun v => v.category).sum ≤ 8) (hdg : decode cc g.pc = .ok (.invokestatic index, 3)) (hf : cells + mc ≤ R.cells ∧ slots + ms ≤ R.slots) :
    vx_Run p l e R s m args below meth c H locs cells slots mc ms g rest (Qc As.toArray) XC free := by
  have hK : vx_Back l R p e below s args y 3 8 (PreOf R mc ms Pc) (PostOf Qc mc ms free) (vx_Post XC mc ms free) := vx_callBack cw.1 hM hp.1
  obtain ⟨⟨-, -, -, -, -, -, hcode, hini, hy, hlen, hl⟩, hstt⟩ := cw
  obtain ⟨hx, hb, hml, ho, -⟩ := S
  intro T hT X
  rcases vx_callS X hx (bytes := bytes) (maxL := maxL) (ret := ret) ho hl hstt hini hcode hy hK hg (hsize.trans hml.symm) (argsL := As) (rest := rest) (fun sig h => hn.trans (hlen sig h)) hstack hW (by rw [hb]; exact hdg)
    (fun vm₁ hW₁ => ⟨hf.1, hf.2, hp.2 (T.setVm vm₁) hT hW₁⟩) with ⟨v, vm₁, ⟨U', l2, c2, s2⟩, hW₁, X', ⟨g', mk, t, L, e1, e2, hq, h1, hL, h2, h3⟩, st⟩ | ⟨q, vm₁, ⟨U', l2, c2, s2⟩, hW₁, X', ⟨g', mk, t, L, E, ce, e1, e2, hq, hce, hcv, hcl, h1, hL, h2, h3⟩, st⟩
  · dsimp only [Pt.U, Pt.locs, Pt.cells, Pt.slots] at X' e1 e2 h1 h2 h3 st
    subst h1; subst h2; subst h3
    exact Or.inl ⟨v, (T.setVm vm₁).calling g' mk As.toArray, t, U', L, hT, X', hL, e1, e2, hq, st⟩
  · dsimp only [Pt.U, Pt.locs, Pt.cells, Pt.slots] at X' e1 e2 h1 h2 h3 st hcl
    subst h1; subst h2; subst h3
    exact Or.inr ⟨q, (T.setVm vm₁).calling g' mk As.toArray, t, U', L, E, ce, hT, X', hL, e1, e2, hq, hce, hcv, vx_cls hW₁ hcl, st⟩
end Runs
section Rows
variable {p : Program} {l : Launch} {e : Env} {R : Room} {s : State} {m : MethodId} {args : Array Value} {below : List Frame} {meth : Method} {c : Code} {H : Heap} {locs : List Loc} {cells slots : Nat} {Q : State → Prop}
variable {mc ms : Nat} {free : Addr → Prop} {A0 A1 : Nat → Prop} {H0 : Heap} {a : Array Value} {pc : Nat} {ls : Array Slot} {st0 rest : List Value}
theorem vx_keep {st₀ t T' : State} {L : List Loc} (h0 : st₀.heap = H) (e1 : T'.heap = t.heap) (hS : va_S A0 H0 H locs) (hA : ∀ q, q < H.size → A1 q → A0 q) (hf : ∀ q, free q → A0 q) (hL : ∀ q ∈ L, free q.base) (hF : va_F A1 st₀ t) :
    H.size ≤ T'.heap.size ∧ (∀ q : Nat, q < H.size → ¬ A1 q → T'.heap[q]? = H[q]?) ∧ va_S A0 H0 T'.heap (locs ++ L) := by
  obtain ⟨hz, hk⟩ := hF
  rw [h0] at hz hk
  exact ⟨by rw [e1]; exact hz, fun q h1 h2 => by rw [e1]; exact hk q h1 h2,
    ⟨Nat.le_trans hS.1 (by rw [e1]; exact hz), fun q h1 h2 => by rw [e1, hk q (Nat.lt_of_lt_of_le h1 hS.1) (fun z => h2 (hA q (Nat.lt_of_lt_of_le h1 hS.1) z))]; exact hS.2.1 q h1 h2, fun q hq => by
      rcases List.mem_append.mp hq with h | h
      · exact hS.2.2 q h
      · exact hf _ (hL q h)⟩⟩
theorem vx_calli {S SX : Type} {post : Int32 → S → Prop} {px : SX → Prop} {B : S → State → Prop} {BX : String → SX → State → Prop} {AX : Nat → Prop} (hr : vx_Run p l e R s m args below meth c H locs cells slots mc ms (F0 m pc ls st0) rest (va_Qi post B A1 a) (vx_X px BX AX) free) (hS : va_S A0 H0 H locs) (hA : ∀ q, q < H.size → A1 q → A0 q) (hf : ∀ q, free q → A0 q) (hAX : ∀ q, q < H.size → AX q → A0 q)
    (kx : ∀ (E : String) (ce : Cell) (q9 : Addr) (u : SX) (t : State) (H1 : Heap) (locs1 : List Loc), t.heap = H1 → s.vm.Alike t.vm → px u → BX E u t → H.size ≤ H1.size → (∀ q : Nat, q < H.size → ¬ AX q → H1[q]? = H[q]?) → va_S A0 H0 H1 locs1 → H1[q9]? = some ce → ce.vm = .none → s.vm.findClass E = some ce.cls → vx_W p l e R s m args below meth c H1 locs1 (cells + mc) (slots + ms) Q (F0 m pc ls rest) q9)
    (kk : ∀ (r : Int32) (u : S) (t : State) (H1 : Heap) (locs1 : List Loc), t.heap = H1 → s.vm.Alike t.vm → post r u → B u t → H.size ≤ H1.size → (∀ q : Nat, q < H.size → ¬ A1 q → H1[q]? = H[q]?) → va_S A0 H0 H1 locs1 → W p l e R s m args below meth c H1 locs1 (cells + mc) (slots + ms) Q (F0 m (pc + 3) ls (.int r :: rest))) : W p l e R s m args below meth c H locs cells slots Q (F0 m pc ls st0) := by
  intro T hT X
  rcases hr T hT X with ⟨v, st₀, t, T', L, h0, X', hL, e1, e2, ⟨⟨r, u, hv, hp, hb⟩, hF⟩, st⟩ | ⟨q, st₀, t, T', L, E, ce, h0, X', hL, e1, e2, ⟨u, hp, hb, hF⟩, hce, hcv, hcl, st⟩
  · cases hv
    obtain ⟨k1, k2, k3⟩ := vx_keep h0 e1 hS hA hf hL hF
    obtain ⟨t2, a1, b1⟩ := kk r u t T'.heap (locs ++ L) e1.symm (by rw [← e2]; exact X'.warmed.alike) hp hb k1 k2 k3 T' rfl X'
    exact ⟨t2, st t2 a1, b1⟩
  · obtain ⟨k1, k2, k3⟩ := vx_keep h0 e1 hS hAX hf hL hF
    obtain ⟨t2, a1, b1⟩ := kx E ce q u t T'.heap (locs ++ L) e1.symm (by rw [← e2]; exact X'.warmed.alike) hp hb k1 k2 k3 (by rw [e1]; exact hce) hcv hcl T' rfl X'
    exact ⟨t2, st.trans a1, b1⟩
theorem vx_calll {S SX : Type} {post : Int64 → S → Prop} {px : SX → Prop} {B : S → State → Prop} {BX : String → SX → State → Prop} {AX : Nat → Prop} (hr : vx_Run p l e R s m args below meth c H locs cells slots mc ms (F0 m pc ls st0) rest (va_Ql post B A1 a) (vx_X px BX AX) free) (hS : va_S A0 H0 H locs) (hA : ∀ q, q < H.size → A1 q → A0 q) (hf : ∀ q, free q → A0 q) (hAX : ∀ q, q < H.size → AX q → A0 q)
    (kx : ∀ (E : String) (ce : Cell) (q9 : Addr) (u : SX) (t : State) (H1 : Heap) (locs1 : List Loc), t.heap = H1 → s.vm.Alike t.vm → px u → BX E u t → H.size ≤ H1.size → (∀ q : Nat, q < H.size → ¬ AX q → H1[q]? = H[q]?) → va_S A0 H0 H1 locs1 → H1[q9]? = some ce → ce.vm = .none → s.vm.findClass E = some ce.cls → vx_W p l e R s m args below meth c H1 locs1 (cells + mc) (slots + ms) Q (F0 m pc ls rest) q9)
    (kk : ∀ (r : Int64) (u : S) (t : State) (H1 : Heap) (locs1 : List Loc), t.heap = H1 → s.vm.Alike t.vm → post r u → B u t → H.size ≤ H1.size → (∀ q : Nat, q < H.size → ¬ A1 q → H1[q]? = H[q]?) → va_S A0 H0 H1 locs1 → W p l e R s m args below meth c H1 locs1 (cells + mc) (slots + ms) Q (F0 m (pc + 3) ls (.long r :: rest))) : W p l e R s m args below meth c H locs cells slots Q (F0 m pc ls st0) := by
  intro T hT X
  rcases hr T hT X with ⟨v, st₀, t, T', L, h0, X', hL, e1, e2, ⟨⟨r, u, hv, hp, hb⟩, hF⟩, st⟩ | ⟨q, st₀, t, T', L, E, ce, h0, X', hL, e1, e2, ⟨u, hp, hb, hF⟩, hce, hcv, hcl, st⟩
  · cases hv
    obtain ⟨k1, k2, k3⟩ := vx_keep h0 e1 hS hA hf hL hF
    obtain ⟨t2, a1, b1⟩ := kk r u t T'.heap (locs ++ L) e1.symm (by rw [← e2]; exact X'.warmed.alike) hp hb k1 k2 k3 T' rfl X'
    exact ⟨t2, st t2 a1, b1⟩
  · obtain ⟨k1, k2, k3⟩ := vx_keep h0 e1 hS hAX hf hL hF
    obtain ⟨t2, a1, b1⟩ := kx E ce q u t T'.heap (locs ++ L) e1.symm (by rw [← e2]; exact X'.warmed.alike) hp hb k1 k2 k3 (by rw [e1]; exact hce) hcv hcl T' rfl X'
    exact ⟨t2, st.trans a1, b1⟩
theorem vx_callf {S SX : Type} {post : UInt32 → S → Prop} {px : SX → Prop} {B : S → State → Prop} {BX : String → SX → State → Prop} {AX : Nat → Prop} (hr : vx_Run p l e R s m args below meth c H locs cells slots mc ms (F0 m pc ls st0) rest (va_Qf post B A1 a) (vx_X px BX AX) free) (hS : va_S A0 H0 H locs) (hA : ∀ q, q < H.size → A1 q → A0 q) (hf : ∀ q, free q → A0 q) (hAX : ∀ q, q < H.size → AX q → A0 q)
    (kx : ∀ (E : String) (ce : Cell) (q9 : Addr) (u : SX) (t : State) (H1 : Heap) (locs1 : List Loc), t.heap = H1 → s.vm.Alike t.vm → px u → BX E u t → H.size ≤ H1.size → (∀ q : Nat, q < H.size → ¬ AX q → H1[q]? = H[q]?) → va_S A0 H0 H1 locs1 → H1[q9]? = some ce → ce.vm = .none → s.vm.findClass E = some ce.cls → vx_W p l e R s m args below meth c H1 locs1 (cells + mc) (slots + ms) Q (F0 m pc ls rest) q9)
    (kk : ∀ (r : UInt32) (u : S) (t : State) (H1 : Heap) (locs1 : List Loc), t.heap = H1 → s.vm.Alike t.vm → post r u → B u t → H.size ≤ H1.size → (∀ q : Nat, q < H.size → ¬ A1 q → H1[q]? = H[q]?) → va_S A0 H0 H1 locs1 → W p l e R s m args below meth c H1 locs1 (cells + mc) (slots + ms) Q (F0 m (pc + 3) ls (.float r :: rest))) : W p l e R s m args below meth c H locs cells slots Q (F0 m pc ls st0) := by
  intro T hT X
  rcases hr T hT X with ⟨v, st₀, t, T', L, h0, X', hL, e1, e2, ⟨⟨r, u, hv, hp, hb⟩, hF⟩, st⟩ | ⟨q, st₀, t, T', L, E, ce, h0, X', hL, e1, e2, ⟨u, hp, hb, hF⟩, hce, hcv, hcl, st⟩
  · cases hv
    obtain ⟨k1, k2, k3⟩ := vx_keep h0 e1 hS hA hf hL hF
    obtain ⟨t2, a1, b1⟩ := kk r u t T'.heap (locs ++ L) e1.symm (by rw [← e2]; exact X'.warmed.alike) hp hb k1 k2 k3 T' rfl X'
    exact ⟨t2, st t2 a1, b1⟩
  · obtain ⟨k1, k2, k3⟩ := vx_keep h0 e1 hS hAX hf hL hF
    obtain ⟨t2, a1, b1⟩ := kx E ce q u t T'.heap (locs ++ L) e1.symm (by rw [← e2]; exact X'.warmed.alike) hp hb k1 k2 k3 (by rw [e1]; exact hce) hcv hcl T' rfl X'
    exact ⟨t2, st.trans a1, b1⟩
theorem vx_calld {S SX : Type} {post : UInt64 → S → Prop} {px : SX → Prop} {B : S → State → Prop} {BX : String → SX → State → Prop} {AX : Nat → Prop} (hr : vx_Run p l e R s m args below meth c H locs cells slots mc ms (F0 m pc ls st0) rest (va_Qd post B A1 a) (vx_X px BX AX) free) (hS : va_S A0 H0 H locs) (hA : ∀ q, q < H.size → A1 q → A0 q) (hf : ∀ q, free q → A0 q) (hAX : ∀ q, q < H.size → AX q → A0 q)
    (kx : ∀ (E : String) (ce : Cell) (q9 : Addr) (u : SX) (t : State) (H1 : Heap) (locs1 : List Loc), t.heap = H1 → s.vm.Alike t.vm → px u → BX E u t → H.size ≤ H1.size → (∀ q : Nat, q < H.size → ¬ AX q → H1[q]? = H[q]?) → va_S A0 H0 H1 locs1 → H1[q9]? = some ce → ce.vm = .none → s.vm.findClass E = some ce.cls → vx_W p l e R s m args below meth c H1 locs1 (cells + mc) (slots + ms) Q (F0 m pc ls rest) q9)
    (kk : ∀ (r : UInt64) (u : S) (t : State) (H1 : Heap) (locs1 : List Loc), t.heap = H1 → s.vm.Alike t.vm → post r u → B u t → H.size ≤ H1.size → (∀ q : Nat, q < H.size → ¬ A1 q → H1[q]? = H[q]?) → va_S A0 H0 H1 locs1 → W p l e R s m args below meth c H1 locs1 (cells + mc) (slots + ms) Q (F0 m (pc + 3) ls (.double r :: rest))) : W p l e R s m args below meth c H locs cells slots Q (F0 m pc ls st0) := by
  intro T hT X
  rcases hr T hT X with ⟨v, st₀, t, T', L, h0, X', hL, e1, e2, ⟨⟨r, u, hv, hp, hb⟩, hF⟩, st⟩ | ⟨q, st₀, t, T', L, E, ce, h0, X', hL, e1, e2, ⟨u, hp, hb, hF⟩, hce, hcv, hcl, st⟩
  · cases hv
    obtain ⟨k1, k2, k3⟩ := vx_keep h0 e1 hS hA hf hL hF
    obtain ⟨t2, a1, b1⟩ := kk r u t T'.heap (locs ++ L) e1.symm (by rw [← e2]; exact X'.warmed.alike) hp hb k1 k2 k3 T' rfl X'
    exact ⟨t2, st t2 a1, b1⟩
  · obtain ⟨k1, k2, k3⟩ := vx_keep h0 e1 hS hAX hf hL hF
    obtain ⟨t2, a1, b1⟩ := kx E ce q u t T'.heap (locs ++ L) e1.symm (by rw [← e2]; exact X'.warmed.alike) hp hb k1 k2 k3 (by rw [e1]; exact hce) hcv hcl T' rfl X'
    exact ⟨t2, st.trans a1, b1⟩
theorem vx_callv {S SX : Type} {post : S → Prop} {px : SX → Prop} {B : S → State → Prop} {BX : String → SX → State → Prop} {AX : Nat → Prop} (hr : vx_Run p l e R s m args below meth c H locs cells slots mc ms (F0 m pc ls st0) rest (va_Qv post B A1 a) (vx_X px BX AX) free) (hS : va_S A0 H0 H locs) (hA : ∀ q, q < H.size → A1 q → A0 q) (hf : ∀ q, free q → A0 q) (hAX : ∀ q, q < H.size → AX q → A0 q)
    (kx : ∀ (E : String) (ce : Cell) (q9 : Addr) (u : SX) (t : State) (H1 : Heap) (locs1 : List Loc), t.heap = H1 → s.vm.Alike t.vm → px u → BX E u t → H.size ≤ H1.size → (∀ q : Nat, q < H.size → ¬ AX q → H1[q]? = H[q]?) → va_S A0 H0 H1 locs1 → H1[q9]? = some ce → ce.vm = .none → s.vm.findClass E = some ce.cls → vx_W p l e R s m args below meth c H1 locs1 (cells + mc) (slots + ms) Q (F0 m pc ls rest) q9)
    (kk : ∀ (u : S) (t : State) (H1 : Heap) (locs1 : List Loc), t.heap = H1 → s.vm.Alike t.vm → post u → B u t → H.size ≤ H1.size → (∀ q : Nat, q < H.size → ¬ A1 q → H1[q]? = H[q]?) → va_S A0 H0 H1 locs1 → W p l e R s m args below meth c H1 locs1 (cells + mc) (slots + ms) Q (F0 m (pc + 3) ls (rest))) : W p l e R s m args below meth c H locs cells slots Q (F0 m pc ls st0) := by
  intro T hT X
  rcases hr T hT X with ⟨v, st₀, t, T', L, h0, X', hL, e1, e2, ⟨⟨u, hv, hp, hb⟩, hF⟩, st⟩ | ⟨q, st₀, t, T', L, E, ce, h0, X', hL, e1, e2, ⟨u, hp, hb, hF⟩, hce, hcv, hcl, st⟩
  · cases hv
    obtain ⟨k1, k2, k3⟩ := vx_keep h0 e1 hS hA hf hL hF
    obtain ⟨t2, a1, b1⟩ := kk u t T'.heap (locs ++ L) e1.symm (by rw [← e2]; exact X'.warmed.alike) hp hb k1 k2 k3 T' rfl X'
    exact ⟨t2, st t2 a1, b1⟩
  · obtain ⟨k1, k2, k3⟩ := vx_keep h0 e1 hS hAX hf hL hF
    obtain ⟨t2, a1, b1⟩ := kx E ce q u t T'.heap (locs ++ L) e1.symm (by rw [← e2]; exact X'.warmed.alike) hp hb k1 k2 k3 (by rw [e1]; exact hce) hcv hcl T' rfl X'
    exact ⟨t2, st.trans a1, b1⟩
/-- caught by the row x of this method's table; the rows ahead don't take it -/
theorem vx_catch {own name : String} {E : String} {ce : Cell} {q : Addr} (hown : s.vm.findClass own = some m.cls) (pre : List ExceptionTableEntry) (x : ExceptionTableEntry) (suf : List ExceptionTableEntry) (hsplit : c.exceptionTable.toList = pre ++ x :: suf)
    (hpass : ∀ z ∈ pre, covers z pc = false ∨ (z.catchType ≠ 0 ∧ ∃ nm : String, (Cond.classLink own z.catchType nm).before args s = true ∧ va_Nc E nm s)) (hx : covers x pc = true) (h0 : x.catchType ≠ 0)
    (hlink : (Cond.classLink own x.catchType name).before args s = true) (hcast : (Cond.castable E name).before args s = true) (hcell : H[q]? = some ce) (hv : ce.vm = .none) (hcl : s.vm.findClass E = some ce.cls)
    (kk : W p l e R s m args below meth c H locs cells slots Q (F0 m x.handlerPc ls [.ref q])) : vx_W p l e R s m args below meth c H locs cells slots Q (F0 m pc ls rest) q := by
  intro T hT X
  have hpl : e.platform.magicAccessors = ({} : Platform).magicAccessors := by rw [X.admits.platform]
  obtain ⟨c3, c4, hc3, hc4, hasg⟩ := Cond.castable_spec hcast
  cases Option.some.inj (hc3.symm.trans hcl)
  obtain ⟨c5, hc5, hcl5⟩ := Cond.classLink_spec hown hlink e.platform hpl
  cases Option.some.inj (hc4.symm.trans hc5)
  obtain ⟨vm', X', st⟩ := X.thenCaughtThrough q (g := F0 m pc ls rest) rfl (Steps.refl _) (by rw [hT]; exact hcell) (by rw [hv]; rfl) (by obtain ⟨k9, h9, -⟩ := Vm.findClass_spec hcl; exact ⟨k9, h9⟩) pre x suf hsplit
    (fun z hz => by
      rcases hpass z hz with h | ⟨hz0, nm, hl1, hn1⟩
      · exact Or.inl h
      · obtain ⟨c6, hc6, hcl6⟩ := Cond.classLink_spec hown hl1 e.platform hpl
        obtain ⟨a8, b8, h1, h2, h3⟩ := hn1
        cases Option.some.inj (h1.symm.trans hcl)
        cases Option.some.inj (h2.symm.trans hc6)
        exact Or.inr ⟨hz0, _, hcl6, h3⟩) hx (Or.inr ⟨h0, c4, hcl5, hasg⟩)
  obtain ⟨t, a1, b1⟩ := kk (T.setVm vm') hT X'
  exact ⟨t, st.trans a1, b1⟩
end Rows
section Ends
variable {p : Program} {l : Launch} {e : Env} {R : Room} {s : State} {m : MethodId} {args : Array Value} {below : List Frame} {meth : Method} {c : Code} {H : Heap} {locs : List Loc} {cells slots : Nat} {Q : State → Prop}
variable {mc ms : Nat} {free : Addr → Prop} {A0 A1 : Nat → Prop} {H0 : Heap} {a : Array Value} {ls : Array Slot} {st0 rest : List Value}
variable {Qc : Array Value → State → Outcome → State → Prop} {XC : String → State → State → Prop}
/-- what a body that may throw owes at its end -/
def vx_MQ (below : List Frame) (Qc : Array Value → State → Outcome → State → Prop) (XC : String → State → State → Prop) (a : Array Value) (s : State) (mc ms : Nat) (free : Addr → Prop) : State → Prop := fun t =>
  ∃ o, t.status = .running ∧ Ended t below o ∧ vx_Q Qc XC mc ms free a s o t
theorem vx_ret {g : JFrame} {mc ms : Nat} (k : W p l e R s m args below meth c H locs cells slots (MQ below Qc args s mc ms free) g) : W p l e R s m args below meth c H locs cells slots (vx_MQ below Qc XC args s mc ms free) g := by
  intro T hT X
  obtain ⟨t, a1, o, b1, b2, b3, b4⟩ := k T hT X
  exact ⟨t, a1, o, b1, b2, Or.inl ⟨b3, b4⟩⟩
/-- not caught here: it goes on to the caller -/
theorem vx_widen {g : JFrame} {q : Addr} {k n : Nat} (h1 : cells ≤ k) (h2 : slots ≤ n) (kk : vx_W p l e R s m args below meth c H locs k n Q g q) : vx_W p l e R s m args below meth c H locs cells slots Q g q := fun T hT X => kk T hT (stand_widen X h1 h2)
theorem vx_out {pc : Nat} {E : String} {ce : Cell} {q : Addr} {mc ms : Nat} (hout : ∀ x ∈ c.exceptionTable.toList, covers x pc = false) (hlocks : meth.locks = false) (hcell : H[q]? = some ce) (hv : ce.vm = .none) (hcl : s.vm.findClass E = some ce.cls)
    (hx : ∀ t : State, t.heap = H → s.vm.Alike t.vm → XC E s t) (hf : ∀ z ∈ locs, free z.base) (hc : cells ≤ mc) (hs : slots ≤ ms) :
    vx_W p l e R s m args below meth c H locs cells slots (vx_MQ below Qc XC args s mc ms free) (F0 m pc ls rest) q := by
  intro T hT X
  obtain ⟨st1, hrun, hend, hW, hsm⟩ := X.leaveThrown q (g := F0 m pc ls rest) rfl rfl rfl hout hlocks
  have hcell9 : (T.setFrames (.throwing q :: below)).heap[q]? = some ce := by
    show T.heap[q]? = some ce
    rw [hT]; exact hcell
  exact ⟨_, st1, .threw q, hrun, hend, Or.inr ⟨q, rfl, E, ce, locs, hx _ hT hW.alike, hcell9, hv, hcl, hW, hsm.mono hc hs, hf⟩⟩
theorem vx_frame {U : State} {k n : Nat} (h : s.sameButNew ({ U with vm := s.vm } : State) locs k n) : s.heap.size ≤ U.heap.size ∧ ∀ q : Nat, q < s.heap.size → (∀ z ∈ locs, z.base ≠ q) → U.heap[q]? = s.heap[q]? := by
  obtain ⟨-, h2, -, -, -, h6⟩ := h
  refine ⟨h2, fun q hq hz => ?_⟩
  obtain ⟨c9, e1, e2, e3, e4⟩ := h6 q _ (Array.getElem?_eq_getElem hq)
  have hs : c9.slots = (s.heap[q]).slots := Array.ext_getElem? fun i => e4 i fun hm => hz _ hm rfl
  have h9 : c9 = s.heap[q] := by
    rw [hs] at e2
    exact e2
  have e5 : U.heap[q]? = some c9 := e1
  rw [e5, h9, Array.getElem?_eq_getElem hq]
/-- the words of a throw but the four that speak of the heap -/
def vx_no (w : Cond) : Bool := decide (w ≠ .isRef (.static Bundle.tN "UNASSIGNED_STACK" Bundle.steD)) && decide (w ≠ .isRef (.static Bundle.tN "SUPPRESSED_SENTINEL" Bundle.listD)) && decide (w ≠ .laysStatic Bundle.tN "UNASSIGNED_STACK" Bundle.steD) && decide (w ≠ .laysStatic Bundle.tN "SUPPRESSED_SENTINEL" Bundle.listD)
def vx_at0 (own : String) (ic : Nat) (X : String) (names : List String) : List Cond := (Bundle.ownAtoms0 own ic X names).filter vx_no
def vx_atS (own : String) (ic : Nat) (X : String) (names : List String) : List Cond := (Bundle.ownAtoms own ic X names).filter vx_no
/-- a word that the tables alone decide, or a good one -/
def vx_ot (w : Cond) : Bool := w.onTables || goodWord w
theorem vx_ot_at {args a' : Array Value} {s U : State} {w : Cond} (hW : s.WarmedH U.vm) (hvm : s.vm = U.vm) (hg : vx_ot w = true) (h : w.before args s = true) : w.before a' U = true := by
  simp only [vx_ot, Bool.or_eq_true] at hg
  rcases hg with hg | hg
  · exact va_tabs hg hvm h
  · exact word_at hW (good_of_word hg) h
/-- a list's words: the good ones out of the method's own list, the others by premises of their own -/
theorem vx_hat {args : Array Value} {s : State} {L B : List Cond} (h1 : ∀ w ∈ L.filter goodWord, w.before args s = true) (h2 : ∀ w ∈ L.filter (fun w => !goodWord w), w ∈ B) (h3 : ∀ w ∈ B, w.before args s = true) : ∀ w ∈ L, w.before args s = true := by
  intro w hw
  by_cases g : goodWord w = true
  · exact h1 w (List.mem_filter.mpr ⟨hw, g⟩)
  · refine h3 w (h2 w (List.mem_filter.mpr ⟨hw, ?_⟩))
    show (!goodWord w) = true
    cases hgw : goodWord w
    · rfl
    · exact absurd hgw g
theorem vx_c {args : Array Value} {s : State} {w : Cond} {B : List Cond} (h : w.before args s = true) (t : ∀ w ∈ B, w.before args s = true) : ∀ w' ∈ w :: B, w'.before args s = true := fun w' h' => (List.mem_cons.mp h').elim (fun e => by rw [e]; exact h) (t w')
theorem vx_n {args : Array Value} {s : State} : ∀ w ∈ ([] : List Cond), w.before args s = true := fun _ h => nomatch h
theorem vx_own {args : Array Value} {s : State} {L : List Cond} (h1 : ∀ w ∈ L.filter vx_no, w.before args s = true)
    (hU : (Cond.isRef (.static Bundle.tN "UNASSIGNED_STACK" Bundle.steD)).before args s = true) (hN : (Cond.isRef (.static Bundle.tN "SUPPRESSED_SENTINEL" Bundle.listD)).before args s = true)
    (lU : (Cond.laysStatic Bundle.tN "UNASSIGNED_STACK" Bundle.steD).before args s = true) (lN : (Cond.laysStatic Bundle.tN "SUPPRESSED_SENTINEL" Bundle.listD).before args s = true) : ∀ w ∈ L, w.before args s = true := by
  intro w hw
  by_cases e1 : w = .isRef (.static Bundle.tN "UNASSIGNED_STACK" Bundle.steD)
  · rw [e1]; exact hU
  · by_cases e2 : w = .isRef (.static Bundle.tN "SUPPRESSED_SENTINEL" Bundle.listD)
    · rw [e2]; exact hN
    · by_cases e3 : w = .laysStatic Bundle.tN "UNASSIGNED_STACK" Bundle.steD
      · rw [e3]; exact lU
      · by_cases e4 : w = .laysStatic Bundle.tN "SUPPRESSED_SENTINEL" Bundle.listD
        · rw [e4]; exact lN
        · exact h1 w (List.mem_filter.mpr ⟨hw, by unfold vx_no; rw [decide_eq_true e1, decide_eq_true e2, decide_eq_true e3, decide_eq_true e4]; rfl⟩)
/-- where a static field lies, its class's statics cell in H -/
def vx_L (C n d : String) (A : Nat → Prop) (U : State) (H : Heap) : Prop := ∃ (c : ClassId) (k : Class) (i : Nat) (f : Field) (a : Nat) (cell : Cell), U.vm.findClass C = some c ∧ U.fieldFound? C n d = some (c, k, i, f) ∧ f.isStatic = true ∧ k.statics = some a ∧ H[a]? = some cell ∧ cell.vm.isStatics = true ∧ cell.cls = c ∧ f.slot < cell.slots.size ∧ k.staticTypes[f.slot]? = some f.type ∧ ¬ A a
theorem vx_L.moved {C n d : String} {A : Nat → Prop} {u U : State} {H : Heap} (hvm : u.vm.Alike U.vm) (h : vx_L C n d A u H) : vx_L C n d A U H := by
  obtain ⟨c, k, i, f, a, cell, h1, h2, h3, h4, h5, h6, h7, h8, h9, h10⟩ := h
  obtain ⟨k', hi', he⟩ := State.fieldFound?_setVm hvm h2
  exact ⟨c, k', i, f, a, cell, by rw [hvm.findClass]; exact h1, hi', h3, by rw [he]; exact h4, h5, h6, h7, h8, by rw [he]; exact h9, h10⟩
theorem vx_L.kept {C n d : String} {A : Nat → Prop} {U : State} {H H1 : Heap} (h : vx_L C n d A U H) (hq : ∀ a : Nat, a < H.size → ¬ A a → H1[a]? = H[a]?) : vx_L C n d A U H1 := by
  obtain ⟨c, k, i, f, a, cell, h1, h2, h3, h4, h5, h6, h7, h8, h9, h10⟩ := h
  exact ⟨c, k, i, f, a, cell, h1, h2, h3, h4, by rw [hq a (Array.getElem?_eq_some_iff.mp h5).1 h10]; exact h5, h6, h7, h8, h9, h10⟩
theorem vx_L.narrow {C n d : String} {A B : Nat → Prop} {U : State} {H : Heap} (h : vx_L C n d A U H) (hAB : ∀ q, B q → A q) : vx_L C n d B U H := by
  obtain ⟨c, k, i, f, a, cell, h1, h2, h3, h4, h5, h6, h7, h8, h9, h10⟩ := h
  exact ⟨c, k, i, f, a, cell, h1, h2, h3, h4, h5, h6, h7, h8, h9, fun z => h10 (hAB _ z)⟩
theorem vx_L.word {C n d : String} {A : Nat → Prop} {s : State} {args : Array Value} (h : vx_L C n d A s s.heap) : (Cond.laysStatic C n d).before args s = true := by
  obtain ⟨c, k, i, f, a, cell, h1, h2, h3, h4, h5, h6, h7, h8, h9, -⟩ := h
  show (Cond.laysStatic C n d).holds args s none s [] = true
  exact Cond.laysStatic_of h1 h2 h3 h4 h5 h6 h7 h8 h9
/-- .. and what it holds: null or some reference -/
def vx_Zq (C n d : String) (A : Nat → Prop) (U : State) (H : Heap) : Prop := va_Zq C n d A U H ∧ vx_L C n d A U H
theorem vx_Zq.moved {C n d : String} {A : Nat → Prop} {u U : State} {H : Heap} (hvm : u.vm.Alike U.vm) (h : vx_Zq C n d A u H) : vx_Zq C n d A U H := ⟨va_Zq.moved hvm h.1, vx_L.moved hvm h.2⟩
theorem vx_Zq.kept {C n d : String} {A : Nat → Prop} {U : State} {H H1 : Heap} (h : vx_Zq C n d A U H) (hq : ∀ a : Nat, a < H.size → ¬ A a → H1[a]? = H[a]?) : vx_Zq C n d A U H1 := ⟨va_Zq.kept h.1 hq, vx_L.kept h.2 hq⟩
theorem vx_Zq.narrow {C n d : String} {A B : Nat → Prop} {U : State} {H : Heap} (h : vx_Zq C n d A U H) (hAB : ∀ q, B q → A q) : vx_Zq C n d B U H := ⟨va_Zq.narrow h.1 hAB, vx_L.narrow h.2 hAB⟩
theorem vx_Zqof {args : Array Value} {s : State} {C n d : String} {A : Nat → Prop} (hl : (Cond.laysStatic C n d).before args s = true) (hini : (Cond.initialized C).before args s = true) (h : (Cond.isRef (.static C n d)).before args s = true) (hA : ∀ a : Nat, a < s.heap.size → ¬ A a) : vx_Zq C n d A s s.heap := by
  refine ⟨va_Zqof hl hini h hA, ?_⟩
  obtain ⟨c, k, i, f, a, cell, h1, h2, h3, h4, h5, h6, h7, h8, h9⟩ := Cond.laysStatic_spec hl
  exact ⟨c, k, i, f, a, cell, h1, h2, h3, h4, h5, h6, h7, h8, h9, hA a (Array.getElem?_eq_some_iff.mp h5).1⟩
theorem vx_isRef {C n d : String} {v : Value} {A : Nat → Prop} {s : State} {args : Array Value} (h : va_Z C n d v A s s.heap) (hv : v.isRef = true) : (Cond.isRef (.static C n d)).before args s = true := by
  obtain ⟨cf, kf, fi, f, a, cell, h1, h2, h3, h4, h5, h6, h7, -⟩ := h
  have he : (Term.static C n d).eval args s none [] s = some v := by
    simp [Term.eval, State.fieldNamed?, h1, h2, h4, h5, h6, h7]
  simp only [Cond.before, Cond.holds, Cond.value, he]
  cases v <;> simp_all [Value.isRef]
theorem vx_isRefq {C n d : String} {A : Nat → Prop} {s : State} {args : Array Value} (h : va_Zq C n d A s s.heap) : (Cond.isRef (.static C n d)).before args s = true := by
  rcases h with h | ⟨t, h⟩
  · exact vx_isRef h rfl
  · exact vx_isRef h rfl
/-- the same frame, seen from here: as if the method were called anew in this heap -/
theorem vx_rebase {T : State} (X : Stand p l e R s m args below meth c T locs cells slots) {R' : Room} (hf : R'.frames ≤ R.frames) (hl : R'.locals ≤ R.locals) (hc : cells + R'.cells ≤ R.cells) (hs : slots + R'.slots ≤ R.slots) :
    Stand p l e R' ((T.setVm s.vm).setFrames (.invoking m args :: below)) m args below meth c T [] 0 0 := by
  have htop : (T.setVm s.vm).topJava?.isSome := X.here.top
  have hF : ((T.setVm s.vm).setFrames (.invoking m args :: below)).frames = .invoking m args :: below := State.frames_setFrames _ (State.cur_lt_of_top htop)
  obtain ⟨g₀, hg0⟩ := Option.isSome_iff_exists.mp htop
  obtain ⟨r, hr⟩ := State.topJava?_eq_some.mp hg0
  have hl9 : e.platform.stackLimits (T.setVm s.vm).me = e.platform.stackLimits s.me := X.limits
  have hb9 : (T.setVm s.vm).me.stackBytes = s.me.stackBytes := X.bytes
  refine ⟨X.admits, X.cas, X.clock, hF, ?_, X.hears, X.method, X.code, X.here, X.tail, X.warmed, ?_, ?_, ?_⟩
  · have h := X.room
    have hU : ((T.setVm s.vm).setFrames (.invoking m args :: below)).localsInUse = s.localsInUse := by
      rw [State.localsInUse_invoking hF (meth := meth) (c := c) X.method X.code, State.localsInUse_invoking X.frames X.method X.code]
    simp only [State.hasRoom, Bool.and_eq_true, decide_eq_true_eq] at h ⊢
    obtain ⟨⟨⟨⟨h1, h2, h3, h4, h5, h6⟩, h7⟩, h8⟩, h9⟩ := h
    rw [X.frames, List.length_cons] at h2 h3
    have q1 := X.heapSize
    have q2 := X.used
    simp only [hF, hU, List.length_cons, State.stackLimits_setFrames, State.stackBytes_setFrames, hl9, hb9]
    refine ⟨⟨⟨⟨by omega, by omega, by omega, by omega, by omega, h6⟩, ?_⟩, ?_⟩, X.book⟩
    · show T.heap.size + R'.cells ≤ e.platform.maxCells
      omega
    · show T.slotsUsed + R'.slots ≤ e.platform.maxSlots
      omega
  · rw [State.stackLimits_setFrames]; rfl
  · rw [State.stackBytes_setFrames]; rfl
  · refine ⟨?_, Nat.le_refl _, Nat.le_refl _, ?_, ?_, fun a c9 h9 => ⟨c9, h9, rfl, rfl, fun _ _ => rfl⟩⟩
    · obtain ⟨t, ht, -⟩ := State.frames_cons hr
      show T.setVm s.vm = { ((T.setVm s.vm).setFrames (.invoking m args :: below)).setFrames (T.setVm s.vm).frames with heap := T.heap, slotsUsed := T.slotsUsed }
      rw [State.setFrames_setFrames, State.setFrames_self ht]
      rfl
    · show T.slotsUsed = T.slotsUsed + ((T.heap.toList.drop T.heap.size).map (·.slots.size)).sum
      rw [List.drop_eq_nil_of_le (Nat.le_of_eq Array.length_toList)]
      rfl
    · show ((T.heap.toList.drop T.heap.size).map (·.slots.size)).sum ≤ 0
      rw [List.drop_eq_nil_of_le (Nat.le_of_eq Array.length_toList)]
      exact Nat.le_refl _
/-- 'throw new E()': new; dup; invokespecial; athrow -/
theorem vx_throw0 {cc : ByteArray} {pc : Nat} (hexec : p.tables.exec = Jvm.exec) (hb : c.code = cc) (hl : l.stackTraces = false) {own cls : String} {names : List String} {ik ic mc ms : Nat} {A : Nat → Prop}
    (hown : s.vm.findClass own = some m.cls) (hcls : Bundle.fit cls = true) (hnames : ∀ n ∈ names, Bundle.fit n = true)
    (hk : (Cond.classLink own ik cls).before args s = true) (hini : (Cond.initialized cls).before args s = true) (hat : ∀ w ∈ vx_at0 own ic cls names, w.before args s = true)
    (hgood : ∀ w ∈ Cond.classLink own ik cls :: Cond.initialized cls :: vx_at0 own ic cls names, vx_ot w = true)
    (hU : vx_Zq Bundle.tN "UNASSIGNED_STACK" Bundle.steD A s s.heap) (hN : vx_Zq Bundle.tN "SUPPRESSED_SENTINEL" Bundle.listD A s s.heap) (hS : va_S A s.heap H locs) (hsize : ls.size = c.maxLocals)
    (d0 : decode cc pc = .ok (.new ik, 3)) (d3 : decode cc (pc + 3) = .ok (.dup, 1)) (d4 : decode cc (pc + 4) = .ok (.invokespecial ic, 3)) (d7 : decode cc (pc + 7) = .ok (.athrow, 1))
    (hout : ∀ x ∈ c.exceptionTable.toList, covers x (pc + 7) = false)
    (hRframes : names.length + 3 < R.frames) (hRlocals : (rest.map fun v => v.category).sum + (13 * (names.length + 1) + 42) ≤ R.locals) (hRcells : cells + 1 ≤ R.cells) (hRslots : slots + 6 ≤ R.slots) (hlocks : meth.locks = false)
    (hx : ∀ t : State, s.vm.Alike t.vm → H.size ≤ t.heap.size → (∀ q : Nat, q < H.size → t.heap[q]? = H[q]?) → XC cls s t)
    (hf : ∀ z ∈ locs, free z.base) (hc : cells + 1 ≤ mc) (hs : slots + 6 ≤ ms) :
    W p l e R s m args below meth c H locs cells slots (vx_MQ below Qc XC args s mc ms free) (F0 m pc ls rest) := by
  intro T hT X
  have htr : e.platform.stackTraces = false := (show e.platform.stackTraces = l.stackTraces by rw [X.admits.platform]).trans hl
  have Y := vx_rebase X (R' := { frames := R.frames, locals := R.locals, cells := 1, slots := 6 }) (Nat.le_refl _) (Nat.le_refl _) hRcells hRslots
  obtain ⟨s', hA⟩ : ∃ z, z = (T.setVm s.vm).setFrames (.invoking m args :: below) := ⟨_, rfl⟩
  rw [← hA] at Y
  have hvm : s'.vm = s.vm := by rw [hA]; rfl
  have hhp : s'.heap = H := by rw [hA]; exact hT
  have hW0 : s.WarmedH s'.vm := by rw [hvm]; exact State.WarmedH.refl s
  have hat' : ∀ w ∈ vx_at0 own ic cls names, w.before args s' = true := fun w hw => vx_ot_at hW0 hvm.symm (hgood w (List.mem_cons_of_mem _ (List.mem_cons_of_mem _ hw))) (hat w hw)
  have hk' : (Cond.classLink own ik cls).before args s' = true := vx_ot_at hW0 hvm.symm (hgood _ List.mem_cons_self) hk
  have hini' : (Cond.initialized cls).before args s' = true := vx_ot_at hW0 hvm.symm (hgood _ (List.mem_cons_of_mem _ List.mem_cons_self)) hini
  have hU' : vx_Zq Bundle.tN "UNASSIGNED_STACK" Bundle.steD A s' s'.heap := by rw [hhp]; exact vx_Zq.moved hW0.alike (hU.kept hS.2.1)
  have hN' : vx_Zq Bundle.tN "SUPPRESSED_SENTINEL" Bundle.listD A s' s'.heap := by rw [hhp]; exact vx_Zq.moved hW0.alike (hN.kept hS.2.1)
  have h : ∀ w ∈ Bundle.ownAtoms0 own ic cls names, w.before args s' = true := vx_own hat' (vx_isRefq hU'.1) (vx_isRefq hN'.1) hU'.2.word hN'.2.word
  have hown' : s'.vm.findClass own = some m.cls := by rw [hvm]; exact hown
  have hins : (Cond.instantiable cls 6).before args s' = true := h _ (by simp [Bundle.ownAtoms0])
  obtain ⟨vm₁, cX, kX, hfX, hkX, -, -, X₁, st1⟩ := Y.newCold hexec (own := own) (C := cls) (index := ik) (n := 6) hown' hk' hins hini'
    (g := F0 m pc ls rest) rfl (by rw [hb]; exact d0) (Nat.le_refl _) (Nat.le_refl _)
  generalize hT1 : (T.setVm vm₁).pushCell { cls := cX, slots := kX.instanceTypes.map defaultValue, vm := .none } = T1 at X₁ st1
  have hcat : (Value.ref T.heap.size).category = 1 := rfl
  have hcellA : T1.heap[T.heap.size]? = some (freshCell cX kX) := by rw [← hT1]; exact State.heap_pushCell_size _ _
  have d3' : decode c.code (pc + 3) = .ok (.dup, 1) := by rw [hb]; exact d3
  obtain ⟨U, hsteps, hrun, hend, hW, hsame, ce, hce, hO⟩ := X₁.ctorThrow0 hexec htr (own := own) (cls := cls) (names := names) (ic := ic) hown' hcls hnames h (fun x hx => nomatch hx) hfX hkX hcellA (by rw [hhp, hT]; exact Nat.le_refl _)
    (g := { method := m, pc := pc + 4, locals := ls, stack := .ref T.heap.size :: .ref T.heap.size :: rest, locked := none }) rfl hsize rfl rfl (rest := rest) rfl
    (by rw [hb]; exact d4) (by rw [hb]; exact d7) hout hRframes (by simp only [List.map_cons, List.sum_cons, hcat]; omega) hlocks
  obtain ⟨f1, f2⟩ := vx_frame hsame
  rw [hhp] at f1 f2
  have hWs : s.WarmedH U.vm := State.WarmedH.trans hW0 hW
  have hcl : s.vm.findClass cls = some ce.cls := by
    have h9 := hO.cls
    rw [hvm] at h9
    exact h9
  have hall : s.sameButNew ({ U with vm := s.vm } : State) locs mc ms := by
    subst hA
    obtain ⟨e1, e2⟩ := hsame
    rw [State.setFrames_setFrames] at e1
    have h2 : (T.setVm s.vm).sameButNew ({ U with vm := s.vm } : State) [] (0 + 1) (0 + 6) := ⟨e1, e2⟩
    have h3 := X.same.trans h2
    rw [List.append_nil] at h3
    exact h3.mono hc hs
  refine ⟨U, ?_, .threw T.heap.size, hrun, hend, Or.inr ⟨T.heap.size, rfl, cls, ce, locs, hx U hWs.alike f1 (fun q hq => f2 q hq (fun z hz => nomatch hz)), hce, hO.vm, hcl, hWs, hall, hf⟩⟩
  refine st1 _ ?_
  show Steps p.tables e below (T1.setTop { method := m, pc := pc + 3, locals := ls, stack := .ref T.heap.size :: rest, locked := none }) _
  jvm_step X₁.here [X₁.here.top, hexec, d3', Value.category]
  exact hsteps
/-- 'throw new E("text")': new; dup; ldc; invokespecial; athrow -/
theorem vx_throwS {cc : ByteArray} {pc : Nat} (hexec : p.tables.exec = Jvm.exec) (hb : c.code = cc) (hl : l.stackTraces = false) {own cls text : String} {names : List String} {ik is ic mc ms sa : Nat} {A : Nat → Prop}
    (hown : s.vm.findClass own = some m.cls) (hcls : Bundle.fit cls = true) (hnames : ∀ n ∈ names, Bundle.fit n = true)
    (hk : (Cond.classLink own ik cls).before args s = true) (hini : (Cond.initialized cls).before args s = true) (hstr : vk_R own is text sa s) (hat : ∀ w ∈ vx_atS own ic cls names, w.before args s = true)
    (hgood : ∀ w ∈ Cond.classLink own ik cls :: Cond.initialized cls :: vx_atS own ic cls names, vx_ot w = true)
    (hU : vx_Zq Bundle.tN "UNASSIGNED_STACK" Bundle.steD A s s.heap) (hN : vx_Zq Bundle.tN "SUPPRESSED_SENTINEL" Bundle.listD A s s.heap) (hS : va_S A s.heap H locs) (hsize : ls.size = c.maxLocals)
    (d0 : decode cc pc = .ok (.new ik, 3)) (d3 : decode cc (pc + 3) = .ok (.dup, 1)) (d4 : decode cc (pc + 4) = .ok (.ldc is, 2)) (d6 : decode cc (pc + 6) = .ok (.invokespecial ic, 3)) (d9 : decode cc (pc + 9) = .ok (.athrow, 1))
    (hout : ∀ x ∈ c.exceptionTable.toList, covers x (pc + 9) = false)
    (hRframes : names.length + 3 < R.frames) (hRlocals : (rest.map fun v => v.category).sum + (13 * (names.length + 1) + 43) ≤ R.locals) (hRcells : cells + 1 ≤ R.cells) (hRslots : slots + 6 ≤ R.slots) (hlocks : meth.locks = false)
    (hx : ∀ t : State, s.vm.Alike t.vm → H.size ≤ t.heap.size → (∀ q : Nat, q < H.size → t.heap[q]? = H[q]?) → XC cls s t)
    (hf : ∀ z ∈ locs, free z.base) (hc : cells + 1 ≤ mc) (hs : slots + 6 ≤ ms) :
    W p l e R s m args below meth c H locs cells slots (vx_MQ below Qc XC args s mc ms free) (F0 m pc ls rest) := by
  intro T hT X
  have htr : e.platform.stackTraces = false := (show e.platform.stackTraces = l.stackTraces by rw [X.admits.platform]).trans hl
  have Y := vx_rebase X (R' := { frames := R.frames, locals := R.locals, cells := 1, slots := 6 }) (Nat.le_refl _) (Nat.le_refl _) hRcells hRslots
  obtain ⟨s', hA⟩ : ∃ z, z = (T.setVm s.vm).setFrames (.invoking m args :: below) := ⟨_, rfl⟩
  rw [← hA] at Y
  have hvm : s'.vm = s.vm := by rw [hA]; rfl
  have hhp : s'.heap = H := by rw [hA]; exact hT
  have hW0 : s.WarmedH s'.vm := by rw [hvm]; exact State.WarmedH.refl s
  have hat' : ∀ w ∈ vx_atS own ic cls names, w.before args s' = true := fun w hw => vx_ot_at hW0 hvm.symm (hgood w (List.mem_cons_of_mem _ (List.mem_cons_of_mem _ hw))) (hat w hw)
  have hk' : (Cond.classLink own ik cls).before args s' = true := vx_ot_at hW0 hvm.symm (hgood _ List.mem_cons_self) hk
  have hini' : (Cond.initialized cls).before args s' = true := vx_ot_at hW0 hvm.symm (hgood _ (List.mem_cons_of_mem _ List.mem_cons_self)) hini
  have hU' : vx_Zq Bundle.tN "UNASSIGNED_STACK" Bundle.steD A s' s'.heap := by rw [hhp]; exact vx_Zq.moved hW0.alike (hU.kept hS.2.1)
  have hN' : vx_Zq Bundle.tN "SUPPRESSED_SENTINEL" Bundle.listD A s' s'.heap := by rw [hhp]; exact vx_Zq.moved hW0.alike (hN.kept hS.2.1)
  have h : ∀ w ∈ Bundle.ownAtoms own ic cls names, w.before args s' = true := vx_own hat' (vx_isRefq hU'.1) (vx_isRefq hN'.1) hU'.2.word hN'.2.word
  have hown' : s'.vm.findClass own = some m.cls := by rw [hvm]; exact hown
  have hins : (Cond.instantiable cls 6).before args s' = true := h _ (by simp [Bundle.ownAtoms])
  obtain ⟨vm₁, cX, kX, hfX, hkX, -, -, X₁, st1⟩ := Y.newCold hexec (own := own) (C := cls) (index := ik) (n := 6) hown' hk' hins hini'
    (g := F0 m pc ls rest) rfl (by rw [hb]; exact d0) (Nat.le_refl _) (Nat.le_refl _)
  generalize hT1 : (T.setVm vm₁).pushCell { cls := cX, slots := kX.instanceTypes.map defaultValue, vm := .none } = T1 at X₁ st1
  have hcat : (Value.ref T.heap.size).category = 1 := rfl
  have hcellA : T1.heap[T.heap.size]? = some (freshCell cX kX) := by rw [← hT1]; exact State.heap_pushCell_size _ _
  have d3' : decode c.code (pc + 3) = .ok (.dup, 1) := by rw [hb]; exact d3
  have d4' : decode c.code (pc + 4) = .ok (.ldc is, 2) := by rw [hb]; exact d4
  have hstr' : vk_R own is text sa s' := vk_R.warm hW0 hstr
  obtain ⟨U, hsteps, hrun, hend, hW, hsame, ce, hce, hO⟩ := X₁.ctorThrowS hexec htr (own := own) (cls := cls) (names := names) (ic := ic) hown' hcls hnames h (fun x hx => nomatch hx) hfX hkX hcellA (by rw [hhp, hT]; exact Nat.le_refl _) (msg := .ref sa) rfl
    (g := { method := m, pc := pc + 6, locals := ls, stack := .ref sa :: .ref T.heap.size :: .ref T.heap.size :: rest, locked := none }) rfl hsize rfl rfl (rest := rest) rfl
    (by rw [hb]; exact d6) (by rw [hb]; exact d9) hout hRframes (by simp only [List.map_cons, List.sum_cons, hcat]; omega) hlocks
  obtain ⟨f1, f2⟩ := vx_frame hsame
  rw [hhp] at f1 f2
  have hWs : s.WarmedH U.vm := State.WarmedH.trans hW0 hW
  have hcl : s.vm.findClass cls = some ce.cls := by
    have h9 := hO.cls
    rw [hvm] at h9
    exact h9
  have hall : s.sameButNew ({ U with vm := s.vm } : State) locs mc ms := by
    subst hA
    obtain ⟨e1, e2⟩ := hsame
    rw [State.setFrames_setFrames] at e1
    have h2 : (T.setVm s.vm).sameButNew ({ U with vm := s.vm } : State) [] (0 + 1) (0 + 6) := ⟨e1, e2⟩
    have h3 := X.same.trans h2
    rw [List.append_nil] at h3
    exact h3.mono hc hs
  refine ⟨U, ?_, .threw T.heap.size, hrun, hend, Or.inr ⟨T.heap.size, rfl, cls, ce, locs, hx U hWs.alike f1 (fun q hq => f2 q hq (fun z hz => nomatch hz)), hce, hO.vm, hcl, hWs, hall, hf⟩⟩
  refine st1 _ ?_
  show Steps p.tables e below (T1.setTop { method := m, pc := pc + 3, locals := ls, stack := .ref T.heap.size :: rest, locked := none }) _
  jvm_step X₁.here [X₁.here.top, hexec, d3', Value.category]
  exact X₁.ldcString hexec (own := own) (text := text) (index := is) (a := sa) hown' hstr'.1 hstr'.2
    (g := { method := m, pc := pc + 4, locals := ls, stack := .ref T.heap.size :: .ref T.heap.size :: rest, locked := none }) rfl d4' _ hsteps
/-- 'throw new E("text")', the text by a wide index -/
theorem vx_throwSW {cc : ByteArray} {pc : Nat} (hexec : p.tables.exec = Jvm.exec) (hb : c.code = cc) (hl : l.stackTraces = false) {own cls text : String} {names : List String} {ik is ic mc ms sa : Nat} {A : Nat → Prop}
    (hown : s.vm.findClass own = some m.cls) (hcls : Bundle.fit cls = true) (hnames : ∀ n ∈ names, Bundle.fit n = true)
    (hk : (Cond.classLink own ik cls).before args s = true) (hini : (Cond.initialized cls).before args s = true) (hstr : vk_R own is text sa s) (hat : ∀ w ∈ vx_atS own ic cls names, w.before args s = true)
    (hgood : ∀ w ∈ Cond.classLink own ik cls :: Cond.initialized cls :: vx_atS own ic cls names, vx_ot w = true)
    (hU : vx_Zq Bundle.tN "UNASSIGNED_STACK" Bundle.steD A s s.heap) (hN : vx_Zq Bundle.tN "SUPPRESSED_SENTINEL" Bundle.listD A s s.heap) (hS : va_S A s.heap H locs) (hsize : ls.size = c.maxLocals)
    (d0 : decode cc pc = .ok (.new ik, 3)) (d3 : decode cc (pc + 3) = .ok (.dup, 1)) (d4 : decode cc (pc + 4) = .ok (.ldc_w is, 3)) (d7 : decode cc (pc + 7) = .ok (.invokespecial ic, 3)) (d10 : decode cc (pc + 10) = .ok (.athrow, 1))
    (hout : ∀ x ∈ c.exceptionTable.toList, covers x (pc + 10) = false)
    (hRframes : names.length + 3 < R.frames) (hRlocals : (rest.map fun v => v.category).sum + (13 * (names.length + 1) + 43) ≤ R.locals) (hRcells : cells + 1 ≤ R.cells) (hRslots : slots + 6 ≤ R.slots) (hlocks : meth.locks = false)
    (hx : ∀ t : State, s.vm.Alike t.vm → H.size ≤ t.heap.size → (∀ q : Nat, q < H.size → t.heap[q]? = H[q]?) → XC cls s t)
    (hf : ∀ z ∈ locs, free z.base) (hc : cells + 1 ≤ mc) (hs : slots + 6 ≤ ms) :
    W p l e R s m args below meth c H locs cells slots (vx_MQ below Qc XC args s mc ms free) (F0 m pc ls rest) := by
  intro T hT X
  have htr : e.platform.stackTraces = false := (show e.platform.stackTraces = l.stackTraces by rw [X.admits.platform]).trans hl
  have Y := vx_rebase X (R' := { frames := R.frames, locals := R.locals, cells := 1, slots := 6 }) (Nat.le_refl _) (Nat.le_refl _) hRcells hRslots
  obtain ⟨s', hA⟩ : ∃ z, z = (T.setVm s.vm).setFrames (.invoking m args :: below) := ⟨_, rfl⟩
  rw [← hA] at Y
  have hvm : s'.vm = s.vm := by rw [hA]; rfl
  have hhp : s'.heap = H := by rw [hA]; exact hT
  have hW0 : s.WarmedH s'.vm := by rw [hvm]; exact State.WarmedH.refl s
  have hat' : ∀ w ∈ vx_atS own ic cls names, w.before args s' = true := fun w hw => vx_ot_at hW0 hvm.symm (hgood w (List.mem_cons_of_mem _ (List.mem_cons_of_mem _ hw))) (hat w hw)
  have hk' : (Cond.classLink own ik cls).before args s' = true := vx_ot_at hW0 hvm.symm (hgood _ List.mem_cons_self) hk
  have hini' : (Cond.initialized cls).before args s' = true := vx_ot_at hW0 hvm.symm (hgood _ (List.mem_cons_of_mem _ List.mem_cons_self)) hini
  have hU' : vx_Zq Bundle.tN "UNASSIGNED_STACK" Bundle.steD A s' s'.heap := by rw [hhp]; exact vx_Zq.moved hW0.alike (hU.kept hS.2.1)
  have hN' : vx_Zq Bundle.tN "SUPPRESSED_SENTINEL" Bundle.listD A s' s'.heap := by rw [hhp]; exact vx_Zq.moved hW0.alike (hN.kept hS.2.1)
  have h : ∀ w ∈ Bundle.ownAtoms own ic cls names, w.before args s' = true := vx_own hat' (vx_isRefq hU'.1) (vx_isRefq hN'.1) hU'.2.word hN'.2.word
  have hown' : s'.vm.findClass own = some m.cls := by rw [hvm]; exact hown
  have hins : (Cond.instantiable cls 6).before args s' = true := h _ (by simp [Bundle.ownAtoms])
  obtain ⟨vm₁, cX, kX, hfX, hkX, -, -, X₁, st1⟩ := Y.newCold hexec (own := own) (C := cls) (index := ik) (n := 6) hown' hk' hins hini'
    (g := F0 m pc ls rest) rfl (by rw [hb]; exact d0) (Nat.le_refl _) (Nat.le_refl _)
  generalize hT1 : (T.setVm vm₁).pushCell { cls := cX, slots := kX.instanceTypes.map defaultValue, vm := .none } = T1 at X₁ st1
  have hcat : (Value.ref T.heap.size).category = 1 := rfl
  have hcellA : T1.heap[T.heap.size]? = some (freshCell cX kX) := by rw [← hT1]; exact State.heap_pushCell_size _ _
  have d3' : decode c.code (pc + 3) = .ok (.dup, 1) := by rw [hb]; exact d3
  have d4' : decode c.code (pc + 4) = .ok (.ldc_w is, 3) := by rw [hb]; exact d4
  have hstr' : vk_R own is text sa s' := vk_R.warm hW0 hstr
  obtain ⟨U, hsteps, hrun, hend, hW, hsame, ce, hce, hO⟩ := X₁.ctorThrowS hexec htr (own := own) (cls := cls) (names := names) (ic := ic) hown' hcls hnames h (fun x hx => nomatch hx) hfX hkX hcellA (by rw [hhp, hT]; exact Nat.le_refl _) (msg := .ref sa) rfl
    (g := { method := m, pc := pc + 7, locals := ls, stack := .ref sa :: .ref T.heap.size :: .ref T.heap.size :: rest, locked := none }) rfl hsize rfl rfl (rest := rest) rfl
    (by rw [hb]; exact d7) (by rw [hb]; exact d10) hout hRframes (by simp only [List.map_cons, List.sum_cons, hcat]; omega) hlocks
  obtain ⟨f1, f2⟩ := vx_frame hsame
  rw [hhp] at f1 f2
  have hWs : s.WarmedH U.vm := State.WarmedH.trans hW0 hW
  have hcl : s.vm.findClass cls = some ce.cls := by
    have h9 := hO.cls
    rw [hvm] at h9
    exact h9
  have hall : s.sameButNew ({ U with vm := s.vm } : State) locs mc ms := by
    subst hA
    obtain ⟨e1, e2⟩ := hsame
    rw [State.setFrames_setFrames] at e1
    have h2 : (T.setVm s.vm).sameButNew ({ U with vm := s.vm } : State) [] (0 + 1) (0 + 6) := ⟨e1, e2⟩
    have h3 := X.same.trans h2
    rw [List.append_nil] at h3
    exact h3.mono hc hs
  refine ⟨U, ?_, .threw T.heap.size, hrun, hend, Or.inr ⟨T.heap.size, rfl, cls, ce, locs, hx U hWs.alike f1 (fun q hq => f2 q hq (fun z hz => nomatch hz)), hce, hO.vm, hcl, hWs, hall, hf⟩⟩
  refine st1 _ ?_
  show Steps p.tables e below (T1.setTop { method := m, pc := pc + 3, locals := ls, stack := .ref T.heap.size :: rest, locked := none }) _
  jvm_step X₁.here [X₁.here.top, hexec, d3', Value.category]
  exact X₁.ldcStringW hexec (own := own) (text := text) (index := is) (a := sa) hown' hstr'.1 hstr'.2
    (g := { method := m, pc := pc + 4, locals := ls, stack := .ref T.heap.size :: .ref T.heap.size :: rest, locked := none }) rfl d4' _ hsteps
end Ends
section Bodies
variable {l : Launch}
theorem vx_ofW {y : MethodName} {ws ws' : List Cond} {rm : Room} {Pc : Array Value → State → Prop} {Qc : Array Value → State → Outcome → State → Prop} {XC : String → State → State → Prop} {mc ms : Nat} {free : Addr → Prop} {cc : ByteArray} {maxL : Nat} {ret : Option FieldType}
    (hy : plainName y.cls = true) (hw : ws = Cond.code y cc maxL ret :: ws')
    (body : ∀ p e s m args below meth c s₁, BodyLoose p l y (headSpec ws rm) cc maxL ret e s m args below meth c s₁ → c.maxLocals = maxL → (∀ x ∈ c.exceptionTable.toList, False) → Pc args s →
      W p l e (headSpec ws rm).room s m args below meth c s.heap [] 0 0 (vx_MQ below Qc XC args s mc ms free) (entryFrame m args maxL)) : vx_Met l y ws rm Pc Qc XC mc ms free := by
  refine MetFree.of_bodyS (code := cc) (maxLocals := maxL) (ret := ret) hy ?_ ?_
  · intro args s m h hn
    obtain ⟨meth, c, h1, h2, h3, h4, h5, h6, -, -⟩ := Cond.code_spec hn (atoms_spec (ws := ws) h _ (by rw [hw]; exact List.mem_cons_self))
    exact ⟨meth, c, h1, h2, h3, h4, h5, h6⟩
  · intro p e s m args below meth c s₁ B hml hP _
    have hh0 : s₁.heap = s.heap := by rw [B.state]; rfl
    have ht : ∀ x ∈ c.exceptionTable.toList, False := by
      obtain ⟨meth9, c9, h1, h2, -, -, -, -, h7, -⟩ := Cond.code_spec B.named (atoms_spec (ws := ws) B.pre _ (by rw [hw]; exact List.mem_cons_self))
      cases Option.some.inj (h1.symm.trans B.method)
      cases Option.some.inj (h2.symm.trans (Stand.of_body B).code)
      intro x hx
      rw [Array.isEmpty_iff.mp h7] at hx
      cases hx
    obtain ⟨t, a1, o, b1, b2, b3⟩ := body p e s m args below meth c s₁ B hml ht hP s₁ hh0 (Stand.of_body B)
    exact ⟨t, o, a1, b1, b2, b3⟩
/-- the table of a body with handlers -/
theorem vx_table {p : Program} {x y : MethodName} {S : Spec} {cc bytes : ByteArray} {maxL maxL' : Nat} {ret ret' : Option FieldType} {e : Env} {s s₁ : State} {m : MethodId} {args : Array Value} {below : List Frame} {meth : Method} {c : Code} {hh : List (Nat × Nat × Nat × Nat)}
    (B : BodyLoose p l y S cc maxL ret e s m args below meth c s₁) (h : (Cond.codeWith y bytes maxL' ret' hh).before args s = true) : c.exceptionTable.toList = tableOf hh := by
  obtain ⟨m9, meth9, c9, hn9, h1, h2, -, -, h6, -⟩ := Cond.codeWith_spec h
  cases Option.some.inj (hn9.symm.trans B.named)
  cases Option.some.inj (h1.symm.trans B.method)
  cases Option.some.inj (h2.symm.trans (Stand.of_body B).code)
  rw [← h6, table_eq]
end Bodies
end VXA
/-! ===== END ===== -/
/-! ===== BEGIN a static call of a method with an exception table ===== -/
section VXS
variable {p : Program} {l : Launch} {e : Env} {R : Room} {s : State} {m : MethodId} {args : Array Value} {below : List Frame} {meth : Method} {c : Code} {T : State} {H : Heap} {locs : List Loc} {cells slots : Nat}
abbrev vx_CSW (R : Room) (s : State) (args : Array Value) (own : String) (index : Nat) (y : MethodName) (bytes : ByteArray) (maxL : Nat) (ret : Option FieldType) (hh : List (Nat × Nat × Nat × Nat)) (ws : List Cond) (rm : Room) (mc ms n : Nat) : Prop :=
  (rm.cells = mc ∧ rm.slots = ms ∧ rm.frames + 1 ≤ R.frames ∧ 8 + (maxL + 11) + rm.locals ≤ R.locals ∧ (∀ w ∈ ws, ∀ (a' : Array Value) (U : State), s.WarmedH U.vm → w.before a' U = true) ∧ Cond.codeWith y bytes maxL ret hh ∈ ws) ∧
  (Cond.codeWith y bytes maxL ret hh).before args s = true ∧ (Cond.initialized y.cls).before args s = true ∧ (y.cls ≠ "java/lang/invoke/MethodHandle" ∧ y.cls ≠ "java/lang/invoke/VarHandle") ∧
  (∀ sig, parseMethodDescriptor y.desc = some sig → n = sig.parameters.length) ∧ (Cond.methodLink own index y).before args s = true ∧ (Cond.static y).before args s = true
theorem vx_cwSW {own : String} {index maxL mc ms : Nat} {y : MethodName} {bytes : ByteArray} {ret : Option FieldType} {hh : List (Nat × Nat × Nat × Nat)} {Ts ws ws' : List Cond} {rm : Room} (n : Nat) (ht : ∀ w ∈ Ts, w.before args s = true) (hT : GoodIn Ts (va_wsS own index y ws)) (hw : ws = Cond.codeWith y bytes maxL ret hh :: ws') (hrc : rm.cells = mc) (hrs : rm.slots = ms)
    (hd : y.cls ≠ "java/lang/invoke/MethodHandle" ∧ y.cls ≠ "java/lang/invoke/VarHandle" ∧ (parseMethodDescriptor y.desc).map (fun d => d.parameters.length) = some n) (hR : rm.frames + 1 ≤ R.frames ∧ 8 + (maxL + 11) + rm.locals ≤ R.locals) :
    vx_CSW R s args own index y bytes maxL ret hh ws rm mc ms n := by
  have ok : ∀ w ∈ va_wsS own index y ws, w.before args s = true := fun w h => ht w (hT w h).1
  have hG : GoodIn Ts ws := fun w h => hT w (by unfold va_wsS; exact List.mem_append_right _ h)
  have hc : Cond.codeWith y bytes maxL ret hh ∈ ws := by rw [hw]; exact List.mem_cons_self
  refine ⟨⟨hrc, hrs, hR.1, hR.2, pay_in ht hG, hc⟩, ht _ (hG _ hc).1, ok _ (by simp [va_wsS]), ⟨hd.1, hd.2.1⟩, fun sig h => ?_, ok _ (by simp [va_wsS]), ok _ (by simp [va_wsS])⟩
  have h2 := hd.2.2
  rw [h] at h2
  exact (Option.some.inj h2).symm
theorem vx_callSW (X : Stand p l e R s m args below meth c T locs cells slots) (hexec : p.tables.exec = Jvm.exec) {own : String} {index : Nat} {y : MethodName} {bytes : ByteArray} {maxL : Nat} {ret : Option FieldType} {hh : List (Nat × Nat × Nat × Nat)}
    (hown : s.vm.findClass own = some m.cls) (hlink : (Cond.methodLink own index y).before args s = true) (hstat : (Cond.static y).before args s = true) (hinit : (Cond.initialized y.cls).before args s = true)
    (hcode : (Cond.codeWith y bytes maxL ret hh).before args s = true) (hy : y.cls ≠ "java/lang/invoke/MethodHandle" ∧ y.cls ≠ "java/lang/invoke/VarHandle")
    {W9 : Nat} {Pre : Pt → Array Value → Prop} {Post : Pt → Array Value → Option Value → Pt → Prop} (hK : Back l R p e below s args y 3 W9 Pre Post)
    {g : JFrame} (hg : g.method = m) (hsize : g.locals.size = c.maxLocals) {argsL rest : List Value} (hlen : ∀ sig, parseMethodDescriptor y.desc = some sig → argsL.length = sig.parameters.length)
    (hstack : g.stack = argsL.reverse ++ rest) (hW : 2 * g.monitorRoom + (rest.map fun v => v.category).sum ≤ W9) (hdg : decode c.code g.pc = .ok (.invokestatic index, 3))
    (hpre : ∀ vm₁, s.WarmedH vm₁ → Pre ⟨T.setVm vm₁, locs, cells, slots⟩ argsL.toArray) :
    ∃ (v : Option Value) (vm₁ : Vm) (B : Pt), s.WarmedH vm₁ ∧ Stand p l e R s m args below meth c B.U B.locs B.cells B.slots ∧ Post ⟨T.setVm vm₁, locs, cells, slots⟩ argsL.toArray v B ∧
      ∀ target, Steps p.tables e below (B.U.setTop { g with pc := g.pc + 3, stack := v.toList ++ rest }) target → Steps p.tables e below (T.setTop g) target := by
  obtain ⟨mk, methM, cM, hnamed, hmethM, -, -, -, -, -, -, hsigM⟩ := Cond.codeWith_spec hcode
  have hstatic : methM.isStatic = true := Cond.static_spec hnamed hmethM hstat
  obtain ⟨kP, hkP, -⟩ := className_of_methodNamed hnamed
  have hinitP : kP.init = .initialized := Cond.initialized_spec (findClass_of_methodNamed hnamed) hkP hinit
  obtain ⟨vm₁, X₁, hstep₁⟩ := X.invokestatic hexec hown hlink hnamed hmethM hstatic hkP hinitP hy (g := g) hg (argsL := argsL) (rest := rest) (hlen _ hsigM) hstack hdg
  obtain ⟨v, B, X', hpost, hsteps⟩ := hK m meth c ⟨T.setVm vm₁, locs, cells, slots⟩ { g with stack := rest } (.invokestatic index) mk argsL.toArray X₁ hg hsize hdg hW (X₁.named hnamed) (hpre vm₁ X₁.warmed)
  exact ⟨v, vm₁, B, X₁.warmed, X', hpost, fun target h => hstep₁ _ fun acts => by rw [doInvoke_state]; exact hsteps.trans h⟩
theorem vx_runSW {y : MethodName} {bytes cc : ByteArray} {maxL nL mc ms n index : Nat} {ret : Option FieldType} {hh : List (Nat × Nat × Nat × Nat)} {ws : List Cond} {rm : Room} {Pc : Array Value → State → Prop} {Qc : Array Value → State → Outcome → State → Prop} {free : Addr → Prop} {Ts : List Cond} {own : String} {As rest : List Value} {g : JFrame}
    (S : CallFix p m c cc nL s args Ts own) (hM : Met l y ws rm Pc Qc mc ms free) (cw : vx_CSW R s args own index y bytes maxL ret hh ws rm mc ms n) (hp : PreS s H Pc As)
    (hg : g.method = m) (hn : As.length = n) (hsize : g.locals.size = nL) (hstack : g.stack = As.reverse ++ rest) (hW : 2 * g.monitorRoom + (rest.map fun v => v.category).sum ≤ 8) (hdg : decode cc g.pc = .ok (.invokestatic index, 3)) (hf : cells + mc ≤ R.cells ∧ slots + ms ≤ R.slots) :
    va_Run p l e R s m args below meth c H locs cells slots mc ms g rest (Qc As.toArray) (free) := by
  obtain ⟨⟨hrc, hrs, hfr, hlo, hws, hcw⟩, hcode, hini, hy, hlen, hl, hstt⟩ := cw
  have hK : Back l R p e below s args y 3 8 (PreOf R mc ms Pc) (PostOf Qc mc ms free) := va_backW (hh := hh) (bytes := bytes) (maxL := maxL) (ret := ret) hM hp.1 hrc hrs hfr hlo hws hcw (fun a' U hW => word_at hW (Or.inl (by first | rfl | simp [Cond.onTables, Cond.keeps, Cond.steady])) hini)
  obtain ⟨hx, hb, hml, ho, -⟩ := S
  intro T hT X
  obtain ⟨v, vm₁, ⟨U', l2, c2, s2⟩, hW₁, X', ⟨g', mk, t, L, e1, e2, hq, h1, hL, h2, h3⟩, st⟩ := vx_callSW X hx (hh := hh) (bytes := bytes) (maxL := maxL) (ret := ret) ho hl hstt hini hcode hy hK hg (hsize.trans hml.symm) (argsL := As) (rest := rest) (fun sig h => hn.trans (hlen sig h)) hstack hW (by rw [hb]; exact hdg)
    (fun vm₁ hW₁ => ⟨hf.1, hf.2, hp.2 (T.setVm vm₁) hT hW₁⟩)
  dsimp only [Pt.U, Pt.locs, Pt.cells, Pt.slots] at X' e1 e2 h1 h2 h3 st
  subst h1; subst h2; subst h3
  exact ⟨v, (T.setVm vm₁).calling g' mk As.toArray, t, U', L, hT, X', hL, e1, e2, hq, st⟩
/-- not caught here, past rows that name other classes: it goes on to the caller -/
theorem vx_outP {p : Program} {l : Launch} {e : Env} {R : Room} {s : State} {m : MethodId} {args : Array Value} {below : List Frame} {meth : Method} {c : Code} {H : Heap} {locs : List Loc} {cells slots : Nat} {free : Addr → Prop} {ls : Array Slot} {rest : List Value} {Qc : Array Value → State → Outcome → State → Prop} {XC : String → State → State → Prop}
    {pc : Nat} {own E : String} {ce : Cell} {q : Addr} {mc ms : Nat} (hown : s.vm.findClass own = some m.cls) (hlocks : meth.locks = false)
    (hpass : ∀ z ∈ c.exceptionTable.toList, covers z pc = false ∨ (z.catchType ≠ 0 ∧ ∃ nm : String, (Cond.classLink own z.catchType nm).before args s = true ∧ va_Nc E nm s)) (hcell : H[q]? = some ce) (hv : ce.vm = .none) (hcl : s.vm.findClass E = some ce.cls)
    (hx : ∀ t : State, t.heap = H → s.vm.Alike t.vm → XC E s t) (hf : ∀ z ∈ locs, free z.base) (hc : cells ≤ mc) (hs : slots ≤ ms) :
    vx_W p l e R s m args below meth c H locs cells slots (vx_MQ below Qc XC args s mc ms free) (F0 m pc ls rest) q := by
  intro T hT X
  have hpl : e.platform.magicAccessors = ({} : Platform).magicAccessors := by rw [X.admits.platform]
  obtain ⟨vm', hW', X', st⟩ := X.outThrough hlocks q (g := F0 m pc ls rest) rfl rfl rfl (cell := ce) (by rw [hT]; exact hcell) (by rw [hv]; rfl)
    (by obtain ⟨k9, h9, -⟩ := Vm.findClass_spec hcl; exact ⟨k9, h9⟩) (fun z hz => by
      rcases hpass z hz with h | ⟨hz0, nm, hl1, hn1⟩
      · exact Or.inl h
      · obtain ⟨c6, hc6, hcl6⟩ := Cond.classLink_spec hown hl1 e.platform hpl
        obtain ⟨a8, b8, h1, h2, h3⟩ := hn1
        cases Option.some.inj (h1.symm.trans hcl)
        cases Option.some.inj (h2.symm.trans hc6)
        exact Or.inr ⟨hz0, _, hcl6, h3⟩)
  obtain ⟨g₀, hfr⟩ := X'.frames_eq
  have hcell9 : ((T.setVm vm').setFrames (.throwing q :: below)).heap[q]? = some ce := by
    show T.heap[q]? = some ce
    rw [hT]; exact hcell
  have hend : Ended ((T.setVm vm').setFrames (.throwing q :: below)) below (.threw q) := State.frames_setFrames _ (State.cur_lt_of_frames hfr)
  refine ⟨(T.setVm vm').setFrames (.throwing q :: below), ?_, .threw q, X'.here.running, hend, Or.inr ⟨q, rfl, E, ce, locs, hx _ hT (X'.ends _).1.alike, hcell9, hv, hcl, (X'.ends _).1, (X'.ends _).2.mono hc hs, hf⟩⟩
  rw [X.pushThrowing_eq]
  exact st
/-- a thing of a world lies in the heap -/
theorem vx_lt {D : va_G} {cl : List vw_C} {ws : va_W} {H1 : Heap} (h : va_P D cl ws H1) {k : Nat} {q : Nat × va_E} (hk : ws[k]? = some q) : q.1 < H1.size := (h k q hk).lt
end VXS
/-! ===== END ===== -/
/-! ===== BEGIN methods with a table of their own: called by a name, returning or throwing ===== -/
section VXH
/-! vx_backW, vx_callVX, vx_callSX, vx_callVW, vx_runVW, vx_runVX, vx_runSX, vx_ofWH follow the same proofs as their sisters above (Free/Laws.lean, Shelf42/LK1.lean); vx_outP calls Shelf42/NT130.lean (outThrough). -/
section
variable {l : Launch} {R : Room} {p : Program} {e : Env} {below : List Frame} {s : State} {sargs : Array Value} {y : MethodName} {len W9 : Nat}
theorem vx_backW {ws : List Cond} {rm : Room} {Pc : Array Value → State → Prop} {Qc : Array Value → State → Outcome → State → Prop} {XC : String → State → State → Prop} {mc ms : Nat} {free : Addr → Prop} {bytes : ByteArray} {maxL : Nat} {ret : Option FieldType} {hh : List (Nat × Nat × Nat × Nat)}
    (hM : vx_Met l y ws rm Pc Qc XC mc ms free) (hblind : FrameBlind Pc) (hrc : rm.cells = mc) (hrs : rm.slots = ms)
    (hframes : rm.frames + 1 ≤ R.frames) (hlocals : W9 + (maxL + 11) + rm.locals ≤ R.locals)
    (hws : ∀ w ∈ ws, ∀ a' U, s.WarmedH U.vm → w.before a' U = true) (hcode : Cond.codeWith y bytes maxL ret hh ∈ ws) (hinit : ∀ a' U, s.WarmedH U.vm → (Cond.initialized y.cls).before a' U = true) :
    vx_Back l R p e below s sargs y len W9 (PreOf R mc ms Pc) (PostOf Qc mc ms free) (vx_Post XC mc ms free) := by
  intro m meth c A g ig mk a X hg hsize hdg hW hn hp
  have h1 : (headSpec ws rm).pre.before a A.U = true := atoms_intro fun w hw => hws w hw _ _ X.warmed
  have h2 : (Cond.codeWith y bytes maxL ret hh).before a A.U = true := hws _ hcode _ _ X.warmed
  have h3 : (Cond.initialized y.cls).before a A.U = true := hinit _ _ X.warmed
  have h4 : A.cells + (headSpec ws rm).room.cells ≤ R.cells := by rw [show (headSpec ws rm).room.cells = mc from hrc]; exact hp.1
  have h5 : A.slots + (headSpec ws rm).room.slots ≤ R.slots := by rw [show (headSpec ws rm).room.slots = ms from hrs]; exact hp.2.1
  have hPc : Pc a (A.U.calling g mk a) := hblind _ _ _ _ hp.2.2
  obtain ⟨U, Ls, c0, s0⟩ := A
  dsimp only [Pt.U, Pt.locs, Pt.cells, Pt.slots] at h1 h2 h3 h4 h5 X hn hPc ⊢
  obtain ⟨m9, methY, cY, hn9, hmY, hcY, -, hlY, -⟩ := Cond.codeWith_spec h2
  cases Option.some.inj (hn9.symm.trans hn)
  obtain ⟨kY, hkY, -⟩ := className_of_methodNamed hn
  have hinitY : kY.init = .initialized := Cond.initialized_spec (findClass_of_methodNamed hn) hkY h3
  have h : At U g.method c below := by rw [hg]; exact X.here
  have hlocals9 : W9 + (maxL + 11) + (headSpec ws rm).room.locals ≤ R.locals := hlocals
  have happ : (headSpec ws rm).appliesLoose y e.platform (U.calling g mk a) = true :=
    Spec.appliesLoose_calling (g := g) h hdg hn hkY hinitY
      (X.room_calling (g := g) (R' := (headSpec ws rm).room) hsize hmY hcY hframes (by rw [hlY]; omega) h4 h5) h1
  obtain ⟨mid, hmid⟩ := h.above
  have hfr : (U.setTop g).frames = (.java g :: mid) ++ below := by rw [State.frames_setTop' g h.top, hmid]; rfl
  obtain ⟨o, s₂, hsteps, -, hend, hq⟩ := Steps.callFree hM p X.admits X.cas X.clock (acts := []) hfr happ hPc trivial
  have hq' : vx_Q Qc XC mc ms free a (U.calling g mk a) o s₂ := hq
  rw [State.frames_setTop' g h.top] at hend
  obtain ⟨g₀, hg0⟩ := Option.isSome_iff_exists.mp h.top
  obtain ⟨r, hr⟩ := State.topJava?_eq_some.mp hg0
  have hr' : (({ U with heap := s₂.heap, slotsUsed := s₂.slotsUsed } : State).setVm s₂.vm).frames = .java g₀ :: r := hr
  rcases hq' with ⟨hqc, L, hfe, hL⟩ | ⟨q, rfl, E, ce, L, hx, hce, hcv, hcl, hW₂, hsm, hL⟩
  · obtain ⟨⟨v, rfl⟩, hW₂, e2, q2, q3, q4, q5, q6⟩ := id hfe
    have e3 : s₂ = ({ (U.calling g mk a).setFrames s₂.frames with heap := s₂.heap, slotsUsed := s₂.slotsUsed } : State).setVm s₂.vm := by
      have : s₂ = ({ s₂ with vm := (U.calling g mk a).vm } : State).setVm s₂.vm := rfl
      rw [e2] at this
      exact this
    obtain ⟨c₂, i₂, len₂, hc₂, hd₂, hf₂⟩ := hend
    have hW' : U.WarmedH s₂.vm := hW₂
    have hcc : c₂ = c := by
      have h1 : s₂.code? g.method = U.code? g.method := by
        rw [State.code?_eq, State.code?_eq, hW'.alike.method?]
      exact Option.some.inj (hc₂.symm.trans (h1.trans h.code))
    subst hcc
    have hlen : len₂ = len := by rw [hdg] at hd₂; cases hd₂; rfl
    subst hlen
    have hs₂ : s₂ = (({ U with heap := s₂.heap, slotsUsed := s₂.slotsUsed } : State).setVm s₂.vm).setTop { g with pc := g.pc + len₂, stack := v.toList ++ g.stack } := by
      refine e3.trans ?_
      rw [hf₂, State.calling_eq h.top, State.setFrames_setFrames, State.setTop_of_frames _ hr', hr]
      rfl
    have hsame : U.sameButNew ({ U with heap := s₂.heap, slotsUsed := s₂.slotsUsed } : State) L mc ms := by
      refine ⟨?_, q2, q3, q4, q5, q6⟩
      obtain ⟨t, ht, -⟩ := State.frames_cons hr
      show ({ U with heap := s₂.heap, slotsUsed := s₂.slotsUsed } : State) = { U.setFrames U.frames with heap := s₂.heap, slotsUsed := s₂.slotsUsed }
      rw [State.setFrames_self ht]
    subst hg
    refine Or.inl ⟨v, ⟨(({ U with heap := s₂.heap, slotsUsed := s₂.slotsUsed } : State).setVm s₂.vm), Ls ++ L, c0 + mc, s0 + ms⟩,
      ⟨X.admits, X.cas, X.clock, X.frames, X.room, X.hears, X.method, X.code, (X.here.setHeapUsed s₂.heap s₂.slotsUsed).setVm hW'.alike, X.tail, State.WarmedH.trans X.warmed hW', X.limits, X.bytes, X.same.trans (hsame.setVm s.vm)⟩,
      ⟨g, mk, s₂, L, rfl, rfl, hqc, rfl, hL, rfl, rfl⟩, ?_⟩
    show Steps p.tables e below _ ((({ U with heap := s₂.heap, slotsUsed := s₂.slotsUsed } : State).setVm s₂.vm).setTop { g with pc := g.pc + len₂, stack := v.toList ++ g.stack })
    rw [← hs₂]
    exact hsteps
  · obtain ⟨e2, q2, q3, q4, q5, q6⟩ := id hsm
    have e3 : s₂ = ({ (U.calling g mk a).setFrames s₂.frames with heap := s₂.heap, slotsUsed := s₂.slotsUsed } : State).setVm s₂.vm := by
      have : s₂ = ({ s₂ with vm := (U.calling g mk a).vm } : State).setVm s₂.vm := rfl
      rw [e2] at this
      exact this
    have hf₂ : s₂.frames = .throwing q :: .java g :: U.frames.tail := hend
    have hW' : U.WarmedH s₂.vm := hW₂
    have hs₂ : s₂ = ((({ U with heap := s₂.heap, slotsUsed := s₂.slotsUsed } : State).setVm s₂.vm).setTop g).pushFrame (.throwing q) := by
      refine e3.trans ?_
      rw [hf₂, State.calling_eq h.top, State.setFrames_setFrames, State.pushFrame, State.frames_setTop _ hr', State.setTop_of_frames _ hr', State.setFrames_setFrames, hr]
      rfl
    have hsame : U.sameButNew ({ U with heap := s₂.heap, slotsUsed := s₂.slotsUsed } : State) L mc ms := by
      refine ⟨?_, q2, q3, q4, q5, q6⟩
      obtain ⟨t, ht, -⟩ := State.frames_cons hr
      show ({ U with heap := s₂.heap, slotsUsed := s₂.slotsUsed } : State) = { U.setFrames U.frames with heap := s₂.heap, slotsUsed := s₂.slotsUsed }
      rw [State.setFrames_self ht]
    subst hg
    refine Or.inr ⟨q, ⟨(({ U with heap := s₂.heap, slotsUsed := s₂.slotsUsed } : State).setVm s₂.vm), Ls ++ L, c0 + mc, s0 + ms⟩,
      ⟨X.admits, X.cas, X.clock, X.frames, X.room, X.hears, X.method, X.code, (X.here.setHeapUsed s₂.heap s₂.slotsUsed).setVm hW'.alike, X.tail, State.WarmedH.trans X.warmed hW', X.limits, X.bytes, X.same.trans (hsame.setVm s.vm)⟩,
      ⟨g, mk, s₂, L, E, ce, rfl, rfl, hx, hce, hcv, hcl, rfl, hL, rfl, rfl⟩, ?_⟩
    show Steps p.tables e below _ (((({ U with heap := s₂.heap, slotsUsed := s₂.slotsUsed } : State).setVm s₂.vm).setTop g).pushFrame (.throwing q))
    rw [← hs₂]
    exact hsteps
end
variable {p : Program} {l : Launch} {e : Env} {R : Room} {s : State} {m : MethodId} {args : Array Value} {below : List Frame} {meth : Method} {c : Code} {T : State} {H : Heap} {locs : List Loc} {cells slots : Nat}
theorem vx_callVX (X : Stand p l e R s m args below meth c T locs cells slots) (hexec : p.tables.exec = Jvm.exec) {own C : String} {index : Nat} {y : MethodName} {bytes : ByteArray} {maxL : Nat} {ret : Option FieldType} {hh : List (Nat × Nat × Nat × Nat)}
    (hown : s.vm.findClass own = some m.cls) (hlink : (Cond.methodLink own index y).before args s = true) (hinst : (Cond.instanceMethod y).before args s = true) (hsel : (Cond.selects C y y).before args s = true)
    (hcode : (Cond.codeWith y bytes maxL ret hh).before args s = true) (hy : y.cls ≠ "java/lang/invoke/MethodHandle" ∧ y.cls ≠ "java/lang/invoke/VarHandle")
    {W9 : Nat} {Pre : Pt → Array Value → Prop} {Post : Pt → Array Value → Option Value → Pt → Prop} {PostX : Pt → Array Value → Addr → Pt → Prop} (hK : vx_Back l R p e below s args y 3 W9 Pre Post PostX)
    {b : Addr} {cellB : Cell} (hcell : T.heap[b]? = some cellB) (hobj : cellB.vm.isStatics = false) (hcls : s.vm.findClass C = some cellB.cls)
    {g : JFrame} (hg : g.method = m) (hsize : g.locals.size = c.maxLocals) {argsL rest : List Value} (hlen : ∀ sig, parseMethodDescriptor y.desc = some sig → argsL.length = sig.parameters.length)
    (hstack : g.stack = argsL.reverse ++ .ref b :: rest) (hW : 2 * g.monitorRoom + (rest.map fun v => v.category).sum ≤ W9) (hdg : decode c.code g.pc = .ok (.invokevirtual index, 3))
    (hpre : ∀ vm₁, s.WarmedH vm₁ → Pre ⟨T.setVm vm₁, locs, cells, slots⟩ (Value.ref b :: argsL).toArray) :
    (∃ (v : Option Value) (vm₁ : Vm) (B : Pt), s.WarmedH vm₁ ∧ Stand p l e R s m args below meth c B.U B.locs B.cells B.slots ∧ Post ⟨T.setVm vm₁, locs, cells, slots⟩ (Value.ref b :: argsL).toArray v B ∧
      ∀ target, Steps p.tables e below (B.U.setTop { g with pc := g.pc + 3, stack := v.toList ++ rest }) target → Steps p.tables e below (T.setTop g) target) ∨
    (∃ (q : Addr) (vm₁ : Vm) (B : Pt), s.WarmedH vm₁ ∧ Stand p l e R s m args below meth c B.U B.locs B.cells B.slots ∧ PostX ⟨T.setVm vm₁, locs, cells, slots⟩ (Value.ref b :: argsL).toArray q B ∧
      Steps p.tables e below (T.setTop g) ((B.U.setTop { g with stack := rest }).pushFrame (.throwing q))) := by
  obtain ⟨mk, methM, hnamed, hmethM, hstM, habM⟩ := Cond.instanceMethod_spec hinst
  obtain ⟨m8, methM', cM, hn8, hmethM', -, -, -, -, -, -, hsigM⟩ := Cond.codeWith_spec hcode
  cases Option.some.inj (hn8.symm.trans hnamed)
  cases hmethM.symm.trans hmethM'
  obtain ⟨c2, r2, m2, q1, q2, q3, q4, kP, hkP, hkPi⟩ := Cond.selects_spec hsel
  cases hcls.symm.trans q1
  cases (State.methodFound?_of_named hnamed hy).symm.trans q2
  cases hnamed.symm.trans q3
  have hselP : selectMethod e.platform s.vm cellB.cls mk = .method mk := by rw [Launch.admits_selectMethod X.admits]; exact q4
  obtain ⟨vm₁, X₁, hstep₁⟩ := X.invokevirtual hexec hown hlink hnamed hmethM hstM hkP hkPi hy (a := b) (cell := cellB) hcell
    (fun z h => by rw [h] at hobj; cases hobj) hselP hmethM habM hkP hkPi (g := g) hg (argsL := argsL) (rest := rest) (hlen _ hsigM) hstack hdg
  rcases hK m meth c ⟨T.setVm vm₁, locs, cells, slots⟩ { g with stack := rest } (.invokevirtual index) mk (Value.ref b :: argsL).toArray X₁ hg hsize hdg hW (X₁.named hnamed) (hpre vm₁ X₁.warmed) with ⟨v, B, X', hpost, hsteps⟩ | ⟨q, B, X', hpost, hsteps⟩
  · exact Or.inl ⟨v, vm₁, B, X₁.warmed, X', hpost, fun target h => hstep₁ _ fun acts => by rw [doInvoke_state]; exact hsteps.trans h⟩
  · exact Or.inr ⟨q, vm₁, B, X₁.warmed, X', hpost, hstep₁ _ fun acts => by rw [doInvoke_state]; exact hsteps⟩
theorem vx_callSX (X : Stand p l e R s m args below meth c T locs cells slots) (hexec : p.tables.exec = Jvm.exec) {own : String} {index : Nat} {y : MethodName} {bytes : ByteArray} {maxL : Nat} {ret : Option FieldType} {hh : List (Nat × Nat × Nat × Nat)}
    (hown : s.vm.findClass own = some m.cls) (hlink : (Cond.methodLink own index y).before args s = true) (hstat : (Cond.static y).before args s = true) (hinit : (Cond.initialized y.cls).before args s = true)
    (hcode : (Cond.codeWith y bytes maxL ret hh).before args s = true) (hy : y.cls ≠ "java/lang/invoke/MethodHandle" ∧ y.cls ≠ "java/lang/invoke/VarHandle")
    {W9 : Nat} {Pre : Pt → Array Value → Prop} {Post : Pt → Array Value → Option Value → Pt → Prop} {PostX : Pt → Array Value → Addr → Pt → Prop} (hK : vx_Back l R p e below s args y 3 W9 Pre Post PostX)
    {g : JFrame} (hg : g.method = m) (hsize : g.locals.size = c.maxLocals) {argsL rest : List Value} (hlen : ∀ sig, parseMethodDescriptor y.desc = some sig → argsL.length = sig.parameters.length)
    (hstack : g.stack = argsL.reverse ++ rest) (hW : 2 * g.monitorRoom + (rest.map fun v => v.category).sum ≤ W9) (hdg : decode c.code g.pc = .ok (.invokestatic index, 3))
    (hpre : ∀ vm₁, s.WarmedH vm₁ → Pre ⟨T.setVm vm₁, locs, cells, slots⟩ argsL.toArray) :
    (∃ (v : Option Value) (vm₁ : Vm) (B : Pt), s.WarmedH vm₁ ∧ Stand p l e R s m args below meth c B.U B.locs B.cells B.slots ∧ Post ⟨T.setVm vm₁, locs, cells, slots⟩ argsL.toArray v B ∧
      ∀ target, Steps p.tables e below (B.U.setTop { g with pc := g.pc + 3, stack := v.toList ++ rest }) target → Steps p.tables e below (T.setTop g) target) ∨
    (∃ (q : Addr) (vm₁ : Vm) (B : Pt), s.WarmedH vm₁ ∧ Stand p l e R s m args below meth c B.U B.locs B.cells B.slots ∧ PostX ⟨T.setVm vm₁, locs, cells, slots⟩ argsL.toArray q B ∧
      Steps p.tables e below (T.setTop g) ((B.U.setTop { g with stack := rest }).pushFrame (.throwing q))) := by
  obtain ⟨mk, methM, cM, hnamed, hmethM, -, -, -, -, -, -, hsigM⟩ := Cond.codeWith_spec hcode
  have hstatic : methM.isStatic = true := Cond.static_spec hnamed hmethM hstat
  obtain ⟨kP, hkP, -⟩ := className_of_methodNamed hnamed
  have hinitP : kP.init = .initialized := Cond.initialized_spec (findClass_of_methodNamed hnamed) hkP hinit
  obtain ⟨vm₁, X₁, hstep₁⟩ := X.invokestatic hexec hown hlink hnamed hmethM hstatic hkP hinitP hy (g := g) hg (argsL := argsL) (rest := rest) (hlen _ hsigM) hstack hdg
  rcases hK m meth c ⟨T.setVm vm₁, locs, cells, slots⟩ { g with stack := rest } (.invokestatic index) mk argsL.toArray X₁ hg hsize hdg hW (X₁.named hnamed) (hpre vm₁ X₁.warmed) with ⟨v, B, X', hpost, hsteps⟩ | ⟨q, B, X', hpost, hsteps⟩
  · exact Or.inl ⟨v, vm₁, B, X₁.warmed, X', hpost, fun target h => hstep₁ _ fun acts => by rw [doInvoke_state]; exact hsteps.trans h⟩
  · exact Or.inr ⟨q, vm₁, B, X₁.warmed, X', hpost, hstep₁ _ fun acts => by rw [doInvoke_state]; exact hsteps⟩
theorem vx_callVW (X : Stand p l e R s m args below meth c T locs cells slots) (hexec : p.tables.exec = Jvm.exec) {own C : String} {index : Nat} {y : MethodName} {bytes : ByteArray} {maxL : Nat} {ret : Option FieldType} {hh : List (Nat × Nat × Nat × Nat)}
    (hown : s.vm.findClass own = some m.cls) (hlink : (Cond.methodLink own index y).before args s = true) (hinst : (Cond.instanceMethod y).before args s = true) (hsel : (Cond.selects C y y).before args s = true)
    (hcode : (Cond.codeWith y bytes maxL ret hh).before args s = true) (hy : y.cls ≠ "java/lang/invoke/MethodHandle" ∧ y.cls ≠ "java/lang/invoke/VarHandle")
    {W9 : Nat} {Pre : Pt → Array Value → Prop} {Post : Pt → Array Value → Option Value → Pt → Prop} (hK : Back l R p e below s args y 3 W9 Pre Post)
    {b : Addr} {cellB : Cell} (hcell : T.heap[b]? = some cellB) (hobj : cellB.vm.isStatics = false) (hcls : s.vm.findClass C = some cellB.cls)
    {g : JFrame} (hg : g.method = m) (hsize : g.locals.size = c.maxLocals) {argsL rest : List Value} (hlen : ∀ sig, parseMethodDescriptor y.desc = some sig → argsL.length = sig.parameters.length)
    (hstack : g.stack = argsL.reverse ++ .ref b :: rest) (hW : 2 * g.monitorRoom + (rest.map fun v => v.category).sum ≤ W9) (hdg : decode c.code g.pc = .ok (.invokevirtual index, 3))
    (hpre : ∀ vm₁, s.WarmedH vm₁ → Pre ⟨T.setVm vm₁, locs, cells, slots⟩ (Value.ref b :: argsL).toArray) :
    ∃ (v : Option Value) (vm₁ : Vm) (B : Pt), s.WarmedH vm₁ ∧ Stand p l e R s m args below meth c B.U B.locs B.cells B.slots ∧ Post ⟨T.setVm vm₁, locs, cells, slots⟩ (Value.ref b :: argsL).toArray v B ∧
      ∀ target, Steps p.tables e below (B.U.setTop { g with pc := g.pc + 3, stack := v.toList ++ rest }) target → Steps p.tables e below (T.setTop g) target := by
  obtain ⟨mk, methM, hnamed, hmethM, hstM, habM⟩ := Cond.instanceMethod_spec hinst
  obtain ⟨m8, methM', cM, hn8, hmethM', -, -, -, -, -, -, hsigM⟩ := Cond.codeWith_spec hcode
  cases Option.some.inj (hn8.symm.trans hnamed)
  cases hmethM.symm.trans hmethM'
  obtain ⟨c2, r2, m2, q1, q2, q3, q4, kP, hkP, hkPi⟩ := Cond.selects_spec hsel
  cases hcls.symm.trans q1
  cases (State.methodFound?_of_named hnamed hy).symm.trans q2
  cases hnamed.symm.trans q3
  have hselP : selectMethod e.platform s.vm cellB.cls mk = .method mk := by rw [Launch.admits_selectMethod X.admits]; exact q4
  obtain ⟨vm₁, X₁, hstep₁⟩ := X.invokevirtual hexec hown hlink hnamed hmethM hstM hkP hkPi hy (a := b) (cell := cellB) hcell
    (fun z h => by rw [h] at hobj; cases hobj) hselP hmethM habM hkP hkPi (g := g) hg (argsL := argsL) (rest := rest) (hlen _ hsigM) hstack hdg
  obtain ⟨v, B, X', hpost, hsteps⟩ := hK m meth c ⟨T.setVm vm₁, locs, cells, slots⟩ { g with stack := rest } (.invokevirtual index) mk (Value.ref b :: argsL).toArray X₁ hg hsize hdg hW (X₁.named hnamed) (hpre vm₁ X₁.warmed)
  exact ⟨v, vm₁, B, X₁.warmed, X', hpost, fun target h => hstep₁ _ fun acts => by rw [doInvoke_state]; exact hsteps.trans h⟩
abbrev vx_CVW (R : Room) (s : State) (args : Array Value) (own C : String) (index : Nat) (y : MethodName) (bytes : ByteArray) (maxL : Nat) (ret : Option FieldType) (hh : List (Nat × Nat × Nat × Nat)) (ws : List Cond) (rm : Room) (mc ms n : Nat) : Prop :=
  (rm.cells = mc ∧ rm.slots = ms ∧ rm.frames + 1 ≤ R.frames ∧ 8 + (maxL + 11) + rm.locals ≤ R.locals ∧ (∀ w ∈ ws, ∀ (a' : Array Value) (U : State), s.WarmedH U.vm → w.before a' U = true) ∧ Cond.codeWith y bytes maxL ret hh ∈ ws) ∧
  (Cond.codeWith y bytes maxL ret hh).before args s = true ∧ (Cond.initialized y.cls).before args s = true ∧ (y.cls ≠ "java/lang/invoke/MethodHandle" ∧ y.cls ≠ "java/lang/invoke/VarHandle") ∧
  (∀ sig, parseMethodDescriptor y.desc = some sig → n = sig.parameters.length) ∧ (Cond.methodLink own index y).before args s = true ∧ (Cond.instanceMethod y).before args s = true ∧ (Cond.selects C y y).before args s = true
theorem vx_cwVW {own C : String} {index maxL mc ms : Nat} {y : MethodName} {bytes : ByteArray} {ret : Option FieldType} {hh : List (Nat × Nat × Nat × Nat)} {Ts ws ws' : List Cond} {rm : Room} (n : Nat) (ht : ∀ w ∈ Ts, w.before args s = true) (hT : GoodIn Ts (wsV own index C y ws)) (hw : ws = Cond.codeWith y bytes maxL ret hh :: ws') (hrc : rm.cells = mc) (hrs : rm.slots = ms)
    (hd : y.cls = C ∧ y.cls ≠ "java/lang/invoke/MethodHandle" ∧ y.cls ≠ "java/lang/invoke/VarHandle" ∧ (parseMethodDescriptor y.desc).map (fun d => d.parameters.length) = some n) (hR : rm.frames + 1 ≤ R.frames ∧ 8 + (maxL + 11) + rm.locals ≤ R.locals) :
    vx_CVW R s args own C index y bytes maxL ret hh ws rm mc ms n := by
  obtain ⟨hC, hd⟩ := hd
  subst hC
  have ok : ∀ w ∈ wsV own index y.cls y ws, w.before args s = true := fun w h => ht w (hT w h).1
  have hG : GoodIn Ts ws := fun w h => hT w (by unfold wsV; exact List.mem_append_right _ h)
  have hc : Cond.codeWith y bytes maxL ret hh ∈ ws := by rw [hw]; exact List.mem_cons_self
  refine ⟨⟨hrc, hrs, hR.1, hR.2, pay_in ht hG, hc⟩, ht _ (hG _ hc).1, ok _ (by simp [wsV]), ⟨hd.1, hd.2.1⟩, fun sig h => ?_, ok _ (by simp [wsV]), ok _ (by simp [wsV]), ok _ (by simp [wsV])⟩
  have h2 := hd.2.2
  rw [h] at h2
  exact (Option.some.inj h2).symm
theorem vx_runVW {y : MethodName} {bytes cc : ByteArray} {maxL nL mc ms n index : Nat} {ret : Option FieldType} {hh : List (Nat × Nat × Nat × Nat)} {ws : List Cond} {rm : Room} {Pc : Array Value → State → Prop} {Qc : Array Value → State → Outcome → State → Prop} {free : Addr → Prop} {Ts : List Cond} {own C : String} {b : Addr} {As rest : List Value} {g : JFrame}
    (S : CallFix p m c cc nL s args Ts own) (hM : Met l y ws rm Pc Qc mc ms free) (cw : vx_CVW R s args own C index y bytes maxL ret hh ws rm mc ms n) (hp : PreV s H C b Pc As)
    (hg : g.method = m) (hn : As.length = n) (hsize : g.locals.size = nL) (hstack : g.stack = As.reverse ++ .ref b :: rest) (hW : 2 * g.monitorRoom + (rest.map fun v => v.category).sum ≤ 8) (hdg : decode cc g.pc = .ok (.invokevirtual index, 3)) (hf : cells + mc ≤ R.cells ∧ slots + ms ≤ R.slots) :
    va_Run p l e R s m args below meth c H locs cells slots mc ms g rest (Qc (Value.ref b :: As).toArray) free := by
  obtain ⟨⟨hrc, hrs, hfr, hlo, hws, hcw⟩, hcode, hini, hy, hlen, hl, hin, hse⟩ := cw
  have hK : Back l R p e below s args y 3 8 (PreOf R mc ms Pc) (PostOf Qc mc ms free) := va_backW (hh := hh) (bytes := bytes) (maxL := maxL) (ret := ret) hM hp.1 hrc hrs hfr hlo hws hcw (fun a' U hW => word_at hW (Or.inl (by first | rfl | simp [Cond.onTables, Cond.keeps, Cond.steady])) hini)
  obtain ⟨hx, hb, hml, ho, -⟩ := S
  obtain ⟨-, ⟨cellB, hcB, hoB, hclB⟩, hPc⟩ := hp
  intro T hT X
  obtain ⟨v, vm₁, ⟨U', l2, c2, s2⟩, hW₁, X', ⟨g', mk, t, L, e1, e2, hq, h1, hL, h2, h3⟩, st⟩ := vx_callVW X hx (C := C) (hh := hh) (bytes := bytes) (maxL := maxL) (ret := ret) ho hl hin hse hcode hy hK (by rw [hT]; exact hcB) hoB hclB hg (hsize.trans hml.symm) (argsL := As) (rest := rest) (fun sig h => hn.trans (hlen sig h)) hstack hW (by rw [hb]; exact hdg)
    (fun vm₁ hW₁ => ⟨hf.1, hf.2, hPc (T.setVm vm₁) hT hW₁⟩)
  dsimp only [Pt.U, Pt.locs, Pt.cells, Pt.slots] at X' e1 e2 h1 h2 h3 st
  subst h1; subst h2; subst h3
  exact ⟨v, (T.setVm vm₁).calling g' mk (Value.ref b :: As).toArray, t, U', L, hT, X', hL, e1, e2, hq, st⟩
section
variable {y : MethodName} {bytes cc : ByteArray} {maxL nL mc ms n index : Nat} {ret : Option FieldType} {ws : List Cond} {rm : Room} {Pc : Array Value → State → Prop} {Qc : Array Value → State → Outcome → State → Prop} {XC : String → State → State → Prop} {free : Addr → Prop} {Ts : List Cond} {own C : String} {b : Addr} {As rest : List Value} {g : JFrame}
theorem vx_runVX {hh : List (Nat × Nat × Nat × Nat)} (S : CallFix p m c cc nL s args Ts own) (hM : vx_Met l y ws rm Pc Qc XC mc ms free) (cw : vx_CVW R s args own C index y bytes maxL ret hh ws rm mc ms n) (hp : PreV s H C b Pc As)
    (hg : g.method = m) (hn : As.length = n) (hsize : g.locals.size = nL) (hstack : g.stack = As.reverse ++ .ref b :: rest) (hW : 2 * g.monitorRoom + (rest.map fun v => v.category).sum ≤ 8) (hdg : decode cc g.pc = .ok (.invokevirtual index, 3)) (hf : cells + mc ≤ R.cells ∧ slots + ms ≤ R.slots) :
    vx_Run p l e R s m args below meth c H locs cells slots mc ms g rest (Qc (Value.ref b :: As).toArray) XC free := by
  obtain ⟨⟨hrc, hrs, hfr, hlo, hws, hcw⟩, hcode, hini, hy, hlen, hl, hin, hse⟩ := cw
  have hK : vx_Back l R p e below s args y 3 8 (PreOf R mc ms Pc) (PostOf Qc mc ms free) (vx_Post XC mc ms free) := vx_backW (hh := hh) (bytes := bytes) (maxL := maxL) (ret := ret) hM hp.1 hrc hrs hfr hlo hws hcw (fun a' U hW => word_at hW (Or.inl (by first | rfl | simp [Cond.onTables, Cond.keeps, Cond.steady])) hini)
  obtain ⟨hx, hb, hml, ho, -⟩ := S
  obtain ⟨-, ⟨cellB, hcB, hoB, hclB⟩, hPc⟩ := hp
  intro T hT X
  rcases vx_callVX X hx (C := C) (hh := hh) (bytes := bytes) (maxL := maxL) (ret := ret) ho hl hin hse hcode hy hK (by rw [hT]; exact hcB) hoB hclB hg (hsize.trans hml.symm) (argsL := As) (rest := rest) (fun sig h => hn.trans (hlen sig h)) hstack hW (by rw [hb]; exact hdg)
    (fun vm₁ hW₁ => ⟨hf.1, hf.2, hPc (T.setVm vm₁) hT hW₁⟩) with ⟨v, vm₁, ⟨U', l2, c2, s2⟩, hW₁, X', ⟨g', mk, t, L, e1, e2, hq, h1, hL, h2, h3⟩, st⟩ | ⟨q, vm₁, ⟨U', l2, c2, s2⟩, hW₁, X', ⟨g', mk, t, L, E, ce, e1, e2, hq, hce, hcv, hcl, h1, hL, h2, h3⟩, st⟩
  · dsimp only [Pt.U, Pt.locs, Pt.cells, Pt.slots] at X' e1 e2 h1 h2 h3 st
    subst h1; subst h2; subst h3
    exact Or.inl ⟨v, (T.setVm vm₁).calling g' mk (Value.ref b :: As).toArray, t, U', L, hT, X', hL, e1, e2, hq, st⟩
  · dsimp only [Pt.U, Pt.locs, Pt.cells, Pt.slots] at X' e1 e2 h1 h2 h3 st hcl
    subst h1; subst h2; subst h3
    exact Or.inr ⟨q, (T.setVm vm₁).calling g' mk (Value.ref b :: As).toArray, t, U', L, E, ce, hT, X', hL, e1, e2, hq, hce, hcv, vx_cls hW₁ hcl, st⟩
theorem vx_runSX {hh : List (Nat × Nat × Nat × Nat)} (S : CallFix p m c cc nL s args Ts own) (hM : vx_Met l y ws rm Pc Qc XC mc ms free) (cw : vx_CSW R s args own index y bytes maxL ret hh ws rm mc ms n) (hp : PreS s H Pc As)
    (hg : g.method = m) (hn : As.length = n) (hsize : g.locals.size = nL) (hstack : g.stack = As.reverse ++ rest) (hW : 2 * g.monitorRoom + (rest.map fun v => v.category).sum ≤ 8) (hdg : decode cc g.pc = .ok (.invokestatic index, 3)) (hf : cells + mc ≤ R.cells ∧ slots + ms ≤ R.slots) :
    vx_Run p l e R s m args below meth c H locs cells slots mc ms g rest (Qc As.toArray) XC free := by
  obtain ⟨⟨hrc, hrs, hfr, hlo, hws, hcw⟩, hcode, hini, hy, hlen, hl, hstt⟩ := cw
  have hK : vx_Back l R p e below s args y 3 8 (PreOf R mc ms Pc) (PostOf Qc mc ms free) (vx_Post XC mc ms free) := vx_backW (hh := hh) (bytes := bytes) (maxL := maxL) (ret := ret) hM hp.1 hrc hrs hfr hlo hws hcw (fun a' U hW => word_at hW (Or.inl (by first | rfl | simp [Cond.onTables, Cond.keeps, Cond.steady])) hini)
  obtain ⟨hx, hb, hml, ho, -⟩ := S
  intro T hT X
  rcases vx_callSX X hx (hh := hh) (bytes := bytes) (maxL := maxL) (ret := ret) ho hl hstt hini hcode hy hK hg (hsize.trans hml.symm) (argsL := As) (rest := rest) (fun sig h => hn.trans (hlen sig h)) hstack hW (by rw [hb]; exact hdg)
    (fun vm₁ hW₁ => ⟨hf.1, hf.2, hp.2 (T.setVm vm₁) hT hW₁⟩) with ⟨v, vm₁, ⟨U', l2, c2, s2⟩, hW₁, X', ⟨g', mk, t, L, e1, e2, hq, h1, hL, h2, h3⟩, st⟩ | ⟨q, vm₁, ⟨U', l2, c2, s2⟩, hW₁, X', ⟨g', mk, t, L, E, ce, e1, e2, hq, hce, hcv, hcl, h1, hL, h2, h3⟩, st⟩
  · dsimp only [Pt.U, Pt.locs, Pt.cells, Pt.slots] at X' e1 e2 h1 h2 h3 st
    subst h1; subst h2; subst h3
    exact Or.inl ⟨v, (T.setVm vm₁).calling g' mk As.toArray, t, U', L, hT, X', hL, e1, e2, hq, st⟩
  · dsimp only [Pt.U, Pt.locs, Pt.cells, Pt.slots] at X' e1 e2 h1 h2 h3 st hcl
    subst h1; subst h2; subst h3
    exact Or.inr ⟨q, (T.setVm vm₁).calling g' mk As.toArray, t, U', L, E, ce, hT, X', hL, e1, e2, hq, hce, hcv, vx_cls hW₁ hcl, st⟩
end
end VXH
theorem vx_ofWH {l : Launch} {y : MethodName} {ws ws' : List Cond} {rm : Room} {Pc : Array Value → State → Prop} {Qc : Array Value → State → Outcome → State → Prop} {XC : String → State → State → Prop} {mc ms : Nat} {free : Addr → Prop} {cc : ByteArray} {maxL : Nat} {ret : Option FieldType} {hh : List (Nat × Nat × Nat × Nat)}
    (hy : plainName y.cls = true) (hw : ws = Cond.codeWith y cc maxL ret hh :: ws')
    (body : ∀ p e s m args below meth c s₁, BodyLoose p l y (headSpec ws rm) cc maxL ret e s m args below meth c s₁ → c.maxLocals = maxL → Pc args s →
      W p l e (headSpec ws rm).room s m args below meth c s.heap [] 0 0 (vx_MQ below Qc XC args s mc ms free) (entryFrame m args maxL)) : vx_Met l y ws rm Pc Qc XC mc ms free := by
  refine MetFree.of_bodyS (code := cc) (maxLocals := maxL) (ret := ret) hy ?_ ?_
  · intro args s m h hn
    obtain ⟨m9, meth, c, hn9, h1, h2, h3, h4, -, h5, h6, -⟩ := Cond.codeWith_spec (atoms_spec (ws := ws) h _ (by rw [hw]; exact List.mem_cons_self))
    cases hn.symm.trans hn9
    exact ⟨meth, c, h1, h2, h3, h4, h5, h6⟩
  · intro p e s m args below meth c s₁ B hml hP _
    have hh0 : s₁.heap = s.heap := by rw [B.state]; rfl
    obtain ⟨t, a1, o, b1, b2, b3⟩ := body p e s m args below meth c s₁ B hml hP s₁ hh0 (Stand.of_body B)
    exact ⟨t, o, a1, b1, b2, b3⟩
/-! ===== END ===== -/

section VXIA
variable {p : Program} {l : Launch} {e : Env} {R : Room} {s : State} {m : MethodId} {args : Array Value} {below : List Frame} {meth : Method} {c : Code} {T : State} {locs : List Loc} {cells slots : Nat}
theorem vx_callI (X : Stand p l e R s m args below meth c T locs cells slots) (hexec : p.tables.exec = Jvm.exec) {own : String} {index : Nat} {y : MethodName} {bytes : ByteArray} {maxL : Nat}
    (hown : s.vm.findClass own = some m.cls) (hy1 : y.name = "<init>") (hlink : (Cond.methodLink own index y).before args s = true) (hinst : (Cond.instanceMethod y).before args s = true)
    (hcode : (Cond.code y bytes maxL none).before args s = true) (hy : y.cls ≠ "java/lang/invoke/MethodHandle" ∧ y.cls ≠ "java/lang/invoke/VarHandle")
    {W9 : Nat} {Pre : Pt → Array Value → Prop} {Post : Pt → Array Value → Option Value → Pt → Prop} {PostX : Pt → Array Value → Addr → Pt → Prop} (hK : vx_Back l R p e below s args y 3 W9 Pre Post PostX)
    {g : JFrame} (hg : g.method = m) (hsize : g.locals.size = c.maxLocals) {a : Addr} {argsL rest : List Value} (hlen : ∀ sig, parseMethodDescriptor y.desc = some sig → argsL.length = sig.parameters.length)
    (hstack : g.stack = argsL.reverse ++ .ref a :: rest) (hW : 2 * g.monitorRoom + (rest.map fun v => v.category).sum ≤ W9) (hdg : decode c.code g.pc = .ok (.invokespecial index, 3))
    (hpre : ∀ vm₁, s.WarmedH vm₁ → Pre ⟨T.setVm vm₁, locs, cells, slots⟩ (Value.ref a :: argsL).toArray) :
    (∃ (v : Option Value) (vm₁ : Vm) (B : Pt), s.WarmedH vm₁ ∧ Stand p l e R s m args below meth c B.U B.locs B.cells B.slots ∧ Post ⟨T.setVm vm₁, locs, cells, slots⟩ (Value.ref a :: argsL).toArray v B ∧
      ∀ target, Steps p.tables e below (B.U.setTop { g with pc := g.pc + 3, stack := v.toList ++ rest }) target → Steps p.tables e below (T.setTop g) target) ∨
    (∃ (q : Addr) (vm₁ : Vm) (B : Pt), s.WarmedH vm₁ ∧ Stand p l e R s m args below meth c B.U B.locs B.cells B.slots ∧ PostX ⟨T.setVm vm₁, locs, cells, slots⟩ (Value.ref a :: argsL).toArray q B ∧
      Steps p.tables e below (T.setTop g) ((B.U.setTop { g with stack := rest }).pushFrame (.throwing q))) := by
  subst hg
  have hpl : e.platform.magicAccessors = ({} : Platform).magicAccessors := by rw [X.admits.platform]
  obtain ⟨mk, methM, cM, kP, vm₁, hnamed, hmethM, hcodeM, -, hlocalsM, -, hkP, -, hW₁, hstep₁⟩ := Steps.initColdArgs (e := e) X.here hexec X.warmed hpl hown hy1 hy hlink hinst hcode (f := g) rfl hlen hstack hdg
  have X₁ := X.noted hW₁
  rcases hK g.method meth c ⟨T.setVm vm₁, locs, cells, slots⟩ { g with stack := rest } (.invokespecial index) mk (Value.ref a :: argsL).toArray X₁ rfl hsize hdg hW (X₁.named hnamed) (hpre vm₁ X₁.warmed) with ⟨v, B, X', hpost, hsteps⟩ | ⟨q, B, X', hpost, hsteps⟩
  · exact Or.inl ⟨v, vm₁, B, X₁.warmed, X', hpost, fun target h => hstep₁ _ fun acts => by rw [doInvoke_state]; exact hsteps.trans h⟩
  · exact Or.inr ⟨q, vm₁, B, X₁.warmed, X', hpost, hstep₁ _ fun acts => by rw [doInvoke_state]; exact hsteps⟩
end VXIA
section VXIB
variable {p : Program} {l : Launch} {e : Env} {R : Room} {s : State} {m : MethodId} {args : Array Value} {below : List Frame} {meth : Method} {c : Code} {H : Heap} {locs : List Loc} {cells slots : Nat}
variable {y : MethodName} {bytes cc : ByteArray} {maxL nL mc ms n index : Nat} {ret : Option FieldType} {ws : List Cond} {rm : Room} {Pc : Array Value → State → Prop} {Qc : Array Value → State → Outcome → State → Prop} {XC : String → State → State → Prop} {free : Addr → Prop} {Ts : List Cond} {own C : String} {b : Addr} {As rest : List Value} {g : JFrame}
theorem vx_runI (S : CallFix p m c cc nL s args Ts own) (hM : vx_Met l y ws rm Pc Qc XC mc ms free) (cw : CallB R s args own index y bytes maxL none ws rm mc ms n ∧ y.name = "<init>" ∧ (Cond.instanceMethod y).before args s = true) (hp : PreS s H Pc (.ref b :: As))
    (hg : g.method = m) (hn : As.length = n) (hsize : g.locals.size = nL) (hstack : g.stack = As.reverse ++ .ref b :: rest) (hW : 2 * g.monitorRoom + (rest.map fun v => v.category).sum ≤ 8) (hdg : decode cc g.pc = .ok (.invokespecial index, 3)) (hf : cells + mc ≤ R.cells ∧ slots + ms ≤ R.slots) :
    vx_Run p l e R s m args below meth c H locs cells slots mc ms g rest (Qc (Value.ref b :: As).toArray) XC free := by
  have hK : vx_Back l R p e below s args y 3 8 (PreOf R mc ms Pc) (PostOf Qc mc ms free) (vx_Post XC mc ms free) := vx_callBack cw.1 hM hp.1
  obtain ⟨⟨-, -, -, -, -, -, hcode, -, hy, hlen, hl⟩, hy1, hin⟩ := cw
  obtain ⟨hx, hb, hml, ho, -⟩ := S
  have hPc := hp.2
  intro T hT X
  rcases vx_callI X hx (bytes := bytes) (maxL := maxL) ho hy1 hl hin hcode hy hK hg (hsize.trans hml.symm) (a := b) (argsL := As) (rest := rest) (fun sig h => hn.trans (hlen sig h)) hstack hW (by rw [hb]; exact hdg)
    (fun vm₁ hW₁ => ⟨hf.1, hf.2, hPc (T.setVm vm₁) hT hW₁⟩) with ⟨v, vm₁, ⟨U', l2, c2, s2⟩, hW₁, X', ⟨g', mk, t, L, e1, e2, hq, h1, hL, h2, h3⟩, st⟩ | ⟨q, vm₁, ⟨U', l2, c2, s2⟩, hW₁, X', ⟨g', mk, t, L, E, ce, e1, e2, hq, hce, hcv, hcl, h1, hL, h2, h3⟩, st⟩
  · dsimp only [Pt.U, Pt.locs, Pt.cells, Pt.slots] at X' e1 e2 h1 h2 h3 st
    subst h1; subst h2; subst h3
    exact Or.inl ⟨v, (T.setVm vm₁).calling g' mk (Value.ref b :: As).toArray, t, U', L, hT, X', hL, e1, e2, hq, st⟩
  · dsimp only [Pt.U, Pt.locs, Pt.cells, Pt.slots] at X' e1 e2 h1 h2 h3 st hcl
    subst h1; subst h2; subst h3
    exact Or.inr ⟨q, (T.setVm vm₁).calling g' mk (Value.ref b :: As).toArray, t, U', L, E, ce, hT, X', hL, e1, e2, hq, hce, hcv, vx_cls hW₁ hcl, st⟩
end VXIB
/-! ===== BEGIN printed: names, fields, word lists, decode rows ===== -/
def RX0 : String := "HeavyHaul$Embargo"
def TX0 : u_T := fun k => match k with
  | 0 => ("HeavyHaul$Embargo", "authority", "I", true)
  | _ => ("HeavyHaul$Embargo", "period", "LHeavyHaul$Period;", true)
def tyX0 : Nat → FieldType := fun k => match k with
  | 0 => .int
  | _ => .object "HeavyHaul$Period"
abbrev wsX00 : List Cond := u_ws RX0 TX0 2
theorem nmX0 : ∀ a, a < 2 → ∀ b, b < 2 → a ≠ b → (TX0 a).2.1 ≠ (TX0 b).2.1 := by decide +kernel
theorem tyX0_ok : ∀ k, k < 2 → parseFieldDescriptor (TX0 k).2.2.1 = some (tyX0 k) := by decide +kernel
abbrev cX0_init : ByteArray := prog_2_method_1_code
def yX0_init : MethodName := ⟨RX0, "<init>", "(ILHeavyHaul$Period;)V"⟩
def RX1 : String := "HeavyHaul$Period"
def TX1 : u_T := fun k => match k with
  | 0 => ("HeavyHaul$Period", "from", "I", true)
  | _ => ("HeavyHaul$Period", "to", "I", true)
def tyX1 : Nat → FieldType := fun k => match k with
  | 0 => .int
  | _ => .int
abbrev wsX10 : List Cond := u_ws RX1 TX1 2
theorem nmX1 : ∀ a, a < 2 → ∀ b, b < 2 → a ≠ b → (TX1 a).2.1 ≠ (TX1 b).2.1 := by decide +kernel
theorem tyX1_ok : ∀ k, k < 2 → parseFieldDescriptor (TX1 k).2.2.1 = some (tyX1 k) := by decide +kernel
abbrev cX1_init : ByteArray := prog_3_method_1_code
def yX1_init : MethodName := ⟨RX1, "<init>", "(II)V"⟩
abbrev cX1_hasAll : ByteArray := prog_3_method_2_code
def yX1_hasAll : MethodName := ⟨RX1, "hasAll", "(II)Z"⟩
abbrev cX1_hasAny : ByteArray := prog_3_method_3_code
def yX1_hasAny : MethodName := ⟨RX1, "hasAny", "(II)Z"⟩
def RX2 : String := "HeavyHaul$Permit"
def TX2 : u_T := fun k => match k with
  | 0 => ("HeavyHaul$Permit", "rig", "I", true)
  | 1 => ("HeavyHaul$Permit", "authority", "I", true)
  | _ => ("HeavyHaul$Permit", "period", "LHeavyHaul$Period;", true)
def tyX2 : Nat → FieldType := fun k => match k with
  | 0 => .int
  | 1 => .int
  | _ => .object "HeavyHaul$Period"
abbrev wsX20 : List Cond := u_ws RX2 TX2 3
theorem nmX2 : ∀ a, a < 3 → ∀ b, b < 3 → a ≠ b → (TX2 a).2.1 ≠ (TX2 b).2.1 := by decide +kernel
theorem tyX2_ok : ∀ k, k < 3 → parseFieldDescriptor (TX2 k).2.2.1 = some (tyX2 k) := by decide +kernel
abbrev cX2_init : ByteArray := prog_4_method_1_code
def yX2_init : MethodName := ⟨RX2, "<init>", "(IILHeavyHaul$Period;)V"⟩
def RX3 : String := "HeavyHaul$Rig"
def TX3 : u_T := fun k => match k with
  | 0 => ("HeavyHaul$Rig", "axles", "I", true)
  | 1 => ("HeavyHaul$Rig", "apart", "I", true)
  | 2 => ("HeavyHaul$Rig", "length", "I", true)
  | 3 => ("HeavyHaul$Rig", "width", "I", true)
  | 4 => ("HeavyHaul$Rig", "height", "I", true)
  | 5 => ("HeavyHaul$Rig", "weight", "I", true)
  | 6 => ("HeavyHaul$Rig", "frontAxle", "I", false)
  | 7 => ("HeavyHaul$Rig", "rearAxle", "I", false)
  | 8 => ("HeavyHaul$Rig", "place", "I", false)
  | 9 => ("HeavyHaul$Rig", "road", "I", false)
  | 10 => ("HeavyHaul$Rig", "arrival", "I", false)
  | 11 => ("HeavyHaul$Rig", "breaches", "I", false)
  | _ => ("HeavyHaul$Rig", "drives", "I", false)
def tyX3 : Nat → FieldType := fun k => match k with
  | 0 => .int
  | 1 => .int
  | 2 => .int
  | 3 => .int
  | 4 => .int
  | 5 => .int
  | 6 => .int
  | 7 => .int
  | 8 => .int
  | 9 => .int
  | 10 => .int
  | 11 => .int
  | _ => .int
abbrev wsX30 : List Cond := u_ws RX3 TX3 13
theorem nmX3 : ∀ a, a < 13 → ∀ b, b < 13 → a ≠ b → (TX3 a).2.1 ≠ (TX3 b).2.1 := by decide +kernel
theorem tyX3_ok : ∀ k, k < 13 → parseFieldDescriptor (TX3 k).2.2.1 = some (tyX3 k) := by decide +kernel
abbrev cX3_init : ByteArray := prog_5_method_1_code
def yX3_init : MethodName := ⟨RX3, "<init>", "(IIIIIII)V"⟩
abbrev cX3_canTake : ByteArray := prog_5_method_2_code
def yX3_canTake : MethodName := ⟨RX3, "canTake", "(II)Z"⟩
abbrev cX3_leverOf : ByteArray := prog_5_method_3_code
def yX3_leverOf : MethodName := ⟨RX3, "leverOf", "(I)I"⟩
abbrev cX3_base : ByteArray := prog_5_method_4_code
def yX3_base : MethodName := ⟨RX3, "base", "()I"⟩
abbrev cX3_take : ByteArray := prog_5_method_5_code
def yX3_take : MethodName := ⟨RX3, "take", "(II)V"⟩
abbrev cX3_share : ByteArray := prog_5_method_6_code
def yX3_share : MethodName := ⟨RX3, "share", "(I)I"⟩
abbrev cX3_weightOf : ByteArray := prog_5_method_7_code
def yX3_weightOf : MethodName := ⟨RX3, "weightOf", "(I)I"⟩
abbrev cX3_heaviestAxle : ByteArray := prog_5_method_8_code
def yX3_heaviestAxle : MethodName := ⟨RX3, "heaviestAxle", "()I"⟩
abbrev cX3_isDriving : ByteArray := prog_5_method_9_code
def yX3_isDriving : MethodName := ⟨RX3, "isDriving", "()Z"⟩
abbrev cX3_setOut : ByteArray := prog_5_method_10_code
def yX3_setOut : MethodName := ⟨RX3, "setOut", "(III)V"⟩
abbrev cX3_standIfArrived : ByteArray := prog_5_method_11_code
def yX3_standIfArrived : MethodName := ⟨RX3, "standIfArrived", "(I)V"⟩
def RX4 : String := "HeavyHaul$Road"
def TX4 : u_T := fun k => match k with
  | 0 => ("HeavyHaul$Road", "place", "I", true)
  | 1 => ("HeavyHaul$Road", "other", "I", true)
  | 2 => ("HeavyHaul$Road", "authority", "I", true)
  | 3 => ("HeavyHaul$Road", "width", "I", true)
  | 4 => ("HeavyHaul$Road", "height", "I", true)
  | 5 => ("HeavyHaul$Road", "bends", "I", true)
  | 6 => ("HeavyHaul$Road", "tens", "I", true)
  | 7 => ("HeavyHaul$Road", "span", "I", false)
  | 8 => ("HeavyHaul$Road", "mostWeight", "I", false)
  | _ => ("HeavyHaul$Road", "mostMoment", "I", false)
def tyX4 : Nat → FieldType := fun k => match k with
  | 0 => .int
  | 1 => .int
  | 2 => .int
  | 3 => .int
  | 4 => .int
  | 5 => .int
  | 6 => .int
  | 7 => .int
  | 8 => .int
  | _ => .int
abbrev wsX40 : List Cond := u_ws RX4 TX4 10
theorem nmX4 : ∀ a, a < 10 → ∀ b, b < 10 → a ≠ b → (TX4 a).2.1 ≠ (TX4 b).2.1 := by decide +kernel
theorem tyX4_ok : ∀ k, k < 10 → parseFieldDescriptor (TX4 k).2.2.1 = some (tyX4 k) := by decide +kernel
abbrev cX4_init : ByteArray := prog_6_method_1_code
def yX4_init : MethodName := ⟨RX4, "<init>", "(IIIIIII)V"⟩
abbrev cX4_hasBridge : ByteArray := prog_6_method_2_code
def yX4_hasBridge : MethodName := ⟨RX4, "hasBridge", "()Z"⟩
abbrev cX4_endsAt : ByteArray := prog_6_method_3_code
def yX4_endsAt : MethodName := ⟨RX4, "endsAt", "(I)Z"⟩
abbrev cX4_endBeyond : ByteArray := prog_6_method_4_code
def yX4_endBeyond : MethodName := ⟨RX4, "endBeyond", "(I)I"⟩
def RX5 : String := "HeavyHaul$Work"
def TX5 : u_T := fun k => match k with
  | 0 => ("HeavyHaul$Work", "road", "I", true)
  | 1 => ("HeavyHaul$Work", "wider", "I", true)
  | 2 => ("HeavyHaul$Work", "higher", "I", true)
  | _ => ("HeavyHaul$Work", "period", "LHeavyHaul$Period;", true)
def tyX5 : Nat → FieldType := fun k => match k with
  | 0 => .int
  | 1 => .int
  | 2 => .int
  | _ => .object "HeavyHaul$Period"
abbrev wsX50 : List Cond := u_ws RX5 TX5 4
theorem nmX5 : ∀ a, a < 4 → ∀ b, b < 4 → a ≠ b → (TX5 a).2.1 ≠ (TX5 b).2.1 := by decide +kernel
theorem tyX5_ok : ∀ k, k < 4 → parseFieldDescriptor (TX5 k).2.2.1 = some (tyX5 k) := by decide +kernel
abbrev cX5_init : ByteArray := prog_7_method_1_code
def yX5_init : MethodName := ⟨RX5, "<init>", "(IIILHeavyHaul$Period;)V"⟩
def RX6 : String := "HeavyHaul"
def TX6 : u_T := fun k => match k with
  | 0 => ("HeavyHaul", "bays", "[Z", true)
  | 1 => ("HeavyHaul", "notices", "[I", true)
  | 2 => ("HeavyHaul", "mostOfAxles", "[I", true)
  | 3 => ("HeavyHaul", "roads", "Ljava/util/ArrayList;", true)
  | 4 => ("HeavyHaul", "works", "Ljava/util/ArrayList;", true)
  | 5 => ("HeavyHaul", "rigs", "Ljava/util/ArrayList;", true)
  | 6 => ("HeavyHaul", "permits", "Ljava/util/ArrayList;", true)
  | 7 => ("HeavyHaul", "embargoes", "Ljava/util/ArrayList;", true)
  | 8 => ("HeavyHaul", "reached", "[I", true)
  | _ => ("HeavyHaul", "now", "I", false)
def tyX6 : Nat → FieldType := fun k => match k with
  | 0 => .array .boolean
  | 1 => .array .int
  | 2 => .array .int
  | 3 => .object "java/util/ArrayList"
  | 4 => .object "java/util/ArrayList"
  | 5 => .object "java/util/ArrayList"
  | 6 => .object "java/util/ArrayList"
  | 7 => .object "java/util/ArrayList"
  | 8 => .array .int
  | _ => .int
abbrev wsX60 : List Cond := u_ws RX6 TX6 10
theorem nmX6 : ∀ a, a < 10 → ∀ b, b < 10 → a ≠ b → (TX6 a).2.1 ≠ (TX6 b).2.1 := by decide +kernel
theorem tyX6_ok : ∀ k, k < 10 → parseFieldDescriptor (TX6 k).2.2.1 = some (tyX6 k) := by decide +kernel
abbrev cX6_init : ByteArray := prog_1_method_1_code
def yX6_init : MethodName := ⟨RX6, "<init>", "()V"⟩
abbrev cX6_bay : ByteArray := prog_1_method_2_code
def yX6_bay : MethodName := ⟨RX6, "bay", "(IZ)Z"⟩
abbrev cX6_road : ByteArray := prog_1_method_3_code
def yX6_road : MethodName := ⟨RX6, "road", "(IIIIIII)I"⟩
abbrev cX6_bridge : ByteArray := prog_1_method_4_code
def yX6_bridge : MethodName := ⟨RX6, "bridge", "(IIII)Z"⟩
abbrev cX6_work : ByteArray := prog_1_method_5_code
def yX6_work : MethodName := ⟨RX6, "work", "(IIIII)I"⟩
abbrev cX6_rig : ByteArray := prog_1_method_6_code
def yX6_rig : MethodName := ⟨RX6, "rig", "(IIIIIII)I"⟩
abbrev cX6_load : ByteArray := prog_1_method_7_code
def yX6_load : MethodName := ⟨RX6, "load", "(III)V"⟩
abbrev cX6_axle : ByteArray := prog_1_method_8_code
def yX6_axle : MethodName := ⟨RX6, "axle", "(II)I"⟩
abbrev cX6_greatest : ByteArray := prog_1_method_9_code
def yX6_greatest : MethodName := ⟨RX6, "greatest", "(IIZ)I"⟩
abbrev cX6_greatestAnew : ByteArray := prog_1_method_10_code
def yX6_greatestAnew : MethodName := ⟨RX6, "greatestAnew", "(IIZ)I"⟩
abbrev cX6_authority : ByteArray := prog_1_method_11_code
def yX6_authority : MethodName := ⟨RX6, "authority", "(III)V"⟩
abbrev cX6_permit : ByteArray := prog_1_method_12_code
def yX6_permit : MethodName := ⟨RX6, "permit", "(IIII)I"⟩
abbrev cX6_embargo : ByteArray := prog_1_method_13_code
def yX6_embargo : MethodName := ⟨RX6, "embargo", "(III)I"⟩
abbrev cX6_why : ByteArray := prog_1_method_14_code
def yX6_why : MethodName := ⟨RX6, "why", "(III)I"⟩
abbrev cX6_drive : ByteArray := prog_1_method_15_code
def yX6_drive : MethodName := ⟨RX6, "drive", "(II)I"⟩
abbrev cX6_arrives : ByteArray := prog_1_method_16_code
def yX6_arrives : MethodName := ⟨RX6, "arrives", "(IIII)I"⟩
abbrev cX6_rigIs : ByteArray := prog_1_method_17_code
def yX6_rigIs : MethodName := ⟨RX6, "rigIs", "(II)I"⟩
abbrev cX6_pass : ByteArray := prog_1_method_18_code
def yX6_pass : MethodName := ⟨RX6, "pass", "(I)I"⟩
abbrev cX6_needNumber : ByteArray := prog_1_method_19_code
def yX6_needNumber : MethodName := ⟨RX6, "needNumber", "(II)V"⟩
abbrev cX6_needRange : ByteArray := prog_1_method_20_code
def yX6_needRange : MethodName := ⟨RX6, "needRange", "(III)V"⟩
abbrev cX6_needPeriod : ByteArray := prog_1_method_21_code
def yX6_needPeriod : MethodName := ⟨RX6, "needPeriod", "(II)V"⟩
abbrev cX6_needRoom : ByteArray := prog_1_method_22_code
def yX6_needRoom : MethodName := ⟨RX6, "needRoom", "(II)V"⟩
abbrev cX6_roadOf : ByteArray := prog_1_method_23_code
def yX6_roadOf : MethodName := ⟨RX6, "roadOf", "(I)LHeavyHaul$Road;"⟩
abbrev cX6_rigOf : ByteArray := prog_1_method_24_code
def yX6_rigOf : MethodName := ⟨RX6, "rigOf", "(I)LHeavyHaul$Rig;"⟩
abbrev cX6_greatestOver : ByteArray := prog_1_method_25_code
def yX6_greatestOver : MethodName := ⟨RX6, "greatestOver", "(LHeavyHaul$Road;LHeavyHaul$Rig;ZZ)I"⟩
abbrev cX6_sumAtStep : ByteArray := prog_1_method_26_code
def yX6_sumAtStep : MethodName := ⟨RX6, "sumAtStep", "(ILHeavyHaul$Rig;IZZ)I"⟩
abbrev cX6_isBorne : ByteArray := prog_1_method_27_code
def yX6_isBorne : MethodName := ⟨RX6, "isBorne", "(LHeavyHaul$Road;LHeavyHaul$Rig;)Z"⟩
abbrev cX6_reasonAgainst : ByteArray := prog_1_method_28_code
def yX6_reasonAgainst : MethodName := ⟨RX6, "reasonAgainst", "(III)I"⟩
abbrev cX6_sizeReason : ByteArray := prog_1_method_29_code
def yX6_sizeReason : MethodName := ⟨RX6, "sizeReason", "(III)I"⟩
abbrev cX6_lastingReason : ByteArray := prog_1_method_30_code
def yX6_lastingReason : MethodName := ⟨RX6, "lastingReason", "(LHeavyHaul$Rig;LHeavyHaul$Road;)I"⟩
abbrev cX6_mostOfAxle : ByteArray := prog_1_method_31_code
def yX6_mostOfAxle : MethodName := ⟨RX6, "mostOfAxle", "(I)I"⟩
abbrev cX6_leaveReason : ByteArray := prog_1_method_32_code
def yX6_leaveReason : MethodName := ⟨RX6, "leaveReason", "(III)I"⟩
abbrev cX6_gainByWorks : ByteArray := prog_1_method_33_code
def yX6_gainByWorks : MethodName := ⟨RX6, "gainByWorks", "(IZII)I"⟩
abbrev cX6_isPermitted : ByteArray := prog_1_method_34_code
def yX6_isPermitted : MethodName := ⟨RX6, "isPermitted", "(IIII)Z"⟩
abbrev cX6_isEmbargoed : ByteArray := prog_1_method_35_code
def yX6_isEmbargoed : MethodName := ⟨RX6, "isEmbargoed", "(III)Z"⟩
abbrev cX6_isOfOneNight : ByteArray := prog_1_method_36_code
def yX6_isOfOneNight : MethodName := ⟨RX6, "isOfOneNight", "(II)Z"⟩
abbrev cX6_isAnyRigOn : ByteArray := prog_1_method_37_code
def yX6_isAnyRigOn : MethodName := ⟨RX6, "isAnyRigOn", "(I)Z"⟩
abbrev cX6_letTenGoBy : ByteArray := prog_1_method_38_code
def yX6_letTenGoBy : MethodName := ⟨RX6, "letTenGoBy", "()V"⟩
abbrev cX6_hasBay : ByteArray := prog_1_method_39_code
def yX6_hasBay : MethodName := ⟨RX6, "hasBay", "(I)Z"⟩
abbrev cX6_driveOn : ByteArray := prog_1_method_40_code
def yX6_driveOn : MethodName := ⟨RX6, "driveOn", "(IIIII)V"⟩
abbrev cX6_isOpen : ByteArray := prog_1_method_41_code
def yX6_isOpen : MethodName := ⟨RX6, "isOpen", "(III)Z"⟩
abbrev cX6_reach : ByteArray := prog_1_method_42_code
def yX6_reach : MethodName := ⟨RX6, "reach", "(II)V"⟩
abbrev cX6_placesBeyond : ByteArray := prog_1_method_43_code
def yX6_placesBeyond : MethodName := ⟨RX6, "placesBeyond", "(LHeavyHaul$Road;I)I"⟩
abbrev cX6_roadsFitFor : ByteArray := prog_1_method_44_code
def yX6_roadsFitFor : MethodName := ⟨RX6, "roadsFitFor", "(LHeavyHaul$Rig;)I"⟩
abbrev cX6_placesWithBay : ByteArray := prog_1_method_45_code
def yX6_placesWithBay : MethodName := ⟨RX6, "placesWithBay", "()I"⟩
def RX7 : String := "HeavyHaulModel"
def TX7 : u_T := fun k => match k with
  | _ => ("", "", "", false)
def tyX7 : Nat → FieldType := fun k => match k with
  | _ => .int
abbrev wsX70 : List Cond := u_ws RX7 TX7 0
theorem nmX7 : ∀ a, a < 0 → ∀ b, b < 0 → a ≠ b → (TX7 a).2.1 ≠ (TX7 b).2.1 := by decide +kernel
theorem tyX7_ok : ∀ k, k < 0 → parseFieldDescriptor (TX7 k).2.2.1 = some (tyX7 k) := by decide +kernel
def RJx145de : String := "java/io/Serializable"
def TJx145de : u_T := fun k => match k with
  | _ => ("", "", "", false)
def tyJx145de : Nat → FieldType := fun k => match k with
  | _ => .int
abbrev wsJx145de0 : List Cond := u_ws RJx145de TJx145de 0
theorem nmJx145de : ∀ a, a < 0 → ∀ b, b < 0 → a ≠ b → (TJx145de a).2.1 ≠ (TJx145de b).2.1 := by decide +kernel
theorem tyJx145de_ok : ∀ k, k < 0 → parseFieldDescriptor (TJx145de k).2.2.1 = some (tyJx145de k) := by decide +kernel
def RJx8e188 : String := "java/lang/Cloneable"
def TJx8e188 : u_T := fun k => match k with
  | _ => ("", "", "", false)
def tyJx8e188 : Nat → FieldType := fun k => match k with
  | _ => .int
abbrev wsJx8e1880 : List Cond := u_ws RJx8e188 TJx8e188 0
theorem nmJx8e188 : ∀ a, a < 0 → ∀ b, b < 0 → a ≠ b → (TJx8e188 a).2.1 ≠ (TJx8e188 b).2.1 := by decide +kernel
theorem tyJx8e188_ok : ∀ k, k < 0 → parseFieldDescriptor (TJx8e188 k).2.2.1 = some (tyJx8e188 k) := by decide +kernel
def RJxab1ab : String := "java/lang/Iterable"
def TJxab1ab : u_T := fun k => match k with
  | _ => ("", "", "", false)
def tyJxab1ab : Nat → FieldType := fun k => match k with
  | _ => .int
abbrev wsJxab1ab0 : List Cond := u_ws RJxab1ab TJxab1ab 0
theorem nmJxab1ab : ∀ a, a < 0 → ∀ b, b < 0 → a ≠ b → (TJxab1ab a).2.1 ≠ (TJxab1ab b).2.1 := by decide +kernel
theorem tyJxab1ab_ok : ∀ k, k < 0 → parseFieldDescriptor (TJxab1ab k).2.2.1 = some (tyJxab1ab k) := by decide +kernel
def RJ9 : String := "java/lang/Math"
def TJ9 : u_T := fun k => match k with
  | _ => ("", "", "", false)
def tyJ9 : Nat → FieldType := fun k => match k with
  | _ => .int
abbrev wsJ90 : List Cond := u_ws RJ9 TJ9 0
theorem nmJ9 : ∀ a, a < 0 → ∀ b, b < 0 → a ≠ b → (TJ9 a).2.1 ≠ (TJ9 b).2.1 := by decide +kernel
theorem tyJ9_ok : ∀ k, k < 0 → parseFieldDescriptor (TJ9 k).2.2.1 = some (tyJ9 k) := by decide +kernel
abbrev cJ9_max_7cf53 : ByteArray := prog_17_method_65_code
def yJ9_max_7cf53 : MethodName := ⟨RJ9, "max", "(II)I"⟩
abbrev cJ9_min_7cf53 : ByteArray := prog_17_method_69_code
def yJ9_min_7cf53 : MethodName := ⟨RJ9, "min", "(II)I"⟩
def RJ0 : String := "java/lang/String"
def TJ0 : u_T := fun k => match k with
  | _ => ("", "", "", false)
def tyJ0 : Nat → FieldType := fun k => match k with
  | _ => .int
abbrev wsJ00 : List Cond := u_ws RJ0 TJ0 0
theorem nmJ0 : ∀ a, a < 0 → ∀ b, b < 0 → a ≠ b → (TJ0 a).2.1 ≠ (TJ0 b).2.1 := by decide +kernel
theorem tyJ0_ok : ∀ k, k < 0 → parseFieldDescriptor (TJ0 k).2.2.1 = some (tyJ0 k) := by decide +kernel
def RJ10 : String := "java/lang/System"
def TJ10 : u_T := fun k => match k with
  | _ => ("", "", "", false)
def tyJ10 : Nat → FieldType := fun k => match k with
  | _ => .int
abbrev wsJ100 : List Cond := u_ws RJ10 TJ10 0
theorem nmJ10 : ∀ a, a < 0 → ∀ b, b < 0 → a ≠ b → (TJ10 a).2.1 ≠ (TJ10 b).2.1 := by decide +kernel
theorem tyJ10_ok : ∀ k, k < 0 → parseFieldDescriptor (TJ10 k).2.2.1 = some (tyJ10 k) := by decide +kernel
def RJxa1e45 : String := "java/util/AbstractCollection"
def TJxa1e45 : u_T := fun k => match k with
  | _ => ("", "", "", false)
def tyJxa1e45 : Nat → FieldType := fun k => match k with
  | _ => .int
abbrev wsJxa1e450 : List Cond := u_ws RJxa1e45 TJxa1e45 0
theorem nmJxa1e45 : ∀ a, a < 0 → ∀ b, b < 0 → a ≠ b → (TJxa1e45 a).2.1 ≠ (TJxa1e45 b).2.1 := by decide +kernel
theorem tyJxa1e45_ok : ∀ k, k < 0 → parseFieldDescriptor (TJxa1e45 k).2.2.1 = some (tyJxa1e45 k) := by decide +kernel
abbrev cJxa1e45_init_da8c8 : ByteArray := prog_22_method_1_code
def yJxa1e45_init_da8c8 : MethodName := ⟨RJxa1e45, "<init>", "()V"⟩
def RJxc12de : String := "java/util/AbstractList"
def TJxc12de : u_T := fun k => match k with
  | _ => ("", "", "", false)
def tyJxc12de : Nat → FieldType := fun k => match k with
  | _ => .int
abbrev wsJxc12de0 : List Cond := u_ws RJxc12de TJxc12de 0
theorem nmJxc12de : ∀ a, a < 0 → ∀ b, b < 0 → a ≠ b → (TJxc12de a).2.1 ≠ (TJxc12de b).2.1 := by decide +kernel
theorem tyJxc12de_ok : ∀ k, k < 0 → parseFieldDescriptor (TJxc12de k).2.2.1 = some (tyJxc12de k) := by decide +kernel
abbrev cJxc12de_init_da8c8 : ByteArray := prog_23_method_1_code
def yJxc12de_init_da8c8 : MethodName := ⟨RJxc12de, "<init>", "()V"⟩
def RJx4a65c : String := "java/util/ArrayList"
def TJx4a65c : u_T := fun k => match k with
  | 0 => ("java/util/AbstractList", "modCount", "I", false)
  | 1 => ("java/util/ArrayList", "elementData", "[Ljava/lang/Object;", false)
  | _ => ("java/util/ArrayList", "size", "I", false)
def tyJx4a65c : Nat → FieldType := fun k => match k with
  | 0 => .int
  | 1 => .array (.object "java/lang/Object")
  | _ => .int
abbrev wsJx4a65c0 : List Cond := u_ws RJx4a65c TJx4a65c 3
theorem nmJx4a65c : ∀ a, a < 3 → ∀ b, b < 3 → a ≠ b → (TJx4a65c a).2.1 ≠ (TJx4a65c b).2.1 := by decide +kernel
theorem tyJx4a65c_ok : ∀ k, k < 3 → parseFieldDescriptor (TJx4a65c k).2.2.1 = some (tyJx4a65c k) := by decide +kernel
abbrev cJx4a65c_init_da8c8 : ByteArray := prog_24_method_2_code
def yJx4a65c_init_da8c8 : MethodName := ⟨RJx4a65c, "<init>", "()V"⟩
abbrev cJx4a65c_grow_92f84 : ByteArray := prog_24_method_6_code
def yJx4a65c_grow_92f84 : MethodName := ⟨RJx4a65c, "grow", "(I)[Ljava/lang/Object;"⟩
abbrev cJx4a65c_grow_d5877 : ByteArray := prog_24_method_7_code
def yJx4a65c_grow_d5877 : MethodName := ⟨RJx4a65c, "grow", "()[Ljava/lang/Object;"⟩
abbrev cJx4a65c_size_8abf5 : ByteArray := prog_24_method_8_code
def yJx4a65c_size_8abf5 : MethodName := ⟨RJx4a65c, "size", "()I"⟩
abbrev cJx4a65c_elementData_915e3 : ByteArray := prog_24_method_18_code
def yJx4a65c_elementData_915e3 : MethodName := ⟨RJx4a65c, "elementData", "(I)Ljava/lang/Object;"⟩
abbrev cJx4a65c_get_915e3 : ByteArray := prog_24_method_20_code
def yJx4a65c_get_915e3 : MethodName := ⟨RJx4a65c, "get", "(I)Ljava/lang/Object;"⟩
abbrev cJx4a65c_add_72be8 : ByteArray := prog_24_method_24_code
def yJx4a65c_add_72be8 : MethodName := ⟨RJx4a65c, "add", "(Ljava/lang/Object;[Ljava/lang/Object;I)V"⟩
abbrev cJx4a65c_add_9ea2d : ByteArray := prog_24_method_25_code
def yJx4a65c_add_9ea2d : MethodName := ⟨RJx4a65c, "add", "(Ljava/lang/Object;)Z"⟩
def RJ7 : String := "java/util/Arrays"
def TJ7 : u_T := fun k => match k with
  | _ => ("", "", "", false)
def tyJ7 : Nat → FieldType := fun k => match k with
  | _ => .int
abbrev wsJ70 : List Cond := u_ws RJ7 TJ7 0
theorem nmJ7 : ∀ a, a < 0 → ∀ b, b < 0 → a ≠ b → (TJ7 a).2.1 ≠ (TJ7 b).2.1 := by decide +kernel
theorem tyJ7_ok : ∀ k, k < 0 → parseFieldDescriptor (TJ7 k).2.2.1 = some (tyJ7 k) := by decide +kernel
abbrev cJ7_fill_53178 : ByteArray := prog_25_method_103_code
def yJ7_fill_53178 : MethodName := ⟨RJ7, "fill", "([II)V"⟩
abbrev cJ7_copyOf_1904c : ByteArray := prog_25_method_119_code
def yJ7_copyOf_1904c : MethodName := ⟨RJ7, "copyOf", "([Ljava/lang/Object;I)[Ljava/lang/Object;"⟩
abbrev cJ7_copyOf_6403c : ByteArray := prog_25_method_120_code
def yJ7_copyOf_6403c : MethodName := ⟨RJ7, "copyOf", "([Ljava/lang/Object;ILjava/lang/Class;)[Ljava/lang/Object;"⟩
def RJx5ef63 : String := "java/util/Collection"
def TJx5ef63 : u_T := fun k => match k with
  | _ => ("", "", "", false)
def tyJx5ef63 : Nat → FieldType := fun k => match k with
  | _ => .int
abbrev wsJx5ef630 : List Cond := u_ws RJx5ef63 TJx5ef63 0
theorem nmJx5ef63 : ∀ a, a < 0 → ∀ b, b < 0 → a ≠ b → (TJx5ef63 a).2.1 ≠ (TJx5ef63 b).2.1 := by decide +kernel
theorem tyJx5ef63_ok : ∀ k, k < 0 → parseFieldDescriptor (TJx5ef63 k).2.2.1 = some (tyJx5ef63 k) := by decide +kernel
def RJxbd725 : String := "java/util/List"
def TJxbd725 : u_T := fun k => match k with
  | _ => ("", "", "", false)
def tyJxbd725 : Nat → FieldType := fun k => match k with
  | _ => .int
abbrev wsJxbd7250 : List Cond := u_ws RJxbd725 TJxbd725 0
theorem nmJxbd725 : ∀ a, a < 0 → ∀ b, b < 0 → a ≠ b → (TJxbd725 a).2.1 ≠ (TJxbd725 b).2.1 := by decide +kernel
theorem tyJxbd725_ok : ∀ k, k < 0 → parseFieldDescriptor (TJxbd725 k).2.2.1 = some (tyJxbd725 k) := by decide +kernel
def RJ15 : String := "java/util/Objects"
def TJ15 : u_T := fun k => match k with
  | _ => ("", "", "", false)
def tyJ15 : Nat → FieldType := fun k => match k with
  | _ => .int
abbrev wsJ150 : List Cond := u_ws RJ15 TJ15 0
theorem nmJ15 : ∀ a, a < 0 → ∀ b, b < 0 → a ≠ b → (TJ15 a).2.1 ≠ (TJ15 b).2.1 := by decide +kernel
theorem tyJ15_ok : ∀ k, k < 0 → parseFieldDescriptor (TJ15 k).2.2.1 = some (tyJ15 k) := by decide +kernel
abbrev cJ15_checkIndex_7cf53 : ByteArray := prog_28_method_17_code
def yJ15_checkIndex_7cf53 : MethodName := ⟨RJ15, "checkIndex", "(II)I"⟩
def RJxf0a74 : String := "java/util/RandomAccess"
def TJxf0a74 : u_T := fun k => match k with
  | _ => ("", "", "", false)
def tyJxf0a74 : Nat → FieldType := fun k => match k with
  | _ => .int
abbrev wsJxf0a740 : List Cond := u_ws RJxf0a74 TJxf0a74 0
theorem nmJxf0a74 : ∀ a, a < 0 → ∀ b, b < 0 → a ≠ b → (TJxf0a74 a).2.1 ≠ (TJxf0a74 b).2.1 := by decide +kernel
theorem tyJxf0a74_ok : ∀ k, k < 0 → parseFieldDescriptor (TJxf0a74 k).2.2.1 = some (tyJxf0a74 k) := by decide +kernel
def RJxa66e6 : String := "java/util/SequencedCollection"
def TJxa66e6 : u_T := fun k => match k with
  | _ => ("", "", "", false)
def tyJxa66e6 : Nat → FieldType := fun k => match k with
  | _ => .int
abbrev wsJxa66e60 : List Cond := u_ws RJxa66e6 TJxa66e6 0
theorem nmJxa66e6 : ∀ a, a < 0 → ∀ b, b < 0 → a ≠ b → (TJxa66e6 a).2.1 ≠ (TJxa66e6 b).2.1 := by decide +kernel
theorem tyJxa66e6_ok : ∀ k, k < 0 → parseFieldDescriptor (TJxa66e6 k).2.2.1 = some (tyJxa66e6 k) := by decide +kernel
def RJ8 : String := "jdk/internal/util/ArraysSupport"
def TJ8 : u_T := fun k => match k with
  | _ => ("", "", "", false)
def tyJ8 : Nat → FieldType := fun k => match k with
  | _ => .int
abbrev wsJ80 : List Cond := u_ws RJ8 TJ8 0
theorem nmJ8 : ∀ a, a < 0 → ∀ b, b < 0 → a ≠ b → (TJ8 a).2.1 ≠ (TJ8 b).2.1 := by decide +kernel
theorem tyJ8_ok : ∀ k, k < 0 → parseFieldDescriptor (TJ8 k).2.2.1 = some (tyJ8 k) := by decide +kernel
abbrev cJ8_newLength_cabcc : ByteArray := prog_31_method_27_code
def yJ8_newLength_cabcc : MethodName := ⟨RJ8, "newLength", "(III)I"⟩
abbrev cJ8_hugeLength_7cf53 : ByteArray := prog_31_method_28_code
def yJ8_hugeLength_7cf53 : MethodName := ⟨RJ8, "hugeLength", "(II)I"⟩
def RJ3 : String := "jdk/internal/util/Preconditions"
def TJ3 : u_T := fun k => match k with
  | _ => ("", "", "", false)
def tyJ3 : Nat → FieldType := fun k => match k with
  | _ => .int
abbrev wsJ30 : List Cond := u_ws RJ3 TJ3 0
theorem nmJ3 : ∀ a, a < 0 → ∀ b, b < 0 → a ≠ b → (TJ3 a).2.1 ≠ (TJ3 b).2.1 := by decide +kernel
theorem tyJ3_ok : ∀ k, k < 0 → parseFieldDescriptor (TJ3 k).2.2.1 = some (tyJ3 k) := by decide +kernel
abbrev cJ3_checkIndex_8e157 : ByteArray := prog_32_method_11_code
def yJ3_checkIndex_8e157 : MethodName := ⟨RJ3, "checkIndex", "(IILjava/util/function/BiFunction;)I"⟩
def RL : String := "HeavyHaulLaw"
abbrev cL_from : ByteArray := method_2_code
def yL_from : MethodName := ⟨RL, "from", "([III)I"⟩
abbrev cL_axle : ByteArray := method_3_code
def yL_axle : MethodName := ⟨RL, "axle", "([IIZ)I"⟩
abbrev cL_greatest : ByteArray := method_4_code
def yL_greatest : MethodName := ⟨RL, "greatest", "([I[IIIZ)I"⟩
abbrev cL_isBorne : ByteArray := method_5_code
def yL_isBorne : MethodName := ⟨RL, "isBorne", "([I[III)Z"⟩
abbrev cL_why : ByteArray := method_6_code
def yL_why : MethodName := ⟨RL, "why", "([I[I[I[I[I[I[IIIIZ)I"⟩
abbrev cL_arrives : ByteArray := method_7_code
def yL_arrives : MethodName := ⟨RL, "arrives", "([I[I[I[I[I[I[IIIII)I"⟩
abbrev cL_borne : ByteArray := method_8_code
def yL_borne : MethodName := ⟨RL, "borne", "([I[II)I"⟩
abbrev cL_pass : ByteArray := method_9_code
def yL_pass : MethodName := ⟨RL, "pass", "([I[I)V"⟩
abbrev cL_isSame : ByteArray := method_10_code
def yL_isSame : MethodName := ⟨RL, "isSame", "(LHeavyHaul;[I[I[I[I[I[I[II)Z"⟩
abbrev cL_isTold : ByteArray := method_11_code
def yL_isTold : MethodName := ⟨RL, "isTold", "(LHeavyHaul;[I[I[I[III)Z"⟩
abbrev cL_isAllowed : ByteArray := method_12_code
def yL_isAllowed : MethodName := ⟨RL, "isAllowed", "(LHeavyHaul;[I[I[I[III)Z"⟩
abbrev cL_isLoaded : ByteArray := method_13_code
def yL_isLoaded : MethodName := ⟨RL, "isLoaded", "(LHeavyHaul;[III)Z"⟩
abbrev cL_isDriven : ByteArray := method_14_code
def yL_isDriven : MethodName := ⟨RL, "isDriven", "(LHeavyHaul;[I[I[I[I[I[I[III)Z"⟩
abbrev cL_isBegun : ByteArray := method_15_code
def yL_isBegun : MethodName := ⟨RL, "isBegun", "(LHeavyHaul;[I[I[I)Z"⟩
abbrev cL_holds : ByteArray := method_16_code
def yL_holds : MethodName := ⟨RL, "holds", "([I)Z"⟩
abbrev cL_isHeld : ByteArray := method_17_code
def yL_isHeld : MethodName := ⟨RL, "isHeld", "([I)Z"⟩
abbrev cL_law : ByteArray := code
def yL_law : MethodName := ⟨RL, "law", "([I)Z"⟩
abbrev vwCl : List vw_C := [(RJx4a65c, TJx4a65c, 3), (RX0, TX0, 2), (RX1, TX1, 2), (RX2, TX2, 3), (RX3, TX3, 13), (RX4, TX4, 10), (RX5, TX5, 4), (RX6, TX6, 10)]
end
section
/-! THE PURE MACHINE: values, stores, and a weakest precondition of a method's code, by computation -/
/-- a value: an int, a long, or an object by its kind and number (kind 99: a raw cell) -/
abbrev AV : Type := Int32 ⊕ (Int64 ⊕ (Nat × Nat))
abbrev aI (x : Int32) : AV := Sum.inl x
abbrev aL (x : Int64) : AV := Sum.inr (Sum.inl x)
abbrev aR (k i : Nat) : AV := Sum.inr (Sum.inr (k, i))
abbrev Lo : Type := List (Option AV)
/-- a store: int columns by kind, field (array), place; longs by array and place; how many there are of a kind -/
abbrev Sto : Type := (Nat → Nat → Nat → Int32) × (Nat → Nat → Int64) × (Nat → Nat)
abbrev Out : Type := Option AV ⊕ Nat
abbrev SV : Type := List AV → Sto → (Option AV → Prop) → Prop
abbrev SP : Type := List AV → Sto → (Out → Sto → Prop) → Prop
/-- what an instruction's row says beside it: numbers, places of words or targets, a callee's words -/
abbrev Xi : Type := (Nat × Nat × Int32) × List Nat × (Nat × SP)
abbrev Tb : Type := List (Nat × Instr × Nat × Xi)
abbrev Gt : Type := Nat → Lo → List AV → Sto → Nat → Prop
def sp0 : SP := fun _ _ _ => False
abbrev x0 : Xi := ((0, 0, 0), [], (0, sp0))
abbrev xN (a : Nat) : Xi := ((a, 0, 0), [], (0, sp0))
abbrev xI (v : Int32) : Xi := ((0, 0, v), [], (0, sp0))
abbrev xF (a b : Nat) (ws : List Nat) : Xi := ((a, b, 0), ws, (0, sp0))
abbrev xC (a b : Nat) (v : Int32) (ws : List Nat) : Xi := ((a, b, v), ws, (0, sp0))
/-- a callee that only answers -/
def vS (sv : SV) : SP := fun as S Q => sv as S (fun r => Q (Sum.inl r) S)
abbrev xV (n : Nat) (sv : SV) : Xi := ((n, 0, 0), [], (0, vS sv))
abbrev xS (n u : Nat) (sp : SP) : Xi := ((n, 0, 0), [], (u, sp))
abbrev xO : Xi := ((1, 9, 0), [], (0, sp0))
/-- fields: 0 an int; (1, k, i) always the object i of kind k; (2, k, i) that or null; (3, k, _) the object of kind k of the same number, or null -/
def ftab : Nat → List (Nat × Nat × Nat)
  | 0 => [(1, 11, 0), (1, 10, 0), (1, 10, 1), (1, 13, 0), (1, 13, 1), (1, 13, 2), (1, 13, 3), (1, 13, 4), (1, 10, 2), (0, 0, 0)]
  | 2 => [(0, 0, 0), (0, 0, 0), (0, 0, 0), (0, 0, 0), (0, 0, 0), (0, 0, 0), (0, 0, 0), (0, 0, 0), (0, 0, 0), (0, 0, 0)]
  | 3 => [(0, 0, 0), (0, 0, 0), (0, 0, 0), (3, 7, 0)]
  | 4 => [(0, 0, 0), (0, 0, 0), (0, 0, 0), (0, 0, 0), (0, 0, 0), (0, 0, 0), (0, 0, 0), (0, 0, 0), (0, 0, 0), (0, 0, 0), (0, 0, 0), (0, 0, 0), (0, 0, 0)]
  | 5 => [(0, 0, 0), (0, 0, 0), (3, 8, 0)]
  | 6 => [(0, 0, 0), (3, 9, 0)]
  | 7 => [(0, 0, 0), (0, 0, 0)]
  | 8 => [(0, 0, 0), (0, 0, 0)]
  | 9 => [(0, 0, 0), (0, 0, 0)]
  | 17 => [(2, 11, 0), (2, 10, 0), (2, 10, 1), (2, 13, 0), (2, 13, 1), (2, 13, 2), (2, 13, 3), (2, 13, 4), (2, 10, 2), (0, 0, 0)]
  | _ => []
def ft (k f : Nat) : Nat × Nat × Nat := (ftab k).getD f (0, 0, 0)
def nf (k : Nat) : Nat := (ftab k).length
/-- the place of a kind's class in vwCl -/
def ci : Nat → Nat
  | 0 => 7
  | 2 => 5
  | 3 => 6
  | 4 => 4
  | 5 => 3
  | 6 => 1
  | 7 => 2
  | 8 => 2
  | 9 => 2
  | 17 => 7
  | _ => 0
def obK (k : Nat) : Bool := (Nat.ble k 9 && !(k == 1)) || k == 17
/-- the lengths of the arrays, in the order in which they are made -/
def al (k i : Nat) : Nat := match k with
  | 10 => ([4, 4, 288, 60, 30, 28, 48, 9, 8, 5] : List Nat).getD i 0
  | 11 => ([10] : List Nat).getD i 0
  | 12 => 25
  | _ => 1
/-- which objects a list holds -/
def lk : Nat → Nat
  | 0 => 2
  | 1 => 3
  | 2 => 4
  | 3 => 5
  | _ => 6
def wrI (S : Sto) (k f i : Nat) (v : Int32) : Sto := (fun k' f' => if k' = k ∧ f' = f then upd (S.1 k f) i v else S.1 k' f', S.2)
def wrJ (S : Sto) (i j : Nat) (v : Int64) : Sto := (S.1, fun i' j' => if i' = i ∧ j' = j then v else S.2.1 i' j', S.2.2)
def bump (N : Nat → Nat) (k : Nat) : Nat → Nat := fun k' => if k' = k then N k + 1 else N k'
/-- a new object of kind k, all its fields 0 or null -/
def mkO (S : Sto) (k : Nat) : Sto := (fun k' f' => if k' = k then upd (S.1 k f') (S.2.2 k) 0 else S.1 k' f', S.2.1, bump S.2.2 k)
/-- a new array of kind k, all 0 -/
def mkA (S : Sto) (k : Nat) : Sto := (fun k' f' => if k' = k ∧ f' = S.2.2 k then (fun _ => 0) else S.1 k' f', S.2.1, bump S.2.2 k)
/-- a new array of longs, all 0 -/
def mkJ (S : Sto) : Sto := (S.1, fun i' => if i' = S.2.2 12 then (fun _ => 0) else S.2.1 i', bump S.2.2 12)
/-- a new list -/
def mkL (S : Sto) : Sto := (S.1, S.2.1, bump S.2.2 13)
def popN : Nat → List AV → List AV → (List AV → List AV → Prop) → Prop
  | 0, st, acc, k => k acc st
  | n + 1, v :: st, acc, k => popN n st (v :: acc) k
  | _ + 1, [], _, _ => False
def getL : Lo → Nat → (AV → Prop) → Prop
  | [], _, _ => False
  | none :: _, 0, _ => False
  | some v :: _, 0, k => k v
  | _ :: r, n + 1, k => getL r n k
def clrP : Option AV → Option AV
  | some (Sum.inr (Sum.inl _)) => none
  | x => x
def setL : Lo → Nat → AV → Lo
  | [], _, _ => []
  | _ :: r, 0, v => some v :: r
  | x :: r, 1, v => clrP x :: setL r 0 v
  | x :: r, n + 2, v => x :: setL r (n + 1) v
def hN : Lo → Lo
  | [] => []
  | _ :: r => none :: r
def setL2 : Lo → Nat → AV → Lo
  | [], _, _ => []
  | _ :: r, 0, v => some v :: hN r
  | x :: r, 1, v => clrP x :: setL2 r 0 v
  | x :: r, n + 2, v => x :: setL2 r (n + 1) v
def forceL : Lo → (Lo → Prop) → Prop
  | [], k => k []
  | x :: r, k => forceL r (fun y => k (x :: y))
def catV : AV → Nat
  | Sum.inr (Sum.inl _) => 2
  | _ => 1
def catS : List AV → Nat
  | [] => 0
  | v :: r => catV v + catS r
def drp : Tb → Nat → Tb
  | [], _ => []
  | q :: r, t => bif q.1 == t then q :: r else drp r t
def fH : List (Nat × Nat × Nat × Nat) → Nat → Nat → Option Nat
  | [], _, _ => none
  | (a, b, t, e) :: r, pc, x => bif Nat.ble a pc && Nat.blt pc b && e == x then some t else fH r pc x
def swc (k : Nat → Prop) : List Nat → Int → Int32 → Prop
  | [], _, _ => True
  | t :: r, v, y => (y.toInt = v → k t) ∧ swc k r (v + 1) y
def i1 (st : List AV) (k : Int32 → List AV → Prop) : Prop := match st with
  | Sum.inl a :: r => k a r
  | _ => False
def i2 (st : List AV) (k : Int32 → Int32 → List AV → Prop) : Prop := match st with
  | Sum.inl b :: Sum.inl a :: r => k a b r
  | _ => False
def l2 (st : List AV) (k : Int64 → Int64 → List AV → Prop) : Prop := match st with
  | Sum.inr (Sum.inl b) :: Sum.inr (Sum.inl a) :: r => k a b r
  | _ => False
def il (st : List AV) (k : Int64 → Int32 → List AV → Prop) : Prop := match st with
  | Sum.inl b :: Sum.inr (Sum.inl a) :: r => k a b r
  | _ => False
def r1 (st : List AV) (k : Nat → Nat → List AV → Prop) : Prop := match st with
  | Sum.inr (Sum.inr (a, b)) :: r => k a b r
  | _ => False
def isI (v : AV) (k : Prop) : Prop := match v with
  | Sum.inl _ => k
  | _ => False
def isJ (v : AV) (k : Prop) : Prop := match v with
  | Sum.inr (Sum.inl _) => k
  | _ => False
def isR (v : AV) (k : Prop) : Prop := match v with
  | Sum.inr (Sum.inr _) => k
  | _ => False
/-- reading a field, writing it -/
def gF (S : Sto) (k f i : Nat) (c : AV → Prop) : Prop := match ft k f with
  | (0, _, _) => c (aI (S.1 k f i))
  | (1, k', i') => c (aR k' i')
  | (2, k', i') => S.1 k f i ≠ 0 ∧ c (aR k' i')
  | (_, k', _) => S.1 k f i ≠ 0 ∧ c (aR k' i)
def pF (S : Sto) (k f i : Nat) (v : AV) (c : Sto → Prop) : Prop := match ft k f, v with
  | (0, _, _), Sum.inl x => c (wrI S k f i x)
  | (2, k', i'), Sum.inr (Sum.inr (a, b)) => bif a == k' && b == i' then c (wrI S k f i 1) else False
  | (3, k', _), Sum.inr (Sum.inr (a, b)) => bif a == k' then b = i ∧ c (wrI S k f i 1) else False
  | _, _ => False
def br1 (o : ClassFile.Cond) (x : Int32) (a b : Prop) : Prop := match o with
  | .eq => (x = 0 → a) ∧ (¬ x = 0 → b)
  | .ne => (¬ x = 0 → a) ∧ (x = 0 → b)
  | .lt => (x < 0 → a) ∧ (¬ x < 0 → b)
  | .ge => (0 ≤ x → a) ∧ (¬ 0 ≤ x → b)
  | .gt => (0 < x → a) ∧ (¬ 0 < x → b)
  | .le => (x ≤ 0 → a) ∧ (¬ x ≤ 0 → b)
def br2 (o : ClassFile.Cond) (x y : Int32) (a b : Prop) : Prop := match o with
  | .eq => (x = y → a) ∧ (¬ x = y → b)
  | .ne => (¬ x = y → a) ∧ (x = y → b)
  | .lt => (x < y → a) ∧ (¬ x < y → b)
  | .ge => (y ≤ x → a) ∧ (¬ y ≤ x → b)
  | .gt => (y < x → a) ∧ (¬ y < x → b)
  | .le => (x ≤ y → a) ∧ (¬ x ≤ y → b)
section WP
variable (tb : Tb) (G : Gt) (Q : Out → Sto → Prop) (rb : Nat) (B : Nat) (hn : List (Nat × Nat × Nat × Nat)) (cuts : List Nat) (scr : Nat × (Nat → Int32))
/-- what one instruction asks, K behind it -/
def wpI (pc : Nat) (ins : Instr) (xa xb : Nat) (xv : Int32) (xl : List Nat) (xu : Nat) (xs : SP) (nx : Tb) (K : Tb → Lo → List AV → Sto → Nat → Prop) (L : Lo) (st : List AV) (S : Sto) (u : Nat) : Prop := match ins with
  | .iload_n i => getL L i.val fun v => isI v (K nx L (v :: st) S u)
  | .iload i => getL L i fun v => isI v (K nx L (v :: st) S u)
  | .aload_n i => getL L i.val fun v => isR v (K nx L (v :: st) S u)
  | .aload i => getL L i fun v => isR v (K nx L (v :: st) S u)
  | .lload_n i => getL L i.val fun v => isJ v (K nx L (v :: st) S u)
  | .lload i => getL L i fun v => isJ v (K nx L (v :: st) S u)
  | .istore_n i => i1 st fun a r => bif Nat.blt i.val L.length then forceL (setL L i.val (aI a)) fun L' => K nx L' r S u else False
  | .istore i => i1 st fun a r => bif Nat.blt i L.length then forceL (setL L i (aI a)) fun L' => K nx L' r S u else False
  | .astore_n i => r1 st fun a b r => bif Nat.blt i.val L.length then forceL (setL L i.val (aR a b)) fun L' => K nx L' r S u else False
  | .astore i => r1 st fun a b r => bif Nat.blt i L.length then forceL (setL L i (aR a b)) fun L' => K nx L' r S u else False
  | .lstore_n i => match st with
        | Sum.inr (Sum.inl a) :: r => bif Nat.blt (i.val + 1) L.length then forceL (setL2 L i.val (aL a)) fun L' => K nx L' r S u else False
        | _ => False
  | .lstore i => match st with
        | Sum.inr (Sum.inl a) :: r => bif Nat.blt (i + 1) L.length then forceL (setL2 L i (aL a)) fun L' => K nx L' r S u else False
        | _ => False
  | .iinc i _ => getL L i fun v => match v with
        | Sum.inl a => bif Nat.blt i L.length then forceL (setL L i (aI (a + xv))) fun L' => K nx L' st S u else False
        | _ => False
  | .iconst _ => K nx L (aI xv :: st) S u
  | .bipush _ => K nx L (aI xv :: st) S u
  | .sipush _ => K nx L (aI xv :: st) S u
  | .ldc _ => K nx L (aI xv :: st) S u
  | .lconst k => K nx L (aL (bif k.val == 0 then 0 else 1) :: st) S u
  | .iadd => i2 st fun a b r => K nx L (aI (a + b) :: r) S u
  | .isub => i2 st fun a b r => K nx L (aI (a - b) :: r) S u
  | .imul => i2 st fun a b r => K nx L (aI (a * b) :: r) S u
  | .iand => i2 st fun a b r => K nx L (aI (a &&& b) :: r) S u
  | .ior => i2 st fun a b r => K nx L (aI (a ||| b) :: r) S u
  | .ixor => i2 st fun a b r => K nx L (aI (a ^^^ b) :: r) S u
  | .ineg => i1 st fun a r => K nx L (aI (-a) :: r) S u
  | .ishl => i2 st fun a b r => K nx L (aI (a <<< (b &&& 31)) :: r) S u
  | .ishr => i2 st fun a b r => K nx L (aI (a >>> (b &&& 31)) :: r) S u
  | .idiv => i2 st fun a b r => ¬ b = 0 ∧ K nx L (aI (a / b) :: r) S u
  | .irem => i2 st fun a b r => ¬ b = 0 ∧ K nx L (aI (a - a / b * b) :: r) S u
  | .ladd => l2 st fun a b r => K nx L (aL (a + b) :: r) S u
  | .lsub => l2 st fun a b r => K nx L (aL (a - b) :: r) S u
  | .lmul => l2 st fun a b r => K nx L (aL (a * b) :: r) S u
  | .ldiv => l2 st fun a b r => ¬ b = 0 ∧ K nx L (aL (a / b) :: r) S u
  | .lrem => l2 st fun a b r => ¬ b = 0 ∧ K nx L (aL (a - a / b * b) :: r) S u
  | .land => l2 st fun a b r => K nx L (aL (a &&& b) :: r) S u
  | .lor => l2 st fun a b r => K nx L (aL (a ||| b) :: r) S u
  | .lshl => il st fun a b r => K nx L (aL (a <<< (b.toInt64 &&& 63)) :: r) S u
  | .lshr => il st fun a b r => K nx L (aL (a >>> (b.toInt64 &&& 63)) :: r) S u
  | .lcmp => l2 st fun a b r => K nx L (aI (lg_cmp a b) :: r) S u
  | .i2l => i1 st fun a r => K nx L (aL a.toInt64 :: r) S u
  | .l2i => match st with
        | Sum.inr (Sum.inl a) :: r => K nx L (aI a.toInt32 :: r) S u
        | _ => False
  | .dup => match st with
        | v :: r => bif catV v == 1 then K nx L (v :: v :: r) S u else False
        | _ => False
  | .dup2 => match st with
        | v :: w :: r => bif catV v == 1 && catV w == 1 then K nx L (v :: w :: v :: w :: r) S u else False
        | _ => False
  | .pop => match st with
        | v :: r => bif catV v == 1 then K nx L r S u else False
        | _ => False
  | .goto _ => K (drp tb xa) L st S u
  | .ifCond o _ => i1 st fun a r => br1 o a (K (drp tb xa) L r S u) (K nx L r S u)
  | .if_icmp o _ => i2 st fun a b r => br2 o a b (K (drp tb xa) L r S u) (K nx L r S u)
  | .tableswitch _ lo hi _ => i1 st fun a r => ((a.toInt < lo ∨ hi < a.toInt) → K (drp tb xa) L r S u) ∧ swc (fun t => K (drp tb t) L r S u) xl lo a
  | .getfield _ => r1 st fun k i r => bif obK k && ci k == xa then gF S k xb i fun v => K nx L (v :: r) S u else False
  | .putfield _ => match st with
        | v :: Sum.inr (Sum.inr (k, i)) :: r => bif obK k && ci k == xa then pF S k xb i v fun S' => K nx L r S' u else False
        | _ => False
  | .iaload => match st with
        | Sum.inl j :: Sum.inr (Sum.inr (k, i)) :: r => bif k == 10 then vp_in j (al 10 i) ∧ K nx L (aI (S.1 10 i j.toNatClampNeg) :: r) S u else
          bif k == 14 && i == 0 && Nat.blt 0 scr.1 then vp_in j (scr.1 - 1) ∧ K nx L (aI (scr.2 j.toNatClampNeg) :: r) S u else False
        | _ => False
  | .baload => match st with
        | Sum.inl j :: Sum.inr (Sum.inr (k, i)) :: r => bif k == 11 then vp_in j (al 11 i) ∧ K nx L (aI (S.1 11 i j.toNatClampNeg) :: r) S u else False
        | _ => False
  | .laload => match st with
        | Sum.inl j :: Sum.inr (Sum.inr (k, i)) :: r => bif k == 12 then vp_in j 25 ∧ K nx L (aL (S.2.1 i j.toNatClampNeg) :: r) S u else False
        | _ => False
  | .iastore => match st with
        | Sum.inl v :: Sum.inl j :: Sum.inr (Sum.inr (k, i)) :: r => bif k == 10 then vp_in j (al 10 i) ∧ K nx L r (wrI S 10 i j.toNatClampNeg v) u else False
        | _ => False
  | .bastore => match st with
        | Sum.inl v :: Sum.inl j :: Sum.inr (Sum.inr (k, i)) :: r => bif k == 11 then vp_in j (al 11 i) ∧ K nx L r (wrI S 11 i j.toNatClampNeg (v &&& 1)) u else False
        | _ => False
  | .lastore => match st with
        | Sum.inr (Sum.inl v) :: Sum.inl j :: Sum.inr (Sum.inr (k, i)) :: r => bif k == 12 then vp_in j 25 ∧ K nx L r (wrJ S i j.toNatClampNeg v) u else False
        | _ => False
  | .arraylength => r1 st fun k i r => bif k == 10 || k == 11 then K nx L (aI (Int32.ofNat (al k i)) :: r) S u else
          bif k == 14 && i == 0 && Nat.blt 0 scr.1 then K nx L (aI (Int32.ofNat (scr.1 - 1)) :: r) S u else False
  | .newarray _ => i1 st fun a r => bif xa == 10 || xa == 11 then a = Int32.ofNat (al xa (S.2.2 xa)) ∧ (bif Nat.ble (u + 30) B then K nx L (aR xa (S.2.2 xa) :: r) (mkA S xa) (u + 30) else False) else
          bif xa == 12 then a = 25 ∧ (bif Nat.ble (u + 30) B then K nx L (aR 12 (S.2.2 12) :: r) (mkJ S) (u + 30) else False) else False
  | .new _ => bif Nat.ble 50 xa then (bif Nat.ble (u + 1) B && Nat.ble (catS st) 8 then Q (Sum.inr (xa - 50)) S else False) else
          bif xa == 13 then (bif Nat.ble (u + 1) B && Nat.ble (catS st) 6 then S.2.2 13 < 5 ∧ S.2.2 (20 + S.2.2 13) = 0 ∧ K nx L (aR 13 (S.2.2 13) :: st) (mkL S) (u + 1) else False) else
          bif obK xa && Nat.ble (u + 1) B then K nx L (aR xa (S.2.2 xa) :: st) (mkO S xa) (u + 1) else False
  | .checkcast _ => r1 st fun k i r => bif obK k && ci k == xa then K nx L (aR k i :: r) S u else False
  | .ireturn => match st with
        | Sum.inl a :: [] => bif rb == 2 then (a &&& 1 = a ∧ Q (Sum.inl (some (aI a))) S) else bif rb == 1 then Q (Sum.inl (some (aI a))) S else False
        | _ => False
  | .areturn => match st with
        | Sum.inr (Sum.inr q) :: [] => bif rb == 3 then Q (Sum.inl (some (Sum.inr (Sum.inr q)))) S else False
        | _ => False
  | .return_ => match st with
        | [] => bif rb == 0 then Q (Sum.inl none) S else False
        | _ => False
  | .invokestatic _ => popN xa st [] fun as r => bif Nat.ble (catS r) (bif xb == 6 then 16 else 8) && Nat.ble (u + xu) B then xs as S fun o S' => match o with
            | Sum.inl (some v) => K nx L (v :: r) S' (u + xu)
            | Sum.inl none => K nx L r S' (u + xu)
            | Sum.inr e => match fH hn pc e with
              | some t => ∀ q : Nat, K (drp tb t) L (aR 99 q :: []) S' (u + xu)
              | none => Q (Sum.inr e) S'
           else False
  | .invokevirtual _ => popN xa st [] fun as r => bif Nat.ble (catS r) 8 && Nat.ble (u + xu) B then xs as S fun o S' => match o with
            | Sum.inl (some v) => K nx L (v :: r) S' (u + xu)
            | Sum.inl none => K nx L r S' (u + xu)
            | Sum.inr e => match fH hn pc e with
              | some t => ∀ q : Nat, K (drp tb t) L (aR 99 q :: []) S' (u + xu)
              | none => Q (Sum.inr e) S'
           else False
  | .invokespecial _ => bif xb == 9 then r1 st fun _ _ r => bif Nat.ble (catS r) 8 then K nx L r S u else False else
          popN xa st [] fun as r => bif Nat.ble (catS r) 8 && Nat.ble (u + xu) B then xs as S fun o S' => match o with
            | Sum.inl none => K nx L r S' (u + xu)
            | _ => False
           else False
  | _ => False
/-- what the code asks, from this row on: at a cut it is G -/
def wp : Nat → Bool → Tb → Lo → List AV → Sto → Nat → Prop
  | 0, _, _, _, _, _, _ => False
  | n + 1, fi, suf, L, st, S, u => match suf with
    | [] => False
    | (pc, ins, _, ((xa, xb, xv), xl, (xu, xs))) :: nx => bif !fi && cuts.elem pc then G pc L st S u else wpI tb Q rb B hn scr pc ins xa xb xv xl xu xs nx (wp n false) L st S u
end WP
/-- the code asks no more than G, from every row on -/
def Seg (tb : Tb) (G : Gt) (Q : Out → Sto → Prop) (rb : Nat) (B : Nat) (hn : List (Nat × Nat × Nat × Nat)) (scr : Nat × (Nat → Int32)) : Prop :=
  ∀ (cuts : List Nat) (n pc : Nat) (L : Lo) (st : List AV) (S : Sto) (u : Nat), wp tb G Q rb B hn cuts scr n true (drp tb pc) L st S u → G pc L st S u
def bI (c : Prop) [Decidable c] : Int32 := if c then 1 else 0
end
section
/-! THE WORLD: how a store lies in the machine's heap -/
def tyC : Nat → Nat → FieldType
  | 0 => tyJx4a65c
  | 1 => tyX0
  | 2 => tyX1
  | 3 => tyX2
  | 4 => tyX3
  | 5 => tyX4
  | 6 => tyX5
  | _ => tyX6
def vC (a : Nat) : vw_C := vwCl.getD a ("", fun _ => ("", "", "", false), 0)
def rty : FieldType → Bool
  | .object _ => true
  | .array _ => true
  | _ => false
/-- what is known of a class -/
def KF (a : Nat) : Prop := vwCl[a]? = some ((vC a).1, (vC a).2.1, (vC a).2.2) ∧ (∀ k, k < (vC a).2.2 → parseFieldDescriptor ((vC a).2.1 k).2.2.1 = some (tyC a k)) ∧
  (∀ x, x < (vC a).2.2 → ∀ y, y < (vC a).2.2 → x ≠ y → ((vC a).2.1 x).2.1 ≠ ((vC a).2.1 y).2.1) ∧ (∀ w ∈ u_ws (vC a).1 (vC a).2.1 (vC a).2.2, w ∈ lw_tbl ∧ goodWord w = true)
theorem KF0 : KF 0 := ⟨rfl, tyJx4a65c_ok, nmJx4a65c, by decide +kernel⟩
theorem KF1 : KF 1 := ⟨rfl, tyX0_ok, nmX0, by decide +kernel⟩
theorem KF2 : KF 2 := ⟨rfl, tyX1_ok, nmX1, by decide +kernel⟩
theorem KF3 : KF 3 := ⟨rfl, tyX2_ok, nmX2, by decide +kernel⟩
theorem KF4 : KF 4 := ⟨rfl, tyX3_ok, nmX3, by decide +kernel⟩
theorem KF5 : KF 5 := ⟨rfl, tyX4_ok, nmX4, by decide +kernel⟩
theorem KF6 : KF 6 := ⟨rfl, tyX5_ok, nmX5, by decide +kernel⟩
theorem KF7 : KF 7 := ⟨rfl, tyX6_ok, nmX6, by decide +kernel⟩
theorem obK_or {k : Nat} (h : obK k = true) : k = 0 ∨ k = 2 ∨ k = 3 ∨ k = 4 ∨ k = 5 ∨ k = 6 ∨ k = 7 ∨ k = 8 ∨ k = 9 ∨ k = 17 := by
  simp only [obK, Bool.or_eq_true, Bool.and_eq_true, Nat.ble_eq, beq_iff_eq, Bool.not_eq_true', beq_eq_false_iff_ne, ne_eq] at h
  omega
theorem kd_KF {k : Nat} (h : obK k = true) : KF (ci k) ∧ nf k = (vC (ci k)).2.2 := by
  rcases obK_or h with rfl | rfl | rfl | rfl | rfl | rfl | rfl | rfl | rfl | rfl
  · exact ⟨KF7, rfl⟩
  · exact ⟨KF5, rfl⟩
  · exact ⟨KF6, rfl⟩
  · exact ⟨KF4, rfl⟩
  · exact ⟨KF3, rfl⟩
  · exact ⟨KF1, rfl⟩
  · exact ⟨KF2, rfl⟩
  · exact ⟨KF2, rfl⟩
  · exact ⟨KF2, rfl⟩
  · exact ⟨KF7, rfl⟩
def kdc (k : Nat) : Bool := (List.range (nf k)).all fun f => if (ft k f).1 = 0 then decide (tyC (ci k) f = .int) else rty (tyC (ci k) f) && decide ((ft k f).1 < 4)
theorem kd_ty {k f : Nat} (h : obK k = true) (hf : f < nf k) : if (ft k f).1 = 0 then tyC (ci k) f = .int else rty (tyC (ci k) f) = true ∧ (ft k f).1 < 4 := by
  have hk : kdc k = true := by
    rcases obK_or h with rfl | rfl | rfl | rfl | rfl | rfl | rfl | rfl | rfl | rfl <;> decide +kernel
  have h2 := List.all_eq_true.mp hk f (List.mem_range.mpr hf)
  split at h2 <;> rename_i h3
  · rw [if_pos h3]; simpa using h2
  · rw [if_neg h3]; simpa using h2
theorem rty_ok {t : FieldType} (h : rty t = true) : defaultValue t = .null ∧ ∀ a, narrow t (.ref a) = .ref a ∧ fits t (.ref a) = true := by
  cases t <;> first | (simp [rty] at h; done) | exact ⟨rfl, fun a => ⟨rfl, rfl⟩⟩
/-- classes, arrays' classes and the script's address, the empty list's cell, where the new begins -/
abbrev GT : Type := va_G × (ClassId × ClassId × ClassId × (ClassId × Nat)) × Nat × Nat
abbrev scA (g : GT) : Nat := g.2.1.2.2.2.2
abbrev AB (g : GT) : Nat → Prop := fun q => g.2.2.2 ≤ q
def tysG (g : GT) : List (ClassId × FieldType) := [(g.2.1.1, .int), (g.2.1.2.1, .boolean), (g.2.1.2.2.1, .long), (g.2.1.2.2.2.1, .object "java/lang/Object")]
def conc (α : Nat → Nat → Nat) : AV → Value
  | Sum.inl x => .int x
  | Sum.inr (Sum.inl x) => .long x
  | Sum.inr (Sum.inr (k, i)) => .ref (if k = 99 then i else α k i)
abbrev HT : Type := Nat → Nat × Nat × Int32
def fv (α : Nat → Nat → Nat) (S : Sto) (k i f : Nat) : Value := match ft k f with
  | (0, _, _) => .int (S.1 k f i)
  | (1, k', i') => .ref (α k' i')
  | (2, k', i') => if S.1 k f i = 0 then .null else .ref (α k' i')
  | (_, k', _) => if S.1 k f i = 0 then .null else .ref (α k' i)
def fs (α : Nat → Nat → Nat) (S : Sto) (k i : Nat) : List Value := (List.range (nf k)).map (fv α S k i)
def arK (k : Nat) : Bool := k == 10 || k == 11 || k == 12 || k == 13
def ent (g : GT) (α : Nat → Nat → Nat) (h : HT) (S : Sto) (k i : Nat) : va_E :=
  if obK k = true then .inr (ci k, fs α S k i) else
  if k = 10 then .inl (g.2.1.1, al 10 i, .inl (S.1 10 i)) else
  if k = 11 then .inl (g.2.1.2.1, al 11 i, .inl (S.1 11 i)) else
  if k = 12 then .inl (g.2.1.2.2.1, 25, .inr (.inl (S.2.1 i))) else
  if k = 13 then .inr (0, [.int (h i).2.2, .ref (if (h i).1 = 0 then g.2.2.1 else (h i).2.1), .int (nI (S.2.2 (20 + i)))]) else
  .inl (g.2.1.2.2.2.1, (h i).1, .inr (.inr (.inr (.inr (fun j => if j < S.2.2 (20 + i) then some (α (lk i) j) else none)))))
def Lv (h : HT) (S : Sto) (k i : Nat) : Prop := if k = 15 then i < S.2.2 13 ∧ (h i).1 ≠ 0 else (obK k = true ∨ arK k = true) ∧ i < S.2.2 k
def adr (α : Nat → Nat → Nat) (h : HT) (k i : Nat) : Nat := if k = 15 then (h i).2.1 else α k i
def LvR (S : Sto) (k i : Nat) : Prop := k = 99 ∨ k = 14 ∨ ((obK k = true ∨ arK k = true) ∧ i < S.2.2 k)
def LvV (S : Sto) : AV → Prop
  | Sum.inr (Sum.inr (k, i)) => LvR S k i
  | _ => True
/-- the object that a field names -/
def fR (k f i : Nat) : Nat × Nat := if (ft k f).1 ≤ 2 then ((ft k f).2.1, (ft k f).2.2) else ((ft k f).2.1, i)
def Rep (g : GT) (α : Nat → Nat → Nat) (h : HT) (S : Sto) (H : Heap) : Prop :=
  (∀ k i, Lv h S k i → va_at g.1 vwCl (adr α h k i, ent g α h S k i) H) ∧
  (∀ k i k' i', Lv h S k i → Lv h S k' i' → adr α h k i = adr α h k' i' → k = k' ∧ i = i') ∧
  (∀ k i, Lv h S k i → g.2.2.2 ≤ adr α h k i) ∧
  (∀ k i f, obK k = true → i < S.2.2 k → f < nf k → (ft k f).1 ≠ 0 → ((ft k f).1 ≠ 1 ∧ S.1 k f i = 0) ∨ LvR S (fR k f i).1 (fR k f i).2) ∧
  ((∀ i, i < S.2.2 13 → i < 5 ∧ S.2.2 (20 + i) ≤ S.2.2 (lk i) ∧ S.2.2 (20 + i) ≤ (h i).1 ∧ (h i).1 ≤ 100 ∧ ((h i).1 = 0 ∨ 10 ≤ (h i).1)) ∧ α 14 0 = scA g)
def isDC : Jvm.Cond → Bool
  | .declares _ => true
  | .castable .. => true
  | .arrayOver (.object _) => true
  | _ => false
/-- the tables' words -/
def WT (U : State) : Prop := ∀ w ∈ lw_tbl, (goodWord w || isDC w) = true → ∀ a : Array Value, w.before a U = true
theorem WT.warm {s U : State} (hW : s.WarmedH U.vm) (h : WT s) : WT U := by
  intro w hw hg a
  by_cases h1 : goodWord w = true
  · exact word_at hW (good_of_word h1) (h w hw hg #[])
  · have h2 : isDC w = true := by
      rw [Bool.or_eq_true] at hg
      exact hg.resolve_left h1
    have h3 := h w hw hg #[]
    cases w <;> first | (simp [isDC] at h2; done) | exact va_Nw.use rfl (va_Nw.warmD hW h3) | exact va_Nw.use rfl (va_Nw.warmC hW h3) | (rename_i ty9; cases ty9 <;> first | (simp [isDC] at h2; done) | exact (va_AO.of h3).moved hW.alike)
def strs : List (Nat × String) := [(115, "the axles are not even"), (133, "the rig drives"), (140, "the centre is not between the halves"), (153, "the notice is too short"), (176, "the rig does not stand at an end of the road"), (178, "the rig may not begin the drive"), (183, "another rig is on the road with the bridge"), (220, "time ends"), (227, "there is no such number"), (230, "an argument is out of range"), (232, "there are as many as there may be"), (59, "both places are the same")]
def DEc (g : GT) (U : State) (H : Heap) : Prop := g.2.2.1 < g.2.2.2 ∧ ∃ cell : Cell, H[g.2.2.1]? = some cell ∧ U.isArrayOf cell (.object "java/lang/Object") ∧ cell.vm ≠ .unknown ∧ cell.slots.size = 0
/-- exceptions that aren't each other's -/
def ncs : List (String × String) := [("java/lang/IllegalArgumentException", "java/lang/IndexOutOfBoundsException"), ("java/lang/IllegalArgumentException", "java/lang/IllegalStateException"), ("java/lang/IllegalStateException", "java/lang/IndexOutOfBoundsException"), ("java/lang/IllegalStateException", "java/lang/IllegalArgumentException"), ("java/lang/IndexOutOfBoundsException", "java/lang/IllegalArgumentException"), ("java/lang/IndexOutOfBoundsException", "java/lang/IllegalStateException")]
def NcF (U : State) : Prop := ∀ q ∈ ncs, va_Nc q.1 q.2 U
/-- the script -/
def SX (g : GT) (U : State) (H : Heap) : Prop := scA g < g.2.2.2 ∧ ∃ (L : Nat) (xs : Nat → Int32), L ≤ 260 ∧ va_X (scA g) L xs U H
def ST (g : GT) (U : State) (H : Heap) : Prop :=
  vx_Zq Bundle.tN "UNASSIGNED_STACK" Bundle.steD (AB g) U H ∧ vx_Zq Bundle.tN "SUPPRESSED_SENTINEL" Bundle.listD (AB g) U H ∧ (∀ q ∈ strs, ∃ a, vk_R "HeavyHaul" q.1 q.2 a U) ∧
  va_Z "java/util/ArrayList" "DEFAULTCAPACITY_EMPTY_ELEMENTDATA" "[Ljava/lang/Object;" (.ref g.2.2.1) (AB g) U H ∧ DEc g U H ∧ (∃ mi, va_Mi "[Ljava/lang/Object;" mi U) ∧ NcF U ∧ SX g U H
theorem ST.moved {g : GT} {s U : State} {H : Heap} (hW : s.WarmedH U.vm) (h : ST g s H) : ST g U H := by
  obtain ⟨h1, h2, h3, h4, ⟨h5, cell, h6, h7, h8⟩, ⟨mi, h9⟩, h10, x1, L, xs, x2, cx, x3, x4, x5⟩ := h
  exact ⟨h1.moved hW.alike, h2.moved hW.alike, fun q hq => (h3 q hq).imp fun a ha => vk_R.warm hW ha, h4.moved hW.alike, ⟨h5, cell, h6, State.isArrayOf_alike hW.alike h7, h8⟩, ⟨mi, h9.moved hW.alike⟩, fun q hq => (h10 q hq).moved hW.alike, x1, L, xs, x2, cx, x3, State.isArrayOf_alike hW.alike x4, x5⟩
theorem ST.kept {g : GT} {U : State} {H H1 : Heap} (h : ST g U H) (hq : ∀ a : Nat, a < H.size → ¬ AB g a → H1[a]? = H[a]?) : ST g U H1 := by
  obtain ⟨h1, h2, h3, h4, ⟨h5, cell, h6, h7⟩, h9, h10, x1, L, xs, x2, cx, x3, x4⟩ := h
  exact ⟨h1.kept hq, h2.kept hq, h3, h4.kept hq, ⟨h5, cell, by rw [hq _ (Array.getElem?_eq_some_iff.mp h6).1 (Nat.not_le.mpr h5)]; exact h6, h7⟩, h9, h10, x1, L, xs, x2, cx, by rw [hq _ (Array.getElem?_eq_some_iff.mp x3).1 (Nat.not_le.mpr x1)]; exact x3, x4⟩
/-- the world: the store in the heap, and what stands beside it -/
def Wd (g : GT) (α : Nat → Nat → Nat) (h : HT) (S : Sto) (U : State) : Prop := Rep g α h S U.heap ∧ va_K g.1 vwCl (tysG g) U ∧ WT U ∧ ST g U U.heap ∧ g.2.2.2 ≤ U.heap.size
end
section
/-! HOW THE WORLD CHANGES: reads, writes and new objects, as facts of Rep -/
theorem ob15 : obK 15 = false := rfl
theorem ar15 : arK 15 = false := rfl
theorem ob_ar {k : Nat} (h : obK k = true) : arK k = false := by
  rcases obK_or h with rfl | rfl | rfl | rfl | rfl | rfl | rfl | rfl | rfl | rfl <;> rfl
theorem ar_or {k : Nat} (h : arK k = true) : k = 10 ∨ k = 11 ∨ k = 12 ∨ k = 13 := by
  simp only [arK, Bool.or_eq_true, beq_iff_eq] at h
  omega
theorem ob_ne {k : Nat} (h : obK k = true ∨ arK k = true) : k ≠ 15 ∧ k ≠ 99 ∧ k ≠ 14 ∧ k < 20 := by
  rcases h with h | h
  · rcases obK_or h with rfl | rfl | rfl | rfl | rfl | rfl | rfl | rfl | rfl | rfl <;> decide
  · rcases ar_or h with rfl | rfl | rfl | rfl <;> decide
theorem Lv_of {h : HT} {S : Sto} {k i : Nat} (hk : obK k = true ∨ arK k = true) (hi : i < S.2.2 k) : Lv h S k i := by
  rw [Lv, if_neg (ob_ne hk).1]
  exact ⟨hk, hi⟩
theorem Lv_un {h : HT} {S : Sto} {k i : Nat} (hl : Lv h S k i) : (k = 15 ∧ i < S.2.2 13 ∧ (h i).1 ≠ 0) ∨ (k ≠ 15 ∧ (obK k = true ∨ arK k = true) ∧ i < S.2.2 k) := by
  rw [Lv] at hl
  split at hl
  · exact Or.inl ⟨by assumption, hl⟩
  · exact Or.inr ⟨by assumption, hl⟩
theorem adr_of {α : Nat → Nat → Nat} {h : HT} {k i : Nat} (hk : obK k = true ∨ arK k = true) : adr α h k i = α k i := by rw [adr, if_neg (ob_ne hk).1]
theorem LvR_of {S : Sto} {k i : Nat} (h : LvR S k i) (hk : obK k = true ∨ arK k = true) : i < S.2.2 k := by
  rcases h with h | h | h
  · exact absurd h (ob_ne hk).2.1
  · exact absurd h (ob_ne hk).2.2.1
  · exact h.2
theorem ent_ob {g : GT} {α : Nat → Nat → Nat} {h : HT} {S : Sto} {k i : Nat} (hk : obK k = true) : ent g α h S k i = .inr (ci k, fs α S k i) := by rw [ent, if_pos hk]
theorem ent_10 {g : GT} {α : Nat → Nat → Nat} {h : HT} {S : Sto} {i : Nat} : ent g α h S 10 i = .inl (g.2.1.1, al 10 i, .inl (S.1 10 i)) := rfl
theorem ent_11 {g : GT} {α : Nat → Nat → Nat} {h : HT} {S : Sto} {i : Nat} : ent g α h S 11 i = .inl (g.2.1.2.1, al 11 i, .inl (S.1 11 i)) := rfl
theorem ent_12 {g : GT} {α : Nat → Nat → Nat} {h : HT} {S : Sto} {i : Nat} : ent g α h S 12 i = .inl (g.2.1.2.2.1, 25, .inr (.inl (S.2.1 i))) := rfl
theorem ent_13 {g : GT} {α : Nat → Nat → Nat} {h : HT} {S : Sto} {i : Nat} : ent g α h S 13 i = .inr (0, [.int (h i).2.2, .ref (if (h i).1 = 0 then g.2.2.1 else (h i).2.1), .int (nI (S.2.2 (20 + i)))]) := rfl
theorem ent_15 {g : GT} {α : Nat → Nat → Nat} {h : HT} {S : Sto} {i : Nat} : ent g α h S 15 i = .inl (g.2.1.2.2.2.1, (h i).1, .inr (.inr (.inr (.inr (fun j => if j < S.2.2 (20 + i) then some (α (lk i) j) else none))))) := rfl
theorem fs_len {α : Nat → Nat → Nat} {S : Sto} {k i : Nat} : (fs α S k i).length = nf k := by simp [fs]
theorem fs_get {α : Nat → Nat → Nat} {S : Sto} {k i f : Nat} (hf : f < nf k) : (fs α S k i)[f]? = some (fv α S k i f) := by simp [fs, hf]
theorem fs_V {α : Nat → Nat → Nat} {S : Sto} {k i f : Nat} (hf : f < nf k) : vp_V (fs α S k i) f = fv α S k i f := by simp [vp_V, fs, hf]
theorem va_P1 {D : va_G} {cl : List vw_C} {q : Nat × va_E} {H : Heap} (h : va_at D cl q H) : va_P D cl [q] H := by
  intro k q' hk
  have hz : k < 1 := (List.getElem?_eq_some_iff.mp hk).1
  rw [show k = 0 by omega] at hk
  cases hk
  exact h
/-- fewer: the parts of Rep by name -/
theorem Rep.at {g : GT} {α : Nat → Nat → Nat} {h : HT} {S : Sto} {H : Heap} (R : Rep g α h S H) {k i : Nat} (hl : Lv h S k i) : va_at g.1 vwCl (adr α h k i, ent g α h S k i) H := R.1 k i hl
theorem Rep.ob {g : GT} {α : Nat → Nat → Nat} {h : HT} {S : Sto} {H : Heap} (R : Rep g α h S H) {k i : Nat} (hk : obK k = true) (hi : i < S.2.2 k) : va_P g.1 vwCl [(α k i, .inr (ci k, fs α S k i))] H := by
  have h1 := R.1 k i (Lv_of (Or.inl hk) hi)
  rw [adr_of (Or.inl hk), ent_ob hk] at h1
  exact va_P1 h1
theorem Rep.lt {g : GT} {α : Nat → Nat → Nat} {h : HT} {S : Sto} {H : Heap} (R : Rep g α h S H) {k i : Nat} (hl : Lv h S k i) : adr α h k i < H.size := (R.1 k i hl).lt
theorem Rep.cong {g : GT} {α : Nat → Nat → Nat} {h : HT} {S : Sto} {H : Heap} (R : Rep g α h S H) {H1 : Heap} (hq : ∀ q : Nat, q < H.size → AB g q → H1[q]? = H[q]?) : Rep g α h S H1 :=
  ⟨fun k i hl => (R.1 k i hl).kept (hq _ (R.lt hl) (R.2.2.1 k i hl)), R.2⟩
/-- one object is written -/
theorem Rep.upd {g : GT} {α : Nat → Nat → Nat} {h : HT} {S S' : Sto} {H H1 : Heap} (R : Rep g α h S H) {k i : Nat} (hl : Lv h S k i) (hat : va_at g.1 vwCl (adr α h k i, ent g α h S' k i) H1)
    (hoth : ∀ q, q ≠ adr α h k i → H1[q]? = H[q]?) (hN : S'.2.2 = S.2.2) (hent : ∀ k' i', Lv h S k' i' → ¬ (k' = k ∧ i' = i) → ent g α h S' k' i' = ent g α h S k' i')
    (hcl : ∀ k i f, obK k = true → i < S.2.2 k → f < nf k → (ft k f).1 ≠ 0 → ((ft k f).1 ≠ 1 ∧ S'.1 k f i = 0) ∨ LvR S (fR k f i).1 (fR k f i).2) : Rep g α h S' H1 := by
  have e1 : ∀ k' i', Lv h S' k' i' → Lv h S k' i' := fun k' i' h1 => by
    rw [Lv, hN] at h1
    exact h1
  refine ⟨fun k' i' h1 => ?_, fun k1 i1 k2 i2 h1 h2 he => R.2.1 _ _ _ _ (e1 _ _ h1) (e1 _ _ h2) he, fun k' i' h1 => R.2.2.1 _ _ (e1 _ _ h1), ?_, ?_⟩
  · by_cases he : k' = k ∧ i' = i
    · obtain ⟨rfl, rfl⟩ := he
      exact hat
    · rw [hent k' i' (e1 _ _ h1) he]
      refine (R.1 k' i' (e1 _ _ h1)).kept (hoth _ fun hq => he ?_)
      exact R.2.1 _ _ _ _ (e1 _ _ h1) hl hq
  · intro k' i' f h1 h2 h3 h4
    rw [hN] at h2
    have h5 := hcl k' i' f h1 h2 h3 h4
    unfold LvR at h5 ⊢
    rw [hN]
    exact h5
  · rw [hN]
    exact R.2.2.2.2
theorem wrI_at (S : Sto) (k f i : Nat) (v : Int32) (k' f' i' : Nat) : (wrI S k f i v).1 k' f' i' = if k' = k ∧ f' = f ∧ i' = i then v else S.1 k' f' i' := by
  unfold wrI
  by_cases h : k' = k ∧ f' = f
  · obtain ⟨rfl, rfl⟩ := h
    simp [_root_.Jvm.Pilot.@@N@@.upd]
  · have h2 : ¬ (k' = k ∧ f' = f ∧ i' = i) := fun q => h ⟨q.1, q.2.1⟩
    simp [h, h2]
theorem wrI_ne {S : Sto} {k f i : Nat} {v : Int32} {k' f' i' : Nat} (h : ¬ (k' = k ∧ f' = f ∧ i' = i)) : (wrI S k f i v).1 k' f' i' = S.1 k' f' i' := by rw [wrI_at, if_neg h]
theorem wrI_row {S : Sto} {k f i : Nat} {v : Int32} {k' f' : Nat} (h : ¬ (k' = k ∧ f' = f)) : (wrI S k f i v).1 k' f' = S.1 k' f' := by
  funext i'
  exact wrI_ne fun q => h ⟨q.1, q.2.1⟩
theorem fv_wrI {α : Nat → Nat → Nat} {S : Sto} {k f i : Nat} {v : Int32} {k' i' f' : Nat} (h : ¬ (k' = k ∧ f' = f ∧ i' = i)) : fv α (wrI S k f i v) k' i' f' = fv α S k' i' f' := by
  unfold fv
  rw [wrI_ne h]
theorem ent_wrI {g : GT} {α : Nat → Nat → Nat} {h : HT} {S : Sto} {k f i : Nat} {v : Int32} {k' i' : Nat} (hk : obK k = true) (hne : ¬ (k' = k ∧ i' = i)) : ent g α h (wrI S k f i v) k' i' = ent g α h S k' i' := by
  unfold ent
  have e1 : fs α (wrI S k f i v) k' i' = fs α S k' i' := List.map_congr_left fun f' _ => fv_wrI fun q => hne ⟨q.1, q.2.2⟩
  have e2 : (wrI S k f i v).1 10 i' = S.1 10 i' := wrI_row fun q => by rw [← q.1] at hk; exact absurd hk (by decide)
  have e3 : (wrI S k f i v).1 11 i' = S.1 11 i' := wrI_row fun q => by rw [← q.1] at hk; exact absurd hk (by decide)
  rw [e1, e2, e3]
  rfl
theorem ent_wrA {g : GT} {α : Nat → Nat → Nat} {h : HT} {S : Sto} {k a j : Nat} {v : Int32} {k' i' : Nat} (hk : k = 10 ∨ k = 11) (hne : ¬ (k' = k ∧ i' = a)) : ent g α h (wrI S k a j v) k' i' = ent g α h S k' i' := by
  by_cases hob : obK k' = true
  · rw [ent_ob hob, ent_ob hob]
    have e1 : fs α (wrI S k a j v) k' i' = fs α S k' i' := List.map_congr_left fun f' _ => fv_wrI fun q => by
      rw [q.1] at hob
      rcases hk with rfl | rfl <;> exact absurd hob (by decide)
    rw [e1]
  · unfold ent
    rw [if_neg hob, if_neg hob]
    by_cases h10 : k' = 10
    · subst h10
      have e : (wrI S k a j v).1 10 i' = S.1 10 i' := wrI_row fun q => hne ⟨q.1, q.2⟩
      rw [if_pos rfl, if_pos rfl, e]
    · by_cases h11 : k' = 11
      · subst h11
        have e : (wrI S k a j v).1 11 i' = S.1 11 i' := wrI_row fun q => hne ⟨q.1, q.2⟩
        rw [if_neg h10, if_neg h10, if_pos rfl, if_pos rfl, e]
      · rw [if_neg h10, if_neg h10, if_neg h11, if_neg h11]
        rfl
end
section
/-! NEW OBJECTS, and other names for the same addresses -/
abbrev AgR (S : Sto) (α α' : Nat → Nat → Nat) : Prop := ∀ k i, LvR S k i → α' k i = α k i
theorem fv_ext {α α' : Nat → Nat → Nat} {S : Sto} (ha : AgR S α α') {k i f : Nat} (hc : (ft k f).1 ≠ 0 → ((ft k f).1 ≠ 1 ∧ S.1 k f i = 0) ∨ LvR S (fR k f i).1 (fR k f i).2) : fv α' S k i f = fv α S k i f := by
  unfold fv
  unfold fR at hc
  rcases hft : ft k f with ⟨t, a, b⟩
  rw [hft] at hc
  dsimp only at hc
  rcases t with _ | _ | _ | t
  · rfl
  · have h1 := hc (by decide)
    rcases h1 with h1 | h1
    · exact absurd rfl h1.1
    · rw [if_pos (by decide)] at h1
      show Value.ref _ = Value.ref _
      rw [ha _ _ h1]
  · show (if S.1 k f i = 0 then Value.null else Value.ref _) = (if S.1 k f i = 0 then Value.null else Value.ref _)
    by_cases h0 : S.1 k f i = 0
    · rw [if_pos h0, if_pos h0]
    · rw [if_neg h0, if_neg h0]
      rcases hc (by omega) with h1 | h1
      · exact absurd h1.2 h0
      · rw [if_pos (by omega)] at h1
        rw [ha _ _ h1]
  · show (if S.1 k f i = 0 then Value.null else Value.ref _) = (if S.1 k f i = 0 then Value.null else Value.ref _)
    by_cases h0 : S.1 k f i = 0
    · rw [if_pos h0, if_pos h0]
    · rw [if_neg h0, if_neg h0]
      rcases hc (by omega) with h1 | h1
      · exact absurd h1.2 h0
      · rw [if_neg (by omega)] at h1
        rw [ha _ _ h1]
theorem lk_ok {i : Nat} : obK (lk i) = true := by
  rcases i with _ | _ | _ | _ | i <;> rfl
theorem ent_ext {g : GT} {α α' : Nat → Nat → Nat} {h : HT} {S : Sto} {H : Heap} (R : Rep g α h S H) (ha : AgR S α α') {k i : Nat} (hl : Lv h S k i) : ent g α' h S k i = ent g α h S k i := by
  rcases Lv_un hl with ⟨rfl, h1, h2⟩ | ⟨h1, h2, h3⟩
  · rw [ent_15, ent_15]
    congr 7
    funext j
    by_cases hj : j < S.2.2 (20 + i)
    · rw [if_pos hj, if_pos hj, ha]
      exact Or.inr (Or.inr ⟨Or.inl lk_ok, Nat.lt_of_lt_of_le hj (R.2.2.2.2.1 i h1).2.1⟩)
    · rw [if_neg hj, if_neg hj]
  · rcases h2 with h2 | h2
    · rw [ent_ob h2, ent_ob h2]
      have e : fs α' S k i = fs α S k i := List.map_congr_left fun f hf => fv_ext ha fun h0 => R.2.2.2.1 k i f h2 h3 (List.mem_range.mp hf) h0
      rw [e]
    · rcases ar_or h2 with rfl | rfl | rfl | rfl <;> rfl
theorem adr_ext {α α' : Nat → Nat → Nat} {h : HT} {S : Sto} (ha : AgR S α α') {k i : Nat} (hl : Lv h S k i) : adr α' h k i = adr α h k i := by
  rcases Lv_un hl with ⟨rfl, h1, h2⟩ | ⟨h1, h2, h3⟩
  · rfl
  · rw [adr_of h2, adr_of h2]
    exact ha _ _ (Or.inr (Or.inr ⟨h2, h3⟩))
/-- the name of the object k, i is q -/
def al1 (α : Nat → Nat → Nat) (k i q : Nat) : Nat → Nat → Nat := fun k' i' => if k' = k ∧ i' = i then q else α k' i'
theorem al1_ne {α : Nat → Nat → Nat} {k i q k' i' : Nat} (h : ¬ (k' = k ∧ i' = i)) : al1 α k i q k' i' = α k' i' := if_neg h
theorem al1_eq {α : Nat → Nat → Nat} {k i q : Nat} : al1 α k i q k i = q := if_pos ⟨rfl, rfl⟩
theorem al1_ag {α : Nat → Nat → Nat} {S : Sto} {k q : Nat} (hk : obK k = true ∨ arK k = true) : AgR S α (al1 α k (S.2.2 k) q) := by
  intro k' i' hl
  refine al1_ne fun e => ?_
  obtain ⟨rfl, rfl⟩ := e
  exact Nat.lt_irrefl _ (LvR_of hl hk)
theorem bump_k {N : Nat → Nat} {k : Nat} : bump N k k = N k + 1 := if_pos rfl
theorem bump_ne {N : Nat → Nat} {k k' : Nat} (h : k' ≠ k) : bump N k k' = N k' := if_neg h
theorem bump_le {N : Nat → Nat} {k : Nat} (k' : Nat) : N k' ≤ bump N k k' := by
  unfold bump
  split
  · rename_i h
    subst h
    omega
  · omega
theorem LvR_le {S S' : Sto} (hN : ∀ k, S.2.2 k ≤ S'.2.2 k) {k i : Nat} (h : LvR S k i) : LvR S' k i := by
  rcases h with h | h | h
  · exact Or.inl h
  · exact Or.inr (Or.inl h)
  · exact Or.inr (Or.inr ⟨h.1, Nat.lt_of_lt_of_le h.2 (hN k)⟩)
/-- a new object, at the end of the heap -/
theorem Rep.grow {g : GT} {α : Nat → Nat → Nat} {h : HT} {S S' : Sto} {H H1 : Heap} (R : Rep g α h S H) {k : Nat} (hk : obK k = true ∨ (k = 10 ∨ k = 11 ∨ k = 12)) (hb : g.2.2.2 ≤ H.size)
    (hN : S'.2.2 = bump S.2.2 k) (hat : va_at g.1 vwCl (H.size, ent g (al1 α k (S.2.2 k) H.size) h S' k (S.2.2 k)) H1) (hoth : ∀ q, q < H.size → H1[q]? = H[q]?)
    (hent : ∀ k' i', Lv h S k' i' → ent g (al1 α k (S.2.2 k) H.size) h S' k' i' = ent g (al1 α k (S.2.2 k) H.size) h S k' i')
    (hcl : ∀ k' i f, obK k' = true → i < S'.2.2 k' → f < nf k' → (ft k' f).1 ≠ 0 → ((ft k' f).1 ≠ 1 ∧ S'.1 k' f i = 0) ∨ LvR S (fR k' f i).1 (fR k' f i).2) : Rep g (al1 α k (S.2.2 k) H.size) h S' H1 := by
  have hk2 : obK k = true ∨ arK k = true := by
    rcases hk with hk | rfl | rfl | rfl
    · exact Or.inl hk
    · exact Or.inr rfl
    · exact Or.inr rfl
    · exact Or.inr rfl
  have h13 : k ≠ 13 := by
    rcases hk with hk | rfl | rfl | rfl
    · rintro rfl
      exact absurd hk (by decide)
    · decide
    · decide
    · decide
  have hag : AgR S α (al1 α k (S.2.2 k) H.size) := al1_ag hk2
  have hS13 : S'.2.2 13 = S.2.2 13 := by rw [hN, bump_ne (fun e => h13 e.symm)]
  have hle : ∀ k', S.2.2 k' ≤ S'.2.2 k' := fun k' => by rw [hN]; exact bump_le k'
  have e1 : ∀ k' i', Lv h S' k' i' → (k' = k ∧ i' = S.2.2 k) ∨ Lv h S k' i' := by
    intro k' i' h1
    rcases Lv_un h1 with ⟨rfl, h2, h3⟩ | ⟨h2, h3, h4⟩
    · right
      rw [Lv, if_pos rfl]
      rw [hS13] at h2
      exact ⟨h2, h3⟩
    · by_cases e : k' = k
      · subst e
        rw [hN, bump_k] at h4
        by_cases e2 : i' = S.2.2 k'
        · exact Or.inl ⟨rfl, e2⟩
        · exact Or.inr (Lv_of h3 (by omega))
      · rw [hN, bump_ne e] at h4
        exact Or.inr (Lv_of h3 h4)
  have e2 : ∀ k' i', Lv h S k' i' → adr (al1 α k (S.2.2 k) H.size) h k' i' = adr α h k' i' := fun k' i' h1 => adr_ext hag h1
  have e3 : adr (al1 α k (S.2.2 k) H.size) h k (S.2.2 k) = H.size := by rw [adr_of hk2, al1_eq]
  refine ⟨fun k' i' h1 => ?_, fun k1 i1 k2 i2 h1 h2 he => ?_, fun k' i' h1 => ?_, fun k' i' f h1 h2 h3 h4 => ?_, fun i hi => ?_, ?_⟩
  · rcases e1 k' i' h1 with ⟨rfl, rfl⟩ | h2
    · rw [e3]
      exact hat
    · rw [e2 k' i' h2, hent k' i' h2, ent_ext R hag h2]
      exact (R.1 k' i' h2).kept (hoth _ (R.lt h2))
  · rcases e1 k1 i1 h1 with ⟨rfl, rfl⟩ | h3 <;> rcases e1 k2 i2 h2 with ⟨rfl, rfl⟩ | h4
    · exact ⟨rfl, rfl⟩
    · rw [e3, e2 k2 i2 h4] at he
      have := R.lt h4
      omega
    · rw [e3, e2 k1 i1 h3] at he
      have := R.lt h3
      omega
    · rw [e2 k1 i1 h3, e2 k2 i2 h4] at he
      exact R.2.1 _ _ _ _ h3 h4 he
  · rcases e1 k' i' h1 with ⟨rfl, rfl⟩ | h2
    · rw [e3]
      exact hb
    · rw [e2 k' i' h2]
      exact R.2.2.1 k' i' h2
  · rcases hcl k' i' f h1 h2 h3 h4 with h5 | h5
    · exact Or.inl h5
    · exact Or.inr (LvR_le hle h5)
  · rw [hS13] at hi
    have h9 := R.2.2.2.2.1 i hi
    have h20 : S'.2.2 (20 + i) = S.2.2 (20 + i) := by
      rw [hN, bump_ne]
      have := (ob_ne hk2).2.2.2
      omega
    rw [h20]
    exact ⟨h9.1, Nat.le_trans h9.2.1 (hle _), h9.2.2⟩
  · rw [al1_ne fun q => (ob_ne hk2).2.2.1 q.1.symm]
    exact R.2.2.2.2.2
theorem mkO_ne {S : Sto} {k k' f i : Nat} (h : ¬ (k' = k ∧ i = S.2.2 k)) : (mkO S k).1 k' f i = S.1 k' f i := by
  show (if k' = k then _root_.Jvm.Pilot.@@N@@.upd (S.1 k f) (S.2.2 k) 0 else S.1 k' f) i = _
  by_cases e : k' = k
  · subst e
    rw [if_pos rfl]
    exact if_neg fun q => h ⟨rfl, q⟩
  · rw [if_neg e]
theorem mkO_new {S : Sto} {k f : Nat} : (mkO S k).1 k f (S.2.2 k) = 0 := by
  show (if k = k then _root_.Jvm.Pilot.@@N@@.upd (S.1 k f) (S.2.2 k) 0 else S.1 k f) (S.2.2 k) = 0
  rw [if_pos rfl]
  exact if_pos rfl
theorem mkA_ne {S : Sto} {k k' f : Nat} (h : ¬ (k' = k ∧ f = S.2.2 k)) : (mkA S k).1 k' f = S.1 k' f := by
  show (if k' = k ∧ f = S.2.2 k then (fun _ => (0 : Int32)) else S.1 k' f) = _
  rw [if_neg h]
theorem mkA_new {S : Sto} {k : Nat} : (mkA S k).1 k (S.2.2 k) = fun _ => 0 := by
  show (if k = k ∧ S.2.2 k = S.2.2 k then (fun _ => (0 : Int32)) else S.1 k (S.2.2 k)) = _
  rw [if_pos ⟨rfl, rfl⟩]
end
section
/-! THE MACHINE'S ROWS over the world: reads and writes -/
section RW
variable {p : Program} {l : Launch} {e : Env} {R : Room} {s : State} {m : MethodId} {args : Array Value} {below : List Frame} {meth : Method} {c : Code} {H : Heap} {locs : List Loc} {cells slots : Nat} {Q : State → Prop}
variable {cc : ByteArray} {pc : Nat} {ls : Array Slot} {rest : List Value} {g : GT} {α : Nat → Nat → Nat} {h : HT} {S : Sto} {H0 : Heap} {own : String} {idx : Nat}
theorem kf_words {s : State} (hWT : WT s) {a : Nat} (hKF : KF a) : ∀ w ∈ u_ws (vC a).1 (vC a).2.1 (vC a).2.2, w.before args s = true := fun w hw => hWT w (hKF.2.2.2 w hw).1 (by rw [(hKF.2.2.2 w hw).2]; rfl) args
theorem w_get (hx : p.tables.exec = Jvm.exec) (hb : c.code = cc) (hown : s.vm.findClass own = some m.cls) (hK : va_K g.1 vwCl (tysG g) s) (hWT : WT s) (hR : Rep g α h S H) {k f i : Nat} (hk : obK k = true) (hi : i < S.2.2 k) (hf : f < nf k)
    (hlink : (Cond.fieldLink own idx (vC (ci k)).1 ((vC (ci k)).2.1 f).2.1 ((vC (ci k)).2.1 f).2.2.1).before args s = true) (hC : ((vC (ci k)).2.1 f).1 = (vC (ci k)).1) (hdg : decode cc pc = .ok (.getfield idx, 3))
    (kk : W p l e R s m args below meth c H locs cells slots Q (F0 m (pc + 3) ls (fv α S k i f :: rest))) : W p l e R s m args below meth c H locs cells slots Q (F0 m pc ls (.ref (α k i) :: rest)) := by
  obtain ⟨hKF, hn⟩ := kd_KF hk
  refine va_get (D := g.1) (ci := ci k) (C := (vC (ci k)).1) (T := (vC (ci k)).2.1) (N := (vC (ci k)).2.2) (Ts := u_ws (vC (ci k)).1 (vC (ci k)).2.1 (vC (ci k)).2.2) hx hb (kf_words hWT hKF) (fun _ h => h) hown hK (hR.ob hk hi) 0 rfl hKF.1 f (by rw [← hn]; exact hf) hlink (fun x hx' => by rw [hC] at hx'; exact hx') (fs_get hf) hdg kk
/-- the cell behind a written object -/
theorem ob_after {a : Nat} {cell : Cell} {k i f : Nat} {v : Int32} {H1 : Heap} {fsl : Nat → Nat} (hN : nf k = (vC (ci k)).2.2) (hf : f < nf k) (hap : ∀ x y, x < nf k → y < nf k → x ≠ y → fsl x ≠ fsl y)
    (e1 : H1[a]? = some (cell.setSlot (fsl f) (fv α (wrI S k f i v) k i f))) (q2 : cell.cls = g.1.1 (ci k)) (q3 : cell.vm = .none) (q4 : ∀ j, j < nf k → cell.slots[fsl j]? = some (fv α S k i j)) :
    t_OB a (g.1.1 (ci k)) (nf k) fsl H1 (vp_V (fs α (wrI S k f i v) k i)) := by
  refine ⟨_, e1, q2, q3, fun j hj => ?_⟩
  rw [fs_V hj]
  by_cases hjf : j = f
  · subst hjf
    have h1 := q4 j hj
    have h2 := (Array.getElem?_eq_some_iff.mp h1).1
    show (cell.slots.setIfInBounds _ _)[_]? = _
    simp [h2]
  · have h1 := hap f j hf hj (fun q => hjf q.symm)
    show (cell.slots.setIfInBounds _ _)[_]? = _
    rw [Array.getElem?_setIfInBounds_ne h1, q4 j hj, fv_wrI (fun q => hjf q.2.1)]
theorem cl_wrI {k f i : Nat} {v : Int32} {H : Heap} (hR : Rep g α h S H) (hlv : (ft k f).1 = 0 ∨ LvR S (fR k f i).1 (fR k f i).2) :
    ∀ k' i' f', obK k' = true → i' < S.2.2 k' → f' < nf k' → (ft k' f').1 ≠ 0 → ((ft k' f').1 ≠ 1 ∧ (wrI S k f i v).1 k' f' i' = 0) ∨ LvR S (fR k' f' i').1 (fR k' f' i').2 := by
  intro k' i' f' h1 h2 h3 h4
  by_cases he : k' = k ∧ f' = f ∧ i' = i
  · obtain ⟨rfl, rfl, rfl⟩ := he
    exact Or.inr (hlv.resolve_left h4)
  · rw [wrI_ne he]
    exact hR.2.2.2.1 k' i' f' h1 h2 h3 h4
theorem w_put (hx : p.tables.exec = Jvm.exec) (hb : c.code = cc) (hown : s.vm.findClass own = some m.cls) (hK : va_K g.1 vwCl (tysG g) s) (hWT : WT s) (hR : Rep g α h S H) (hS : va_S (AB g) H0 H locs) {k f i : Nat} (hk : obK k = true) (hi : i < S.2.2 k) (hf : f < nf k) {x : Int32}
    (hlink : (Cond.fieldLink own idx (vC (ci k)).1 ((vC (ci k)).2.1 f).2.1 ((vC (ci k)).2.1 f).2.2.1).before args s = true) (hC : ((vC (ci k)).2.1 f).1 = (vC (ci k)).1) (hfin : ((vC (ci k)).2.1 f).2.2.2 = false ∨ (meth.name = "<init>" ∧ (vC (ci k)).1 = own))
    (hfit : narrow (tyC (ci k) f) (fv α (wrI S k f i x) k i f) = fv α (wrI S k f i x) k i f ∧ fits (tyC (ci k) f) (fv α (wrI S k f i x) k i f) = true) (hlv : (ft k f).1 = 0 ∨ LvR S (fR k f i).1 (fR k f i).2)
    (hdg : decode cc pc = .ok (.putfield idx, 3)) (kk : ∀ (H1 : Heap) (locs1 : List Loc), Rep g α h (wrI S k f i x) H1 → va_S (AB g) H0 H1 locs1 → W p l e R s m args below meth c H1 locs1 cells slots Q (F0 m (pc + 3) ls rest)) :
    W p l e R s m args below meth c H locs cells slots Q (F0 m pc ls (fv α (wrI S k f i x) k i f :: .ref (α k i) :: rest)) := by
  obtain ⟨hKF, hn⟩ := kd_KF hk
  have hts := kf_words (args := args) hWT hKF
  have hf' : f < (vC (ci k)).2.2 := by rw [← hn]; exact hf
  have hc := hKF.1
  have hap := va_apart (D := g.1) (cl := vwCl) (tys := tysG g) (own := own) (ci := ci k) hts (fun _ h => h) (tyC (ci k)) hKF.2.1 hKF.2.2.1 hK hc
  obtain ⟨r, h1, cell, q1, q2, q3, q4⟩ := hR.ob hk hi 0 _ rfl
  have hr : r = ((vC (ci k)).1, (vC (ci k)).2.1, (vC (ci k)).2.2) := Option.some.inj (h1.symm.trans hc)
  subst hr
  obtain ⟨hSl, hfc, kC, hkC, hkind⟩ := hK.1 (ci k) _ hc
  obtain ⟨cf, kf, fi, fd, hfd, hsl⟩ := hSl f hf'
  have hlay := hts _ (u_in_lay hf')
  have hst := (u_facts hfc hkC (u_lays hts (fun _ h => h) hf') hfd).1
  have q4' : ∀ j, j < nf k → cell.slots[g.1.2 (ci k) j]? = some (fv α S k i j) := fun j hj => by rw [← fs_V hj]; exact q4 j (by rw [← hn]; exact hj)
  have hsame : s.fieldFound? (vC (ci k)).1 ((vC (ci k)).2.1 f).2.1 ((vC (ci k)).2.1 f).2.2.1 = some (cf, kf, fi, fd) := by
    dsimp only at hfd
    rw [hC] at hfd
    exact hfd
  have key : ∀ H' : Heap, H'[α k i]? = some (cell.setSlot fd.slot (fv α (wrI S k f i x) k i f)) → H'.size = H.size → (∀ q, q ≠ α k i → H'[q]? = H[q]?) → Rep g α h (wrI S k f i x) H' := by
    intro H' e1 e2 e3
    rw [hsl] at e1
    have hl : Lv h S k i := Lv_of (Or.inl hk) hi
    have ha : adr α h k i = α k i := adr_of (Or.inl hk)
    refine hR.upd (S' := wrI S k f i x) hl ?_ (by rw [ha]; exact e3) rfl (fun k' i' _ hne => ent_wrI hk hne) (cl_wrI hR hlv)
    rw [ha, ent_ob hk]
    refine ⟨_, hc, ?_⟩
    have h9 := ob_after (g := g) (a := α k i) (fsl := g.1.2 (ci k)) hn hf (fun a b ha hb => hap a b (by rw [← hn]; exact ha) (by rw [← hn]; exact hb)) e1 q2 q3 q4'
    rw [hn] at h9
    exact h9
  have hAB : AB g (α k i) := by
    have := hR.2.2.1 k i (Lv_of (Or.inl hk) hi)
    rw [adr_of (Or.inl hk)] at this
    exact this
  have hslot : fd.slot < cell.slots.size := by rw [hsl]; exact k2_hasslot (q4' f hf)
  by_cases hfl : ((vC (ci k)).2.1 f).2.2.2 = false
  · unfold u_lay at hlay
    rw [if_neg (by rw [hfl]; decide)] at hlay
    have h6 := u_store hfc hkC hkind hlay hfd (hKF.2.1 f hf') hfit.1 hfit.2
    refine W.putK hx hb (f := fd) ⟨hown, hlink, ⟨_, _, _, hsame⟩, hst⟩ (by rw [q2]; exact h6) q1 q3 hslot rfl rfl hdg fun H' e1 e2 e3 => ?_
    exact kk H' _ (key H' e1 e2 e3) (hS.put e2 e3 hAB)
  · obtain ⟨hin2, hdecl⟩ := hfin.resolve_left hfl
    unfold u_lay at hlay
    rw [if_pos (by simpa using hfl)] at hlay
    have hcf : m.cls = cf := by
      obtain ⟨_, _, c', _, _, _, -, -, hf9, -, -, -, hown2, -⟩ := Cond.laysFinal_spec hlay
      have e1 : c' = cf := by have := hfd.symm.trans hf9; simp at this; exact this.1.symm
      rw [hC, hdecl] at hown2
      rw [← e1]; exact Option.some.inj (hown.symm.trans hown2)
    have h6 := u_fits hfc hkC hkind (Or.inr hlay) hfd (hKF.2.1 f hf') hfit.1 hfit.2
    refine W.putFinK hx hb hown hlink hsame hst hcf hin2 (by rw [q2]; exact h6) q1 q3 hslot rfl rfl hdg fun H' e1 e2 e3 => ?_
    exact kk H' _ (key H' e1 e2 e3) (hS.put e2 e3 hAB)
end RW
end
section
/-! THE MACHINE'S ROWS over the world: arrays and new objects -/
section RA
variable {p : Program} {l : Launch} {e : Env} {R : Room} {s : State} {m : MethodId} {args : Array Value} {below : List Frame} {meth : Method} {c : Code} {H : Heap} {locs : List Loc} {cells slots : Nat} {Q : State → Prop}
variable {cc : ByteArray} {pc : Nat} {ls : Array Slot} {rest : List Value} {g : GT} {α : Nat → Nat → Nat} {h : HT} {S : Sto} {H0 : Heap} {own : String} {idx : Nat}
theorem Rep.ar {k i : Nat} (hR : Rep g α h S H) (hk : arK k = true) (hi : i < S.2.2 k) : va_P g.1 vwCl [(α k i, ent g α h S k i)] H := by
  have h1 := hR.1 k i (Lv_of (Or.inr hk) hi)
  rw [adr_of (Or.inr hk)] at h1
  exact va_P1 h1
theorem w_iald (hx : p.tables.exec = Jvm.exec) (hb : c.code = cc) (hK : va_K g.1 vwCl (tysG g) s) (hR : Rep g α h S H) {i : Nat} {j : Int32} (hi : i < S.2.2 10) (hin : vp_in j (al 10 i)) (hdg : decode cc pc = .ok (.iaload, 1))
    (kk : W p l e R s m args below meth c H locs cells slots Q (F0 m (pc + 1) ls (.int (S.1 10 i j.toNatClampNeg) :: rest))) : W p l e R s m args below meth c H locs cells slots Q (F0 m pc ls (.int j :: .ref (α 10 i) :: rest)) :=
  va_iald hx hb hK (hR.ar rfl hi) 0 0 rfl rfl hin hdg kk
theorem w_bald (hx : p.tables.exec = Jvm.exec) (hb : c.code = cc) (hK : va_K g.1 vwCl (tysG g) s) (hR : Rep g α h S H) {i : Nat} {j : Int32} (hi : i < S.2.2 11) (hin : vp_in j (al 11 i)) (hdg : decode cc pc = .ok (.baload, 1))
    (kk : W p l e R s m args below meth c H locs cells slots Q (F0 m (pc + 1) ls (.int (S.1 11 i j.toNatClampNeg) :: rest))) : W p l e R s m args below meth c H locs cells slots Q (F0 m pc ls (.int j :: .ref (α 11 i) :: rest)) :=
  va_zald hx hb hK (hR.ar rfl hi) 0 1 rfl rfl hin hdg kk
theorem w_lald (hx : p.tables.exec = Jvm.exec) (hb : c.code = cc) (hK : va_K g.1 vwCl (tysG g) s) (hR : Rep g α h S H) {i : Nat} {j : Int32} (hi : i < S.2.2 12) (hin : vp_in j 25) (hdg : decode cc pc = .ok (.laload, 1))
    (kk : W p l e R s m args below meth c H locs cells slots Q (F0 m (pc + 1) ls (.long (S.2.1 i j.toNatClampNeg) :: rest))) : W p l e R s m args below meth c H locs cells slots Q (F0 m pc ls (.int j :: .ref (α 12 i) :: rest)) :=
  va_lald hx hb hK (hR.ar rfl hi) 0 2 rfl rfl hin hdg kk
theorem w_alen (hx : p.tables.exec = Jvm.exec) (hb : c.code = cc) (hK : va_K g.1 vwCl (tysG g) s) (hR : Rep g α h S H) {k i : Nat} (hk : k = 10 ∨ k = 11) (hi : i < S.2.2 k) (hdg : decode cc pc = .ok (.arraylength, 1))
    (kk : W p l e R s m args below meth c H locs cells slots Q (F0 m (pc + 1) ls (.int (Int32.ofNat (al k i)) :: rest))) : W p l e R s m args below meth c H locs cells slots Q (F0 m pc ls (.ref (α k i) :: rest)) := by
  rcases hk with rfl | rfl
  · exact va_alen hx hb hK (hR.ar rfl hi) 0 0 rfl (ty := .int) rfl rfl hdg kk
  · exact va_alen hx hb hK (hR.ar rfl hi) 0 1 rfl (ty := .boolean) rfl rfl hdg kk
theorem cl_same {S' : Sto} (hR : Rep g α h S H) (hs : ∀ k f i, obK k = true → S'.1 k f i = S.1 k f i) :
    ∀ k' i' f', obK k' = true → i' < S.2.2 k' → f' < nf k' → (ft k' f').1 ≠ 0 → ((ft k' f').1 ≠ 1 ∧ S'.1 k' f' i' = 0) ∨ LvR S (fR k' f' i').1 (fR k' f' i').2 := by
  intro k' i' f' h1 h2 h3 h4
  rw [hs k' f' i' h1]
  exact hR.2.2.2.1 k' i' f' h1 h2 h3 h4
theorem w_iast (hx : p.tables.exec = Jvm.exec) (hb : c.code = cc) (hK : va_K g.1 vwCl (tysG g) s) (hR : Rep g α h S H) (hS : va_S (AB g) H0 H locs) {i : Nat} {j x : Int32} (hi : i < S.2.2 10) (hin : vp_in j (al 10 i)) (hdg : decode cc pc = .ok (.iastore, 1))
    (kk : ∀ (H1 : Heap) (locs1 : List Loc), Rep g α h (wrI S 10 i j.toNatClampNeg x) H1 → va_S (AB g) H0 H1 locs1 → W p l e R s m args below meth c H1 locs1 cells slots Q (F0 m (pc + 1) ls rest)) : W p l e R s m args below meth c H locs cells slots Q (F0 m pc ls (.int x :: .int j :: .ref (α 10 i) :: rest)) := by
  have hl : Lv h S 10 i := Lv_of (Or.inr rfl) hi
  have ha : adr α h 10 i = α 10 i := adr_of (Or.inr rfl)
  have hAB : AB g (α 10 i) := by
    have := hR.2.2.1 10 i hl
    rw [ha] at this
    exact this
  refine W.iast hx hb (hR.ar (k := 10) rfl hi 0 _ rfl) ((hK.2 0 _ rfl).1 (al 10 i) (fun j => .int (S.1 10 i j))) (fun q => by cases q) (by show ¬ (j < 0 ∨ (arrV _ _ _).slots.size ≤ _); rw [arrV_size]; exact hin) rfl rfl hdg fun H1 e1 z oq => ?_
  refine kk H1 _ (hR.upd hl ?_ (by rw [ha]; exact oq) rfl (fun k' i' _ hne => ent_wrA (Or.inl rfl) hne) (cl_same hR fun k f i hk => wrI_ne fun q => by rw [q.1] at hk; exact absurd hk (by decide))) (hS.put z oq hAB)
  rw [ha, ent_10]
  show H1[α 10 i]? = some (arrV g.2.1.1 (al 10 i) fun q => .int ((wrI S 10 i j.toNatClampNeg x).1 10 i q))
  refine e1.trans ?_
  show some ((arrV g.2.1.1 (al 10 i) fun q => .int (S.1 10 i q)).setSlot _ _) = _
  rw [arrV_store]
  congr 2
  funext q
  rw [wrI_at]
  by_cases hq : q = j.toNatClampNeg
  · subst hq
    simp [updV]
  · simp [updV, hq]
theorem w_bast (hx : p.tables.exec = Jvm.exec) (hb : c.code = cc) (hK : va_K g.1 vwCl (tysG g) s) (hR : Rep g α h S H) (hS : va_S (AB g) H0 H locs) {i : Nat} {j x : Int32} (hi : i < S.2.2 11) (hin : vp_in j (al 11 i)) (hdg : decode cc pc = .ok (.bastore, 1))
    (kk : ∀ (H1 : Heap) (locs1 : List Loc), Rep g α h (wrI S 11 i j.toNatClampNeg (x &&& 1)) H1 → va_S (AB g) H0 H1 locs1 → W p l e R s m args below meth c H1 locs1 cells slots Q (F0 m (pc + 1) ls rest)) : W p l e R s m args below meth c H locs cells slots Q (F0 m pc ls (.int x :: .int j :: .ref (α 11 i) :: rest)) := by
  have hl : Lv h S 11 i := Lv_of (Or.inr rfl) hi
  have ha : adr α h 11 i = α 11 i := adr_of (Or.inr rfl)
  have hAB : AB g (α 11 i) := by
    have := hR.2.2.1 11 i hl
    rw [ha] at this
    exact this
  refine W.zast hx hb (hR.ar (k := 11) rfl hi 0 _ rfl) ((hK.2 1 _ rfl).1 (al 11 i) (fun j => .int (S.1 11 i j))) (fun q => by cases q) (by show ¬ (j < 0 ∨ (arrV _ _ _).slots.size ≤ _); rw [arrV_size]; exact hin) rfl rfl hdg fun H1 e1 z oq => ?_
  refine kk H1 _ (hR.upd hl ?_ (by rw [ha]; exact oq) rfl (fun k' i' _ hne => ent_wrA (Or.inr rfl) hne) (cl_same hR fun k f i hk => wrI_ne fun q => by rw [q.1] at hk; exact absurd hk (by decide))) (hS.put z oq hAB)
  rw [ha, ent_11]
  show H1[α 11 i]? = some (arrV g.2.1.2.1 (al 11 i) fun q => .int ((wrI S 11 i j.toNatClampNeg (x &&& 1)).1 11 i q))
  refine e1.trans ?_
  show some ((arrV g.2.1.2.1 (al 11 i) fun q => .int (S.1 11 i q)).setSlot _ _) = _
  rw [arrV_store]
  congr 2
  funext q
  rw [wrI_at]
  by_cases hq : q = j.toNatClampNeg
  · subst hq
    simp [updV, narrow]
  · simp [updV, hq]
theorem ent_wrJ {i j : Nat} {x : Int64} {k' i' : Nat} (hne : ¬ (k' = 12 ∧ i' = i)) : ent g α h (wrJ S i j x) k' i' = ent g α h S k' i' := by
  unfold ent
  by_cases h12 : k' = 12
  · subst h12
    have h0 : ¬ i' = i := fun q => hne ⟨rfl, q⟩
    have e : (wrJ S i j x).2.1 i' = S.2.1 i' := by
      funext q
      exact if_neg fun z => h0 z.1
    rw [e]
    rfl
  · rw [if_neg h12, if_neg h12]
    rfl
theorem w_last (hx : p.tables.exec = Jvm.exec) (hb : c.code = cc) (hK : va_K g.1 vwCl (tysG g) s) (hR : Rep g α h S H) (hS : va_S (AB g) H0 H locs) {i : Nat} {j : Int32} {x : Int64} (hi : i < S.2.2 12) (hin : vp_in j 25) (hdg : decode cc pc = .ok (.lastore, 1))
    (kk : ∀ (H1 : Heap) (locs1 : List Loc), Rep g α h (wrJ S i j.toNatClampNeg x) H1 → va_S (AB g) H0 H1 locs1 → W p l e R s m args below meth c H1 locs1 cells slots Q (F0 m (pc + 1) ls rest)) : W p l e R s m args below meth c H locs cells slots Q (F0 m pc ls (.long x :: .int j :: .ref (α 12 i) :: rest)) := by
  have hl : Lv h S 12 i := Lv_of (Or.inr rfl) hi
  have ha : adr α h 12 i = α 12 i := adr_of (Or.inr rfl)
  have hAB : AB g (α 12 i) := by
    have := hR.2.2.1 12 i hl
    rw [ha] at this
    exact this
  refine W.last hx hb (hR.ar (k := 12) rfl hi 0 _ rfl) ((hK.2 2 _ rfl).1 25 (fun q => .long (S.2.1 i q))) (fun q => by cases q) (fun hq => by
    have h9 : (arrV g.2.1.2.2.1 25 (fun q => Value.long (S.2.1 i q))).slots.size = 25 := arrV_size _ _ _
    rcases hq with hq | hq
    · exact hin (Or.inl hq)
    · exact hin (Or.inr (Nat.le_trans (Nat.le_of_eq h9.symm) hq))) rfl rfl hdg fun H1 e1 z oq => ?_
  refine kk H1 _ (hR.upd hl ?_ (by rw [ha]; exact oq) rfl (fun k' i' hl' hne => ent_wrJ hne) (cl_same hR fun k f i hk => rfl)) (hS.put z oq hAB)
  rw [ha, ent_12]
  show H1[α 12 i]? = some (arrV g.2.1.2.2.1 25 fun q => .long ((wrJ S i j.toNatClampNeg x).2.1 i q))
  refine e1.trans ?_
  show some ((arrV g.2.1.2.2.1 25 fun q => .long (S.2.1 i q)).setSlot _ _) = _
  rw [arrV_store]
  congr 2
  funext q
  show _ = Value.long (if i = i ∧ q = j.toNatClampNeg then x else S.2.1 i q)
  by_cases hq : q = j.toNatClampNeg
  · simp [updV, hq]
  · simp [updV, hq]
def kdn (k : Nat) : Bool := (List.range (nf k)).all fun f => decide ((ft k f).1 ≠ 1)
theorem kd_no1 {k f : Nat} (hk : obK k = true) (h01 : k ≠ 0 ∧ k ≠ 1) (hf : f < nf k) : (ft k f).1 ≠ 1 := by
  have h : kdn k = true := by
    rcases obK_or hk with rfl | rfl | rfl | rfl | rfl | rfl | rfl | rfl | rfl | rfl <;> first | exact absurd rfl h01.1 | exact absurd rfl h01.2 | decide +kernel
  simpa using List.all_eq_true.mp h f (List.mem_range.mpr hf)
theorem fv_col {α : Nat → Nat → Nat} {S S' : Sto} {k i f : Nat} (h : S'.1 k f i = S.1 k f i) : fv α S' k i f = fv α S k i f := by
  unfold fv
  rw [h]
theorem lv_old {h : HT} {S : Sto} {k i : Nat} (hl : Lv h S k i) (hk : k ≠ 15) : i < S.2.2 k := by
  rcases Lv_un hl with ⟨q, -⟩ | ⟨-, -, q⟩
  · exact absurd q hk
  · exact q
/-- a new object -/
theorem w_new (hx : p.tables.exec = Jvm.exec) (hb : c.code = cc) (hown : s.vm.findClass own = some m.cls) (hK : va_K g.1 vwCl (tysG g) s) (hWT : WT s) (hR : Rep g α h S H) (hS : va_S (AB g) H0 H locs) (hbs : g.2.2.2 ≤ H.size) {k : Nat} (hk : obK k = true) (h01 : k ≠ 0 ∧ k ≠ 1)
    (hcl : (Cond.classLink own idx (vC (ci k)).1).before args s = true) (hinst : (Cond.instantiable (vC (ci k)).1 (vC (ci k)).2.2).before args s = true) (hini : (Cond.initialized (vC (ci k)).1).before args s = true)
    (hcells : cells + 1 ≤ R.cells) (hslots : slots + (vC (ci k)).2.2 ≤ R.slots) (hdg : decode cc pc = .ok (.new idx, 3))
    (kk : ∀ (H1 : Heap), Rep g (al1 α k (S.2.2 k) H.size) h (mkO S k) H1 → va_S (AB g) H0 H1 locs → H.size ≤ H1.size → W p l e R s m args below meth c H1 locs (cells + 1) (slots + (vC (ci k)).2.2) Q (F0 m (pc + 3) ls (.ref H.size :: rest))) : W p l e R s m args below meth c H locs cells slots Q (F0 m pc ls rest) := by
  obtain ⟨hKF, hn⟩ := kd_KF hk
  have hts := kf_words (args := args) hWT hKF
  have hKn := hK.1 (ci k) _ hKF.1
  refine W.newcK hx hb hown hcl hinst hini rfl hdg hcells hslots hKn.2.1 rfl fun H1 kC hkC e1 z1 o1 => ?_
  have hag : AgR S α (al1 α k (S.2.2 k) H.size) := al1_ag (Or.inl hk)
  refine kk H1 (hR.grow (Or.inl hk) hbs rfl ?_ o1 (fun k' i' hl => ?_) ?_) ⟨Nat.le_trans hS.1 (by omega), fun x h1 h2 => (o1 x (Nat.lt_of_lt_of_le h1 hS.1)).trans (hS.2.1 x h1 h2), hS.2.2⟩ (by omega)
  · rw [ent_ob hk]
    refine ⟨_, hKF.1, (u_born (tyC (ci k)) hts (fun _ h => h) hKn hkC e1 hKF.2.1).to fun j hj => ?_⟩
    have hj' : j < nf k := by rw [hn]; exact hj
    rw [fs_V hj']
    have h3 := kd_ty hk hj'
    unfold fv
    rcases hft : ft k j with ⟨t, a, b⟩
    rw [hft] at h3
    have hz : (mkO S k).1 k j (S.2.2 k) = 0 := mkO_new
    dsimp only at h3
    rcases t with _ | _ | _ | t
    · rw [if_pos rfl] at h3
      rw [h3]
      show Value.int 0 = Value.int _
      rw [hz]
    · exfalso
      exact kd_no1 hk h01 hj' (by rw [hft])
    · rw [if_neg (by omega)] at h3
      rw [(rty_ok h3.1).1]
      show Value.null = if (mkO S k).1 k j (S.2.2 k) = 0 then Value.null else _
      rw [hz, if_pos rfl]
    · rw [if_neg (by omega)] at h3
      rw [(rty_ok h3.1).1]
      show Value.null = if (mkO S k).1 k j (S.2.2 k) = 0 then Value.null else _
      rw [hz, if_pos rfl]
  · have h20 : ∀ i, (mkO S k).2.2 (20 + i) = S.2.2 (20 + i) := fun i => bump_ne (by have := (ob_ne (Or.inl hk)).2.2.2; omega)
    unfold ent
    have e1 : obK k' = true → fs (al1 α k (S.2.2 k) H.size) (mkO S k) k' i' = fs (al1 α k (S.2.2 k) H.size) S k' i' := fun h1 => List.map_congr_left fun f' _ => fv_col (mkO_ne fun q => by
      have := lv_old hl (ob_ne (Or.inl h1)).1
      rw [q.1] at this
      omega)
    by_cases h1 : obK k' = true
    · rw [if_pos h1, if_pos h1, e1 h1]
    · have n1 : ∀ x f j, x = 10 ∨ x = 11 → (mkO S k).1 x f j = S.1 x f j := fun x f j hx9 => mkO_ne fun q => by
        rw [← q.1] at hk
        rcases hx9 with rfl | rfl <;> exact absurd hk (by decide)
      have n10 : (mkO S k).1 10 i' = S.1 10 i' := funext fun j => n1 10 i' j (Or.inl rfl)
      have n11 : (mkO S k).1 11 i' = S.1 11 i' := funext fun j => n1 11 i' j (Or.inr rfl)
      rw [if_neg h1, if_neg h1, n10, n11, h20]
      rfl
  · intro k' i f h1 h2 h3 h4
    by_cases he : k' = k ∧ i = S.2.2 k
    · obtain ⟨rfl, rfl⟩ := he
      exact Or.inl ⟨kd_no1 h1 h01 h3, mkO_new⟩
    · rw [mkO_ne he]
      refine hR.2.2.2.1 k' i f h1 ?_ h3 h4
      change i < bump S.2.2 k k' at h2
      by_cases e : k' = k
      · subst e
        rw [bump_k] at h2
        have : i ≠ S.2.2 k' := fun q => he ⟨rfl, q⟩
        omega
      · rwa [bump_ne e] at h2
/-- a new array of ints or of booleans -/
theorem w_newa (hx : p.tables.exec = Jvm.exec) (hb : c.code = cc) (hK : va_K g.1 vwCl (tysG g) s) (hR : Rep g α h S H) (hS : va_S (AB g) H0 H locs) (hbs : g.2.2.2 ≤ H.size) {k : Nat} {atype : ArrayType} (hk : (k = 10 ∧ atype = .int) ∨ (k = 11 ∧ atype = .boolean))
    (harr : (Cond.arrayClass (newarray.typeOf atype)).before args s = true) {n : Int32} (hn : ¬ n < 0) (hN : n.toNatClampNeg = al k (S.2.2 k)) (hal : al k (S.2.2 k) ≤ 3000) (hcells : cells + 1 ≤ R.cells) (hslots : slots + al k (S.2.2 k) ≤ R.slots) (hdg : decode cc pc = .ok (.newarray atype, 2))
    (kk : ∀ (H1 : Heap), Rep g (al1 α k (S.2.2 k) H.size) h (mkA S k) H1 → va_S (AB g) H0 H1 locs → H.size ≤ H1.size → W p l e R s m args below meth c H1 locs (cells + 1) (slots + al k (S.2.2 k)) Q (F0 m (pc + 2) ls (.ref H.size :: rest))) : W p l e R s m args below meth c H locs cells slots Q (F0 m pc ls (.int n :: rest)) := by
  have hk1 : k = 10 ∨ k = 11 := hk.elim (fun q => Or.inl q.1) (fun q => Or.inr q.1)
  have hk2 : arK k = true := by rcases hk1 with rfl | rfl <;> rfl
  have hob : ∀ {k'}, obK k' = true → k' ≠ k := fun h1 e => by
    rw [e] at h1
    rcases hk1 with rfl | rfl <;> exact absurd h1 (by decide)
  have hag : AgR S α (al1 α k (S.2.2 k) H.size) := al1_ag (Or.inr hk2)
  refine va_newaK hx hb harr rfl hdg rfl hn hN (by rcases hk with ⟨-, rfl⟩ | ⟨-, rfl⟩ <;> · show _ * _ ≤ _; simp only [newarray.typeOf, componentBytes]; omega) hcells hslots rfl fun H1 cA e1 z1 o1 hAr hNm => ?_
  refine kk H1 (hR.grow (hk1.elim (fun q => Or.inr (Or.inl q)) (fun q => Or.inr (Or.inr (Or.inl q)))) hbs rfl ?_ o1 (fun k' i' hl => ?_) ?_) ⟨Nat.le_trans hS.1 (by omega), fun x h1 h2 => (o1 x (Nat.lt_of_lt_of_le h1 hS.1)).trans (hS.2.1 x h1 h2), hS.2.2⟩ (by omega)
  · rcases hk with ⟨rfl, rfl⟩ | ⟨rfl, rfl⟩
    · rw [ent_10]
      have hcA : cA = g.2.1.1 := Option.some.inj (hNm.symm.trans ((hK.2 0 _ rfl).2 : s.vm.findClass _ = some _))
      rw [mkA_new, ← hcA]
      exact e1
    · rw [ent_11]
      have hcA : cA = g.2.1.2.1 := Option.some.inj (hNm.symm.trans ((hK.2 1 _ rfl).2 : s.vm.findClass _ = some _))
      rw [mkA_new, ← hcA]
      exact e1
  · have h20 : ∀ i, (mkA S k).2.2 (20 + i) = S.2.2 (20 + i) := fun i => bump_ne (by rcases hk1 with rfl | rfl <;> omega)
    unfold ent
    by_cases h1 : obK k' = true
    · rw [if_pos h1, if_pos h1]
      have e1 : fs (al1 α k (S.2.2 k) H.size) (mkA S k) k' i' = fs (al1 α k (S.2.2 k) H.size) S k' i' := List.map_congr_left fun f' _ => fv_col (congrFun (mkA_ne fun q => hob h1 q.1) i')
      rw [e1]
    · rw [if_neg h1, if_neg h1, h20]
      by_cases h10 : k' = 10
      · have hlt := lv_old hl (by omega)
        rw [if_pos h10, if_pos h10, mkA_ne (fun q => by rw [h10, q.1] at hlt; omega)]
      · rw [if_neg h10, if_neg h10]
        by_cases h11 : k' = 11
        · have hlt := lv_old hl (by omega)
          rw [if_pos h11, if_pos h11, mkA_ne (fun q => by rw [h11, q.1] at hlt; omega)]
        · rw [if_neg h11, if_neg h11]
          rfl
  · intro k' i f h1 h2 h3 h4
    rw [mkA_ne fun q => hob h1 q.1]
    refine hR.2.2.2.1 k' i f h1 ?_ h3 h4
    change i < bump S.2.2 k k' at h2
    rwa [bump_ne (hob h1)] at h2
/-- a new array of longs -/
theorem w_newJ (hx : p.tables.exec = Jvm.exec) (hb : c.code = cc) (hK : va_K g.1 vwCl (tysG g) s) (hR : Rep g α h S H) (hS : va_S (AB g) H0 H locs) (hbs : g.2.2.2 ≤ H.size)
    (harr : (Cond.arrayClass .long).before args s = true) (hcells : cells + 1 ≤ R.cells) (hslots : slots + 25 ≤ R.slots) (hdg : decode cc pc = .ok (.newarray .long, 2))
    (kk : ∀ (H1 : Heap), Rep g (al1 α 12 (S.2.2 12) H.size) h (mkJ S) H1 → va_S (AB g) H0 H1 locs → H.size ≤ H1.size → W p l e R s m args below meth c H1 locs (cells + 1) (slots + 25) Q (F0 m (pc + 2) ls (.ref H.size :: rest))) : W p l e R s m args below meth c H locs cells slots Q (F0 m pc ls (.int 25 :: rest)) := by
  have hag : AgR S α (al1 α 12 (S.2.2 12) H.size) := al1_ag (Or.inr rfl)
  refine va_newaK (atype := .long) (N := 25) hx hb harr rfl hdg rfl (by decide) (by decide) (by decide) hcells hslots rfl fun H1 cA e1 z1 o1 hAr hNm => ?_
  have hcA : cA = g.2.1.2.2.1 := Option.some.inj (hNm.symm.trans ((hK.2 2 _ rfl).2 : s.vm.findClass _ = some _))
  refine kk H1 (hR.grow (Or.inr (Or.inr (Or.inr rfl))) hbs rfl ?_ o1 (fun k' i' hl => ?_) ?_) ⟨Nat.le_trans hS.1 (by omega), fun x h1 h2 => (o1 x (Nat.lt_of_lt_of_le h1 hS.1)).trans (hS.2.1 x h1 h2), hS.2.2⟩ (by omega)
  · rw [ent_12]
    have e2 : (mkJ S).2.1 (S.2.2 12) = fun _ => 0 := if_pos rfl
    rw [e2, ← hcA]
    exact e1
  · have h20 : ∀ i, (mkJ S).2.2 (20 + i) = S.2.2 (20 + i) := fun i => bump_ne (by omega)
    unfold ent
    by_cases h12 : k' = 12
    · subst h12
      have hlt := lv_old hl (by decide)
      have e : (mkJ S).2.1 i' = S.2.1 i' := if_neg (by omega)
      rw [e]
      rfl
    · rw [if_neg h12, if_neg h12, h20]
      rfl
  · intro k' i f h1 h2 h3 h4
    refine hR.2.2.2.1 k' i f h1 ?_ h3 h4
    change i < bump S.2.2 12 k' at h2
    rwa [bump_ne (fun e => by rw [e] at h1; exact absurd h1 (by decide))] at h2
end RA
end
section
/-! CONTRACTS, and calls over the world -/
def rmx (rk u : Nat) : Room := { frames := 6 + rk, cells := u, slots := 120 * u, locals := 100 + 40 * rk }
def exn : Nat → String
  | 0 => "java/lang/IndexOutOfBoundsException"
  | 1 => "java/lang/IllegalArgumentException"
  | _ => "java/lang/IllegalStateException"
def LvO (S : Sto) : Option AV → Prop
  | none => True
  | some a => LvV S a
def Ext (α : Nat → Nat → Nat) (S : Sto) (α' : Nat → Nat → Nat) (S' : Sto) : Prop := AgR S α α' ∧ ∀ k, S.2.2 k ≤ S'.2.2 k
def PC (g : GT) (α : Nat → Nat → Nat) (h : HT) (S : Sto) (as : List AV) : Array Value → State → Prop := va_Pc (as.map (conc α)) (fun U => Wd g α h S U ∧ ∀ a ∈ as, LvV S a)
def QC (g : GT) (α : Nat → Nat → Nat) (S : Sto) (P : Out → Sto → Prop) : Array Value → State → Outcome → State → Prop := fun _ st o t =>
  ∃ (r : Option AV) (α' : Nat → Nat → Nat) (h' : HT) (S' : Sto), o = .returned (r.map (conc α')) ∧ P (Sum.inl r) S' ∧ Ext α S α' S' ∧ LvO S' r ∧ Rep g α' h' S' t.heap ∧ va_F (AB g) st t
def XC (g : GT) (α : Nat → Nat → Nat) (S : Sto) (P : Out → Sto → Prop) : String → State → State → Prop := fun E st t =>
  ∃ (x : Nat) (α' : Nat → Nat → Nat) (h' : HT) (S' : Sto), E = exn x ∧ P (Sum.inr x) S' ∧ Ext α S α' S' ∧ Rep g α' h' S' t.heap ∧ va_F (AB g) st t
/-- a method's contract: whatever its words ask, it gives -/
def CT (l : Launch) (y : MethodName) (cc : ByteArray) (maxL : Nat) (ret : Option FieldType) (rk u : Nat) (sp : SP) : Prop :=
  ∀ (g : GT) (α : Nat → Nat → Nat) (h : HT) (S : Sto) (as : List AV) (P : Out → Sto → Prop), sp as S P → vx_Met l y [.code y cc maxL ret] (rmx rk u) (PC g α h S as) (QC g α S P) (XC g α S P) u (120 * u) (AB g)
/-- .. of a method with handlers -/
def CTW (l : Launch) (y : MethodName) (cc : ByteArray) (maxL : Nat) (ret : Option FieldType) (hh : List (Nat × Nat × Nat × Nat)) (rk u : Nat) (sp : SP) : Prop :=
  ∀ (g : GT) (α : Nat → Nat → Nat) (h : HT) (S : Sto) (as : List AV) (P : Out → Sto → Prop), sp as S P → vx_Met l y [.codeWith y cc maxL ret hh] (rmx rk u) (PC g α h S as) (QC g α S P) (XC g α S P) u (120 * u) (AB g)
/-- what a method's body stands on -/
def Cx (p : Program) (l : Launch) (s : State) (m : MethodId) (meth : Method) (c : Code) (R : Room) (cc : ByteArray) (own : String) (nL rk cb sb B : Nat) (ini : Bool) (g : GT) : Prop :=
  p.tables.exec = Jvm.exec ∧ c.code = cc ∧ c.maxLocals = nL ∧ s.vm.findClass own = some m.cls ∧ meth.locks = false ∧ (ini = true → meth.name = "<init>") ∧ va_K g.1 vwCl (tysG g) s ∧ WT s ∧ ST g s s.heap ∧ g.2.2.2 ≤ s.heap.size ∧
  6 + rk ≤ R.frames ∧ 100 + 40 * rk ≤ R.locals ∧ cb + B ≤ R.cells ∧ sb + 120 * B ≤ R.slots ∧ l.stackTraces = false
theorem blind_PC {g : GT} {α : Nat → Nat → Nat} {h : HT} {S : Sto} {as : List AV} : FrameBlind (PC g α h S as) := by
  intro a U f mk q
  obtain ⟨q1, ⟨q2, q3, q4, q5, q6⟩, q7⟩ := q
  exact ⟨q1, ⟨q2, va_K.moved (u := U) (U := U.calling f mk a) (Vm.Alike.refl U.vm) q3, WT.warm (s := U) (U := U.calling f mk a) (State.WarmedH.refl U) q4, ST.moved (s := U) (U := U.calling f mk a) (State.WarmedH.refl U) q5, q6⟩, q7⟩
theorem code_pay {y : MethodName} {cc : ByteArray} {maxL : Nat} {ret : Option FieldType} {s : State} {args : Array Value} (h : (Cond.code y cc maxL ret).before args s = true) : ∀ w ∈ [Cond.code y cc maxL ret], ∀ (a' : Array Value) (U : State), s.WarmedH U.vm → w.before a' U = true := by
  intro w hw a' U hW
  rw [List.mem_singleton.mp hw]
  exact word_at hW (Or.inl rfl) h
theorem codeW_pay {y : MethodName} {cc : ByteArray} {maxL : Nat} {ret : Option FieldType} {hh : List (Nat × Nat × Nat × Nat)} {s : State} {args : Array Value} (h : (Cond.codeWith y cc maxL ret hh).before args s = true) : ∀ w ∈ [Cond.codeWith y cc maxL ret hh], ∀ (a' : Array Value) (U : State), s.WarmedH U.vm → w.before a' U = true := by
  intro w hw a' U hW
  rw [List.mem_singleton.mp hw]
  exact word_at hW (Or.inl rfl) h
/-! a static call with up to 16 words below its arguments (after vx_runS) -/
section Runs16
variable {p : Program} {l : Launch} {e : Env} {R : Room} {s : State} {m : MethodId} {args : Array Value} {below : List Frame} {meth : Method} {c : Code} {H : Heap} {locs : List Loc} {cells slots : Nat}
variable {y : MethodName} {bytes cc : ByteArray} {maxL nL mc ms n index : Nat} {ret : Option FieldType} {ws : List Cond} {rm : Room} {Pc : Array Value → State → Prop} {Qc : Array Value → State → Outcome → State → Prop} {XC : String → State → State → Prop} {free : Addr → Prop} {Ts : List Cond} {own C : String} {b : Addr} {As rest : List Value} {g : JFrame}
theorem vx_runS16 (hlo16 : 16 + (maxL + 11) + rm.locals ≤ R.locals) (S : CallFix p m c cc nL s args Ts own) (hM : vx_Met l y ws rm Pc Qc XC mc ms free) (cw : CallB R s args own index y bytes maxL ret ws rm mc ms n ∧ (Cond.static y).before args s = true) (hp : PreS s H Pc As)
    (hg : g.method = m) (hn : As.length = n) (hsize : g.locals.size = nL) (hstack : g.stack = As.reverse ++ rest) (hW : 2 * g.monitorRoom + (rest.map fun v => v.category).sum ≤ 16) (hdg : decode cc g.pc = .ok (.invokestatic index, 3)) (hf : cells + mc ≤ R.cells ∧ slots + ms ≤ R.slots) :
    vx_Run p l e R s m args below meth c H locs cells slots mc ms g rest (Qc As.toArray) XC free := by
  have hK : vx_Back l R p e below s args y 3 16 (PreOf R mc ms Pc) (PostOf Qc mc ms free) (vx_Post XC mc ms free) := by
    obtain ⟨hrc, hrs, hfr, -, hws, hcw, -, hini, -⟩ := cw.1
    exact vx_back (bytes := bytes) (maxL := maxL) (ret := ret) hM hp.1 hrc hrs hfr hlo16 hws hcw (fun a' U hW => word_at hW (Or.inl (by first | rfl | simp [Cond.onTables, Cond.keeps, Cond.steady])) hini)
  obtain ⟨⟨-, -, -, -, -, -, hcode, hini, hy, hlen, hl⟩, hstt⟩ := cw
  obtain ⟨hx, hb, hml, ho, -⟩ := S
  intro T hT X
  rcases vx_callS X hx (bytes := bytes) (maxL := maxL) (ret := ret) ho hl hstt hini hcode hy hK hg (hsize.trans hml.symm) (argsL := As) (rest := rest) (fun sig h => hn.trans (hlen sig h)) hstack hW (by rw [hb]; exact hdg)
    (fun vm₁ hW₁ => ⟨hf.1, hf.2, hp.2 (T.setVm vm₁) hT hW₁⟩) with ⟨v, vm₁, ⟨U', l2, c2, s2⟩, hW₁, X', ⟨g', mk, t, L, e1, e2, hq, h1, hL, h2, h3⟩, st⟩ | ⟨q, vm₁, ⟨U', l2, c2, s2⟩, hW₁, X', ⟨g', mk, t, L, E, ce, e1, e2, hq, hce, hcv, hcl, h1, hL, h2, h3⟩, st⟩
  · dsimp only [Pt.U, Pt.locs, Pt.cells, Pt.slots] at X' e1 e2 h1 h2 h3 st
    subst h1; subst h2; subst h3
    exact Or.inl ⟨v, (T.setVm vm₁).calling g' mk As.toArray, t, U', L, hT, X', hL, e1, e2, hq, st⟩
  · dsimp only [Pt.U, Pt.locs, Pt.cells, Pt.slots] at X' e1 e2 h1 h2 h3 st hcl
    subst h1; subst h2; subst h3
    exact Or.inr ⟨q, (T.setVm vm₁).calling g' mk As.toArray, t, U', L, E, ce, hT, X', hL, e1, e2, hq, hce, hcv, vx_cls hW₁ hcl, st⟩
end Runs16
section CALLS
variable {p : Program} {l : Launch} {e : Env} {R : Room} {s : State} {m : MethodId} {args : Array Value} {below : List Frame} {meth : Method} {c : Code} {H : Heap} {locs : List Loc} {cells slots : Nat} {Q : State → Prop}
variable {cc : ByteArray} {pc : Nat} {ls : Array Slot} {rest st0 : List Value} {g : GT} {α : Nat → Nat → Nat} {h : HT} {S : Sto} {own : String} {idx nL rk cb sb B : Nat} {ini : Bool} {as : List AV} {P : Out → Sto → Prop}
theorem pre_PC (C : Cx p l s m meth c R cc own nL rk cb sb B ini g) (hR : Rep g α h S H) (hS : va_S (AB g) s.heap H locs) (hLv : ∀ a ∈ as, LvV S a) : PreS s H (PC g α h S as) (as.map (conc α)) := by
  obtain ⟨hx, hb, hml, hown, hlk, hin, hK, hWT, hST, hbs, -⟩ := C
  refine ⟨blind_PC, fun U hU hW => ⟨rfl, ⟨by rw [hU]; exact hR, va_K.moved hW.alike hK, WT.warm hW hWT, by rw [hU]; exact (ST.moved hW hST).kept hS.2.1, by rw [hU]; exact Nat.le_trans hbs hS.1⟩, hLv⟩⟩
/-- behind a call -/
theorem w_after {a : Array Value} {mc ms : Nat} (hr : vx_Run p l e R s m args below meth c H locs cells slots mc ms (F0 m pc ls st0) rest (QC g α S P a) (XC g α S P) (AB g)) (hS : va_S (AB g) s.heap H locs)
    (kk : ∀ (r : Option AV) (α' : Nat → Nat → Nat) (h' : HT) (S' : Sto) (H1 : Heap) (locs1 : List Loc), P (Sum.inl r) S' → Ext α S α' S' → LvO S' r → Rep g α' h' S' H1 → va_S (AB g) s.heap H1 locs1 → W p l e R s m args below meth c H1 locs1 (cells + mc) (slots + ms) Q (F0 m (pc + 3) ls ((r.map (conc α')).toList ++ rest)))
    (kx : ∀ (x : Nat) (α' : Nat → Nat → Nat) (h' : HT) (S' : Sto) (H1 : Heap) (locs1 : List Loc) (q9 : Addr) (ce : Cell), P (Sum.inr x) S' → Ext α S α' S' → Rep g α' h' S' H1 → va_S (AB g) s.heap H1 locs1 → H1[q9]? = some ce → ce.vm = .none → s.vm.findClass (exn x) = some ce.cls →
      vx_W p l e R s m args below meth c H1 locs1 (cells + mc) (slots + ms) Q (F0 m pc ls rest) q9) : W p l e R s m args below meth c H locs cells slots Q (F0 m pc ls st0) := by
  intro T hT X
  rcases hr T hT X with ⟨v, st₀, t, T', L, h0, X', hL, e1, e2, ⟨r, α', h', S', ho, hP, hE, hLv, hRep, hF⟩, st⟩ | ⟨q, st₀, t, T', L, E, ce, h0, X', hL, e1, e2, ⟨x, α', h', S', hEx, hP, hE, hRep, hF⟩, hce, hcv, hcl, st⟩
  · cases ho
    obtain ⟨k1, k2, k3⟩ := vx_keep h0 e1 hS (fun _ _ h => h) (fun _ h => h) hL hF
    obtain ⟨t2, a1, b1⟩ := kk r α' h' S' T'.heap (locs ++ L) hP hE hLv (by rw [e1]; exact hRep) k3 T' rfl X'
    exact ⟨t2, st t2 a1, b1⟩
  · obtain ⟨k1, k2, k3⟩ := vx_keep h0 e1 hS (fun _ _ h => h) (fun _ h => h) hL hF
    obtain ⟨t2, a1, b1⟩ := kx x α' h' S' T'.heap (locs ++ L) q ce hP hE (by rw [e1]; exact hRep) k3 (by rw [e1]; exact hce) hcv (by rw [← hEx]; exact hcl) T' rfl X'
    exact ⟨t2, st.trans a1, b1⟩
/-- a call's words: the site, the callee -/
def LkB (own : String) (idx : Nat) (y : MethodName) (cc : ByteArray) (maxL : Nat) (ret : Option FieldType) (n : Nat) : Prop :=
  Cond.code y cc maxL ret ∈ lw_tbl ∧ Cond.initialized y.cls ∈ lw_tbl ∧ Cond.methodLink own idx y ∈ lw_tbl ∧ (y.cls ≠ "java/lang/invoke/MethodHandle" ∧ y.cls ≠ "java/lang/invoke/VarHandle") ∧ (parseMethodDescriptor y.desc).map (fun d => d.parameters.length) = some n ∧ maxL ≤ 21
theorem lkB_call {y : MethodName} {cy : ByteArray} {maxL n rz uz : Nat} {ret : Option FieldType} (C : Cx p l s m meth c R cc own nL rk cb sb B ini g) (hL : LkB own idx y cy maxL ret n) (hrk : rz < rk) :
    CallB R s args own idx y cy maxL ret [.code y cy maxL ret] (rmx rz uz) uz (120 * uz) n := by
  obtain ⟨hx, hb, hml, hown, hlk, hin, hK, hWT, hST, hbs, hfr, hlo, -⟩ := C
  obtain ⟨h1, h2, h3, h4, h5, h6⟩ := hL
  have hcode : (Cond.code y cy maxL ret).before args s = true := hWT _ h1 rfl args
  refine ⟨rfl, rfl, by show 6 + rz + 1 ≤ _; omega, by show 8 + (maxL + 11) + (100 + 40 * rz) ≤ _; omega, code_pay hcode, List.mem_singleton.mpr rfl, hcode, hWT _ h2 rfl args, h4, fun sig h => ?_, hWT _ h3 rfl args⟩
  rw [h] at h5
  exact (Option.some.inj h5).symm
theorem w_callS {y : MethodName} {cy : ByteArray} {maxL n rz uz : Nat} {ret : Option FieldType} {sp : SP} (C : Cx p l s m meth c R cc own nL rk cb sb B ini g) (hct : CT l y cy maxL ret rz uz sp) (hL : LkB own idx y cy maxL ret n) (hst : Cond.static y ∈ lw_tbl) (hrk : rz < rk) (hn : as.length = n)
    (hsp : sp as S P) (hR : Rep g α h S H) (hS : va_S (AB g) s.heap H locs) (hLv : ∀ a ∈ as, LvV S a) (hsz : ls.size = nL) (hcat : (rest.map fun v => v.category).sum ≤ 8) (hf : cells + uz ≤ R.cells ∧ slots + 120 * uz ≤ R.slots) (hdg : decode cc pc = .ok (.invokestatic idx, 3))
    (kk : ∀ (r : Option AV) (α' : Nat → Nat → Nat) (h' : HT) (S' : Sto) (H1 : Heap) (locs1 : List Loc), P (Sum.inl r) S' → Ext α S α' S' → LvO S' r → Rep g α' h' S' H1 → va_S (AB g) s.heap H1 locs1 → W p l e R s m args below meth c H1 locs1 (cells + uz) (slots + 120 * uz) Q (F0 m (pc + 3) ls ((r.map (conc α')).toList ++ rest)))
    (kx : ∀ (x : Nat) (α' : Nat → Nat → Nat) (h' : HT) (S' : Sto) (H1 : Heap) (locs1 : List Loc) (q9 : Addr) (ce : Cell), P (Sum.inr x) S' → Ext α S α' S' → Rep g α' h' S' H1 → va_S (AB g) s.heap H1 locs1 → H1[q9]? = some ce → ce.vm = .none → s.vm.findClass (exn x) = some ce.cls →
      vx_W p l e R s m args below meth c H1 locs1 (cells + uz) (slots + 120 * uz) Q (F0 m pc ls rest) q9) : W p l e R s m args below meth c H locs cells slots Q (F0 m pc ls ((as.map (conc α)).reverse ++ rest)) :=
  w_after (vx_runS (Ts := []) (own := own) (As := as.map (conc α)) ⟨C.1, C.2.1, C.2.2.1, C.2.2.2.1, fun _ h => nomatch h⟩ (hct g α h S as P hsp) ⟨lkB_call C hL hrk, C.2.2.2.2.2.2.2.1 _ hst rfl args⟩ (pre_PC C hR hS hLv) rfl (by rw [List.length_map]; exact hn) hsz rfl (by show 2 * 0 + _ ≤ 8; omega) hdg hf) hS kk kx
theorem w_callS16 {y : MethodName} {cy : ByteArray} {maxL n rz uz : Nat} {ret : Option FieldType} {sp : SP} (C : Cx p l s m meth c R cc own nL rk cb sb B ini g) (hct : CT l y cy maxL ret rz uz sp) (hL : LkB own idx y cy maxL ret n) (hm : maxL ≤ 13) (hst : Cond.static y ∈ lw_tbl) (hrk : rz < rk) (hn : as.length = n)
    (hsp : sp as S P) (hR : Rep g α h S H) (hS : va_S (AB g) s.heap H locs) (hLv : ∀ a ∈ as, LvV S a) (hsz : ls.size = nL) (hcat : (rest.map fun v => v.category).sum ≤ 16) (hf : cells + uz ≤ R.cells ∧ slots + 120 * uz ≤ R.slots) (hdg : decode cc pc = .ok (.invokestatic idx, 3))
    (kk : ∀ (r : Option AV) (α' : Nat → Nat → Nat) (h' : HT) (S' : Sto) (H1 : Heap) (locs1 : List Loc), P (Sum.inl r) S' → Ext α S α' S' → LvO S' r → Rep g α' h' S' H1 → va_S (AB g) s.heap H1 locs1 → W p l e R s m args below meth c H1 locs1 (cells + uz) (slots + 120 * uz) Q (F0 m (pc + 3) ls ((r.map (conc α')).toList ++ rest)))
    (kx : ∀ (x : Nat) (α' : Nat → Nat → Nat) (h' : HT) (S' : Sto) (H1 : Heap) (locs1 : List Loc) (q9 : Addr) (ce : Cell), P (Sum.inr x) S' → Ext α S α' S' → Rep g α' h' S' H1 → va_S (AB g) s.heap H1 locs1 → H1[q9]? = some ce → ce.vm = .none → s.vm.findClass (exn x) = some ce.cls →
      vx_W p l e R s m args below meth c H1 locs1 (cells + uz) (slots + 120 * uz) Q (F0 m pc ls rest) q9) : W p l e R s m args below meth c H locs cells slots Q (F0 m pc ls ((as.map (conc α)).reverse ++ rest)) :=
  w_after (vx_runS16 (by have := C.2.2.2.2.2.2.2.2.2.2.2.1; show 16 + (maxL + 11) + (100 + 40 * rz) ≤ _; omega) (Ts := []) (own := own) (As := as.map (conc α)) ⟨C.1, C.2.1, C.2.2.1, C.2.2.2.1, fun _ h => nomatch h⟩ (hct g α h S as P hsp) ⟨lkB_call C hL hrk, C.2.2.2.2.2.2.2.1 _ hst rfl args⟩ (pre_PC C hR hS hLv) rfl (by rw [List.length_map]; exact hn) hsz rfl (by show 2 * 0 + _ ≤ 16; omega) hdg hf) hS kk kx
/-- a call's words, of a callee with handlers -/
def LkW (own : String) (idx : Nat) (y : MethodName) (cc : ByteArray) (maxL : Nat) (ret : Option FieldType) (hh : List (Nat × Nat × Nat × Nat)) (n : Nat) : Prop :=
  Cond.codeWith y cc maxL ret hh ∈ lw_tbl ∧ Cond.initialized y.cls ∈ lw_tbl ∧ Cond.methodLink own idx y ∈ lw_tbl ∧ (y.cls ≠ "java/lang/invoke/MethodHandle" ∧ y.cls ≠ "java/lang/invoke/VarHandle") ∧ (parseMethodDescriptor y.desc).map (fun d => d.parameters.length) = some n ∧ maxL ≤ 21
theorem lkW_call {y : MethodName} {cy : ByteArray} {maxL n rz uz : Nat} {ret : Option FieldType} {hh : List (Nat × Nat × Nat × Nat)} (C : Cx p l s m meth c R cc own nL rk cb sb B ini g) (hL : LkW own idx y cy maxL ret hh n) (hrk : rz < rk) (hst : Cond.static y ∈ lw_tbl) :
    vx_CSW R s args own idx y cy maxL ret hh [.codeWith y cy maxL ret hh] (rmx rz uz) uz (120 * uz) n := by
  obtain ⟨hx, hb, hml, hown, hlk, hin, hK, hWT, hST, hbs, hfr, hlo, -⟩ := C
  obtain ⟨h1, h2, h3, h4, h5, h6⟩ := hL
  have hcode : (Cond.codeWith y cy maxL ret hh).before args s = true := hWT _ h1 rfl args
  refine ⟨⟨rfl, rfl, by show 6 + rz + 1 ≤ _; omega, by show 8 + (maxL + 11) + (100 + 40 * rz) ≤ _; omega, codeW_pay hcode, List.mem_singleton.mpr rfl⟩, hcode, hWT _ h2 rfl args, h4, fun sig h => ?_, hWT _ h3 rfl args, hWT _ hst rfl args⟩
  rw [h] at h5
  exact (Option.some.inj h5).symm
theorem w_callSW {y : MethodName} {cy : ByteArray} {maxL n rz uz : Nat} {ret : Option FieldType} {hh : List (Nat × Nat × Nat × Nat)} {sp : SP} (C : Cx p l s m meth c R cc own nL rk cb sb B ini g) (hct : CTW l y cy maxL ret hh rz uz sp) (hL : LkW own idx y cy maxL ret hh n) (hst : Cond.static y ∈ lw_tbl) (hrk : rz < rk) (hn : as.length = n)
    (hsp : sp as S P) (hR : Rep g α h S H) (hS : va_S (AB g) s.heap H locs) (hLv : ∀ a ∈ as, LvV S a) (hsz : ls.size = nL) (hcat : (rest.map fun v => v.category).sum ≤ 8) (hf : cells + uz ≤ R.cells ∧ slots + 120 * uz ≤ R.slots) (hdg : decode cc pc = .ok (.invokestatic idx, 3))
    (kk : ∀ (r : Option AV) (α' : Nat → Nat → Nat) (h' : HT) (S' : Sto) (H1 : Heap) (locs1 : List Loc), P (Sum.inl r) S' → Ext α S α' S' → LvO S' r → Rep g α' h' S' H1 → va_S (AB g) s.heap H1 locs1 → W p l e R s m args below meth c H1 locs1 (cells + uz) (slots + 120 * uz) Q (F0 m (pc + 3) ls ((r.map (conc α')).toList ++ rest)))
    (kx : ∀ (x : Nat) (α' : Nat → Nat → Nat) (h' : HT) (S' : Sto) (H1 : Heap) (locs1 : List Loc) (q9 : Addr) (ce : Cell), P (Sum.inr x) S' → Ext α S α' S' → Rep g α' h' S' H1 → va_S (AB g) s.heap H1 locs1 → H1[q9]? = some ce → ce.vm = .none → s.vm.findClass (exn x) = some ce.cls →
      vx_W p l e R s m args below meth c H1 locs1 (cells + uz) (slots + 120 * uz) Q (F0 m pc ls rest) q9) : W p l e R s m args below meth c H locs cells slots Q (F0 m pc ls ((as.map (conc α)).reverse ++ rest)) :=
  w_after (vx_runSX (Ts := []) (own := own) (As := as.map (conc α)) ⟨C.1, C.2.1, C.2.2.1, C.2.2.2.1, fun _ h => nomatch h⟩ (hct g α h S as P hsp) (lkW_call C hL hrk hst) (pre_PC C hR hS hLv) rfl (by rw [List.length_map]; exact hn) hsz rfl (by show 2 * 0 + _ ≤ 8; omega) hdg hf) hS kk kx
/-- an object as a receiver -/
theorem recv_ob (hK : va_K g.1 vwCl (tysG g) s) (hR : Rep g α h S H) {k i : Nat} (hk : obK k = true ∨ k = 13) (hi : i < S.2.2 k) : ∃ cell : Cell, H[α k i]? = some cell ∧ cell.vm.isStatics = false ∧ s.vm.findClass (vC (ci k)).1 = some cell.cls := by
  rcases hk with hk | rfl
  · exact va_recv hK (hR.ob hk hi) (kd_KF hk).1.1 (q0 := 0) rfl
  · exact va_recv hK (hR.ar (k := 13) rfl hi) (ci := 0) (q := vC 0) rfl (q0 := 0) (by rw [ent_13]; rfl)
theorem w_callV {y : MethodName} {cy : ByteArray} {maxL n rz uz k i : Nat} {ret : Option FieldType} {sp : SP} (C : Cx p l s m meth c R cc own nL rk cb sb B ini g) (hct : CT l y cy maxL ret rz uz sp) (hL : LkB own idx y cy maxL ret n) (hin : Cond.instanceMethod y ∈ lw_tbl) (hse : (Cond.selects (vC (ci k)).1 y y) ∈ lw_tbl) (hrk : rz < rk) (hn : as.length = n)
    (hk : obK k = true ∨ k = 13) (hi : i < S.2.2 k) (hsp : sp (aR k i :: as) S P) (hR : Rep g α h S H) (hS : va_S (AB g) s.heap H locs) (hLv : ∀ a ∈ as, LvV S a) (hsz : ls.size = nL) (hcat : (rest.map fun v => v.category).sum ≤ 8) (hf : cells + uz ≤ R.cells ∧ slots + 120 * uz ≤ R.slots) (hdg : decode cc pc = .ok (.invokevirtual idx, 3))
    (kk : ∀ (r : Option AV) (α' : Nat → Nat → Nat) (h' : HT) (S' : Sto) (H1 : Heap) (locs1 : List Loc), P (Sum.inl r) S' → Ext α S α' S' → LvO S' r → Rep g α' h' S' H1 → va_S (AB g) s.heap H1 locs1 → W p l e R s m args below meth c H1 locs1 (cells + uz) (slots + 120 * uz) Q (F0 m (pc + 3) ls ((r.map (conc α')).toList ++ rest)))
    (kx : ∀ (x : Nat) (α' : Nat → Nat → Nat) (h' : HT) (S' : Sto) (H1 : Heap) (locs1 : List Loc) (q9 : Addr) (ce : Cell), P (Sum.inr x) S' → Ext α S α' S' → Rep g α' h' S' H1 → va_S (AB g) s.heap H1 locs1 → H1[q9]? = some ce → ce.vm = .none → s.vm.findClass (exn x) = some ce.cls →
      vx_W p l e R s m args below meth c H1 locs1 (cells + uz) (slots + 120 * uz) Q (F0 m pc ls rest) q9) : W p l e R s m args below meth c H locs cells slots Q (F0 m pc ls ((as.map (conc α)).reverse ++ .ref (α k i) :: rest)) := by
  have hk9 : k ≠ 99 := (ob_ne (hk.imp id (fun q => by rw [q]; rfl))).2.1
  have hcv : conc α (aR k i) = .ref (α k i) := by show Value.ref (if k = 99 then i else α k i) = _; rw [if_neg hk9]
  have hLv' : ∀ a ∈ aR k i :: as, LvV S a := fun a ha => (List.mem_cons.mp ha).elim (fun q => by rw [q]; exact Or.inr (Or.inr ⟨hk.imp id (fun q => by rw [q]; rfl), hi⟩)) (hLv a)
  have hpre := pre_PC C hR hS hLv'
  rw [List.map_cons, hcv] at hpre
  exact w_after (vx_runV (Ts := []) (own := own) (As := as.map (conc α)) ⟨C.1, C.2.1, C.2.2.1, C.2.2.2.1, fun _ h => nomatch h⟩ (hct g α h S (aR k i :: as) P hsp) ⟨lkB_call C hL hrk, C.2.2.2.2.2.2.2.1 _ hin rfl args, C.2.2.2.2.2.2.2.1 _ hse rfl args⟩ ⟨hpre.1, recv_ob C.2.2.2.2.2.2.1 hR hk hi, hpre.2⟩ rfl (by rw [List.length_map]; exact hn) hsz rfl (by show 2 * 0 + _ ≤ 8; omega) hdg hf) hS kk kx
theorem w_callI {y : MethodName} {cy : ByteArray} {maxL n rz uz k i : Nat} {sp : SP} (C : Cx p l s m meth c R cc own nL rk cb sb B ini g) (hct : CT l y cy maxL none rz uz sp) (hL : LkB own idx y cy maxL none n) (hin : Cond.instanceMethod y ∈ lw_tbl) (hy : y.name = "<init>") (hrk : rz < rk) (hn : as.length = n)
    (hk : obK k = true ∨ k = 13) (hi : i < S.2.2 k) (hsp : sp (aR k i :: as) S P) (hR : Rep g α h S H) (hS : va_S (AB g) s.heap H locs) (hLv : ∀ a ∈ as, LvV S a) (hsz : ls.size = nL) (hcat : (rest.map fun v => v.category).sum ≤ 8) (hf : cells + uz ≤ R.cells ∧ slots + 120 * uz ≤ R.slots) (hdg : decode cc pc = .ok (.invokespecial idx, 3))
    (kk : ∀ (r : Option AV) (α' : Nat → Nat → Nat) (h' : HT) (S' : Sto) (H1 : Heap) (locs1 : List Loc), P (Sum.inl r) S' → Ext α S α' S' → LvO S' r → Rep g α' h' S' H1 → va_S (AB g) s.heap H1 locs1 → W p l e R s m args below meth c H1 locs1 (cells + uz) (slots + 120 * uz) Q (F0 m (pc + 3) ls ((r.map (conc α')).toList ++ rest)))
    (kx : ∀ (x : Nat) (α' : Nat → Nat → Nat) (h' : HT) (S' : Sto) (H1 : Heap) (locs1 : List Loc) (q9 : Addr) (ce : Cell), P (Sum.inr x) S' → Ext α S α' S' → Rep g α' h' S' H1 → va_S (AB g) s.heap H1 locs1 → H1[q9]? = some ce → ce.vm = .none → s.vm.findClass (exn x) = some ce.cls →
      vx_W p l e R s m args below meth c H1 locs1 (cells + uz) (slots + 120 * uz) Q (F0 m pc ls rest) q9) : W p l e R s m args below meth c H locs cells slots Q (F0 m pc ls ((as.map (conc α)).reverse ++ .ref (α k i) :: rest)) := by
  have hk9 : k ≠ 99 := (ob_ne (hk.imp id (fun q => by rw [q]; rfl))).2.1
  have hcv : conc α (aR k i) = .ref (α k i) := by show Value.ref (if k = 99 then i else α k i) = _; rw [if_neg hk9]
  have hLv' : ∀ a ∈ aR k i :: as, LvV S a := fun a ha => (List.mem_cons.mp ha).elim (fun q => by rw [q]; exact Or.inr (Or.inr ⟨hk.imp id (fun q => by rw [q]; rfl), hi⟩)) (hLv a)
  have hpre := pre_PC C hR hS hLv'
  rw [List.map_cons, hcv] at hpre
  exact w_after (vx_runI (Ts := []) (own := own) (As := as.map (conc α)) ⟨C.1, C.2.1, C.2.2.1, C.2.2.2.1, fun _ h => nomatch h⟩ (hct g α h S (aR k i :: as) P hsp) ⟨lkB_call C hL hrk, hy, C.2.2.2.2.2.2.2.1 _ hin rfl args⟩ hpre rfl (by rw [List.length_map]; exact hn) hsz rfl (by show 2 * 0 + _ ≤ 8; omega) hdg hf) hS kk kx
end CALLS
end
section
/-! THE MACHINE AT A ROW, and what a row's instruction needs of the tables -/
def LH (α : Nat → Nat → Nat) (ls : Array Slot) (nL : Nat) (L : Lo) : Prop := ls.size = nL ∧ L.length = nL ∧ lv_wf ls ∧ ∀ (i : Nat) (a : AV), L[i]? = some (some a) → ls[i]? = some (Slot.val (conc α a))
def Go (p : Program) (l : Launch) (e : Env) (R : Room) (s : State) (m : MethodId) (args : Array Value) (below : List Frame) (meth : Method) (c : Code) (Q : State → Prop) (g : GT) (α0 : Nat → Nat → Nat) (S0 : Sto) (nL cb sb B : Nat) : Gt := fun pc L st S u =>
  u ≤ B → ∀ (α : Nat → Nat → Nat) (h : HT) (H : Heap) (locs : List Loc) (ls : Array Slot), Rep g α h S H → Ext α0 S0 α S → (∀ a, some a ∈ L → LvV S a) → (∀ a ∈ st, LvV S a) → va_S (AB g) s.heap H locs → LH α ls nL L →
    W p l e R s m args below meth c H locs (cb + u) (sb + 120 * u) Q (F0 m pc ls (st.map (conc α)))
def kn (α : Nat → Nat → Nat) (L : Lo) : List (Nat × Value) := (List.range L.length).filterMap fun i => match L[i]? with
  | some (some a) => some (i, conc α a)
  | _ => none
theorem kn_mem {α : Nat → Nat → Nat} {L : Lo} {q : Nat × Value} : q ∈ kn α L ↔ ∃ a, L[q.1]? = some (some a) ∧ q.2 = conc α a := by
  unfold kn
  rw [List.mem_filterMap]
  constructor
  · rintro ⟨i, hi, h⟩
    split at h
    · rename_i a ha
      cases h
      exact ⟨a, ha, rfl⟩
    · cases h
  · rintro ⟨a, h1, h2⟩
    refine ⟨q.1, List.mem_range.mpr (List.getElem?_eq_some_iff.mp h1).1, ?_⟩
    rw [h1]
    show some (q.1, conc α a) = some q
    rw [← h2]
theorem LH.has {α : Nat → Nat → Nat} {ls : Array Slot} {nL : Nat} {L : Lo} (h : LH α ls nL L) : lv_has ls nL (kn α L) := by
  refine ⟨h.1, h.2.2.1, fun q hq => ?_⟩
  obtain ⟨a, h1, h2⟩ := kn_mem.mp hq
  rw [h2]
  exact h.2.2.2 q.1 a h1
theorem getL_ok {L : Lo} {i : Nat} {k : AV → Prop} (h : getL L i k) : ∃ v, L[i]? = some (some v) ∧ k v := by
  induction L generalizing i with
  | nil => exact h.elim
  | cons x r ih =>
    cases i with
    | zero =>
      cases x with
      | none => exact h.elim
      | some v => exact ⟨v, rfl, h⟩
    | succ i =>
      cases x with
      | none => exact ih h
      | some v => exact ih h
theorem forceL_ok {L : Lo} {k : Lo → Prop} (h : forceL L k) : k L := by
  induction L generalizing k with
  | nil => exact h
  | cons x r ih => exact ih h
def isLg : Option AV → Bool
  | some (Sum.inr (Sum.inl _)) => true
  | _ => false
theorem clrP_eq {x : Option AV} : clrP x = if isLg x = true then none else x := by
  rcases x with _ | (_ | (_ | _)) <;> rfl
theorem setL_len {L : Lo} {i : Nat} {v : AV} : (setL L i v).length = L.length := by
  induction L generalizing i with
  | nil => rfl
  | cons x r ih =>
    rcases i with _ | _ | i
    · rfl
    · show (setL r 0 v).length + 1 = _
      rw [ih]; rfl
    · show (setL r (i + 1) v).length + 1 = _
      rw [ih]; rfl
theorem setL_at {L : Lo} {i j : Nat} {v a : AV} (h : (setL L i v)[j]? = some (some a)) : (j = i ∧ a = v) ∨ (j ≠ i ∧ L[j]? = some (some a) ∧ ¬ (j + 1 = i ∧ isLg (some a) = true)) := by
  induction L generalizing i j with
  | nil => cases h
  | cons x r ih =>
    rcases i with _ | _ | i
    · rcases j with _ | j
      · left
        cases h
        exact ⟨rfl, rfl⟩
      · exact Or.inr ⟨by omega, h, by omega⟩
    · rcases j with _ | j
      · right
        have h' : some (clrP x) = some (some a) := h
        rw [clrP_eq] at h'
        by_cases hx : isLg x = true
        · rw [if_pos hx] at h'; cases h'
        · rw [if_neg hx] at h'
          have hx' : x = some a := Option.some.inj h'
          subst hx'
          exact ⟨by omega, rfl, fun q => hx q.2⟩
      · rcases ih (i := 0) (j := j) h with ⟨q1, q2⟩ | ⟨q1, q2, q3⟩
        · exact Or.inl ⟨by omega, q2⟩
        · exact Or.inr ⟨by omega, q2, by omega⟩
    · rcases j with _ | j
      · right
        have hx' : x = some a := Option.some.inj h
        subst hx'
        exact ⟨by omega, rfl, by omega⟩
      · rcases ih (i := i + 1) (j := j) h with ⟨q1, q2⟩ | ⟨q1, q2, q3⟩
        · exact Or.inl ⟨by omega, q2⟩
        · exact Or.inr ⟨by omega, q2, fun q => q3 ⟨by omega, q.2⟩⟩
theorem cat_conc {α : Nat → Nat → Nat} (a : AV) : (conc α a).category = catV a := by
  rcases a with _ | (_ | _) <;> rfl
theorem cats_conc {α : Nat → Nat → Nat} (st : List AV) : ((st.map (conc α)).map fun v => v.category).sum = catS st := by
  induction st with
  | nil => rfl
  | cons v r ih =>
    simp only [List.map_cons, List.sum_cons, catS, cat_conc]
    rw [ih]
theorem isLg_cat {a : AV} : isLg (some a) = true ↔ catV a = 2 := by
  rcases a with _ | (_ | _) <;> simp [isLg, catV]
/-- after a store of one slot -/
theorem LH.set {α : Nat → Nat → Nat} {ls ls' : Array Slot} {nL : Nat} {L : Lo} (h : LH α ls nL L) {i : Nat} {v : AV} (hl : lv_has ls' nL ((i, conc α v) :: (kn α L).filter (fun q => !(q.1 == i) && !(q.1 + 1 == i && q.2.category == 2)))) : LH α ls' nL (setL L i v) := by
  refine ⟨hl.1, by rw [setL_len]; exact h.2.1, hl.2.1, fun j a hj => ?_⟩
  rcases setL_at hj with ⟨rfl, rfl⟩ | ⟨h1, h2, h3⟩
  · exact hl.2.2 (j, conc α a) List.mem_cons_self
  · refine hl.2.2 (j, conc α a) (List.mem_cons_of_mem _ (List.mem_filter.mpr ⟨kn_mem.mpr ⟨a, h2, rfl⟩, ?_⟩))
    rw [isLg_cat] at h3
    simp only [cat_conc, Bool.and_eq_true, Bool.not_eq_true', beq_eq_false_iff_ne, ne_eq, Bool.and_eq_false_iff]
    refine ⟨h1, ?_⟩
    by_cases hji : j + 1 = i
    · exact Or.inr fun q => h3 ⟨hji, q⟩
    · exact Or.inl hji
theorem setL_mem {S : Sto} {L : Lo} {i : Nat} {v : AV} (h : ∀ a, some a ∈ L → LvV S a) (hv : LvV S v) : ∀ a, some a ∈ setL L i v → LvV S a := by
  intro a ha
  obtain ⟨j, hj⟩ := List.getElem?_of_mem ha
  rcases setL_at hj with ⟨-, rfl⟩ | ⟨-, h2, -⟩
  · exact hv
  · exact h a (List.mem_of_getElem? h2)
theorem setL2_len {L : Lo} {i : Nat} {v : AV} : (setL2 L i v).length = L.length := by
  induction L generalizing i with
  | nil => rfl
  | cons x r ih =>
    rcases i with _ | _ | i
    · cases r <;> rfl
    · show (setL2 r 0 v).length + 1 = _
      rw [ih]; rfl
    · show (setL2 r (i + 1) v).length + 1 = _
      rw [ih]; rfl
theorem setL2_at {L : Lo} {i j : Nat} {v a : AV} (h : (setL2 L i v)[j]? = some (some a)) : (j = i ∧ a = v) ∨ (j ≠ i ∧ j ≠ i + 1 ∧ L[j]? = some (some a) ∧ ¬ (j + 1 = i ∧ isLg (some a) = true)) := by
  induction L generalizing i j with
  | nil => cases h
  | cons x r ih =>
    rcases i with _ | _ | i
    · rcases r with _ | ⟨y, r⟩
      · rcases j with _ | j
        · left
          cases h
          exact ⟨rfl, rfl⟩
        · cases h
      · rcases j with _ | _ | j
        · left
          cases h
          exact ⟨rfl, rfl⟩
        · cases h
        · exact Or.inr ⟨by omega, by omega, h, by omega⟩
    · rcases j with _ | j
      · right
        have h' : some (clrP x) = some (some a) := h
        rw [clrP_eq] at h'
        by_cases hx : isLg x = true
        · rw [if_pos hx] at h'; cases h'
        · rw [if_neg hx] at h'
          have hx' : x = some a := Option.some.inj h'
          subst hx'
          exact ⟨by omega, by omega, rfl, fun q => hx q.2⟩
      · rcases ih (i := 0) (j := j) h with ⟨q1, q2⟩ | ⟨q1, q2, q3, q4⟩
        · exact Or.inl ⟨by omega, q2⟩
        · exact Or.inr ⟨by omega, by omega, q3, by omega⟩
    · rcases j with _ | j
      · right
        have hx' : x = some a := Option.some.inj h
        subst hx'
        exact ⟨by omega, by omega, rfl, by omega⟩
      · rcases ih (i := i + 1) (j := j) h with ⟨q1, q2⟩ | ⟨q1, q2, q3, q4⟩
        · exact Or.inl ⟨by omega, q2⟩
        · exact Or.inr ⟨by omega, by omega, q3, fun q => q4 ⟨by omega, q.2⟩⟩
theorem LH.set2 {α : Nat → Nat → Nat} {ls ls' : Array Slot} {nL : Nat} {L : Lo} (h : LH α ls nL L) {i : Nat} {v : AV} (hl : lv_has ls' nL ((i, conc α v) :: (kn α L).filter (fun q => !(q.1 == i) && (!(q.1 == i + 1) && !(q.1 + 1 == i && q.2.category == 2))))) : LH α ls' nL (setL2 L i v) := by
  refine ⟨hl.1, by rw [setL2_len]; exact h.2.1, hl.2.1, fun j a hj => ?_⟩
  rcases setL2_at hj with ⟨rfl, rfl⟩ | ⟨h1, h0, h2, h3⟩
  · exact hl.2.2 (j, conc α a) List.mem_cons_self
  · refine hl.2.2 (j, conc α a) (List.mem_cons_of_mem _ (List.mem_filter.mpr ⟨kn_mem.mpr ⟨a, h2, rfl⟩, ?_⟩))
    rw [isLg_cat] at h3
    simp only [cat_conc, Bool.and_eq_true, Bool.not_eq_true', beq_eq_false_iff_ne, ne_eq, Bool.and_eq_false_iff]
    refine ⟨h1, h0, ?_⟩
    by_cases hji : j + 1 = i
    · exact Or.inr fun q => h3 ⟨hji, q⟩
    · exact Or.inl hji
theorem setL2_mem {S : Sto} {L : Lo} {i : Nat} {v : AV} (h : ∀ a, some a ∈ L → LvV S a) (hv : LvV S v) : ∀ a, some a ∈ setL2 L i v → LvV S a := by
  intro a ha
  obtain ⟨j, hj⟩ := List.getElem?_of_mem ha
  rcases setL2_at hj with ⟨-, rfl⟩ | ⟨-, -, h2, -⟩
  · exact hv
  · exact h a (List.mem_of_getElem? h2)
end
section
/-! WHAT AN INSTRUCTION NEEDS OF THE TABLES, decided by program -/
def wdAt (w : Nat) (k : Jvm.Cond) : Bool := decide (lw_tbl[w]? = some k) && (goodWord k || isDC k)
theorem wdAt_ok {w : Nat} {k : Jvm.Cond} {s : State} (h : wdAt w k = true) (hW : WT s) (args : Array Value) : k.before args s = true := by
  simp only [wdAt, Bool.and_eq_true, decide_eq_true_eq] at h
  exact hW k (List.mem_of_getElem? h.1) h.2 args
def dcd (cc : ByteArray) (pc : Nat) (i : Instr) (n : Nat) : Bool := decide (decode cc pc = .ok (i, n))
theorem dcd_ok {cc : ByteArray} {pc n : Nat} {i : Instr} (h : dcd cc pc i n = true) : decode cc pc = .ok (i, n) := of_decide_eq_true h
/-- the length of an instruction -/
def ilen : Instr → Nat
  | .iload _ => 2
  | .aload _ => 2
  | .lload _ => 2
  | .istore _ => 2
  | .astore _ => 2
  | .lstore _ => 2
  | .bipush _ => 2
  | .ldc _ => 2
  | .newarray _ => 2
  | .sipush _ => 3
  | .iinc .. => 3
  | .goto _ => 3
  | .ifCond .. => 3
  | .if_icmp .. => 3
  | .getfield _ => 3
  | .putfield _ => 3
  | .checkcast _ => 3
  | .invokestatic _ => 3
  | .invokevirtual _ => 3
  | .invokespecial _ => 3
  | _ => 1
/-- 'throw new E("text")' of HeavyHaul, whole: class link, 'initialized', the text's and the constructor's places -/
def chkT (cc : ByteArray) (own : String) (pc i x : Nat) (len : Nat) (xl : List Nat) : Bool := match xl with
  | [w1, w2, si, ic] => decide (own = "HeavyHaul") && wdAt w1 (.classLink own i (exn x)) && wdAt w2 (.initialized (exn x)) && ((x == 0 && ic == 229) || (x == 1 && ic == 61) || (x == 2 && ic == 135)) && strs.any (fun q => q.1 == si) &&
    dcd cc pc (.new i) 3 && dcd cc (pc + 3) .dup 1 &&
    ((len == 10 && dcd cc (pc + 4) (.ldc si) 2 && dcd cc (pc + 6) (.invokespecial ic) 3 && dcd cc (pc + 9) .athrow 1) || (len == 11 && dcd cc (pc + 4) (.ldc_w si) 3 && dcd cc (pc + 7) (.invokespecial ic) 3 && dcd cc (pc + 10) .athrow 1))
  | _ => false
/-- 'new ArrayList()', whole -/
def chkL (cc : ByteArray) (own : String) (pc i len : Nat) (xl : List Nat) : Bool := match xl with
  | [w1, ic] => wdAt w1 (.classLink own i "java/util/ArrayList") && dcd cc pc (.new i) 3 && dcd cc (pc + 3) .dup 1 && dcd cc (pc + 4) (.invokespecial ic) 3 && decide (Cond.methodLink own ic yJx4a65c_init_da8c8 ∈ lw_tbl) && len == 7
  | _ => false
def chkI (cc : ByteArray) (own : String) (ini : Bool) (pc : Nat) (ins : Instr) (len xa xb : Nat) (xv : Int32) (xl : List Nat) : Bool := match ins with
  | .tableswitch d lo hi offs => dcd cc pc ins len && decide ((pc : Int) + d = (xa : Int)) && decide (offs.toList.map (fun o => (pc : Int) + o) = xl.map (fun (t : Nat) => (t : Int))) && decide (hi + 1 = lo + (xl.length : Int))
  | .new i => if 50 ≤ xa then chkT cc own pc i (xa - 50) len xl else if xa = 13 then chkL cc own pc i len xl else match xl with
    | [w1, w2, w3] => dcd cc pc ins 3 && len == 3 && !(xa == 0) && !(xa == 1) && wdAt w1 (.classLink own i (vC (ci xa)).1) && wdAt w2 (.instantiable (vC (ci xa)).1 (vC (ci xa)).2.2) && wdAt w3 (.initialized (vC (ci xa)).1)
    | _ => false
  | _ => dcd cc pc ins len && len == ilen ins && match ins with
    | .iconst n => decide (Int32.ofInt n = xv)
    | .bipush n => decide ((Int8.ofInt n).toInt32 = xv)
    | .sipush n => decide ((Int16.ofInt n).toInt32 = xv)
    | .iinc _ n => decide (Int32.ofInt n = xv)
    | .ldc i => (match xl with
      | [w] => wdAt w (.constant own i xv)
      | _ => false)
    | .goto off => decide ((pc : Int) + off = (xa : Int))
    | .ifCond _ off => decide ((pc : Int) + off = (xa : Int))
    | .if_icmp _ off => decide ((pc : Int) + off = (xa : Int))
    | .getfield i => (match xl with
      | [w] => Nat.blt xb (vC xa).2.2 && decide (((vC xa).2.1 xb).1 = (vC xa).1) && wdAt w (.fieldLink own i (vC xa).1 ((vC xa).2.1 xb).2.1 ((vC xa).2.1 xb).2.2.1)
      | _ => false)
    | .putfield i => (match xl with
      | [w] => Nat.blt xb (vC xa).2.2 && decide (((vC xa).2.1 xb).1 = (vC xa).1) && wdAt w (.fieldLink own i (vC xa).1 ((vC xa).2.1 xb).2.1 ((vC xa).2.1 xb).2.2.1) && (!((vC xa).2.1 xb).2.2.2 || (ini && decide ((vC xa).1 = own)))
      | _ => false)
    | .newarray t => (match xl with
      | [w] => ((xa == 10 && decide (t = .int)) || (xa == 11 && decide (t = .boolean)) || (xa == 12 && decide (t = .long))) && wdAt w (.arrayClass (newarray.typeOf t))
      | _ => false)
    | .checkcast i => (match xl with
      | [w1] => wdAt w1 (.classLink own i (vC xa).1)
      | _ => false)
    | _ => true
/-- the rows follow each other -/
def chn : Tb → Bool
  | [] => true
  | q :: r => (match r with
    | [] => true
    | q' :: _ => q'.1 == q.1 + q.2.2.1) && chn r
def chkTb (cc : ByteArray) (own : String) (ini : Bool) (tb : Tb) : Bool := chn tb && tb.all fun q => chkI cc own ini q.1 q.2.1 q.2.2.1 q.2.2.2.1.1 q.2.2.2.1.2.1 q.2.2.2.1.2.2 q.2.2.2.2.1
def sMax : SP := vS fun as _ k => match as with
  | [Sum.inl a, Sum.inl b] => k (some (aI (if a < b then b else a)))
  | _ => False
def sMin : SP := vS fun as _ k => match as with
  | [Sum.inl a, Sum.inl b] => k (some (aI (if b < a then b else a)))
  | _ => False
/-- a call's callee keeps its words -/
def CallOK (l : Launch) (own : String) (rk : Nat) (ins : Instr) (xa xb xu : Nat) (xs : SP) : Prop := match ins with
  | .invokestatic i => if xb = 7 then Cond.methodLink own i Lib.Math.max.name ∈ lw_tbl ∧ xa = 2 ∧ xu = 0 ∧ xs = sMax else if xb = 8 then Cond.methodLink own i Lib.Math.min.name ∈ lw_tbl ∧ xa = 2 ∧ xu = 0 ∧ xs = sMin else if xb = 9 then ∃ (y : MethodName) (cy : ByteArray) (maxL rz : Nat) (ret : Option FieldType) (hh : List (Nat × Nat × Nat × Nat)), CTW l y cy maxL ret hh rz xu xs ∧ LkW own i y cy maxL ret hh xa ∧ Cond.static y ∈ lw_tbl ∧ rz < rk else if xb = 6 then ∃ (y : MethodName) (cy : ByteArray) (maxL rz : Nat) (ret : Option FieldType), CT l y cy maxL ret rz xu xs ∧ LkB own i y cy maxL ret xa ∧ Cond.static y ∈ lw_tbl ∧ rz < rk ∧ maxL ≤ 13 else ∃ (y : MethodName) (cy : ByteArray) (maxL rz : Nat) (ret : Option FieldType), CT l y cy maxL ret rz xu xs ∧ LkB own i y cy maxL ret xa ∧ Cond.static y ∈ lw_tbl ∧ rz < rk
  | .invokevirtual i => ∃ (y : MethodName) (cy : ByteArray) (maxL rz : Nat) (ret : Option FieldType) (a : Nat), CT l y cy maxL ret rz xu xs ∧ LkB own i y cy maxL ret (xa - 1) ∧ Cond.instanceMethod y ∈ lw_tbl ∧ (Cond.selects (vC a).1 y y) ∈ lw_tbl ∧ rz < rk ∧ 1 ≤ xa ∧
      (∀ as S P, xs as S P → ∃ k i r, as = aR k i :: r ∧ ci k = a ∧ (obK k = true ∨ k = 13))
  | .invokespecial i => if xb = 9 then Cond.methodLink own i Lib.objectInit ∈ lw_tbl else ∃ (y : MethodName) (cy : ByteArray) (maxL rz : Nat), CT l y cy maxL none rz xu xs ∧ LkB own i y cy maxL none (xa - 1) ∧ Cond.instanceMethod y ∈ lw_tbl ∧ y.name = "<init>" ∧ rz < rk ∧ 1 ≤ xa ∧
      (∀ as S P, xs as S P → ∃ k i r, as = aR k i :: r ∧ (obK k = true ∨ k = 13))
  | _ => True
def CallsOK (l : Launch) (own : String) (rk : Nat) : Tb → Prop
  | [] => True
  | q :: r => CallOK l own rk q.2.1 q.2.2.2.1.1 q.2.2.2.1.2.1 q.2.2.2.2.2.1 q.2.2.2.2.2.2 ∧ CallsOK l own rk r
theorem atS_ok (x ic : Nat) (h : (x = 0 ∧ ic = 229) ∨ (x = 1 ∧ ic = 61) ∨ (x = 2 ∧ ic = 135)) : ((vx_atS "HeavyHaul" ic (exn x) ["java/lang/RuntimeException", "java/lang/Exception"]).all fun w => decide (w ∈ lw_tbl) && (goodWord w || isDC w) && vx_ot w) = true := by
  rcases h with ⟨rfl, rfl⟩ | ⟨rfl, rfl⟩ | ⟨rfl, rfl⟩ <;> decide +kernel
end
section
/-! SOUND: what the pure machine asks of an instruction is enough for the machine -/
theorem i1_ok {st : List AV} {k : Int32 → List AV → Prop} (h : i1 st k) : ∃ a r, st = Sum.inl a :: r ∧ k a r := by
  rcases st with _ | ⟨v | v, r⟩
  · exact h.elim
  · exact ⟨v, r, rfl, h⟩
  · exact h.elim
theorem r1_ok {st : List AV} {k : Nat → Nat → List AV → Prop} (h : r1 st k) : ∃ a b r, st = aR a b :: r ∧ k a b r := by
  rcases st with _ | ⟨v | (v | ⟨a, b⟩), r⟩
  · exact h.elim
  · exact h.elim
  · exact h.elim
  · exact ⟨a, b, r, rfl, h⟩
theorem i2_ok {st : List AV} {k : Int32 → Int32 → List AV → Prop} (h : i2 st k) : ∃ a b r, st = aI b :: aI a :: r ∧ k a b r := by
  rcases st with _ | ⟨v | v, _ | ⟨w | w, r⟩⟩
  · exact h.elim
  · exact h.elim
  · exact ⟨w, v, r, rfl, h⟩
  · exact h.elim
  · exact h.elim
  · exact h.elim
  · exact h.elim
theorem l2_ok {st : List AV} {k : Int64 → Int64 → List AV → Prop} (h : l2 st k) : ∃ a b r, st = aL b :: aL a :: r ∧ k a b r := by
  rcases st with _ | ⟨v | (v | v), _ | ⟨w | (w | w), r⟩⟩
  all_goals first | exact h.elim | exact ⟨w, v, r, rfl, h⟩
theorem il_ok {st : List AV} {k : Int64 → Int32 → List AV → Prop} (h : il st k) : ∃ a b r, st = aI b :: aL a :: r ∧ k a b r := by
  rcases st with _ | ⟨v | v, _ | ⟨w | (w | w), r⟩⟩
  all_goals first | exact h.elim | exact ⟨w, v, r, rfl, h⟩
theorem isI_ok {v : AV} {k : Prop} (h : isI v k) : ∃ x, v = aI x ∧ k := by
  rcases v with v | v
  · exact ⟨v, rfl, h⟩
  · exact h.elim
theorem isJ_ok {v : AV} {k : Prop} (h : isJ v k) : ∃ x, v = aL x ∧ k := by
  rcases v with v | (v | v)
  · exact h.elim
  · exact ⟨v, rfl, h⟩
  · exact h.elim
theorem isR_ok {v : AV} {k : Prop} (h : isR v k) : ∃ a b, v = aR a b ∧ k := by
  rcases v with v | (v | ⟨a, b⟩)
  · exact h.elim
  · exact h.elim
  · exact ⟨a, b, rfl, h⟩
theorem cond_ok {b : Bool} {k : Prop} (h : bif b then k else False) : b = true ∧ k := by
  cases b
  · exact h.elim
  · exact ⟨rfl, h⟩
theorem popN_ok {n : Nat} {st acc : List AV} {k : List AV → List AV → Prop} (h : popN n st acc k) : ∃ as r, st = as.reverse ++ r ∧ as.length = n ∧ k (as ++ acc) r := by
  induction n generalizing st acc with
  | zero => exact ⟨[], st, rfl, rfl, h⟩
  | succ n ih =>
    cases st with
    | nil => exact h.elim
    | cons v st =>
      obtain ⟨as, r, h1, h2, h3⟩ := ih h
      refine ⟨as ++ [v], r, ?_, by simp [h2], ?_⟩
      · rw [List.reverse_append, h1]
        rfl
      · rw [List.append_assoc]
        exact h3
theorem drp_hd {tb : Tb} {t : Nat} : ∀ q ∈ (drp tb t).head?, q.1 = t := by
  induction tb with
  | nil => intro q hq; cases hq
  | cons a r ih =>
    intro q hq
    unfold drp at hq
    by_cases h : (a.1 == t) = true
    · rw [h] at hq
      cases hq
      exact eq_of_beq h
    · rw [Bool.not_eq_true] at h
      rw [h] at hq
      exact ih q hq
theorem drp_suf {tb : Tb} {t : Nat} : drp tb t <:+ tb := by
  induction tb with
  | nil => exact List.suffix_refl _
  | cons a r ih =>
    unfold drp
    by_cases h : (a.1 == t) = true
    · rw [h]
      exact List.suffix_refl _
    · rw [Bool.not_eq_true] at h
      rw [h]
      exact ih.trans (List.suffix_cons _ _)
theorem chn_hd {tb : Tb} (h : chn tb = true) {q : Nat × Instr × Nat × Xi} {r : Tb} (hs : (q :: r) <:+ tb) : ∀ q' ∈ r.head?, q'.1 = q.1 + q.2.2.1 := by
  induction tb with
  | nil => exact absurd hs (by simp)
  | cons a t ih =>
    have h2 : chn t = true := by
      unfold chn at h
      rw [Bool.and_eq_true] at h
      exact h.2
    rcases List.suffix_cons_iff.mp hs with e | e
    · cases e
      intro q' hq'
      cases r with
      | nil => cases hq'
      | cons b r =>
        cases hq'
        unfold chn at h
        rw [Bool.and_eq_true] at h
        exact eq_of_beq h.1
    · exact ih h2 e
section SND
variable {p : Program} {l : Launch} {e : Env} {R : Room} {s : State} {m : MethodId} {args : Array Value} {below : List Frame} {meth : Method} {c : Code} {Qm : State → Prop} {g : GT} {α0 : Nat → Nat → Nat} {S0 : Sto} {cc : ByteArray} {own : String} {nL rk cb sb B : Nat} {ini : Bool}
/-- a row's own part of Go: from here on with what stands now -/
abbrev GoW (p : Program) (l : Launch) (e : Env) (R : Room) (s : State) (m : MethodId) (args : Array Value) (below : List Frame) (meth : Method) (c : Code) (Qm : State → Prop) (g : GT) (α0 : Nat → Nat → Nat) (S0 : Sto) (nL cb sb B : Nat) : Gt := Go p l e R s m args below meth c Qm g α0 S0 nL cb sb B
theorem lvV_cons {S : Sto} {v : AV} {st : List AV} (hv : LvV S v) (h : ∀ a ∈ st, LvV S a) : ∀ a ∈ v :: st, LvV S a := fun a ha => (List.mem_cons.mp ha).elim (fun q => by rw [q]; exact hv) (h a)
theorem lvV_tail {S : Sto} {v : AV} {st : List AV} (h : ∀ a ∈ v :: st, LvV S a) : ∀ a ∈ st, LvV S a := fun a ha => h a (List.mem_cons_of_mem _ ha)
theorem lvV_hd {S : Sto} {v : AV} {st : List AV} (h : ∀ a ∈ v :: st, LvV S a) : LvV S v := h v List.mem_cons_self
theorem LH.slot {α : Nat → Nat → Nat} {ls : Array Slot} {L : Lo} (h : LH α ls nL L) {i : Nat} {a : AV} (ha : L[i]? = some (some a)) : ls[i]? = some (.val (conc α a)) := h.2.2.2 i a ha
theorem lvL_get {S : Sto} {L : Lo} (h : ∀ a, some a ∈ L → LvV S a) {i : Nat} {a : AV} (ha : L[i]? = some (some a)) : LvV S a := h a (List.mem_of_getElem? ha)
theorem conc_ref {α : Nat → Nat → Nat} {k i : Nat} : ∃ q, conc α (aR k i) = .ref q := ⟨_, rfl⟩
theorem conc_ob {α : Nat → Nat → Nat} {k i : Nat} (hk : k ≠ 99) : conc α (aR k i) = .ref (α k i) := by show Value.ref (if k = 99 then i else α k i) = _; rw [if_neg hk]
/-- pushing a value and going on: the simple instructions -/
theorem go_push {pc pc' : Nat} {L : Lo} {st st' : List AV} {S : Sto} {u : Nat} (hgo : Go p l e R s m args below meth c Qm g α0 S0 nL cb sb B pc' L st' S u)
    (hlv : ∀ α : Nat → Nat → Nat, (∀ a, some a ∈ L → LvV S a) → (∀ a ∈ st, LvV S a) → ∀ a ∈ st', LvV S a)
    (hw : ∀ (α : Nat → Nat → Nat) (H : Heap) (locs : List Loc) (ls : Array Slot), LH α ls nL L → W p l e R s m args below meth c H locs (cb + u) (sb + 120 * u) Qm (F0 m pc' ls (st'.map (conc α))) → W p l e R s m args below meth c H locs (cb + u) (sb + 120 * u) Qm (F0 m pc ls (st.map (conc α)))) :
    Go p l e R s m args below meth c Qm g α0 S0 nL cb sb B pc L st S u := by
  intro hu α h H locs ls hR hE hL hst hS hLH
  exact hw α H locs ls hLH (hgo hu α h H locs ls hR hE hL (hlv α hL hst) hS hLH)
end SND
end
section
/-! SOUND, instruction by instruction -/
section STP
variable {p : Program} {l : Launch} {e : Env} {R : Room} {s : State} {m : MethodId} {args : Array Value} {below : List Frame} {meth : Method} {c : Code} {Qm : State → Prop} {g : GT} {α0 : Nat → Nat → Nat} {S0 : Sto} {cc : ByteArray} {own : String} {nL rk cb sb B : Nat} {ini : Bool} {rb : Nat}
variable {tb : Tb} {Q : Out → Sto → Prop} {hn : List (Nat × Nat × Nat × Nat)} {scr : Nat × (Nat → Int32)}
abbrev Ga (p : Program) (l : Launch) (e : Env) (R : Room) (s : State) (m : MethodId) (args : Array Value) (below : List Frame) (meth : Method) (c : Code) (Qm : State → Prop) (g : GT) (α0 : Nat → Nat → Nat) (S0 : Sto) (nL cb sb B : Nat) : Gt := Go p l e R s m args below meth c Qm g α0 S0 nL cb sb B
/-- what K gives -/
def KOK (tb : Tb) (G : Gt) (K : Tb → Lo → List AV → Sto → Nat → Prop) : Prop := ∀ (nx : Tb) (pc' : Nat) (L : Lo) (st : List AV) (S : Sto) (u : Nat), nx <:+ tb → (∀ q ∈ nx.head?, q.1 = pc') → K nx L st S u → G pc' L st S u
theorem kok_next {G : Gt} {K : Tb → Lo → List AV → Sto → Nat → Prop} (hK : KOK tb G K) {nx : Tb} {pc' : Nat} (hs : nx <:+ tb) (hh : ∀ q ∈ nx.head?, q.1 = pc') {L : Lo} {st : List AV} {S : Sto} {u : Nat} (h : K nx L st S u) : G pc' L st S u := hK nx pc' L st S u hs hh h
theorem kok_jump {G : Gt} {K : Tb → Lo → List AV → Sto → Nat → Prop} (hK : KOK tb G K) {t : Nat} {L : Lo} {st : List AV} {S : Sto} {u : Nat} (h : K (drp tb t) L st S u) : G t L st S u := hK _ t L st S u drp_suf drp_hd h
/-- chkI of a plain instruction -/
theorem chk_plain {cc : ByteArray} {own : String} {ini : Bool} {pc : Nat} {ins : Instr} {len xa xb : Nat} {xv : Int32} {xl : List Nat} {n : Nat} (h : (dcd cc pc ins len && len == n) = true) : decode cc pc = .ok (ins, n) ∧ len = n := by
  rw [Bool.and_eq_true] at h
  have h2 : len = n := eq_of_beq h.2
  subst h2
  exact ⟨dcd_ok h.1, rfl⟩
section
variable {pc len xa xb : Nat} {xv : Int32} {xl : List Nat} {xu : Nat} {xs : SP} {nx : Tb} {K : Tb → Lo → List AV → Sto → Nat → Prop} {L : Lo} {st : List AV} {S : Sto} {u : Nat}
variable (C : Cx p l s m meth c R cc own nL rk cb sb B ini g) (hK : KOK tb (Ga p l e R s m args below meth c Qm g α0 S0 nL cb sb B) K) (hsx : nx <:+ tb) (hnx : ∀ q ∈ nx.head?, q.1 = pc + len)
theorem s_load {n : Nat} {i : Nat} {v : AV} (hi : L[i]? = some (some v)) (hlen : len = n) (hr : ∀ {α : Nat → Nat → Nat} {H : Heap} {locs : List Loc} {ls : Array Slot}, ls[i]? = some (Slot.val (conc α v)) → W p l e R s m args below meth c H locs (cb + u) (sb + 120 * u) Qm (F0 m (pc + n) ls (conc α v :: st.map (conc α))) → W p l e R s m args below meth c H locs (cb + u) (sb + 120 * u) Qm (F0 m pc ls (st.map (conc α)))) (h : K nx L (v :: st) S u) (hK : KOK tb (Ga p l e R s m args below meth c Qm g α0 S0 nL cb sb B) K) (hsx : nx <:+ tb) (hnx : ∀ q ∈ nx.head?, q.1 = pc + len) : Go p l e R s m args below meth c Qm g α0 S0 nL cb sb B pc L st S u := by
  subst hlen
  intro hu α h9 H locs ls hR hE hL hst hS hLH
  exact hr (hLH.slot hi) (kok_next hK hsx hnx h hu α h9 H locs ls hR hE hL (lvV_cons (lvL_get hL hi) hst) hS hLH)
theorem s_iload_n {i : Fin 4} (hd : (dcd cc pc (.iload_n i) len && len == 1) = true) (h : getL L i.val fun v => isI v (K nx L (v :: st) S u)) (C : Cx p l s m meth c R cc own nL rk cb sb B ini g) (hK : KOK tb (Ga p l e R s m args below meth c Qm g α0 S0 nL cb sb B) K) (hsx : nx <:+ tb) (hnx : ∀ q ∈ nx.head?, q.1 = pc + len) : Go p l e R s m args below meth c Qm g α0 S0 nL cb sb B pc L st S u := by
  obtain ⟨v, h1, h2⟩ := getL_ok h
  obtain ⟨x, rfl, h3⟩ := isI_ok h2
  obtain ⟨hdg, hl⟩ := chk_plain (own := own) (ini := ini) (xa := 0) (xb := 0) (xv := 0) (xl := []) hd
  exact s_load h1 hl (fun hs kk => lv_iload_n C.1 C.2.1 hdg rfl hs kk) h3 hK hsx hnx
theorem s_iload {i : Nat} (hd : (dcd cc pc (.iload i) len && len == 2) = true) (h : getL L i fun v => isI v (K nx L (v :: st) S u)) (C : Cx p l s m meth c R cc own nL rk cb sb B ini g) (hK : KOK tb (Ga p l e R s m args below meth c Qm g α0 S0 nL cb sb B) K) (hsx : nx <:+ tb) (hnx : ∀ q ∈ nx.head?, q.1 = pc + len) : Go p l e R s m args below meth c Qm g α0 S0 nL cb sb B pc L st S u := by
  obtain ⟨v, h1, h2⟩ := getL_ok h
  obtain ⟨x, rfl, h3⟩ := isI_ok h2
  obtain ⟨hdg, hl⟩ := chk_plain (own := own) (ini := ini) (xa := 0) (xb := 0) (xv := 0) (xl := []) hd
  exact s_load h1 hl (fun hs kk => lv_iload C.1 C.2.1 hdg hs kk) h3 hK hsx hnx
theorem s_aload_n {i : Fin 4} (hd : (dcd cc pc (.aload_n i) len && len == 1) = true) (h : getL L i.val fun v => isR v (K nx L (v :: st) S u)) (C : Cx p l s m meth c R cc own nL rk cb sb B ini g) (hK : KOK tb (Ga p l e R s m args below meth c Qm g α0 S0 nL cb sb B) K) (hsx : nx <:+ tb) (hnx : ∀ q ∈ nx.head?, q.1 = pc + len) : Go p l e R s m args below meth c Qm g α0 S0 nL cb sb B pc L st S u := by
  obtain ⟨v, h1, h2⟩ := getL_ok h
  obtain ⟨a, b, rfl, h3⟩ := isR_ok h2
  obtain ⟨hdg, hl⟩ := chk_plain (own := own) (ini := ini) (xa := 0) (xb := 0) (xv := 0) (xl := []) hd
  exact s_load h1 hl (fun hs kk => lv_aload_n C.1 C.2.1 hdg rfl hs kk) h3 hK hsx hnx
theorem s_aload {i : Nat} (hd : (dcd cc pc (.aload i) len && len == 2) = true) (h : getL L i fun v => isR v (K nx L (v :: st) S u)) (C : Cx p l s m meth c R cc own nL rk cb sb B ini g) (hK : KOK tb (Ga p l e R s m args below meth c Qm g α0 S0 nL cb sb B) K) (hsx : nx <:+ tb) (hnx : ∀ q ∈ nx.head?, q.1 = pc + len) : Go p l e R s m args below meth c Qm g α0 S0 nL cb sb B pc L st S u := by
  obtain ⟨v, h1, h2⟩ := getL_ok h
  obtain ⟨a, b, rfl, h3⟩ := isR_ok h2
  obtain ⟨hdg, hl⟩ := chk_plain (own := own) (ini := ini) (xa := 0) (xb := 0) (xv := 0) (xl := []) hd
  exact s_load h1 hl (fun hs kk => lv_aload C.1 C.2.1 hdg hs kk) h3 hK hsx hnx
theorem s_lload_n {i : Fin 4} (hd : (dcd cc pc (.lload_n i) len && len == 1) = true) (h : getL L i.val fun v => isJ v (K nx L (v :: st) S u)) (C : Cx p l s m meth c R cc own nL rk cb sb B ini g) (hK : KOK tb (Ga p l e R s m args below meth c Qm g α0 S0 nL cb sb B) K) (hsx : nx <:+ tb) (hnx : ∀ q ∈ nx.head?, q.1 = pc + len) : Go p l e R s m args below meth c Qm g α0 S0 nL cb sb B pc L st S u := by
  obtain ⟨v, h1, h2⟩ := getL_ok h
  obtain ⟨x, rfl, h3⟩ := isJ_ok h2
  obtain ⟨hdg, hl⟩ := chk_plain (own := own) (ini := ini) (xa := 0) (xb := 0) (xv := 0) (xl := []) hd
  exact s_load h1 hl (fun hs kk => lv_lload_n C.1 C.2.1 hdg rfl hs kk) h3 hK hsx hnx
theorem s_lload {i : Nat} (hd : (dcd cc pc (.lload i) len && len == 2) = true) (h : getL L i fun v => isJ v (K nx L (v :: st) S u)) (C : Cx p l s m meth c R cc own nL rk cb sb B ini g) (hK : KOK tb (Ga p l e R s m args below meth c Qm g α0 S0 nL cb sb B) K) (hsx : nx <:+ tb) (hnx : ∀ q ∈ nx.head?, q.1 = pc + len) : Go p l e R s m args below meth c Qm g α0 S0 nL cb sb B pc L st S u := by
  obtain ⟨v, h1, h2⟩ := getL_ok h
  obtain ⟨x, rfl, h3⟩ := isJ_ok h2
  obtain ⟨hdg, hl⟩ := chk_plain (own := own) (ini := ini) (xa := 0) (xb := 0) (xv := 0) (xl := []) hd
  exact s_load h1 hl (fun hs kk => lv_lload C.1 C.2.1 hdg hs kk) h3 hK hsx hnx
/-- a store of one slot -/
theorem s_store {n i : Nat} {v : AV} {r : List AV} (hi : Nat.blt i L.length = true) (hlen : len = n)
    (hr : ∀ {α : Nat → Nat → Nat} {H : Heap} {locs : List Loc} {ls : Array Slot}, lv_has ls nL (kn α L) → i < nL → (∀ ls' : Array Slot, lv_has ls' nL ((i, conc α v) :: (kn α L).filter (fun q => !(q.1 == i) && !(q.1 + 1 == i && q.2.category == 2))) → W p l e R s m args below meth c H locs (cb + u) (sb + 120 * u) Qm (F0 m (pc + n) ls' (r.map (conc α)))) → W p l e R s m args below meth c H locs (cb + u) (sb + 120 * u) Qm (F0 m pc ls ((v :: r).map (conc α))))
    (h : K nx (setL L i v) r S u) (hK : KOK tb (Ga p l e R s m args below meth c Qm g α0 S0 nL cb sb B) K) (hsx : nx <:+ tb) (hnx : ∀ q ∈ nx.head?, q.1 = pc + len) : Go p l e R s m args below meth c Qm g α0 S0 nL cb sb B pc L (v :: r) S u := by
  subst hlen
  intro hu α h9 H locs ls hR hE hL hst hS hLH
  have hi' : i < nL := by
    rw [← hLH.2.1]
    simpa [Nat.blt_eq] using hi
  exact hr hLH.has hi' fun ls' hl => kok_next hK hsx hnx h hu α h9 H locs ls' hR hE (setL_mem hL (lvV_hd hst)) (lvV_tail hst) hS (hLH.set hl)
theorem s_istore_n {i : Fin 4} (hd : (dcd cc pc (.istore_n i) len && len == 1) = true) (h : i1 st fun a r => bif Nat.blt i.val L.length then forceL (setL L i.val (aI a)) fun L' => K nx L' r S u else False) (C : Cx p l s m meth c R cc own nL rk cb sb B ini g) (hK : KOK tb (Ga p l e R s m args below meth c Qm g α0 S0 nL cb sb B) K) (hsx : nx <:+ tb) (hnx : ∀ q ∈ nx.head?, q.1 = pc + len) : Go p l e R s m args below meth c Qm g α0 S0 nL cb sb B pc L st S u := by
  obtain ⟨a, r, rfl, h1⟩ := i1_ok h
  obtain ⟨h2, h3⟩ := cond_ok h1
  obtain ⟨hdg, hl⟩ := chk_plain (own := own) (ini := ini) (xa := 0) (xb := 0) (xv := 0) (xl := []) hd
  exact s_store (v := aI a) h2 hl (fun hh hi kk => lv_istore_n C.1 C.2.1 hdg rfl hh hi rfl kk) (forceL_ok h3) hK hsx hnx
theorem s_istore {i : Nat} (hd : (dcd cc pc (.istore i) len && len == 2) = true) (h : i1 st fun a r => bif Nat.blt i L.length then forceL (setL L i (aI a)) fun L' => K nx L' r S u else False) (C : Cx p l s m meth c R cc own nL rk cb sb B ini g) (hK : KOK tb (Ga p l e R s m args below meth c Qm g α0 S0 nL cb sb B) K) (hsx : nx <:+ tb) (hnx : ∀ q ∈ nx.head?, q.1 = pc + len) : Go p l e R s m args below meth c Qm g α0 S0 nL cb sb B pc L st S u := by
  obtain ⟨a, r, rfl, h1⟩ := i1_ok h
  obtain ⟨h2, h3⟩ := cond_ok h1
  obtain ⟨hdg, hl⟩ := chk_plain (own := own) (ini := ini) (xa := 0) (xb := 0) (xv := 0) (xl := []) hd
  exact s_store (v := aI a) h2 hl (fun hh hi kk => lv_istore C.1 C.2.1 hdg hh hi rfl kk) (forceL_ok h3) hK hsx hnx
theorem s_astore_n {i : Fin 4} (hd : (dcd cc pc (.astore_n i) len && len == 1) = true) (h : r1 st fun a b r => bif Nat.blt i.val L.length then forceL (setL L i.val (aR a b)) fun L' => K nx L' r S u else False) (C : Cx p l s m meth c R cc own nL rk cb sb B ini g) (hK : KOK tb (Ga p l e R s m args below meth c Qm g α0 S0 nL cb sb B) K) (hsx : nx <:+ tb) (hnx : ∀ q ∈ nx.head?, q.1 = pc + len) : Go p l e R s m args below meth c Qm g α0 S0 nL cb sb B pc L st S u := by
  obtain ⟨a, b, r, rfl, h1⟩ := r1_ok h
  obtain ⟨h2, h3⟩ := cond_ok h1
  obtain ⟨hdg, hl⟩ := chk_plain (own := own) (ini := ini) (xa := 0) (xb := 0) (xv := 0) (xl := []) hd
  exact s_store (v := aR a b) h2 hl (fun hh hi kk => lv_astore_n C.1 C.2.1 hdg rfl hh hi rfl kk) (forceL_ok h3) hK hsx hnx
theorem s_astore {i : Nat} (hd : (dcd cc pc (.astore i) len && len == 2) = true) (h : r1 st fun a b r => bif Nat.blt i L.length then forceL (setL L i (aR a b)) fun L' => K nx L' r S u else False) (C : Cx p l s m meth c R cc own nL rk cb sb B ini g) (hK : KOK tb (Ga p l e R s m args below meth c Qm g α0 S0 nL cb sb B) K) (hsx : nx <:+ tb) (hnx : ∀ q ∈ nx.head?, q.1 = pc + len) : Go p l e R s m args below meth c Qm g α0 S0 nL cb sb B pc L st S u := by
  obtain ⟨a, b, r, rfl, h1⟩ := r1_ok h
  obtain ⟨h2, h3⟩ := cond_ok h1
  obtain ⟨hdg, hl⟩ := chk_plain (own := own) (ini := ini) (xa := 0) (xb := 0) (xv := 0) (xl := []) hd
  exact s_store (v := aR a b) h2 hl (fun hh hi kk => lv_astore C.1 C.2.1 hdg hh hi rfl kk) (forceL_ok h3) hK hsx hnx
/-- a store of a long -/
theorem s_store2 {n i : Nat} {v : AV} {r : List AV} (hi : Nat.blt (i + 1) L.length = true) (hlen : len = n)
    (hr : ∀ {α : Nat → Nat → Nat} {H : Heap} {locs : List Loc} {ls : Array Slot}, lv_has ls nL (kn α L) → i + 1 < nL → (∀ ls' : Array Slot, lv_has ls' nL ((i, conc α v) :: (kn α L).filter (fun q => !(q.1 == i) && (!(q.1 == i + 1) && !(q.1 + 1 == i && q.2.category == 2)))) → W p l e R s m args below meth c H locs (cb + u) (sb + 120 * u) Qm (F0 m (pc + n) ls' (r.map (conc α)))) → W p l e R s m args below meth c H locs (cb + u) (sb + 120 * u) Qm (F0 m pc ls ((v :: r).map (conc α))))
    (h : K nx (setL2 L i v) r S u) (hK : KOK tb (Ga p l e R s m args below meth c Qm g α0 S0 nL cb sb B) K) (hsx : nx <:+ tb) (hnx : ∀ q ∈ nx.head?, q.1 = pc + len) : Go p l e R s m args below meth c Qm g α0 S0 nL cb sb B pc L (v :: r) S u := by
  subst hlen
  intro hu α h9 H locs ls hR hE hL hst hS hLH
  have hi' : i + 1 < nL := by
    rw [← hLH.2.1]
    simpa [Nat.blt_eq] using hi
  exact hr hLH.has hi' fun ls' hl => kok_next hK hsx hnx h hu α h9 H locs ls' hR hE (setL2_mem hL (lvV_hd hst)) (lvV_tail hst) hS (hLH.set2 hl)
theorem j1_ok {st : List AV} {k : Int64 → List AV → Prop} (h : match st with
        | Sum.inr (Sum.inl a) :: r => k a r
        | _ => False) : ∃ a r, st = aL a :: r ∧ k a r := by
  rcases st with _ | ⟨v | (v | v), r⟩
  · exact h.elim
  · exact h.elim
  · exact ⟨v, r, rfl, h⟩
  · exact h.elim
theorem s_iinc {i : Nat} {n : Int} (hd : (dcd cc pc (.iinc i n) len && len == 3) = true) (hv : Int32.ofInt n = xv) (h : getL L i fun v => match v with
        | Sum.inl a => bif Nat.blt i L.length then forceL (setL L i (aI (a + xv))) fun L' => K nx L' st S u else False
        | _ => False) (C : Cx p l s m meth c R cc own nL rk cb sb B ini g) (hK : KOK tb (Ga p l e R s m args below meth c Qm g α0 S0 nL cb sb B) K) (hsx : nx <:+ tb) (hnx : ∀ q ∈ nx.head?, q.1 = pc + len) : Go p l e R s m args below meth c Qm g α0 S0 nL cb sb B pc L st S u := by
  obtain ⟨v, h1, h2⟩ := getL_ok h
  rcases v with a | v
  · obtain ⟨h3, h4⟩ := cond_ok h2
    obtain ⟨hdg, rfl⟩ := chk_plain (own := own) (ini := ini) (xa := 0) (xb := 0) (xv := 0) (xl := []) hd
    intro hu α h9 H locs ls hR hE hL hst hS hLH
    have hi' : i < nL := by
      rw [← hLH.2.1]
      simpa [Nat.blt_eq] using h3
    have hm : (i, Value.int a) ∈ kn α L := kn_mem.mpr ⟨aI a, h1, rfl⟩
    obtain ⟨k, hk⟩ := List.getElem?_of_mem hm
    exact lv_iinc C.1 C.2.1 hdg hLH.has hk (by rw [hv]) hi' rfl fun ls' hl => kok_next hK hsx hnx (forceL_ok h4) hu α h9 H locs ls' hR hE (setL_mem hL trivial) hst hS (hLH.set (v := aI (a + xv)) hl)
  · exact h2.elim
end
end STP
end
section
/-! SOUND, instruction by instruction: constants, arithmetic, branches -/
section STQ
variable {p : Program} {l : Launch} {e : Env} {R : Room} {s : State} {m : MethodId} {args : Array Value} {below : List Frame} {meth : Method} {c : Code} {Qm : State → Prop} {g : GT} {α0 : Nat → Nat → Nat} {S0 : Sto} {cc : ByteArray} {own : String} {nL rk cb sb B : Nat} {ini : Bool} {rb : Nat}
variable {tb : Tb} {Q : Out → Sto → Prop} {hn : List (Nat × Nat × Nat × Nat)} {scr : Nat × (Nat → Int32)}
variable {pc len xa xb : Nat} {xv : Int32} {xl : List Nat} {xu : Nat} {xs : SP} {nx : Tb} {K : Tb → Lo → List AV → Sto → Nat → Prop} {L : Lo} {st : List AV} {S : Sto} {u : Nat}
theorem s_iconst {k : Int} (hd : (dcd cc pc (.iconst k) len && len == 1) = true) (hv : Int32.ofInt k = xv) (h : K nx L (aI xv :: st) S u) (C : Cx p l s m meth c R cc own nL rk cb sb B ini g) (hK : KOK tb (Ga p l e R s m args below meth c Qm g α0 S0 nL cb sb B) K) (hsx : nx <:+ tb) (hnx : ∀ q ∈ nx.head?, q.1 = pc + len) : Go p l e R s m args below meth c Qm g α0 S0 nL cb sb B pc L st S u := by
  obtain ⟨hdg, rfl⟩ := chk_plain (own := own) (ini := ini) (xa := 0) (xb := 0) (xv := 0) (xl := []) hd
  exact go_push (kok_next hK hsx hnx h) (fun _ _ hst => lvV_cons trivial hst) fun α H locs ls hLH kk => lv_iconst C.1 C.2.1 hdg hv kk
theorem s_bipush {k : Int} (hd : (dcd cc pc (.bipush k) len && len == 2) = true) (hv : (Int8.ofInt k).toInt32 = xv) (h : K nx L (aI xv :: st) S u) (C : Cx p l s m meth c R cc own nL rk cb sb B ini g) (hK : KOK tb (Ga p l e R s m args below meth c Qm g α0 S0 nL cb sb B) K) (hsx : nx <:+ tb) (hnx : ∀ q ∈ nx.head?, q.1 = pc + len) : Go p l e R s m args below meth c Qm g α0 S0 nL cb sb B pc L st S u := by
  obtain ⟨hdg, rfl⟩ := chk_plain (own := own) (ini := ini) (xa := 0) (xb := 0) (xv := 0) (xl := []) hd
  exact go_push (kok_next hK hsx hnx h) (fun _ _ hst => lvV_cons trivial hst) fun α H locs ls hLH kk => lv_bipush C.1 C.2.1 hdg hv kk
theorem s_sipush {k : Int} (hd : (dcd cc pc (.sipush k) len && len == 3) = true) (hv : (Int16.ofInt k).toInt32 = xv) (h : K nx L (aI xv :: st) S u) (C : Cx p l s m meth c R cc own nL rk cb sb B ini g) (hK : KOK tb (Ga p l e R s m args below meth c Qm g α0 S0 nL cb sb B) K) (hsx : nx <:+ tb) (hnx : ∀ q ∈ nx.head?, q.1 = pc + len) : Go p l e R s m args below meth c Qm g α0 S0 nL cb sb B pc L st S u := by
  obtain ⟨hdg, rfl⟩ := chk_plain (own := own) (ini := ini) (xa := 0) (xb := 0) (xv := 0) (xl := []) hd
  exact go_push (kok_next hK hsx hnx h) (fun _ _ hst => lvV_cons trivial hst) fun α H locs ls hLH kk => lv_sipush C.1 C.2.1 hdg hv kk
theorem s_ldc {k w : Nat} (hd : (dcd cc pc (.ldc k) len && len == 2) = true) (hv : wdAt w (.constant own k xv) = true) (h : K nx L (aI xv :: st) S u) (C : Cx p l s m meth c R cc own nL rk cb sb B ini g) (hK : KOK tb (Ga p l e R s m args below meth c Qm g α0 S0 nL cb sb B) K) (hsx : nx <:+ tb) (hnx : ∀ q ∈ nx.head?, q.1 = pc + len) : Go p l e R s m args below meth c Qm g α0 S0 nL cb sb B pc L st S u := by
  obtain ⟨hdg, rfl⟩ := chk_plain (own := own) (ini := ini) (xa := 0) (xb := 0) (xv := 0) (xl := []) hd
  exact go_push (kok_next hK hsx hnx h) (fun _ _ hst => lvV_cons trivial hst) fun α H locs ls hLH kk => lv_ldc C.1 C.2.1 C.2.2.2.1 (wdAt_ok hv C.2.2.2.2.2.2.2.1 _) hdg kk
theorem s_lconst {k : Fin 2} (hd : (dcd cc pc (.lconst k) len && len == 1) = true) (h : K nx L (aL (bif k.val == 0 then 0 else 1) :: st) S u) (C : Cx p l s m meth c R cc own nL rk cb sb B ini g) (hK : KOK tb (Ga p l e R s m args below meth c Qm g α0 S0 nL cb sb B) K) (hsx : nx <:+ tb) (hnx : ∀ q ∈ nx.head?, q.1 = pc + len) : Go p l e R s m args below meth c Qm g α0 S0 nL cb sb B pc L st S u := by
  obtain ⟨hdg, rfl⟩ := chk_plain (own := own) (ini := ini) (xa := 0) (xb := 0) (xv := 0) (xl := []) hd
  exact go_push (kok_next hK hsx hnx h) (fun _ _ hst => lvV_cons trivial hst) fun α H locs ls hLH kk => lv_lconst C.1 C.2.1 hdg (by rcases k with ⟨_ | _ | k, hk⟩ <;> first | rfl | omega) kk
theorem s_iadd (hd : (dcd cc pc .iadd len && len == 1) = true) (h : i2 st fun a b r => K nx L (aI (a + b) :: r) S u) (C : Cx p l s m meth c R cc own nL rk cb sb B ini g) (hK : KOK tb (Ga p l e R s m args below meth c Qm g α0 S0 nL cb sb B) K) (hsx : nx <:+ tb) (hnx : ∀ q ∈ nx.head?, q.1 = pc + len) : Go p l e R s m args below meth c Qm g α0 S0 nL cb sb B pc L st S u := by
  obtain ⟨hdg, rfl⟩ := chk_plain (own := own) (ini := ini) (xa := 0) (xb := 0) (xv := 0) (xl := []) hd
  obtain ⟨a, b, r, rfl, h⟩ := i2_ok h
  exact go_push (kok_next hK hsx hnx h) (fun _ _ hst => lvV_cons trivial (lvV_tail (lvV_tail hst))) fun α H locs ls hLH kk => lv_iadd C.1 C.2.1 hdg kk
theorem s_isub (hd : (dcd cc pc .isub len && len == 1) = true) (h : i2 st fun a b r => K nx L (aI (a - b) :: r) S u) (C : Cx p l s m meth c R cc own nL rk cb sb B ini g) (hK : KOK tb (Ga p l e R s m args below meth c Qm g α0 S0 nL cb sb B) K) (hsx : nx <:+ tb) (hnx : ∀ q ∈ nx.head?, q.1 = pc + len) : Go p l e R s m args below meth c Qm g α0 S0 nL cb sb B pc L st S u := by
  obtain ⟨hdg, rfl⟩ := chk_plain (own := own) (ini := ini) (xa := 0) (xb := 0) (xv := 0) (xl := []) hd
  obtain ⟨a, b, r, rfl, h⟩ := i2_ok h
  exact go_push (kok_next hK hsx hnx h) (fun _ _ hst => lvV_cons trivial (lvV_tail (lvV_tail hst))) fun α H locs ls hLH kk => lv_isub C.1 C.2.1 hdg kk
theorem s_imul (hd : (dcd cc pc .imul len && len == 1) = true) (h : i2 st fun a b r => K nx L (aI (a * b) :: r) S u) (C : Cx p l s m meth c R cc own nL rk cb sb B ini g) (hK : KOK tb (Ga p l e R s m args below meth c Qm g α0 S0 nL cb sb B) K) (hsx : nx <:+ tb) (hnx : ∀ q ∈ nx.head?, q.1 = pc + len) : Go p l e R s m args below meth c Qm g α0 S0 nL cb sb B pc L st S u := by
  obtain ⟨hdg, rfl⟩ := chk_plain (own := own) (ini := ini) (xa := 0) (xb := 0) (xv := 0) (xl := []) hd
  obtain ⟨a, b, r, rfl, h⟩ := i2_ok h
  exact go_push (kok_next hK hsx hnx h) (fun _ _ hst => lvV_cons trivial (lvV_tail (lvV_tail hst))) fun α H locs ls hLH kk => lv_imul C.1 C.2.1 hdg kk
theorem s_iand (hd : (dcd cc pc .iand len && len == 1) = true) (h : i2 st fun a b r => K nx L (aI (a &&& b) :: r) S u) (C : Cx p l s m meth c R cc own nL rk cb sb B ini g) (hK : KOK tb (Ga p l e R s m args below meth c Qm g α0 S0 nL cb sb B) K) (hsx : nx <:+ tb) (hnx : ∀ q ∈ nx.head?, q.1 = pc + len) : Go p l e R s m args below meth c Qm g α0 S0 nL cb sb B pc L st S u := by
  obtain ⟨hdg, rfl⟩ := chk_plain (own := own) (ini := ini) (xa := 0) (xb := 0) (xv := 0) (xl := []) hd
  obtain ⟨a, b, r, rfl, h⟩ := i2_ok h
  exact go_push (kok_next hK hsx hnx h) (fun _ _ hst => lvV_cons trivial (lvV_tail (lvV_tail hst))) fun α H locs ls hLH kk => lv_iand C.1 C.2.1 hdg kk
theorem s_ior (hd : (dcd cc pc .ior len && len == 1) = true) (h : i2 st fun a b r => K nx L (aI (a ||| b) :: r) S u) (C : Cx p l s m meth c R cc own nL rk cb sb B ini g) (hK : KOK tb (Ga p l e R s m args below meth c Qm g α0 S0 nL cb sb B) K) (hsx : nx <:+ tb) (hnx : ∀ q ∈ nx.head?, q.1 = pc + len) : Go p l e R s m args below meth c Qm g α0 S0 nL cb sb B pc L st S u := by
  obtain ⟨hdg, rfl⟩ := chk_plain (own := own) (ini := ini) (xa := 0) (xb := 0) (xv := 0) (xl := []) hd
  obtain ⟨a, b, r, rfl, h⟩ := i2_ok h
  exact go_push (kok_next hK hsx hnx h) (fun _ _ hst => lvV_cons trivial (lvV_tail (lvV_tail hst))) fun α H locs ls hLH kk => lv_ior C.1 C.2.1 hdg kk
theorem s_ishl (hd : (dcd cc pc .ishl len && len == 1) = true) (h : i2 st fun a b r => K nx L (aI (a <<< (b &&& 31)) :: r) S u) (C : Cx p l s m meth c R cc own nL rk cb sb B ini g) (hK : KOK tb (Ga p l e R s m args below meth c Qm g α0 S0 nL cb sb B) K) (hsx : nx <:+ tb) (hnx : ∀ q ∈ nx.head?, q.1 = pc + len) : Go p l e R s m args below meth c Qm g α0 S0 nL cb sb B pc L st S u := by
  obtain ⟨hdg, rfl⟩ := chk_plain (own := own) (ini := ini) (xa := 0) (xb := 0) (xv := 0) (xl := []) hd
  obtain ⟨a, b, r, rfl, h⟩ := i2_ok h
  exact go_push (kok_next hK hsx hnx h) (fun _ _ hst => lvV_cons trivial (lvV_tail (lvV_tail hst))) fun α H locs ls hLH kk => lv_ishl C.1 C.2.1 hdg kk
theorem s_ishr (hd : (dcd cc pc .ishr len && len == 1) = true) (h : i2 st fun a b r => K nx L (aI (a >>> (b &&& 31)) :: r) S u) (C : Cx p l s m meth c R cc own nL rk cb sb B ini g) (hK : KOK tb (Ga p l e R s m args below meth c Qm g α0 S0 nL cb sb B) K) (hsx : nx <:+ tb) (hnx : ∀ q ∈ nx.head?, q.1 = pc + len) : Go p l e R s m args below meth c Qm g α0 S0 nL cb sb B pc L st S u := by
  obtain ⟨hdg, rfl⟩ := chk_plain (own := own) (ini := ini) (xa := 0) (xb := 0) (xv := 0) (xl := []) hd
  obtain ⟨a, b, r, rfl, h⟩ := i2_ok h
  exact go_push (kok_next hK hsx hnx h) (fun _ _ hst => lvV_cons trivial (lvV_tail (lvV_tail hst))) fun α H locs ls hLH kk => lv_ishr C.1 C.2.1 hdg kk
theorem s_idiv (hd : (dcd cc pc .idiv len && len == 1) = true) (h : i2 st fun a b r => ¬ b = 0 ∧ K nx L (aI (a / b) :: r) S u) (C : Cx p l s m meth c R cc own nL rk cb sb B ini g) (hK : KOK tb (Ga p l e R s m args below meth c Qm g α0 S0 nL cb sb B) K) (hsx : nx <:+ tb) (hnx : ∀ q ∈ nx.head?, q.1 = pc + len) : Go p l e R s m args below meth c Qm g α0 S0 nL cb sb B pc L st S u := by
  obtain ⟨hdg, rfl⟩ := chk_plain (own := own) (ini := ini) (xa := 0) (xb := 0) (xv := 0) (xl := []) hd
  obtain ⟨a, b, r, rfl, h0, h⟩ := i2_ok h
  exact go_push (kok_next hK hsx hnx h) (fun _ _ hst => lvV_cons trivial (lvV_tail (lvV_tail hst))) fun α H locs ls hLH kk => lv_idiv C.1 C.2.1 hdg h0 kk
theorem s_irem (hd : (dcd cc pc .irem len && len == 1) = true) (h : i2 st fun a b r => ¬ b = 0 ∧ K nx L (aI (a - a / b * b) :: r) S u) (C : Cx p l s m meth c R cc own nL rk cb sb B ini g) (hK : KOK tb (Ga p l e R s m args below meth c Qm g α0 S0 nL cb sb B) K) (hsx : nx <:+ tb) (hnx : ∀ q ∈ nx.head?, q.1 = pc + len) : Go p l e R s m args below meth c Qm g α0 S0 nL cb sb B pc L st S u := by
  obtain ⟨hdg, rfl⟩ := chk_plain (own := own) (ini := ini) (xa := 0) (xb := 0) (xv := 0) (xl := []) hd
  obtain ⟨a, b, r, rfl, h0, h⟩ := i2_ok h
  exact go_push (kok_next hK hsx hnx h) (fun _ _ hst => lvV_cons trivial (lvV_tail (lvV_tail hst))) fun α H locs ls hLH kk => lv_irem C.1 C.2.1 hdg h0 kk
theorem s_ladd (hd : (dcd cc pc .ladd len && len == 1) = true) (h : l2 st fun a b r => K nx L (aL (a + b) :: r) S u) (C : Cx p l s m meth c R cc own nL rk cb sb B ini g) (hK : KOK tb (Ga p l e R s m args below meth c Qm g α0 S0 nL cb sb B) K) (hsx : nx <:+ tb) (hnx : ∀ q ∈ nx.head?, q.1 = pc + len) : Go p l e R s m args below meth c Qm g α0 S0 nL cb sb B pc L st S u := by
  obtain ⟨hdg, rfl⟩ := chk_plain (own := own) (ini := ini) (xa := 0) (xb := 0) (xv := 0) (xl := []) hd
  obtain ⟨a, b, r, rfl, h⟩ := l2_ok h
  exact go_push (kok_next hK hsx hnx h) (fun _ _ hst => lvV_cons trivial (lvV_tail (lvV_tail hst))) fun α H locs ls hLH kk => lv_ladd C.1 C.2.1 hdg kk
theorem s_lsub (hd : (dcd cc pc .lsub len && len == 1) = true) (h : l2 st fun a b r => K nx L (aL (a - b) :: r) S u) (C : Cx p l s m meth c R cc own nL rk cb sb B ini g) (hK : KOK tb (Ga p l e R s m args below meth c Qm g α0 S0 nL cb sb B) K) (hsx : nx <:+ tb) (hnx : ∀ q ∈ nx.head?, q.1 = pc + len) : Go p l e R s m args below meth c Qm g α0 S0 nL cb sb B pc L st S u := by
  obtain ⟨hdg, rfl⟩ := chk_plain (own := own) (ini := ini) (xa := 0) (xb := 0) (xv := 0) (xl := []) hd
  obtain ⟨a, b, r, rfl, h⟩ := l2_ok h
  exact go_push (kok_next hK hsx hnx h) (fun _ _ hst => lvV_cons trivial (lvV_tail (lvV_tail hst))) fun α H locs ls hLH kk => lv_lsub C.1 C.2.1 hdg kk
theorem s_lmul (hd : (dcd cc pc .lmul len && len == 1) = true) (h : l2 st fun a b r => K nx L (aL (a * b) :: r) S u) (C : Cx p l s m meth c R cc own nL rk cb sb B ini g) (hK : KOK tb (Ga p l e R s m args below meth c Qm g α0 S0 nL cb sb B) K) (hsx : nx <:+ tb) (hnx : ∀ q ∈ nx.head?, q.1 = pc + len) : Go p l e R s m args below meth c Qm g α0 S0 nL cb sb B pc L st S u := by
  obtain ⟨hdg, rfl⟩ := chk_plain (own := own) (ini := ini) (xa := 0) (xb := 0) (xv := 0) (xl := []) hd
  obtain ⟨a, b, r, rfl, h⟩ := l2_ok h
  exact go_push (kok_next hK hsx hnx h) (fun _ _ hst => lvV_cons trivial (lvV_tail (lvV_tail hst))) fun α H locs ls hLH kk => lv_lmul C.1 C.2.1 hdg kk
theorem s_ldiv (hd : (dcd cc pc .ldiv len && len == 1) = true) (h : l2 st fun a b r => ¬ b = 0 ∧ K nx L (aL (a / b) :: r) S u) (C : Cx p l s m meth c R cc own nL rk cb sb B ini g) (hK : KOK tb (Ga p l e R s m args below meth c Qm g α0 S0 nL cb sb B) K) (hsx : nx <:+ tb) (hnx : ∀ q ∈ nx.head?, q.1 = pc + len) : Go p l e R s m args below meth c Qm g α0 S0 nL cb sb B pc L st S u := by
  obtain ⟨hdg, rfl⟩ := chk_plain (own := own) (ini := ini) (xa := 0) (xb := 0) (xv := 0) (xl := []) hd
  obtain ⟨a, b, r, rfl, h0, h⟩ := l2_ok h
  exact go_push (kok_next hK hsx hnx h) (fun _ _ hst => lvV_cons trivial (lvV_tail (lvV_tail hst))) fun α H locs ls hLH kk => lv_ldiv C.1 C.2.1 hdg h0 kk
theorem s_ixor (hd : (dcd cc pc .ixor len && len == 1) = true) (h : i2 st fun a b r => K nx L (aI (a ^^^ b) :: r) S u) (C : Cx p l s m meth c R cc own nL rk cb sb B ini g) (hK : KOK tb (Ga p l e R s m args below meth c Qm g α0 S0 nL cb sb B) K) (hsx : nx <:+ tb) (hnx : ∀ q ∈ nx.head?, q.1 = pc + len) : Go p l e R s m args below meth c Qm g α0 S0 nL cb sb B pc L st S u := by
  obtain ⟨hdg, rfl⟩ := chk_plain (own := own) (ini := ini) (xa := 0) (xb := 0) (xv := 0) (xl := []) hd
  obtain ⟨a, b, r, rfl, h⟩ := i2_ok h
  exact go_push (kok_next hK hsx hnx h) (fun _ _ hst => lvV_cons trivial (lvV_tail (lvV_tail hst))) fun α H locs ls hLH kk => lv_ixor C.1 C.2.1 hdg kk
theorem s_ineg (hd : (dcd cc pc .ineg len && len == 1) = true) (h : i1 st fun a r => K nx L (aI (-a) :: r) S u) (C : Cx p l s m meth c R cc own nL rk cb sb B ini g) (hK : KOK tb (Ga p l e R s m args below meth c Qm g α0 S0 nL cb sb B) K) (hsx : nx <:+ tb) (hnx : ∀ q ∈ nx.head?, q.1 = pc + len) : Go p l e R s m args below meth c Qm g α0 S0 nL cb sb B pc L st S u := by
  obtain ⟨hdg, rfl⟩ := chk_plain (own := own) (ini := ini) (xa := 0) (xb := 0) (xv := 0) (xl := []) hd
  obtain ⟨a, r, rfl, h⟩ := i1_ok h
  exact go_push (kok_next hK hsx hnx h) (fun _ _ hst => lvV_cons trivial (lvV_tail hst)) fun α H locs ls hLH kk => lv_ineg C.1 C.2.1 hdg kk
theorem s_lrem (hd : (dcd cc pc .lrem len && len == 1) = true) (h : l2 st fun a b r => ¬ b = 0 ∧ K nx L (aL (a - a / b * b) :: r) S u) (C : Cx p l s m meth c R cc own nL rk cb sb B ini g) (hK : KOK tb (Ga p l e R s m args below meth c Qm g α0 S0 nL cb sb B) K) (hsx : nx <:+ tb) (hnx : ∀ q ∈ nx.head?, q.1 = pc + len) : Go p l e R s m args below meth c Qm g α0 S0 nL cb sb B pc L st S u := by
  obtain ⟨hdg, rfl⟩ := chk_plain (own := own) (ini := ini) (xa := 0) (xb := 0) (xv := 0) (xl := []) hd
  obtain ⟨a, b, r, rfl, h0, h⟩ := l2_ok h
  exact go_push (kok_next hK hsx hnx h) (fun _ _ hst => lvV_cons trivial (lvV_tail (lvV_tail hst))) fun α H locs ls hLH kk => lv_lrem C.1 C.2.1 hdg h0 kk
theorem s_land (hd : (dcd cc pc .land len && len == 1) = true) (h : l2 st fun a b r => K nx L (aL (a &&& b) :: r) S u) (C : Cx p l s m meth c R cc own nL rk cb sb B ini g) (hK : KOK tb (Ga p l e R s m args below meth c Qm g α0 S0 nL cb sb B) K) (hsx : nx <:+ tb) (hnx : ∀ q ∈ nx.head?, q.1 = pc + len) : Go p l e R s m args below meth c Qm g α0 S0 nL cb sb B pc L st S u := by
  obtain ⟨hdg, rfl⟩ := chk_plain (own := own) (ini := ini) (xa := 0) (xb := 0) (xv := 0) (xl := []) hd
  obtain ⟨a, b, r, rfl, h⟩ := l2_ok h
  exact go_push (kok_next hK hsx hnx h) (fun _ _ hst => lvV_cons trivial (lvV_tail (lvV_tail hst))) fun α H locs ls hLH kk => lv_land C.1 C.2.1 hdg kk
theorem s_lor (hd : (dcd cc pc .lor len && len == 1) = true) (h : l2 st fun a b r => K nx L (aL (a ||| b) :: r) S u) (C : Cx p l s m meth c R cc own nL rk cb sb B ini g) (hK : KOK tb (Ga p l e R s m args below meth c Qm g α0 S0 nL cb sb B) K) (hsx : nx <:+ tb) (hnx : ∀ q ∈ nx.head?, q.1 = pc + len) : Go p l e R s m args below meth c Qm g α0 S0 nL cb sb B pc L st S u := by
  obtain ⟨hdg, rfl⟩ := chk_plain (own := own) (ini := ini) (xa := 0) (xb := 0) (xv := 0) (xl := []) hd
  obtain ⟨a, b, r, rfl, h⟩ := l2_ok h
  exact go_push (kok_next hK hsx hnx h) (fun _ _ hst => lvV_cons trivial (lvV_tail (lvV_tail hst))) fun α H locs ls hLH kk => lv_lor C.1 C.2.1 hdg kk
theorem s_lshl (hd : (dcd cc pc .lshl len && len == 1) = true) (h : il st fun a b r => K nx L (aL (a <<< (b.toInt64 &&& 63)) :: r) S u) (C : Cx p l s m meth c R cc own nL rk cb sb B ini g) (hK : KOK tb (Ga p l e R s m args below meth c Qm g α0 S0 nL cb sb B) K) (hsx : nx <:+ tb) (hnx : ∀ q ∈ nx.head?, q.1 = pc + len) : Go p l e R s m args below meth c Qm g α0 S0 nL cb sb B pc L st S u := by
  obtain ⟨hdg, rfl⟩ := chk_plain (own := own) (ini := ini) (xa := 0) (xb := 0) (xv := 0) (xl := []) hd
  obtain ⟨a, b, r, rfl, h⟩ := il_ok h
  exact go_push (kok_next hK hsx hnx h) (fun _ _ hst => lvV_cons trivial (lvV_tail (lvV_tail hst))) fun α H locs ls hLH kk => lv_lshl C.1 C.2.1 hdg rfl kk
theorem s_lshr (hd : (dcd cc pc .lshr len && len == 1) = true) (h : il st fun a b r => K nx L (aL (a >>> (b.toInt64 &&& 63)) :: r) S u) (C : Cx p l s m meth c R cc own nL rk cb sb B ini g) (hK : KOK tb (Ga p l e R s m args below meth c Qm g α0 S0 nL cb sb B) K) (hsx : nx <:+ tb) (hnx : ∀ q ∈ nx.head?, q.1 = pc + len) : Go p l e R s m args below meth c Qm g α0 S0 nL cb sb B pc L st S u := by
  obtain ⟨hdg, rfl⟩ := chk_plain (own := own) (ini := ini) (xa := 0) (xb := 0) (xv := 0) (xl := []) hd
  obtain ⟨a, b, r, rfl, h⟩ := il_ok h
  exact go_push (kok_next hK hsx hnx h) (fun _ _ hst => lvV_cons trivial (lvV_tail (lvV_tail hst))) fun α H locs ls hLH kk => lv_lshr C.1 C.2.1 hdg rfl kk
theorem s_lcmp (hd : (dcd cc pc .lcmp len && len == 1) = true) (h : l2 st fun a b r => K nx L (aI (lg_cmp a b) :: r) S u) (C : Cx p l s m meth c R cc own nL rk cb sb B ini g) (hK : KOK tb (Ga p l e R s m args below meth c Qm g α0 S0 nL cb sb B) K) (hsx : nx <:+ tb) (hnx : ∀ q ∈ nx.head?, q.1 = pc + len) : Go p l e R s m args below meth c Qm g α0 S0 nL cb sb B pc L st S u := by
  obtain ⟨hdg, rfl⟩ := chk_plain (own := own) (ini := ini) (xa := 0) (xb := 0) (xv := 0) (xl := []) hd
  obtain ⟨a, b, r, rfl, h⟩ := l2_ok h
  exact go_push (kok_next hK hsx hnx h) (fun _ _ hst => lvV_cons trivial (lvV_tail (lvV_tail hst))) fun α H locs ls hLH kk => W.lcmp C.1 C.2.1 hdg kk
theorem s_i2l (hd : (dcd cc pc .i2l len && len == 1) = true) (h : i1 st fun a r => K nx L (aL a.toInt64 :: r) S u) (C : Cx p l s m meth c R cc own nL rk cb sb B ini g) (hK : KOK tb (Ga p l e R s m args below meth c Qm g α0 S0 nL cb sb B) K) (hsx : nx <:+ tb) (hnx : ∀ q ∈ nx.head?, q.1 = pc + len) : Go p l e R s m args below meth c Qm g α0 S0 nL cb sb B pc L st S u := by
  obtain ⟨hdg, rfl⟩ := chk_plain (own := own) (ini := ini) (xa := 0) (xb := 0) (xv := 0) (xl := []) hd
  obtain ⟨a, r, rfl, h⟩ := i1_ok h
  exact go_push (kok_next hK hsx hnx h) (fun _ _ hst => lvV_cons trivial (lvV_tail hst)) fun α H locs ls hLH kk => lv_i2l C.1 C.2.1 hdg rfl kk
theorem s_l2i (hd : (dcd cc pc .l2i len && len == 1) = true) (h : match st with
        | Sum.inr (Sum.inl a) :: r => K nx L (aI a.toInt32 :: r) S u
        | _ => False) (C : Cx p l s m meth c R cc own nL rk cb sb B ini g) (hK : KOK tb (Ga p l e R s m args below meth c Qm g α0 S0 nL cb sb B) K) (hsx : nx <:+ tb) (hnx : ∀ q ∈ nx.head?, q.1 = pc + len) : Go p l e R s m args below meth c Qm g α0 S0 nL cb sb B pc L st S u := by
  obtain ⟨hdg, rfl⟩ := chk_plain (own := own) (ini := ini) (xa := 0) (xb := 0) (xv := 0) (xl := []) hd
  obtain ⟨a, r, rfl, h⟩ := j1_ok (k := fun a r => K nx L (aI a.toInt32 :: r) S u) h
  exact go_push (kok_next hK hsx hnx h) (fun _ _ hst => lvV_cons trivial (lvV_tail hst)) fun α H locs ls hLH kk => lv_l2i C.1 C.2.1 hdg rfl kk
theorem s_lstore_n {i : Fin 4} (hd : (dcd cc pc (.lstore_n i) len && len == 1) = true) (h : match st with
        | Sum.inr (Sum.inl a) :: r => bif Nat.blt (i.val + 1) L.length then forceL (setL2 L i.val (aL a)) fun L' => K nx L' r S u else False
        | _ => False) (C : Cx p l s m meth c R cc own nL rk cb sb B ini g) (hK : KOK tb (Ga p l e R s m args below meth c Qm g α0 S0 nL cb sb B) K) (hsx : nx <:+ tb) (hnx : ∀ q ∈ nx.head?, q.1 = pc + len) : Go p l e R s m args below meth c Qm g α0 S0 nL cb sb B pc L st S u := by
  obtain ⟨a, r, rfl, h1⟩ := j1_ok (k := fun a r => bif Nat.blt (i.val + 1) L.length then forceL (setL2 L i.val (aL a)) fun L' => K nx L' r S u else False) h
  obtain ⟨h2, h3⟩ := cond_ok h1
  obtain ⟨hdg, hl⟩ := chk_plain (own := own) (ini := ini) (xa := 0) (xb := 0) (xv := 0) (xl := []) hd
  exact s_store2 (v := aL a) h2 hl (fun hh hi kk => lv_lstore_n C.1 C.2.1 hdg rfl hh hi rfl kk) (forceL_ok h3) hK hsx hnx
theorem s_lstore {i : Nat} (hd : (dcd cc pc (.lstore i) len && len == 2) = true) (h : match st with
        | Sum.inr (Sum.inl a) :: r => bif Nat.blt (i + 1) L.length then forceL (setL2 L i (aL a)) fun L' => K nx L' r S u else False
        | _ => False) (C : Cx p l s m meth c R cc own nL rk cb sb B ini g) (hK : KOK tb (Ga p l e R s m args below meth c Qm g α0 S0 nL cb sb B) K) (hsx : nx <:+ tb) (hnx : ∀ q ∈ nx.head?, q.1 = pc + len) : Go p l e R s m args below meth c Qm g α0 S0 nL cb sb B pc L st S u := by
  obtain ⟨a, r, rfl, h1⟩ := j1_ok (k := fun a r => bif Nat.blt (i + 1) L.length then forceL (setL2 L i (aL a)) fun L' => K nx L' r S u else False) h
  obtain ⟨h2, h3⟩ := cond_ok h1
  obtain ⟨hdg, hl⟩ := chk_plain (own := own) (ini := ini) (xa := 0) (xb := 0) (xv := 0) (xl := []) hd
  exact s_store2 (v := aL a) h2 hl (fun hh hi kk => lv_lstore C.1 C.2.1 hdg hh hi rfl kk) (forceL_ok h3) hK hsx hnx
theorem s_dup (hd : (dcd cc pc .dup len && len == 1) = true) (h : match st with
        | v :: r => bif catV v == 1 then K nx L (v :: v :: r) S u else False
        | _ => False) (C : Cx p l s m meth c R cc own nL rk cb sb B ini g) (hK : KOK tb (Ga p l e R s m args below meth c Qm g α0 S0 nL cb sb B) K) (hsx : nx <:+ tb) (hnx : ∀ q ∈ nx.head?, q.1 = pc + len) : Go p l e R s m args below meth c Qm g α0 S0 nL cb sb B pc L st S u := by
  obtain ⟨hdg, rfl⟩ := chk_plain (own := own) (ini := ini) (xa := 0) (xb := 0) (xv := 0) (xl := []) hd
  rcases st with _ | ⟨v, r⟩
  · exact h.elim
  · obtain ⟨h1, h⟩ := cond_ok h
    exact go_push (kok_next hK hsx hnx h) (fun _ _ hst => lvV_cons (lvV_hd hst) hst) fun α H locs ls hLH kk => lv_dup C.1 C.2.1 hdg (by rw [cat_conc]; exact eq_of_beq h1) kk
theorem s_pop (hd : (dcd cc pc .pop len && len == 1) = true) (h : match st with
        | v :: r => bif catV v == 1 then K nx L r S u else False
        | _ => False) (C : Cx p l s m meth c R cc own nL rk cb sb B ini g) (hK : KOK tb (Ga p l e R s m args below meth c Qm g α0 S0 nL cb sb B) K) (hsx : nx <:+ tb) (hnx : ∀ q ∈ nx.head?, q.1 = pc + len) : Go p l e R s m args below meth c Qm g α0 S0 nL cb sb B pc L st S u := by
  obtain ⟨hdg, rfl⟩ := chk_plain (own := own) (ini := ini) (xa := 0) (xb := 0) (xv := 0) (xl := []) hd
  rcases st with _ | ⟨v, r⟩
  · exact h.elim
  · obtain ⟨h1, h⟩ := cond_ok h
    exact go_push (kok_next hK hsx hnx h) (fun _ _ hst => lvV_tail hst) fun α H locs ls hLH kk => lv_pop C.1 C.2.1 hdg (by rw [cat_conc]; exact eq_of_beq h1) kk
theorem s_dup2 (hd : (dcd cc pc .dup2 len && len == 1) = true) (h : match st with
        | v :: w :: r => bif catV v == 1 && catV w == 1 then K nx L (v :: w :: v :: w :: r) S u else False
        | _ => False) (C : Cx p l s m meth c R cc own nL rk cb sb B ini g) (hK : KOK tb (Ga p l e R s m args below meth c Qm g α0 S0 nL cb sb B) K) (hsx : nx <:+ tb) (hnx : ∀ q ∈ nx.head?, q.1 = pc + len) : Go p l e R s m args below meth c Qm g α0 S0 nL cb sb B pc L st S u := by
  obtain ⟨hdg, rfl⟩ := chk_plain (own := own) (ini := ini) (xa := 0) (xb := 0) (xv := 0) (xl := []) hd
  rcases st with _ | ⟨v, _ | ⟨w, r⟩⟩
  · exact h.elim
  · exact h.elim
  · obtain ⟨h1, h⟩ := cond_ok h
    rw [Bool.and_eq_true] at h1
    exact go_push (kok_next hK hsx hnx h) (fun _ _ hst => lvV_cons (lvV_hd hst) (lvV_cons (lvV_hd (lvV_tail hst)) hst)) fun α H locs ls hLH kk => lv_dup2_11 C.1 C.2.1 hdg (by rw [cat_conc]; exact eq_of_beq h1.1) (by rw [cat_conc]; exact eq_of_beq h1.2) kk
theorem s_goto {off : Int} (hd : (dcd cc pc (.goto off) len && len == 3) = true) (hv : (pc : Int) + off = (xa : Int)) (h : K (drp tb xa) L st S u) (C : Cx p l s m meth c R cc own nL rk cb sb B ini g) (hK : KOK tb (Ga p l e R s m args below meth c Qm g α0 S0 nL cb sb B) K) (hsx : nx <:+ tb) (hnx : ∀ q ∈ nx.head?, q.1 = pc + len) : Go p l e R s m args below meth c Qm g α0 S0 nL cb sb B pc L st S u := by
  obtain ⟨hdg, rfl⟩ := chk_plain (own := own) (ini := ini) (xa := 0) (xb := 0) (xv := 0) (xl := []) hd
  exact go_push (kok_jump hK h) (fun _ _ hst => hst) fun α H locs ls hLH kk => lv_goto C.1 C.2.1 hdg hv kk
theorem s_if {o : ClassFile.Cond} {off : Int} (hd : (dcd cc pc (.ifCond o off) len && len == 3) = true) (hv : (pc : Int) + off = (xa : Int)) (h : i1 st fun a r => br1 o a (K (drp tb xa) L r S u) (K nx L r S u)) (C : Cx p l s m meth c R cc own nL rk cb sb B ini g) (hK : KOK tb (Ga p l e R s m args below meth c Qm g α0 S0 nL cb sb B) K) (hsx : nx <:+ tb) (hnx : ∀ q ∈ nx.head?, q.1 = pc + len) : Go p l e R s m args below meth c Qm g α0 S0 nL cb sb B pc L st S u := by
  obtain ⟨hdg, rfl⟩ := chk_plain (own := own) (ini := ini) (xa := 0) (xb := 0) (xv := 0) (xl := []) hd
  obtain ⟨a, r, rfl, h⟩ := i1_ok h
  intro hu α h9 H locs ls hR hE hL hst hS hLH
  have k1 : K (drp tb xa) L r S u → W p l e R s m args below meth c H locs (cb + u) (sb + 120 * u) Qm (F0 m xa ls (r.map (conc α))) := fun h => kok_jump hK h hu α h9 H locs ls hR hE hL (lvV_tail hst) hS hLH
  have k2 : K nx L r S u → W p l e R s m args below meth c H locs (cb + u) (sb + 120 * u) Qm (F0 m (pc + 3) ls (r.map (conc α))) := fun h => kok_next hK hsx hnx h hu α h9 H locs ls hR hE hL (lvV_tail hst) hS hLH
  cases o
  · exact lv_if_eq C.1 C.2.1 hdg hv (fun z => k1 (h.1 z)) (fun z => k2 (h.2 z))
  · exact lv_if_ne C.1 C.2.1 hdg hv (fun z => k1 (h.1 z)) (fun z => k2 (h.2 z))
  · exact lv_if_lt C.1 C.2.1 hdg hv (fun z => k1 (h.1 z)) (fun z => k2 (h.2 z))
  · exact lv_if_ge C.1 C.2.1 hdg hv (fun z => k1 (h.1 z)) (fun z => k2 (h.2 z))
  · exact lv_if_gt C.1 C.2.1 hdg hv (fun z => k1 (h.1 z)) (fun z => k2 (h.2 z))
  · exact lv_if_le C.1 C.2.1 hdg hv (fun z => k1 (h.1 z)) (fun z => k2 (h.2 z))
theorem s_icmp {o : ClassFile.Cond} {off : Int} (hd : (dcd cc pc (.if_icmp o off) len && len == 3) = true) (hv : (pc : Int) + off = (xa : Int)) (h : i2 st fun a b r => br2 o a b (K (drp tb xa) L r S u) (K nx L r S u)) (C : Cx p l s m meth c R cc own nL rk cb sb B ini g) (hK : KOK tb (Ga p l e R s m args below meth c Qm g α0 S0 nL cb sb B) K) (hsx : nx <:+ tb) (hnx : ∀ q ∈ nx.head?, q.1 = pc + len) : Go p l e R s m args below meth c Qm g α0 S0 nL cb sb B pc L st S u := by
  obtain ⟨hdg, rfl⟩ := chk_plain (own := own) (ini := ini) (xa := 0) (xb := 0) (xv := 0) (xl := []) hd
  obtain ⟨a, b, r, rfl, h⟩ := i2_ok h
  intro hu α h9 H locs ls hR hE hL hst hS hLH
  have k1 : K (drp tb xa) L r S u → W p l e R s m args below meth c H locs (cb + u) (sb + 120 * u) Qm (F0 m xa ls (r.map (conc α))) := fun h => kok_jump hK h hu α h9 H locs ls hR hE hL (lvV_tail (lvV_tail hst)) hS hLH
  have k2 : K nx L r S u → W p l e R s m args below meth c H locs (cb + u) (sb + 120 * u) Qm (F0 m (pc + 3) ls (r.map (conc α))) := fun h => kok_next hK hsx hnx h hu α h9 H locs ls hR hE hL (lvV_tail (lvV_tail hst)) hS hLH
  cases o
  · exact lv_icmp_eq C.1 C.2.1 hdg hv (fun z => k1 (h.1 z)) (fun z => k2 (h.2 z))
  · exact lv_icmp_ne C.1 C.2.1 hdg hv (fun z => k1 (h.1 z)) (fun z => k2 (h.2 z))
  · exact lv_icmp_lt C.1 C.2.1 hdg hv (fun z => k1 (h.1 z)) (fun z => k2 (h.2 z))
  · exact lv_icmp_ge C.1 C.2.1 hdg hv (fun z => k1 (h.1 z)) (fun z => k2 (h.2 z))
  · exact lv_icmp_gt C.1 C.2.1 hdg hv (fun z => k1 (h.1 z)) (fun z => k2 (h.2 z))
  · exact lv_icmp_le C.1 C.2.1 hdg hv (fun z => k1 (h.1 z)) (fun z => k2 (h.2 z))
theorem swc_ok {k : Nat → Prop} {ts : List Nat} {v : Int} {y : Int32} (h : swc k ts v y) {j t : Nat} (hj : ts[j]? = some t) (hy : y.toInt = v + j) : k t := by
  induction ts generalizing v j with
  | nil => cases hj
  | cons a r ih =>
    cases j with
    | zero =>
      cases hj
      exact h.1 (by omega)
    | succ j => exact ih h.2 hj (by omega)
theorem s_tsw {d lo hi : Int} {offs : Array Int} (hd : dcd cc pc (.tableswitch d lo hi offs) len = true) (hv : (pc : Int) + d = (xa : Int)) (ho : offs.toList.map (fun o => (pc : Int) + o) = xl.map (fun (t : Nat) => (t : Int))) (hh : hi + 1 = lo + (xl.length : Int)) (h : i1 st fun a r => ((a.toInt < lo ∨ hi < a.toInt) → K (drp tb xa) L r S u) ∧ swc (fun t => K (drp tb t) L r S u) xl lo a) (C : Cx p l s m meth c R cc own nL rk cb sb B ini g) (hK : KOK tb (Ga p l e R s m args below meth c Qm g α0 S0 nL cb sb B) K) (hsx : nx <:+ tb) (hnx : ∀ q ∈ nx.head?, q.1 = pc + len) : Go p l e R s m args below meth c Qm g α0 S0 nL cb sb B pc L st S u := by
  have hdg := dcd_ok hd
  obtain ⟨a, r, rfl, h⟩ := i1_ok h
  intro hu α h9 H locs ls hR hE hL hst hS hLH
  by_cases hr : a.toInt < lo ∨ hi < a.toInt
  · exact lv_tableOut C.1 C.2.1 hdg hr hv (kok_jump hK (h.1 hr) hu α h9 H locs ls hR hE hL (lvV_tail hst) hS hLH)
  · have h1 : ¬ a.toInt < lo := fun q => hr (Or.inl q)
    have h2 : ¬ hi < a.toInt := fun q => hr (Or.inr q)
    have hlen : offs.toList.length = xl.length := by
      have := congrArg List.length ho
      simpa using this
    have hj : (a.toInt - lo).toNat < xl.length := by omega
    obtain ⟨t, ht⟩ : ∃ t, xl[(a.toInt - lo).toNat]? = some t := ⟨_, List.getElem?_eq_getElem hj⟩
    obtain ⟨o, hoo⟩ : ∃ o, offs.toList[(a.toInt - lo).toNat]? = some o := ⟨_, List.getElem?_eq_getElem (by omega)⟩
    have hot : (pc : Int) + o = (t : Int) := by
      have e1 := congrArg (fun z => z[(a.toInt - lo).toNat]?) ho
      simp only [List.getElem?_map, ht, hoo] at e1
      exact Option.some.inj e1
    exact lv_tableIn C.1 C.2.1 hdg h1 h2 (by rw [← Array.getElem?_toList]; exact hoo) hot (kok_jump hK (swc_ok h.2 ht (by omega)) hu α h9 H locs ls hR hE hL (lvV_tail hst) hS hLH)
end STQ
end
section
/-! SOUND, instruction by instruction: the heap, returns, calls -/
def RetAt (cc : ByteArray) (pc : Nat) (rb : Nat) : Option AV → Prop
  | none => rb = 0 ∧ decode cc pc = .ok (.return_, 1)
  | some (Sum.inl a) => (rb = 1 ∨ (rb = 2 ∧ a &&& 1 = a)) ∧ decode cc pc = .ok (.ireturn, 1)
  | some (Sum.inr (Sum.inl _)) => False
  | some (Sum.inr (Sum.inr _)) => rb = 3 ∧ decode cc pc = .ok (.areturn, 1)
/-- how a body ends -/
def Fin (p : Program) (l : Launch) (e : Env) (R : Room) (s : State) (m : MethodId) (args : Array Value) (below : List Frame) (meth : Method) (c : Code) (Qm : State → Prop) (g : GT) (α0 : Nat → Nat → Nat) (S0 : Sto) (nL cb sb B : Nat) (cc : ByteArray) (own : String) (Q : Out → Sto → Prop) (rb : Nat) (hn : List (Nat × Nat × Nat × Nat)) : Prop :=
  (∀ (r : Option AV) (S : Sto) (u : Nat) (α : Nat → Nat → Nat) (h : HT) (H : Heap) (locs : List Loc) (pc : Nat) (ls : Array Slot), Q (Sum.inl r) S → u ≤ B → Rep g α h S H → Ext α0 S0 α S → LvO S r → va_S (AB g) s.heap H locs → RetAt cc pc rb r → W p l e R s m args below meth c H locs (cb + u) (sb + 120 * u) Qm (F0 m pc ls (r.map (conc α)).toList)) ∧
  (∀ (x : Nat) (S : Sto) (u : Nat) (α : Nat → Nat → Nat) (h : HT) (H : Heap) (locs : List Loc) (pc : Nat) (ls : Array Slot) (rest : List Value) (q : Addr) (ce : Cell), Q (Sum.inr x) S → u ≤ B → Rep g α h S H → Ext α0 S0 α S → va_S (AB g) s.heap H locs → fH hn pc x = none → H[q]? = some ce → ce.vm = .none → s.vm.findClass (exn x) = some ce.cls →
    vx_W p l e R s m args below meth c H locs (cb + u) (sb + 120 * u) Qm (F0 m pc ls rest) q) ∧
  (∀ (x t : Nat) (u : Nat) (H : Heap) (locs : List Loc) (pc : Nat) (ls : Array Slot) (rest : List Value) (q : Addr) (ce : Cell), fH hn pc x = some t → H[q]? = some ce → ce.vm = .none → s.vm.findClass (exn x) = some ce.cls → W p l e R s m args below meth c H locs (cb + u) (sb + 120 * u) Qm (F0 m t ls [.ref q]) →
    vx_W p l e R s m args below meth c H locs (cb + u) (sb + 120 * u) Qm (F0 m pc ls rest) q) ∧
  (∀ (x pc i len : Nat) (xl : List Nat) (S : Sto) (u : Nat) (α : Nat → Nat → Nat) (h : HT) (H : Heap) (locs : List Loc) (ls : Array Slot) (rest : List Value), chkT cc own pc i x len xl = true → Q (Sum.inr x) S → u + 1 ≤ B → Rep g α h S H → Ext α0 S0 α S → va_S (AB g) s.heap H locs → ls.size = nL → (rest.map fun v => v.category).sum ≤ 8 →
    W p l e R s m args below meth c H locs (cb + u) (sb + 120 * u) Qm (F0 m pc ls rest)) ∧
  (∀ (pc i len : Nat) (xl : List Nat) (S : Sto) (u : Nat) (α : Nat → Nat → Nat) (h : HT) (H : Heap) (locs : List Loc) (ls : Array Slot) (rest : List Value), chkL cc own pc i len xl = true → S.2.2 13 < 5 → S.2.2 (20 + S.2.2 13) = 0 → u + 1 ≤ B → Rep g α h S H → va_S (AB g) s.heap H locs → ls.size = nL → (rest.map fun v => v.category).sum ≤ 6 →
    (∀ (h' : HT) (H1 : Heap) (locs1 : List Loc) (q : Nat), Rep g (al1 α 13 (S.2.2 13) q) h' (mkL S) H1 → va_S (AB g) s.heap H1 locs1 → W p l e R s m args below meth c H1 locs1 (cb + (u + 1)) (sb + 120 * (u + 1)) Qm (F0 m (pc + 7) ls (.ref q :: rest))) →
    W p l e R s m args below meth c H locs (cb + u) (sb + 120 * u) Qm (F0 m pc ls rest))
section STR
variable {p : Program} {l : Launch} {e : Env} {R : Room} {s : State} {m : MethodId} {args : Array Value} {below : List Frame} {meth : Method} {c : Code} {Qm : State → Prop} {g : GT} {α0 : Nat → Nat → Nat} {S0 : Sto} {cc : ByteArray} {own : String} {nL rk cb sb B : Nat} {ini : Bool} {rb : Nat}
variable {tb : Tb} {Q : Out → Sto → Prop} {hn : List (Nat × Nat × Nat × Nat)} {scr : Nat × (Nat → Int32)}
variable {pc len xa xb : Nat} {xv : Int32} {xl : List Nat} {xu : Nat} {xs : SP} {nx : Tb} {K : Tb → Lo → List AV → Sto → Nat → Prop} {L : Lo} {st : List AV} {S : Sto} {u : Nat}
theorem gF_ok {k f i : Nat} {k' : AV → Prop} (h : gF S k f i k') : ((ft k f).1 = 0 ∧ k' (aI (S.1 k f i))) ∨ ((ft k f).1 ≠ 0 ∧ ((ft k f).1 ≠ 1 → S.1 k f i ≠ 0) ∧ k' (aR (fR k f i).1 (fR k f i).2)) := by
  unfold gF at h
  unfold fR
  rcases hft : ft k f with ⟨t, a, b⟩
  rw [hft] at h
  rcases t with _ | _ | _ | t
  · exact Or.inl ⟨rfl, h⟩
  · exact Or.inr ⟨by simp, fun q => absurd rfl q, h⟩
  · exact Or.inr ⟨by simp, fun _ => h.1, h.2⟩
  · refine Or.inr ⟨by omega, fun _ => h.1, ?_⟩
    rw [if_neg (by omega)]
    exact h.2
theorem fv_int {α : Nat → Nat → Nat} {k i f : Nat} (h : (ft k f).1 = 0) : fv α S k i f = .int (S.1 k f i) := by
  unfold fv
  rcases hft : ft k f with ⟨t, a, b⟩
  rw [hft] at h
  dsimp only at h
  subst h
  rfl
theorem fv_ref {α : Nat → Nat → Nat} {k i f : Nat} (h : (ft k f).1 ≠ 0) (h2 : (ft k f).1 ≠ 1 → S.1 k f i ≠ 0) : fv α S k i f = .ref (α (fR k f i).1 (fR k f i).2) := by
  unfold fv
  unfold fR
  rcases hft : ft k f with ⟨t, a, b⟩
  rw [hft] at h h2
  dsimp only at h h2
  rcases t with _ | _ | _ | t
  · exact absurd rfl h
  · rfl
  · show (if S.1 k f i = 0 then Value.null else Value.ref _) = _
    rw [if_neg (h2 (by decide))]
    rfl
  · show (if S.1 k f i = 0 then Value.null else Value.ref _) = _
    rw [if_neg (h2 (by omega)), if_neg (by omega)]
theorem fk_no {k f i : Nat} (hk : obK k = true) (hf : f < nf k) : (fR k f i).1 ≠ 99 := by
  have h : (List.range (nf k)).all (fun f => decide ((ft k f).2.1 ≠ 99)) = true := by
    rcases obK_or hk with rfl | rfl | rfl | rfl | rfl | rfl | rfl | rfl | rfl | rfl <;> decide +kernel
  have h2 := List.all_eq_true.mp h f (List.mem_range.mpr hf)
  unfold fR
  split <;> simpa using h2
theorem hbase {H : Heap} {locs : List Loc} (C : Cx p l s m meth c R cc own nL rk cb sb B ini g) (hS : va_S (AB g) s.heap H locs) : g.2.2.2 ≤ H.size := Nat.le_trans C.2.2.2.2.2.2.2.2.2.1 hS.1
theorem s_getfield {k : Nat} (hd : (dcd cc pc (.getfield k) len && len == 3) = true) {w : Nat} (hv : (Nat.blt xb (vC xa).2.2 && decide (((vC xa).2.1 xb).1 = (vC xa).1) && wdAt w (.fieldLink own k (vC xa).1 ((vC xa).2.1 xb).2.1 ((vC xa).2.1 xb).2.2.1)) = true) (h : r1 st fun k i r => bif obK k && ci k == xa then gF S k xb i fun v => K nx L (v :: r) S u else False) (C : Cx p l s m meth c R cc own nL rk cb sb B ini g) (hK : KOK tb (Ga p l e R s m args below meth c Qm g α0 S0 nL cb sb B) K) (hsx : nx <:+ tb) (hnx : ∀ q ∈ nx.head?, q.1 = pc + len) : Go p l e R s m args below meth c Qm g α0 S0 nL cb sb B pc L st S u := by
  obtain ⟨hdg, rfl⟩ := chk_plain (own := own) (ini := ini) (xa := 0) (xb := 0) (xv := 0) (xl := []) hd
  obtain ⟨k', i, r, rfl, hA⟩ := r1_ok h
  obtain ⟨h1, hB⟩ := cond_ok hA
  rw [Bool.and_eq_true] at h1
  obtain ⟨hk, h2⟩ := h1
  have h2 : ci k' = xa := eq_of_beq h2
  subst h2
  simp only [Bool.and_eq_true, decide_eq_true_eq, Nat.blt_eq] at hv
  obtain ⟨⟨hb1, hb2⟩, hb3⟩ := hv
  have hf : xb < nf k' := by rw [(kd_KF hk).2]; exact hb1
  intro hu α h9 H locs ls hR hE hL hst hS hLH
  have hi : i < S.2.2 k' := LvR_of (lvV_hd hst) (Or.inl hk)
  have key := w_get (own := own) (idx := k) (rest := r.map (conc α)) (ls := ls) (pc := pc) (cells := cb + u) (slots := sb + 120 * u) (locs := locs) (Q := Qm) (e := e) (R := R) (args := args) (below := below) (meth := meth) (l := l) C.1 C.2.1 C.2.2.2.1 C.2.2.2.2.2.2.1 C.2.2.2.2.2.2.2.1 hR hk hi hf (wdAt_ok hb3 C.2.2.2.2.2.2.2.1 _) hb2 hdg
  rw [List.map_cons, conc_ob (ob_ne (Or.inl hk)).2.1]
  refine key ?_
  rcases gF_ok hB with ⟨h3, h4⟩ | ⟨h3, h5, h4⟩
  · rw [fv_int h3]
    exact kok_next hK hsx hnx h4 hu α h9 H locs ls hR hE hL (lvV_cons trivial (lvV_tail hst)) hS hLH
  · rw [fv_ref h3 h5]
    have hl : LvR S (fR k' xb i).1 (fR k' xb i).2 := (hR.2.2.2.1 k' i xb hk hi hf h3).resolve_left fun q => h5 q.1 q.2
    have := kok_next hK hsx hnx h4 hu α h9 H locs ls hR hE hL (lvV_cons (v := aR _ _) hl (lvV_tail hst)) hS hLH
    rw [List.map_cons, conc_ob (fk_no hk hf)] at this
    exact this
theorem s_putfield {k : Nat} (hd : (dcd cc pc (.putfield k) len && len == 3) = true) {w : Nat} (hv : (Nat.blt xb (vC xa).2.2 && decide (((vC xa).2.1 xb).1 = (vC xa).1) && wdAt w (.fieldLink own k (vC xa).1 ((vC xa).2.1 xb).2.1 ((vC xa).2.1 xb).2.2.1) && (!((vC xa).2.1 xb).2.2.2 || (ini && decide ((vC xa).1 = own)))) = true) (h : match st with
        | v :: Sum.inr (Sum.inr (k, i)) :: r => bif obK k && ci k == xa then pF S k xb i v fun S' => K nx L r S' u else False
        | _ => False) (C : Cx p l s m meth c R cc own nL rk cb sb B ini g) (hK : KOK tb (Ga p l e R s m args below meth c Qm g α0 S0 nL cb sb B) K) (hsx : nx <:+ tb) (hnx : ∀ q ∈ nx.head?, q.1 = pc + len) : Go p l e R s m args below meth c Qm g α0 S0 nL cb sb B pc L st S u := by
  obtain ⟨hdg, rfl⟩ := chk_plain (own := own) (ini := ini) (xa := 0) (xb := 0) (xv := 0) (xl := []) hd
  rcases st with _ | ⟨v, _ | ⟨w1 | (w1 | ⟨k', i⟩), r⟩⟩
  · exact h.elim
  · exact h.elim
  · exact h.elim
  · exact h.elim
  · obtain ⟨h1, hB⟩ := cond_ok h
    rw [Bool.and_eq_true] at h1
    obtain ⟨hk, h2⟩ := h1
    have h2 : ci k' = xa := eq_of_beq h2
    subst h2
    simp only [Bool.and_eq_true, decide_eq_true_eq, Nat.blt_eq, Bool.or_eq_true, Bool.not_eq_true'] at hv
    obtain ⟨⟨⟨hb1, hb2⟩, hb3⟩, hb4⟩ := hv
    have hf : xb < nf k' := by rw [(kd_KF hk).2]; exact hb1
    have hty := kd_ty hk hf
    have hfin : ((vC (ci k')).2.1 xb).2.2.2 = false ∨ (meth.name = "<init>" ∧ (vC (ci k')).1 = own) := hb4.imp id fun q => ⟨C.2.2.2.2.2.1 q.1, q.2⟩
    intro hu α h9 H locs ls hR hE hL hst hS hLH
    have hi : i < S.2.2 k' := LvR_of (lvV_hd (lvV_tail hst)) (Or.inl hk)
    have go : ∀ x : Int32, conc α v = fv α (wrI S k' xb i x) k' i xb → (narrow (tyC (ci k') xb) (fv α (wrI S k' xb i x) k' i xb) = fv α (wrI S k' xb i x) k' i xb ∧ fits (tyC (ci k') xb) (fv α (wrI S k' xb i x) k' i xb) = true) → ((ft k' xb).1 = 0 ∨ LvR S (fR k' xb i).1 (fR k' xb i).2) → K nx L r (wrI S k' xb i x) u → W p l e R s m args below meth c H locs (cb + u) (sb + 120 * u) Qm (F0 m pc ls ((v :: Sum.inr (Sum.inr (k', i)) :: r).map (conc α))) := by
      intro x hcv hfit hlv hkk
      rw [List.map_cons, List.map_cons, hcv, show conc α (Sum.inr (Sum.inr (k', i))) = .ref (α k' i) from conc_ob (ob_ne (Or.inl hk)).2.1]
      exact w_put C.1 C.2.1 C.2.2.2.1 C.2.2.2.2.2.2.1 C.2.2.2.2.2.2.2.1 hR hS hk hi hf (wdAt_ok hb3 C.2.2.2.2.2.2.2.1 _) hb2 hfin hfit hlv hdg fun H1 locs1 hR1 hS1 => kok_next hK hsx hnx hkk hu α h9 H1 locs1 ls hR1 hE hL (lvV_tail (lvV_tail hst)) hS1 hLH
    unfold pF at hB
    rcases hft : ft k' xb with ⟨t, a, b⟩
    rw [hft] at hB hty
    dsimp only at hty
    have hfr : (fR k' xb i) = if t ≤ 2 then (a, b) else (a, i) := by unfold fR; rw [hft]
    rcases t with _ | _ | _ | _ | t
    · rcases v with x | v
      · rw [if_pos rfl] at hty
        have e1 : fv α (wrI S k' xb i x) k' i xb = .int x := by rw [fv_int (by rw [hft]), wrI_at, if_pos ⟨rfl, rfl, rfl⟩]
        exact go x e1.symm (by rw [e1, hty]; exact ⟨rfl, rfl⟩) (Or.inl (by rw [hft])) hB
      · exact hB.elim
    · exact hB.elim
    · rcases v with x | (v | ⟨a', b'⟩)
      · exact hB.elim
      · exact hB.elim
      · obtain ⟨h3, h4⟩ := cond_ok hB
        rw [Bool.and_eq_true] at h3
        have ea : a' = a := eq_of_beq h3.1
        have eb : b' = b := eq_of_beq h3.2
        subst ea eb
        rw [if_neg (by decide)] at hty
        have hfr2 : fR k' xb i = (a', b') := hfr
        have e1 : fv α (wrI S k' xb i 1) k' i xb = .ref (α a' b') := by
          rw [fv_ref (by rw [hft]; simp) (fun _ => by rw [wrI_at, if_pos ⟨rfl, rfl, rfl⟩]; decide), hfr2]
        have h99 : a' ≠ 99 := by have := fk_no (i := i) hk hf; rw [hfr2] at this; exact this
        exact go 1 (by rw [e1]; exact conc_ob h99) (by rw [e1]; exact (rty_ok hty.1).2 _) (Or.inr (by rw [hfr2]; exact lvV_hd hst)) h4
    · rcases v with x | (v | ⟨a', b'⟩)
      · exact hB.elim
      · exact hB.elim
      · obtain ⟨h3, h5, h4⟩ := cond_ok hB
        have ea : a' = a := eq_of_beq h3
        subst ea h5
        rw [if_neg (by decide)] at hty
        have hfr2 : fR k' xb b' = (a', b') := hfr
        have e1 : fv α (wrI S k' xb b' 1) k' b' xb = .ref (α a' b') := by
          rw [fv_ref (by rw [hft]; simp) (fun _ => by rw [wrI_at, if_pos ⟨rfl, rfl, rfl⟩]; decide), hfr2]
        have h99 : a' ≠ 99 := by have := fk_no (i := b') hk hf; rw [hfr2] at this; exact this
        exact go 1 (by rw [e1]; exact conc_ob h99) (by rw [e1]; exact (rty_ok hty.1).2 _) (Or.inr (by rw [hfr2]; exact lvV_hd hst)) h4
    · rcases v with x | (v | ⟨a', b'⟩)
      · exact hB.elim
      · exact hB.elim
      · exact hB.elim
end STR
end
section
/-! SOUND, instruction by instruction: arrays, new objects, returns, calls -/
section STS
variable {p : Program} {l : Launch} {e : Env} {R : Room} {s : State} {m : MethodId} {args : Array Value} {below : List Frame} {meth : Method} {c : Code} {Qm : State → Prop} {g : GT} {α0 : Nat → Nat → Nat} {S0 : Sto} {cc : ByteArray} {own : String} {nL rk cb sb B : Nat} {ini : Bool} {rb : Nat}
variable {tb : Tb} {Q : Out → Sto → Prop} {hn : List (Nat × Nat × Nat × Nat)} {scr : Nat × (Nat → Int32)}
variable {pc len xa xb : Nat} {xv : Int32} {xl : List Nat} {xu : Nat} {xs : SP} {nx : Tb} {K : Tb → Lo → List AV → Sto → Nat → Prop} {L : Lo} {st : List AV} {S : Sto} {u : Nat}
theorem ar_ok {st : List AV} {k : Int32 → Nat → Nat → List AV → Prop} (h : match st with
        | Sum.inl j :: Sum.inr (Sum.inr (a, i)) :: r => k j a i r
        | _ => False) : ∃ j a i r, st = aI j :: aR a i :: r ∧ k j a i r := by
  rcases st with _ | ⟨v | v, _ | ⟨w | (w | ⟨a, i⟩), r⟩⟩
  all_goals first | exact h.elim | exact ⟨v, a, i, r, rfl, h⟩
theorem aw_ok {st : List AV} {k : Int32 → Int32 → Nat → Nat → List AV → Prop} (h : match st with
        | Sum.inl v :: Sum.inl j :: Sum.inr (Sum.inr (a, i)) :: r => k v j a i r
        | _ => False) : ∃ v j a i r, st = aI v :: aI j :: aR a i :: r ∧ k v j a i r := by
  rcases st with _ | ⟨v | v, _ | ⟨w | w, _ | ⟨z | (z | ⟨a, i⟩), r⟩⟩⟩
  all_goals first | exact h.elim | exact ⟨v, w, a, i, r, rfl, h⟩
theorem lw_ok {st : List AV} {k : Int64 → Int32 → Nat → Nat → List AV → Prop} (h : match st with
        | Sum.inr (Sum.inl v) :: Sum.inl j :: Sum.inr (Sum.inr (a, i)) :: r => k v j a i r
        | _ => False) : ∃ v j a i r, st = aL v :: aI j :: aR a i :: r ∧ k v j a i r := by
  rcases st with _ | ⟨v | (v | v), _ | ⟨w | w, _ | ⟨z | (z | ⟨a, i⟩), r⟩⟩⟩
  all_goals first | exact h.elim | exact ⟨v, w, a, i, r, rfl, h⟩
/-- the script, where there is one -/
def ScrOK (s : State) (g : GT) (α0 : Nat → Nat → Nat) (scr : Nat × (Nat → Int32)) : Prop := va_X (α0 14 0) (scr.1 - 1) scr.2 s s.heap ∧ α0 14 0 < s.heap.size ∧ α0 14 0 < g.2.2.2
theorem bif_or {a b : Bool} {x y z : Prop} (h : bif a then x else bif b then y else z) : (a = true ∧ x) ∨ (a = false ∧ b = true ∧ y) ∨ (a = false ∧ b = false ∧ z) := by
  cases a
  · cases b
    · exact Or.inr (Or.inr ⟨rfl, rfl, h⟩)
    · exact Or.inr (Or.inl ⟨rfl, rfl, h⟩)
  · exact Or.inl ⟨rfl, h⟩
theorem s_iaload (hd : (dcd cc pc .iaload len && len == 1) = true) (hsc : 0 < scr.1 → ScrOK s g α0 scr) (h : match st with
        | Sum.inl j :: Sum.inr (Sum.inr (k, i)) :: r => bif k == 10 then vp_in j (al 10 i) ∧ K nx L (aI (S.1 10 i j.toNatClampNeg) :: r) S u else
          bif k == 14 && i == 0 && Nat.blt 0 scr.1 then vp_in j (scr.1 - 1) ∧ K nx L (aI (scr.2 j.toNatClampNeg) :: r) S u else False
        | _ => False) (C : Cx p l s m meth c R cc own nL rk cb sb B ini g) (hK : KOK tb (Ga p l e R s m args below meth c Qm g α0 S0 nL cb sb B) K) (hsx : nx <:+ tb) (hnx : ∀ q ∈ nx.head?, q.1 = pc + len) : Go p l e R s m args below meth c Qm g α0 S0 nL cb sb B pc L st S u := by
  obtain ⟨hdg, rfl⟩ := chk_plain (own := own) (ini := ini) (xa := 0) (xb := 0) (xv := 0) (xl := []) hd
  obtain ⟨j, k, i, r, rfl, hA⟩ := ar_ok (k := fun j k i r => bif k == 10 then vp_in j (al 10 i) ∧ K nx L (aI (S.1 10 i j.toNatClampNeg) :: r) S u else
          bif k == 14 && i == 0 && Nat.blt 0 scr.1 then vp_in j (scr.1 - 1) ∧ K nx L (aI (scr.2 j.toNatClampNeg) :: r) S u else False) h
  intro hu α h9 H locs ls hR hE hL hst hS hLH
  have hlr := lvV_hd (lvV_tail hst)
  rcases bif_or hA with ⟨h1, h2, h3⟩ | ⟨-, h1, h2, h3⟩ | ⟨-, -, h1⟩
  · have h1 : k = 10 := eq_of_beq h1
    subst h1
    exact w_iald C.1 C.2.1 C.2.2.2.2.2.2.1 hR (LvR_of hlr (Or.inr rfl)) h2 hdg (kok_next hK hsx hnx h3 hu α h9 H locs ls hR hE hL (lvV_cons trivial (lvV_tail (lvV_tail hst))) hS hLH)
  · rw [Bool.and_eq_true, Bool.and_eq_true, Nat.blt_eq] at h1
    have e1 : k = 14 := eq_of_beq h1.1.1
    have e2 : i = 0 := eq_of_beq h1.1.2
    subst e1 e2
    obtain ⟨q1, q2, q3⟩ := hsc h1.2
    · have e14 : α 14 0 = α0 14 0 := hE.1 14 0 (Or.inr (Or.inl rfl))
      show W p l e R s m args below meth c H locs (cb + u) (sb + 120 * u) Qm (F0 m pc ls (.int j :: .ref (α 14 0) :: r.map (conc α)))
      rw [e14]
      exact va_sld C.1 C.2.1 q1 q2 (Nat.not_le.mpr q3) hS h2 hdg (kok_next hK hsx hnx h3 hu α h9 H locs ls hR hE hL (lvV_cons trivial (lvV_tail (lvV_tail hst))) hS hLH)
  · exact h1.elim
theorem s_baload (hd : (dcd cc pc .baload len && len == 1) = true) (h : match st with
        | Sum.inl j :: Sum.inr (Sum.inr (k, i)) :: r => bif k == 11 then vp_in j (al 11 i) ∧ K nx L (aI (S.1 11 i j.toNatClampNeg) :: r) S u else False
        | _ => False) (C : Cx p l s m meth c R cc own nL rk cb sb B ini g) (hK : KOK tb (Ga p l e R s m args below meth c Qm g α0 S0 nL cb sb B) K) (hsx : nx <:+ tb) (hnx : ∀ q ∈ nx.head?, q.1 = pc + len) : Go p l e R s m args below meth c Qm g α0 S0 nL cb sb B pc L st S u := by
  obtain ⟨hdg, rfl⟩ := chk_plain (own := own) (ini := ini) (xa := 0) (xb := 0) (xv := 0) (xl := []) hd
  obtain ⟨j, k, i, r, rfl, hA⟩ := ar_ok (k := fun j k i r => bif k == 11 then vp_in j (al 11 i) ∧ K nx L (aI (S.1 11 i j.toNatClampNeg) :: r) S u else False) h
  obtain ⟨h1, h2, h3⟩ := cond_ok hA
  have h1 : k = 11 := eq_of_beq h1
  subst h1
  intro hu α h9 H locs ls hR hE hL hst hS hLH
  exact w_bald C.1 C.2.1 C.2.2.2.2.2.2.1 hR (LvR_of (lvV_hd (lvV_tail hst)) (Or.inr rfl)) h2 hdg (kok_next hK hsx hnx h3 hu α h9 H locs ls hR hE hL (lvV_cons trivial (lvV_tail (lvV_tail hst))) hS hLH)
theorem s_laload (hd : (dcd cc pc .laload len && len == 1) = true) (h : match st with
        | Sum.inl j :: Sum.inr (Sum.inr (k, i)) :: r => bif k == 12 then vp_in j 25 ∧ K nx L (aL (S.2.1 i j.toNatClampNeg) :: r) S u else False
        | _ => False) (C : Cx p l s m meth c R cc own nL rk cb sb B ini g) (hK : KOK tb (Ga p l e R s m args below meth c Qm g α0 S0 nL cb sb B) K) (hsx : nx <:+ tb) (hnx : ∀ q ∈ nx.head?, q.1 = pc + len) : Go p l e R s m args below meth c Qm g α0 S0 nL cb sb B pc L st S u := by
  obtain ⟨hdg, rfl⟩ := chk_plain (own := own) (ini := ini) (xa := 0) (xb := 0) (xv := 0) (xl := []) hd
  obtain ⟨j, k, i, r, rfl, hA⟩ := ar_ok (k := fun j k i r => bif k == 12 then vp_in j 25 ∧ K nx L (aL (S.2.1 i j.toNatClampNeg) :: r) S u else False) h
  obtain ⟨h1, h2, h3⟩ := cond_ok hA
  have e1 : k = 12 := eq_of_beq h1
  subst e1
  intro hu α h9 H locs ls hR hE hL hst hS hLH
  exact w_lald C.1 C.2.1 C.2.2.2.2.2.2.1 hR (LvR_of (lvV_hd (lvV_tail hst)) (Or.inr rfl)) h2 hdg (kok_next hK hsx hnx h3 hu α h9 H locs ls hR hE hL (lvV_cons trivial (lvV_tail (lvV_tail hst))) hS hLH)
theorem s_iastore (hd : (dcd cc pc .iastore len && len == 1) = true) (h : match st with
        | Sum.inl v :: Sum.inl j :: Sum.inr (Sum.inr (k, i)) :: r => bif k == 10 then vp_in j (al 10 i) ∧ K nx L r (wrI S 10 i j.toNatClampNeg v) u else False
        | _ => False) (C : Cx p l s m meth c R cc own nL rk cb sb B ini g) (hK : KOK tb (Ga p l e R s m args below meth c Qm g α0 S0 nL cb sb B) K) (hsx : nx <:+ tb) (hnx : ∀ q ∈ nx.head?, q.1 = pc + len) : Go p l e R s m args below meth c Qm g α0 S0 nL cb sb B pc L st S u := by
  obtain ⟨hdg, rfl⟩ := chk_plain (own := own) (ini := ini) (xa := 0) (xb := 0) (xv := 0) (xl := []) hd
  obtain ⟨v, j, k, i, r, rfl, hA⟩ := aw_ok (k := fun v j k i r => bif k == 10 then vp_in j (al 10 i) ∧ K nx L r (wrI S 10 i j.toNatClampNeg v) u else False) h
  obtain ⟨h1, h2, h3⟩ := cond_ok hA
  have h1 : k = 10 := eq_of_beq h1
  subst h1
  intro hu α h9 H locs ls hR hE hL hst hS hLH
  exact w_iast C.1 C.2.1 C.2.2.2.2.2.2.1 hR hS (LvR_of (lvV_hd (lvV_tail (lvV_tail hst))) (Or.inr rfl)) h2 hdg fun H1 locs1 hR1 hS1 => kok_next hK hsx hnx h3 hu α h9 H1 locs1 ls hR1 hE hL (lvV_tail (lvV_tail (lvV_tail hst))) hS1 hLH
theorem s_bastore (hd : (dcd cc pc .bastore len && len == 1) = true) (h : match st with
        | Sum.inl v :: Sum.inl j :: Sum.inr (Sum.inr (k, i)) :: r => bif k == 11 then vp_in j (al 11 i) ∧ K nx L r (wrI S 11 i j.toNatClampNeg (v &&& 1)) u else False
        | _ => False) (C : Cx p l s m meth c R cc own nL rk cb sb B ini g) (hK : KOK tb (Ga p l e R s m args below meth c Qm g α0 S0 nL cb sb B) K) (hsx : nx <:+ tb) (hnx : ∀ q ∈ nx.head?, q.1 = pc + len) : Go p l e R s m args below meth c Qm g α0 S0 nL cb sb B pc L st S u := by
  obtain ⟨hdg, rfl⟩ := chk_plain (own := own) (ini := ini) (xa := 0) (xb := 0) (xv := 0) (xl := []) hd
  obtain ⟨v, j, k, i, r, rfl, hA⟩ := aw_ok (k := fun v j k i r => bif k == 11 then vp_in j (al 11 i) ∧ K nx L r (wrI S 11 i j.toNatClampNeg (v &&& 1)) u else False) h
  obtain ⟨h1, h2, h3⟩ := cond_ok hA
  have h1 : k = 11 := eq_of_beq h1
  subst h1
  intro hu α h9 H locs ls hR hE hL hst hS hLH
  exact w_bast C.1 C.2.1 C.2.2.2.2.2.2.1 hR hS (LvR_of (lvV_hd (lvV_tail (lvV_tail hst))) (Or.inr rfl)) h2 hdg fun H1 locs1 hR1 hS1 => kok_next hK hsx hnx h3 hu α h9 H1 locs1 ls hR1 hE hL (lvV_tail (lvV_tail (lvV_tail hst))) hS1 hLH
theorem s_lastore (hd : (dcd cc pc .lastore len && len == 1) = true) (h : match st with
        | Sum.inr (Sum.inl v) :: Sum.inl j :: Sum.inr (Sum.inr (k, i)) :: r => bif k == 12 then vp_in j 25 ∧ K nx L r (wrJ S i j.toNatClampNeg v) u else False
        | _ => False) (C : Cx p l s m meth c R cc own nL rk cb sb B ini g) (hK : KOK tb (Ga p l e R s m args below meth c Qm g α0 S0 nL cb sb B) K) (hsx : nx <:+ tb) (hnx : ∀ q ∈ nx.head?, q.1 = pc + len) : Go p l e R s m args below meth c Qm g α0 S0 nL cb sb B pc L st S u := by
  obtain ⟨hdg, rfl⟩ := chk_plain (own := own) (ini := ini) (xa := 0) (xb := 0) (xv := 0) (xl := []) hd
  obtain ⟨v, j, k, i, r, rfl, hA⟩ := lw_ok (k := fun v j k i r => bif k == 12 then vp_in j 25 ∧ K nx L r (wrJ S i j.toNatClampNeg v) u else False) h
  obtain ⟨h1, h2, h3⟩ := cond_ok hA
  have e1 : k = 12 := eq_of_beq h1
  subst e1
  intro hu α h9 H locs ls hR hE hL hst hS hLH
  exact w_last C.1 C.2.1 C.2.2.2.2.2.2.1 hR hS (LvR_of (lvV_hd (lvV_tail (lvV_tail hst))) (Or.inr rfl)) h2 hdg fun H1 locs1 hR1 hS1 => kok_next hK hsx hnx h3 hu α h9 H1 locs1 ls hR1 hE hL (lvV_tail (lvV_tail (lvV_tail hst))) hS1 hLH
theorem s_alen (hd : (dcd cc pc .arraylength len && len == 1) = true) (hsc : 0 < scr.1 → ScrOK s g α0 scr) (h : r1 st fun k i r => bif k == 10 || k == 11 then K nx L (aI (Int32.ofNat (al k i)) :: r) S u else
          bif k == 14 && i == 0 && Nat.blt 0 scr.1 then K nx L (aI (Int32.ofNat (scr.1 - 1)) :: r) S u else False) (C : Cx p l s m meth c R cc own nL rk cb sb B ini g) (hK : KOK tb (Ga p l e R s m args below meth c Qm g α0 S0 nL cb sb B) K) (hsx : nx <:+ tb) (hnx : ∀ q ∈ nx.head?, q.1 = pc + len) : Go p l e R s m args below meth c Qm g α0 S0 nL cb sb B pc L st S u := by
  obtain ⟨hdg, rfl⟩ := chk_plain (own := own) (ini := ini) (xa := 0) (xb := 0) (xv := 0) (xl := []) hd
  obtain ⟨k, i, r, rfl, hA⟩ := r1_ok h
  intro hu α h9 H locs ls hR hE hL hst hS hLH
  have hlr := lvV_hd hst
  rcases bif_or hA with ⟨h1, h3⟩ | ⟨-, h1, h3⟩ | ⟨-, -, h1⟩
  · have hk : k = 10 ∨ k = 11 := by simpa using h1
    have hk2 : arK k = true := by rcases hk with rfl | rfl <;> rfl
    have key := w_alen (rest := r.map (conc α)) (ls := ls) (pc := pc) (cells := cb + u) (slots := sb + 120 * u) (locs := locs) (Q := Qm) (e := e) (R := R) (args := args) (below := below) (meth := meth) (l := l) (m := m) C.1 C.2.1 C.2.2.2.2.2.2.1 hR hk (LvR_of hlr (Or.inr hk2)) hdg
    rw [List.map_cons, conc_ob (ob_ne (Or.inr hk2)).2.1]
    exact key (kok_next hK hsx hnx h3 hu α h9 H locs ls hR hE hL (lvV_cons trivial (lvV_tail hst)) hS hLH)
  · rw [Bool.and_eq_true, Bool.and_eq_true, Nat.blt_eq] at h1
    have e1 : k = 14 := eq_of_beq h1.1.1
    have e2 : i = 0 := eq_of_beq h1.1.2
    subst e1 e2
    obtain ⟨q1, q2, q3⟩ := hsc h1.2
    · have e14 : α 14 0 = α0 14 0 := hE.1 14 0 (Or.inr (Or.inl rfl))
      show W p l e R s m args below meth c H locs (cb + u) (sb + 120 * u) Qm (F0 m pc ls (.ref (α 14 0) :: r.map (conc α)))
      rw [e14]
      exact va_slen C.1 C.2.1 q1 q2 (Nat.not_le.mpr q3) hS hdg (kok_next hK hsx hnx h3 hu α h9 H locs ls hR hE hL (lvV_cons trivial (lvV_tail hst)) hS hLH)
  · exact h1.elim
end STS
end
section
/-! SOUND, instruction by instruction: new objects, casts, returns, calls -/
section STT
variable {p : Program} {l : Launch} {e : Env} {R : Room} {s : State} {m : MethodId} {args : Array Value} {below : List Frame} {meth : Method} {c : Code} {Qm : State → Prop} {g : GT} {α0 : Nat → Nat → Nat} {S0 : Sto} {cc : ByteArray} {own : String} {nL rk cb sb B : Nat} {ini : Bool} {rb : Nat}
variable {tb : Tb} {Q : Out → Sto → Prop} {hn : List (Nat × Nat × Nat × Nat)} {scr : Nat × (Nat → Int32)}
variable {pc len xa xb : Nat} {xv : Int32} {xl : List Nat} {xu : Nat} {xs : SP} {nx : Tb} {K : Tb → Lo → List AV → Sto → Nat → Prop} {L : Lo} {st : List AV} {S : Sto} {u : Nat}
theorem LH.ag {α α' : Nat → Nat → Nat} {ls : Array Slot} (h : LH α ls nL L) (hL : ∀ a, some a ∈ L → LvV S a) (ha : AgR S α α') : LH α' ls nL L := by
  refine ⟨h.1, h.2.1, h.2.2.1, fun i a hi => ?_⟩
  have h1 := h.2.2.2 i a hi
  have h2 := hL a (List.mem_of_getElem? hi)
  rcases a with x | (x | ⟨k, j⟩)
  · exact h1
  · exact h1
  · have : conc α' (Sum.inr (Sum.inr (k, j))) = conc α (Sum.inr (Sum.inr (k, j))) := by
      show Value.ref _ = Value.ref _
      by_cases h9 : k = 99
      · rw [if_pos h9, if_pos h9]
      · rw [if_neg h9, if_neg h9, ha k j h2]
    rw [this]
    exact h1
theorem conc_ag {α α' : Nat → Nat → Nat} {S : Sto} {st : List AV} (hst : ∀ a ∈ st, LvV S a) (ha : AgR S α α') : st.map (conc α') = st.map (conc α) := by
  refine List.map_congr_left fun a hm => ?_
  have h2 := hst a hm
  rcases a with x | (x | ⟨k, j⟩)
  · rfl
  · rfl
  · show Value.ref _ = Value.ref _
    by_cases h9 : k = 99
    · rw [if_pos h9, if_pos h9]
    · rw [if_neg h9, if_neg h9, ha k j h2]
theorem LvV_le {S S' : Sto} (hN : ∀ k, S.2.2 k ≤ S'.2.2 k) {a : AV} (h : LvV S a) : LvV S' a := by
  rcases a with x | (x | ⟨k, j⟩)
  · trivial
  · trivial
  · exact LvR_le hN h
theorem Ext.tr {α1 α2 α3 : Nat → Nat → Nat} {S1 S2 S3 : Sto} (h : Ext α1 S1 α2 S2) (h' : Ext α2 S2 α3 S3) : Ext α1 S1 α3 S3 := ⟨fun k i hl => (h'.1 k i (LvR_le h.2 hl)).trans (h.1 k i hl), fun k => Nat.le_trans (h.2 k) (h'.2 k)⟩
/-- a step that makes something new: the frame's own values stay -/
theorem go_new {α α' : Nat → Nat → Nat} {h' : HT} {S' : Sto} {u' pc' : Nat} {L : Lo} {st : List AV} {S : Sto} {v : AV} {H1 : Heap} {locs1 : List Loc} {ls : Array Slot} (hgo : Go p l e R s m args below meth c Qm g α0 S0 nL cb sb B pc' L (v :: st) S' u') (hu : u' ≤ B) (hR : Rep g α' h' S' H1) (hE : Ext α0 S0 α S) (hE2 : Ext α S α' S')
    (hL : ∀ a, some a ∈ L → LvV S a) (hst : ∀ a ∈ st, LvV S a) (hv : LvV S' v) (hS : va_S (AB g) s.heap H1 locs1) (hLH : LH α ls nL L) : W p l e R s m args below meth c H1 locs1 (cb + u') (sb + 120 * u') Qm (F0 m pc' ls (conc α' v :: st.map (conc α))) := by
  have := hgo hu α' h' H1 locs1 ls hR (hE.tr hE2) (fun a ha => LvV_le hE2.2 (hL a ha)) (lvV_cons hv fun a ha => LvV_le hE2.2 (hst a ha)) hS (hLH.ag hL hE2.1)
  rw [List.map_cons, conc_ag hst hE2.1] at this
  exact this
theorem go_new0 {α α' : Nat → Nat → Nat} {h' : HT} {S' : Sto} {u' pc' : Nat} {L : Lo} {st : List AV} {S : Sto} {H1 : Heap} {locs1 : List Loc} {ls : Array Slot} (hgo : Go p l e R s m args below meth c Qm g α0 S0 nL cb sb B pc' L st S' u') (hu : u' ≤ B) (hR : Rep g α' h' S' H1) (hE : Ext α0 S0 α S) (hE2 : Ext α S α' S')
    (hL : ∀ a, some a ∈ L → LvV S a) (hst : ∀ a ∈ st, LvV S a) (hS : va_S (AB g) s.heap H1 locs1) (hLH : LH α ls nL L) : W p l e R s m args below meth c H1 locs1 (cb + u') (sb + 120 * u') Qm (F0 m pc' ls (st.map (conc α))) := by
  have := hgo hu α' h' H1 locs1 ls hR (hE.tr hE2) (fun a ha => LvV_le hE2.2 (hL a ha)) (fun a ha => LvV_le hE2.2 (hst a ha)) hS (hLH.ag hL hE2.1)
  rw [conc_ag hst hE2.1] at this
  exact this
theorem nfs_le {k : Nat} (hk : obK k = true) : (vC (ci k)).2.2 ≤ 40 := by
  rcases obK_or hk with rfl | rfl | rfl | rfl | rfl | rfl | rfl | rfl | rfl | rfl <;> decide
theorem al_le {k i : Nat} : al k i ≤ 3000 := by
  have h1 : ∀ (l : List Nat), (∀ x ∈ l, x ≤ 3000) → ∀ i, l.getD i 0 ≤ 3000 := by
    intro l hl i
    rw [List.getD_eq_getElem?_getD]
    cases hq : l[i]? with
    | none => exact Nat.zero_le _
    | some x => exact hl x (List.mem_of_getElem? hq)
  unfold al
  split
  · exact h1 _ (by decide) i
  · exact h1 _ (by decide) i
  · omega
  · omega
theorem s_newarray {t : ArrayType} (hd : (dcd cc pc (.newarray t) len && len == 2) = true) {w : Nat} (hv : (((xa == 10 && decide (t = .int)) || (xa == 11 && decide (t = .boolean)) || (xa == 12 && decide (t = .long))) && wdAt w (.arrayClass (newarray.typeOf t))) = true) (h : i1 st fun a r => bif xa == 10 || xa == 11 then a = Int32.ofNat (al xa (S.2.2 xa)) ∧ (bif Nat.ble (u + 30) B then K nx L (aR xa (S.2.2 xa) :: r) (mkA S xa) (u + 30) else False) else
          bif xa == 12 then a = 25 ∧ (bif Nat.ble (u + 30) B then K nx L (aR 12 (S.2.2 12) :: r) (mkJ S) (u + 30) else False) else False) (C : Cx p l s m meth c R cc own nL rk cb sb B ini g) (hK : KOK tb (Ga p l e R s m args below meth c Qm g α0 S0 nL cb sb B) K) (hsx : nx <:+ tb) (hnx : ∀ q ∈ nx.head?, q.1 = pc + len) : Go p l e R s m args below meth c Qm g α0 S0 nL cb sb B pc L st S u := by
  obtain ⟨hdg, rfl⟩ := chk_plain (own := own) (ini := ini) (xa := 0) (xb := 0) (xv := 0) (xl := []) hd
  obtain ⟨a, r, rfl, hA⟩ := i1_ok h
  rcases bif_or hA with ⟨h1, h2, h3⟩ | ⟨-, h1, h2, h3⟩ | ⟨-, -, h1⟩
  · obtain ⟨h4, h5⟩ := cond_ok h3
    rw [Nat.ble_eq] at h4
    simp only [Bool.and_eq_true, Bool.or_eq_true, beq_iff_eq, decide_eq_true_eq] at hv
    obtain ⟨hkt0, hw⟩ := hv
    have hkt : (xa = 10 ∧ t = .int) ∨ (xa = 11 ∧ t = .boolean) := by
      simp only [Bool.or_eq_true, beq_iff_eq] at h1
      rcases hkt0 with (q | q) | q
      · exact Or.inl q
      · exact Or.inr q
      · have := q.1; omega
    have hk2 : arK xa = true := by rcases hkt with ⟨rfl, -⟩ | ⟨rfl, -⟩ <;> rfl
    intro hu α h9 H locs ls hR hE hL hst hS hLH
    have h30 := C.2.2.2.2.2.2.2.2.2.2.2.2.1
    have h31 := C.2.2.2.2.2.2.2.2.2.2.2.2.2.1
    have hal := al_le (k := xa) (i := S.2.2 xa)
    refine w_newa C.1 C.2.1 C.2.2.2.2.2.2.1 hR hS (hbase C hS) hkt (wdAt_ok hw C.2.2.2.2.2.2.2.1 _) (by rw [h2]; exact nI_pos (by omega)) (by rw [h2]; exact nI_clamp (by omega)) hal (by omega) (by omega) hdg fun H1 hR1 hS1 hz => ?_
    refine W.widen (k := cb + (u + 30)) (n := sb + 120 * (u + 30)) (by omega) (by omega) ?_
    have hE2 : Ext α S (al1 α xa (S.2.2 xa) H.size) (mkA S xa) := ⟨al1_ag (Or.inr hk2), fun k => bump_le k⟩
    have := go_new (kok_next hK hsx hnx h5) h4 hR1 hE hE2 hL (lvV_tail hst) (Or.inr (Or.inr ⟨Or.inr hk2, by show S.2.2 xa < bump S.2.2 xa xa; rw [bump_k]; omega⟩)) hS1 hLH
    rw [conc_ob (ob_ne (Or.inr hk2)).2.1, al1_eq] at this
    exact this
  · obtain ⟨h4, h5⟩ := cond_ok h3
    rw [Nat.ble_eq] at h4
    have e12 : xa = 12 := eq_of_beq h1
    subst e12
    subst h2
    simp only [Bool.and_eq_true, Bool.or_eq_true, beq_iff_eq, decide_eq_true_eq] at hv
    obtain ⟨hkt, hw⟩ := hv
    have ht : t = .long := by
      rcases hkt with (⟨q, -⟩ | ⟨q, -⟩) | ⟨-, q⟩
      · exact absurd q (by decide)
      · exact absurd q (by decide)
      · exact q
    subst ht
    intro hu α h9 H locs ls hR hE hL hst hS hLH
    have h30 := C.2.2.2.2.2.2.2.2.2.2.2.2.1
    have h31 := C.2.2.2.2.2.2.2.2.2.2.2.2.2.1
    refine w_newJ C.1 C.2.1 C.2.2.2.2.2.2.1 hR hS (hbase C hS) (wdAt_ok hw C.2.2.2.2.2.2.2.1 _) (by omega) (by omega) hdg fun H1 hR1 hS1 hz => ?_
    refine W.widen (k := cb + (u + 30)) (n := sb + 120 * (u + 30)) (by omega) (by omega) ?_
    have hE2 : Ext α S (al1 α 12 (S.2.2 12) H.size) (mkJ S) := ⟨al1_ag (Or.inr rfl), fun k => bump_le k⟩
    have := go_new (v := aR 12 (S.2.2 12)) (kok_next hK hsx hnx h5) h4 hR1 hE hE2 hL (lvV_tail hst) (Or.inr (Or.inr ⟨Or.inr rfl, by show S.2.2 12 < bump S.2.2 12 12; rw [bump_k]; omega⟩)) hS1 hLH
    rw [conc_ob (by decide), al1_eq] at this
    exact this
  · exact h1.elim
theorem s_new {k : Nat} (hf : Fin p l e R s m args below meth c Qm g α0 S0 nL cb sb B cc own Q rb hn) (hc : (if 50 ≤ xa then chkT cc own pc k (xa - 50) len xl else if xa = 13 then chkL cc own pc k len xl else match xl with
    | [w1, w2, w3] => dcd cc pc (.new k) 3 && len == 3 && !(xa == 0) && !(xa == 1) && wdAt w1 (.classLink own k (vC (ci xa)).1) && wdAt w2 (.instantiable (vC (ci xa)).1 (vC (ci xa)).2.2) && wdAt w3 (.initialized (vC (ci xa)).1)
    | _ => false) = true) (h : bif Nat.ble 50 xa then (bif Nat.ble (u + 1) B && Nat.ble (catS st) 8 then Q (Sum.inr (xa - 50)) S else False) else
          bif xa == 13 then (bif Nat.ble (u + 1) B && Nat.ble (catS st) 6 then S.2.2 13 < 5 ∧ S.2.2 (20 + S.2.2 13) = 0 ∧ K nx L (aR 13 (S.2.2 13) :: st) (mkL S) (u + 1) else False) else
          bif obK xa && Nat.ble (u + 1) B then K nx L (aR xa (S.2.2 xa) :: st) (mkO S xa) (u + 1) else False) (C : Cx p l s m meth c R cc own nL rk cb sb B ini g) (hK : KOK tb (Ga p l e R s m args below meth c Qm g α0 S0 nL cb sb B) K) (hsx : nx <:+ tb) (hnx : ∀ q ∈ nx.head?, q.1 = pc + len) : Go p l e R s m args below meth c Qm g α0 S0 nL cb sb B pc L st S u := by
  intro hu α h9 H locs ls hR hE hL hst hS hLH
  have h30 := C.2.2.2.2.2.2.2.2.2.2.2.2.1
  have h31 := C.2.2.2.2.2.2.2.2.2.2.2.2.2.1
  rcases bif_or h with ⟨h1, h2⟩ | ⟨h0, h1, h2⟩ | ⟨h0, h1, h2⟩
  · rw [Nat.ble_eq] at h1
    rw [if_pos h1] at hc
    obtain ⟨h3, h4⟩ := cond_ok h2
    rw [Bool.and_eq_true, Nat.ble_eq, Nat.ble_eq] at h3
    exact hf.2.2.2.1 (xa - 50) pc k len xl S u α h9 H locs ls _ hc h4 h3.1 hR hE hS hLH.1 (by rw [cats_conc]; exact h3.2)
  · have h0 : ¬ 50 ≤ xa := by rw [← Nat.ble_eq, h0]; decide
    have h1 : xa = 13 := eq_of_beq h1
    rw [if_neg h0, if_pos h1] at hc
    obtain ⟨h3, h5, h6, h4⟩ := cond_ok h2
    rw [Bool.and_eq_true, Nat.ble_eq, Nat.ble_eq] at h3
    have hlen : len = 7 := by
      unfold chkL at hc
      split at hc
      · rw [Bool.and_eq_true] at hc
        exact eq_of_beq hc.2
      · cases hc
    subst hlen
    refine hf.2.2.2.2 pc k 7 xl S u α h9 H locs ls _ hc h5 h6 h3.1 hR hS hLH.1 (by rw [cats_conc]; exact h3.2) fun h' H1 locs1 q hR1 hS1 => ?_
    have hE2 : Ext α S (al1 α 13 (S.2.2 13) q) (mkL S) := ⟨al1_ag (Or.inr rfl), fun k => bump_le k⟩
    have := go_new (v := aR 13 (S.2.2 13)) (kok_next hK hsx hnx h4) h3.1 hR1 hE hE2 hL hst (Or.inr (Or.inr ⟨Or.inr rfl, by show S.2.2 13 < bump S.2.2 13 13; rw [bump_k]; omega⟩)) hS1 hLH
    rw [conc_ob (by decide), al1_eq] at this
    exact this
  · have h0 : ¬ 50 ≤ xa := by rw [← Nat.ble_eq, h0]; decide
    have h1 : ¬ xa = 13 := by intro q; rw [q] at h1; cases h1
    rw [if_neg h0, if_neg h1] at hc
    obtain ⟨h3, h4⟩ := cond_ok h2
    rw [Bool.and_eq_true, Nat.ble_eq] at h3
    split at hc
    · simp only [Bool.and_eq_true, Bool.not_eq_true', beq_eq_false_iff_ne, ne_eq] at hc
      obtain ⟨⟨⟨⟨⟨⟨c1, c2⟩, c3⟩, c4⟩, c5⟩, c6⟩, c7⟩ := hc
      have c2 : len = 3 := eq_of_beq c2
      subst c2
      have hN := nfs_le h3.1
      have hWT := C.2.2.2.2.2.2.2.1
      refine w_new C.1 C.2.1 C.2.2.2.1 C.2.2.2.2.2.2.1 hWT hR hS (hbase C hS) h3.1 ⟨c3, c4⟩ (wdAt_ok c5 hWT _) (wdAt_ok c6 hWT _) (wdAt_ok c7 hWT _) (by omega) (by omega) (dcd_ok c1) fun H1 hR1 hS1 hz => ?_
      refine W.widen (k := cb + (u + 1)) (n := sb + 120 * (u + 1)) (by omega) (by omega) ?_
      have hE2 : Ext α S (al1 α xa (S.2.2 xa) H.size) (mkO S xa) := ⟨al1_ag (Or.inl h3.1), fun k => bump_le k⟩
      have := go_new (kok_next hK hsx hnx h4) h3.2 hR1 hE hE2 hL hst (Or.inr (Or.inr ⟨Or.inl h3.1, by show S.2.2 xa < bump S.2.2 xa xa; rw [bump_k]; omega⟩)) hS1 hLH
      rw [conc_ob (ob_ne (Or.inl h3.1)).2.1, al1_eq] at this
      exact this
    · cases hc
end STT
end
section
/-! SOUND: casts, returns, calls; the whole -/
section STU
variable {p : Program} {l : Launch} {e : Env} {R : Room} {s : State} {m : MethodId} {args : Array Value} {below : List Frame} {meth : Method} {c : Code} {Qm : State → Prop} {g : GT} {α0 : Nat → Nat → Nat} {S0 : Sto} {cc : ByteArray} {own : String} {nL rk cb sb B : Nat} {ini : Bool} {rb : Nat}
variable {tb : Tb} {Q : Out → Sto → Prop} {hn : List (Nat × Nat × Nat × Nat)} {scr : Nat × (Nat → Int32)}
variable {pc len xa xb : Nat} {xv : Int32} {xl : List Nat} {xu : Nat} {xs : SP} {nx : Tb} {K : Tb → Lo → List AV → Sto → Nat → Prop} {L : Lo} {st : List AV} {S : Sto} {u : Nat}
theorem w_cast (C : Cx p l s m meth c R cc own nL rk cb sb B ini g) {H : Heap} {locs : List Loc} {ls : Array Slot} {rest : List Value} {α : Nat → Nat → Nat} {h : HT} {k i idx cells slots : Nat} (hR : Rep g α h S H) (hk : obK k = true) (hi : i < S.2.2 k) (hl : (Cond.classLink own idx (vC (ci k)).1).before args s = true) (hdg : decode cc pc = .ok (.checkcast idx, 3))
    (kk : W p l e R s m args below meth c H locs cells slots Qm (F0 m (pc + 3) ls (.ref (α k i) :: rest))) : W p l e R s m args below meth c H locs cells slots Qm (F0 m pc ls (.ref (α k i) :: rest)) := by
  exact va_castS C.1 C.2.1 C.2.2.2.1 hl (C.2.2.2.2.2.2.1.1 (ci k) _ (kd_KF hk).1.1).2 (recv_ob C.2.2.2.2.2.2.1 hR (Or.inl hk) hi) hdg kk
theorem s_cast {k w1 : Nat} (hd : (dcd cc pc (.checkcast k) len && len == 3) = true) (hv : wdAt w1 (.classLink own k (vC xa).1) = true) (h : r1 st fun k i r => bif obK k && ci k == xa then K nx L (aR k i :: r) S u else False) (C : Cx p l s m meth c R cc own nL rk cb sb B ini g) (hK : KOK tb (Ga p l e R s m args below meth c Qm g α0 S0 nL cb sb B) K) (hsx : nx <:+ tb) (hnx : ∀ q ∈ nx.head?, q.1 = pc + len) : Go p l e R s m args below meth c Qm g α0 S0 nL cb sb B pc L st S u := by
  obtain ⟨hdg, rfl⟩ := chk_plain (own := own) (ini := ini) (xa := 0) (xb := 0) (xv := 0) (xl := []) hd
  obtain ⟨k', i, r, rfl, hA⟩ := r1_ok h
  obtain ⟨h1, hB⟩ := cond_ok hA
  rw [Bool.and_eq_true] at h1
  obtain ⟨hk, h2⟩ := h1
  have h2 : ci k' = xa := eq_of_beq h2
  subst h2
  intro hu α h9 H locs ls hR hE hL hst hS hLH
  have hWT := C.2.2.2.2.2.2.2.1
  have key := kok_next hK hsx hnx hB hu α h9 H locs ls hR hE hL hst hS hLH
  rw [List.map_cons, conc_ob (ob_ne (Or.inl hk)).2.1] at key ⊢
  exact w_cast C hR hk (LvR_of (lvV_hd hst) (Or.inl hk)) (wdAt_ok hv hWT _) hdg key
theorem s_ireturn (hf : Fin p l e R s m args below meth c Qm g α0 S0 nL cb sb B cc own Q rb hn) (hd : (dcd cc pc .ireturn len && len == 1) = true) (h : match st with
        | Sum.inl a :: [] => bif rb == 2 then (a &&& 1 = a ∧ Q (Sum.inl (some (aI a))) S) else bif rb == 1 then Q (Sum.inl (some (aI a))) S else False
        | _ => False) (C : Cx p l s m meth c R cc own nL rk cb sb B ini g) (hK : KOK tb (Ga p l e R s m args below meth c Qm g α0 S0 nL cb sb B) K) (hsx : nx <:+ tb) (hnx : ∀ q ∈ nx.head?, q.1 = pc + len) : Go p l e R s m args below meth c Qm g α0 S0 nL cb sb B pc L st S u := by
  obtain ⟨hdg, rfl⟩ := chk_plain (own := own) (ini := ini) (xa := 0) (xb := 0) (xv := 0) (xl := []) hd
  rcases st with _ | ⟨a | v, _ | ⟨w, r⟩⟩
  · exact h.elim
  · have h2 : (rb = 1 ∨ (rb = 2 ∧ a &&& 1 = a)) ∧ Q (Sum.inl (some (aI a))) S := by
      rcases bif_or h with ⟨q1, q2, q3⟩ | ⟨-, q1, q2⟩ | ⟨-, -, q⟩
      · exact ⟨Or.inr ⟨eq_of_beq q1, q2⟩, q3⟩
      · exact ⟨Or.inl (eq_of_beq q1), q2⟩
      · exact q.elim
    intro hu α h9 H locs ls hR hE hL hst hS hLH
    exact hf.1 (some (aI a)) S u α h9 H locs pc ls h2.2 hu hR hE trivial hS ⟨h2.1, hdg⟩
  · exact h.elim
  · exact h.elim
  · exact h.elim
theorem s_areturn (hf : Fin p l e R s m args below meth c Qm g α0 S0 nL cb sb B cc own Q rb hn) (hd : (dcd cc pc .areturn len && len == 1) = true) (h : match st with
        | Sum.inr (Sum.inr q) :: [] => bif rb == 3 then Q (Sum.inl (some (Sum.inr (Sum.inr q)))) S else False
        | _ => False) (C : Cx p l s m meth c R cc own nL rk cb sb B ini g) (hK : KOK tb (Ga p l e R s m args below meth c Qm g α0 S0 nL cb sb B) K) (hsx : nx <:+ tb) (hnx : ∀ q ∈ nx.head?, q.1 = pc + len) : Go p l e R s m args below meth c Qm g α0 S0 nL cb sb B pc L st S u := by
  obtain ⟨hdg, rfl⟩ := chk_plain (own := own) (ini := ini) (xa := 0) (xb := 0) (xv := 0) (xl := []) hd
  rcases st with _ | ⟨a | (v | q), _ | ⟨w, r⟩⟩
  · exact h.elim
  · exact h.elim
  · exact h.elim
  · exact h.elim
  · exact h.elim
  · obtain ⟨q1, q2⟩ := cond_ok h
    intro hu α h9 H locs ls hR hE hL hst hS hLH
    exact hf.1 (some (Sum.inr (Sum.inr q))) S u α h9 H locs pc ls q2 hu hR hE (lvV_hd hst) hS ⟨eq_of_beq q1, hdg⟩
  · exact h.elim
theorem s_return (hf : Fin p l e R s m args below meth c Qm g α0 S0 nL cb sb B cc own Q rb hn) (hd : (dcd cc pc .return_ len && len == 1) = true) (h : match st with
        | [] => bif rb == 0 then Q (Sum.inl none) S else False
        | _ => False) (C : Cx p l s m meth c R cc own nL rk cb sb B ini g) (hK : KOK tb (Ga p l e R s m args below meth c Qm g α0 S0 nL cb sb B) K) (hsx : nx <:+ tb) (hnx : ∀ q ∈ nx.head?, q.1 = pc + len) : Go p l e R s m args below meth c Qm g α0 S0 nL cb sb B pc L st S u := by
  obtain ⟨hdg, rfl⟩ := chk_plain (own := own) (ini := ini) (xa := 0) (xb := 0) (xv := 0) (xl := []) hd
  rcases st with _ | ⟨a, r⟩
  · obtain ⟨q1, q2⟩ := cond_ok h
    intro hu α h9 H locs ls hR hE hL hst hS hLH
    exact hf.1 none S u α h9 H locs pc ls q2 hu hR hE trivial hS ⟨eq_of_beq q1, hdg⟩
  · exact h.elim
/-- what a call's answer brings -/
theorem call_kk {α α' : Nat → Nat → Nat} {h' : HT} {S' : Sto} {r : List AV} {o : Option AV} {H1 : Heap} {locs1 : List Loc} {ls : Array Slot} (hK : KOK tb (Ga p l e R s m args below meth c Qm g α0 S0 nL cb sb B) K) (hsx : nx <:+ tb) (hnx : ∀ q ∈ nx.head?, q.1 = pc + 3) (hu : u + xu ≤ B) (hE : Ext α0 S0 α S) (hL : ∀ a, some a ∈ L → LvV S a) (hst : ∀ a ∈ r, LvV S a) (hLH : LH α ls nL L)
    (hP : (fun o S' => match o with
            | Sum.inl (some v) => K nx L (v :: r) S' (u + xu)
            | Sum.inl none => K nx L r S' (u + xu)
            | Sum.inr e => match fH hn pc e with
              | some t => ∀ q : Nat, K (drp tb t) L (aR 99 q :: []) S' (u + xu)
              | none => Q (Sum.inr e) S') (Sum.inl o) S') (hE2 : Ext α S α' S') (hlo : LvO S' o) (hR : Rep g α' h' S' H1) (hS : va_S (AB g) s.heap H1 locs1) : W p l e R s m args below meth c H1 locs1 (cb + u + xu) (sb + 120 * u + 120 * xu) Qm (F0 m (pc + 3) ls ((o.map (conc α')).toList ++ r.map (conc α))) := by
  have e1 : cb + u + xu = cb + (u + xu) := by omega
  have e2 : sb + 120 * u + 120 * xu = sb + 120 * (u + xu) := by omega
  rw [e1, e2]
  cases o with
  | none => exact go_new0 (kok_next hK hsx hnx hP) hu hR hE hE2 hL hst hS hLH
  | some v => exact go_new (kok_next hK hsx hnx hP) hu hR hE hE2 hL hst hlo hS hLH
theorem call_kx {α α' : Nat → Nat → Nat} {h' : HT} {S' : Sto} {r : List AV} {x : Nat} {H1 : Heap} {locs1 : List Loc} {ls : Array Slot} {q9 : Addr} {ce : Cell} {rest : List Value} (hf : Fin p l e R s m args below meth c Qm g α0 S0 nL cb sb B cc own Q rb hn) (hK : KOK tb (Ga p l e R s m args below meth c Qm g α0 S0 nL cb sb B) K) (hu : u + xu ≤ B) (hE : Ext α0 S0 α S) (hL : ∀ a, some a ∈ L → LvV S a) (hLH : LH α ls nL L)
    (hP : (fun o S' => match o with
            | Sum.inl (some v) => K nx L (v :: r) S' (u + xu)
            | Sum.inl none => K nx L r S' (u + xu)
            | Sum.inr e => match fH hn pc e with
              | some t => ∀ q : Nat, K (drp tb t) L (aR 99 q :: []) S' (u + xu)
              | none => Q (Sum.inr e) S') (Sum.inr x) S') (hE2 : Ext α S α' S') (hR : Rep g α' h' S' H1) (hS : va_S (AB g) s.heap H1 locs1) (hce : H1[q9]? = some ce) (hcv : ce.vm = .none) (hcl : s.vm.findClass (exn x) = some ce.cls) :
    vx_W p l e R s m args below meth c H1 locs1 (cb + u + xu) (sb + 120 * u + 120 * xu) Qm (F0 m pc ls rest) q9 := by
  have e1 : cb + u + xu = cb + (u + xu) := by omega
  have e2 : sb + 120 * u + 120 * xu = sb + 120 * (u + xu) := by omega
  rw [e1, e2]
  have hP : (match fH hn pc x with
              | some t => ∀ q : Nat, K (drp tb t) L (aR 99 q :: []) S' (u + xu)
              | none => Q (Sum.inr x) S') := hP
  cases hh : fH hn pc x with
  | none =>
    rw [hh] at hP
    exact hf.2.1 x S' (u + xu) α' h' H1 locs1 pc ls rest q9 ce hP hu hR (hE.tr hE2) hS hh hce hcv hcl
  | some t =>
    rw [hh] at hP
    refine hf.2.2.1 x t (u + xu) H1 locs1 pc ls rest q9 ce hh hce hcv hcl ?_
    exact go_new (v := aR 99 q9) (st := []) (kok_jump hK (hP q9)) hu hR hE hE2 hL (fun a ha => nomatch ha) (Or.inl rfl) hS hLH
theorem mathI_ok : Cond.initialized "java/lang/Math" ∈ lw_tbl ∧ Cond.static Lib.Math.max.name ∈ lw_tbl ∧ Cond.code Lib.Math.max.name Lib.Math.max.code 2 (some .int) ∈ lw_tbl ∧ Cond.static Lib.Math.min.name ∈ lw_tbl ∧ Cond.code Lib.Math.min.name Lib.Math.min.code 2 (some .int) ∈ lw_tbl := by decide +kernel
theorem s_invS {k : Nat} (hf : Fin p l e R s m args below meth c Qm g α0 S0 nL cb sb B cc own Q rb hn) (hd : (dcd cc pc (.invokestatic k) len && len == 3) = true) (hc : CallOK l own rk (.invokestatic k) xa xb xu xs) (h : popN xa st [] fun as r => bif Nat.ble (catS r) (bif xb == 6 then 16 else 8) && Nat.ble (u + xu) B then xs as S fun o S' => match o with
            | Sum.inl (some v) => K nx L (v :: r) S' (u + xu)
            | Sum.inl none => K nx L r S' (u + xu)
            | Sum.inr e => match fH hn pc e with
              | some t => ∀ q : Nat, K (drp tb t) L (aR 99 q :: []) S' (u + xu)
              | none => Q (Sum.inr e) S'
           else False) (C : Cx p l s m meth c R cc own nL rk cb sb B ini g) (hK : KOK tb (Ga p l e R s m args below meth c Qm g α0 S0 nL cb sb B) K) (hsx : nx <:+ tb) (hnx : ∀ q ∈ nx.head?, q.1 = pc + len) : Go p l e R s m args below meth c Qm g α0 S0 nL cb sb B pc L st S u := by
  obtain ⟨hdg, rfl⟩ := chk_plain (own := own) (ini := ini) (xa := 0) (xb := 0) (xv := 0) (xl := []) hd
  obtain ⟨as, r, rfl, hn9, hA⟩ := popN_ok h
  obtain ⟨h1, h2⟩ := cond_ok hA
  rw [Bool.and_eq_true, Nat.ble_eq, Nat.ble_eq] at h1
  have h16 : catS r ≤ 16 := Nat.le_trans h1.1 (by cases (xb == 6) <;> decide)
  have h8s : xb ≠ 6 → catS r ≤ 8 := fun z => by
    have z2 : (xb == 6) = false := beq_eq_false_iff_ne.mpr z
    have h9 := h1.1
    rw [z2] at h9
    exact h9
  rw [List.append_nil] at h2
  have h30 := C.2.2.2.2.2.2.2.2.2.2.2.2.1
  have h31 := C.2.2.2.2.2.2.2.2.2.2.2.2.2.1
  have hfr := C.2.2.2.2.2.2.2.2.2.2.1
  have hlo := C.2.2.2.2.2.2.2.2.2.2.2.1
  have hWT := C.2.2.2.2.2.2.2.1
  by_cases h7 : xb = 7
  · subst h7
    have hc : Cond.methodLink own k Lib.Math.max.name ∈ lw_tbl ∧ xa = 2 ∧ xu = 0 ∧ xs = sMax := hc
    obtain ⟨hl7, rfl, rfl, rfl⟩ := hc
    rcases as with _ | ⟨a1, _ | ⟨a2, _ | ⟨a3, as⟩⟩⟩
    · cases hn9
    · cases hn9
    · rcases a1 with a | a1
      · rcases a2 with b | a2
        · intro hu α h9 H locs ls hR hE hL hst hS hLH
          have hr : ∀ a ∈ r, LvV S a := fun a ha => hst a (List.mem_append_right _ ha)
          exact va_mmax C.1 C.2.1 (by rw [C.2.2.1, hLH.1]) C.2.2.2.1 (hWT _ hl7 rfl _) (hWT _ mathI_ok.2.1 rfl _) (hWT _ mathI_ok.1 rfl _) (hWT _ mathI_ok.2.2.1 rfl _) (by omega) (by rw [cats_conc]; show catS r + 13 ≤ _; omega) (by omega) (by omega) hdg
            (W.eq (g2 := F0 m (pc + 3) ls ((aI (if a < b then b else a) :: r).map (conc α))) rfl (kok_next hK hsx hnx (show K nx L (aI (if a < b then b else a) :: r) S u from h2) hu α h9 H locs ls hR hE hL (lvV_cons trivial hr) hS hLH))
        · exact (show False from h2).elim
      · rcases a2 with b | a2 <;> exact (show False from h2).elim
    · cases hn9
  by_cases h8 : xb = 8
  · subst h8
    have hc : Cond.methodLink own k Lib.Math.min.name ∈ lw_tbl ∧ xa = 2 ∧ xu = 0 ∧ xs = sMin := hc
    obtain ⟨hl7, rfl, rfl, rfl⟩ := hc
    rcases as with _ | ⟨a1, _ | ⟨a2, _ | ⟨a3, as⟩⟩⟩
    · cases hn9
    · cases hn9
    · rcases a1 with a | a1
      · rcases a2 with b | a2
        · intro hu α h9 H locs ls hR hE hL hst hS hLH
          have hr : ∀ a ∈ r, LvV S a := fun a ha => hst a (List.mem_append_right _ ha)
          exact va_mmin C.1 C.2.1 (by rw [C.2.2.1, hLH.1]) C.2.2.2.1 (hWT _ hl7 rfl _) (hWT _ mathI_ok.2.2.2.1 rfl _) (hWT _ mathI_ok.1 rfl _) (hWT _ mathI_ok.2.2.2.2 rfl _) (by omega) (by rw [cats_conc]; show catS r + 13 ≤ _; omega) (by omega) (by omega) hdg
            (W.eq (g2 := F0 m (pc + 3) ls ((aI (if b < a then b else a) :: r).map (conc α))) rfl (kok_next hK hsx hnx (show K nx L (aI (if b < a then b else a) :: r) S u from h2) hu α h9 H locs ls hR hE hL (lvV_cons trivial hr) hS hLH))
        · exact (show False from h2).elim
      · rcases a2 with b | a2 <;> exact (show False from h2).elim
    · cases hn9
  by_cases h9 : xb = 9
  · subst h9
    have hc : ∃ (y : MethodName) (cy : ByteArray) (maxL rz : Nat) (ret : Option FieldType) (hh : List (Nat × Nat × Nat × Nat)), CTW l y cy maxL ret hh rz xu xs ∧ LkW own k y cy maxL ret hh xa ∧ Cond.static y ∈ lw_tbl ∧ rz < rk := hc
    obtain ⟨y, cy, maxL, rz, ret, hh, hct, hlk, hst9, hrk⟩ := hc
    intro hu α h9 H locs ls hR hE hL hst hS hLH
    have hr : ∀ a ∈ r, LvV S a := fun a ha => hst a (List.mem_append_right _ ha)
    have has : ∀ a ∈ as, LvV S a := fun a ha => hst a (List.mem_append_left _ (List.mem_reverse.mpr ha))
    rw [List.map_append, List.map_reverse]
    exact w_callSW C hct hlk hst9 hrk hn9 h2 hR hS has hLH.1 (by rw [cats_conc]; exact h8s (by decide)) ⟨by omega, by omega⟩ hdg (fun o α' h' S' H1 locs1 hP hE2 hlo hR1 hS1 => call_kk hK hsx hnx h1.2 hE hL hr hLH hP hE2 hlo hR1 hS1)
      (fun x α' h' S' H1 locs1 q9 ce hP hE2 hR1 hS1 hce hcv hcl => call_kx (nx := nx) (r := r) hf hK h1.2 hE hL hLH hP hE2 hR1 hS1 hce hcv hcl)
  by_cases h6 : xb = 6
  · subst h6
    have hc : ∃ (y : MethodName) (cy : ByteArray) (maxL rz : Nat) (ret : Option FieldType), CT l y cy maxL ret rz xu xs ∧ LkB own k y cy maxL ret xa ∧ Cond.static y ∈ lw_tbl ∧ rz < rk ∧ maxL ≤ 13 := hc
    obtain ⟨y, cy, maxL, rz, ret, hct, hlk, hst9, hrk, hm13⟩ := hc
    intro hu α h9 H locs ls hR hE hL hst hS hLH
    have hr : ∀ a ∈ r, LvV S a := fun a ha => hst a (List.mem_append_right _ ha)
    have has : ∀ a ∈ as, LvV S a := fun a ha => hst a (List.mem_append_left _ (List.mem_reverse.mpr ha))
    rw [List.map_append, List.map_reverse]
    exact w_callS16 C hct hlk hm13 hst9 hrk hn9 h2 hR hS has hLH.1 (by rw [cats_conc]; exact h16) ⟨by omega, by omega⟩ hdg (fun o α' h' S' H1 locs1 hP hE2 hlo hR1 hS1 => call_kk hK hsx hnx h1.2 hE hL hr hLH hP hE2 hlo hR1 hS1)
      (fun x α' h' S' H1 locs1 q9 ce hP hE2 hR1 hS1 hce hcv hcl => call_kx (nx := nx) (r := r) hf hK h1.2 hE hL hLH hP hE2 hR1 hS1 hce hcv hcl)
  have hc : ∃ (y : MethodName) (cy : ByteArray) (maxL rz : Nat) (ret : Option FieldType), CT l y cy maxL ret rz xu xs ∧ LkB own k y cy maxL ret xa ∧ Cond.static y ∈ lw_tbl ∧ rz < rk := by
    unfold CallOK at hc
    dsimp only at hc
    rw [if_neg h7, if_neg h8, if_neg h9, if_neg h6] at hc
    exact hc
  obtain ⟨y, cy, maxL, rz, ret, hct, hlk, hst9, hrk⟩ := hc
  intro hu α h9 H locs ls hR hE hL hst hS hLH
  have h30 := C.2.2.2.2.2.2.2.2.2.2.2.2.1
  have h31 := C.2.2.2.2.2.2.2.2.2.2.2.2.2.1
  have hr : ∀ a ∈ r, LvV S a := fun a ha => hst a (List.mem_append_right _ ha)
  have has : ∀ a ∈ as, LvV S a := fun a ha => hst a (List.mem_append_left _ (List.mem_reverse.mpr ha))
  rw [List.map_append, List.map_reverse]
  exact w_callS C hct hlk hst9 hrk hn9 h2 hR hS has hLH.1 (by rw [cats_conc]; exact h8s h6) ⟨by omega, by omega⟩ hdg (fun o α' h' S' H1 locs1 hP hE2 hlo hR1 hS1 => call_kk hK hsx hnx h1.2 hE hL hr hLH hP hE2 hlo hR1 hS1)
    (fun x α' h' S' H1 locs1 q9 ce hP hE2 hR1 hS1 hce hcv hcl => call_kx (nx := nx) (r := r) hf hK h1.2 hE hL hLH hP hE2 hR1 hS1 hce hcv hcl)
theorem s_invV {k : Nat} (hf : Fin p l e R s m args below meth c Qm g α0 S0 nL cb sb B cc own Q rb hn) (hd : (dcd cc pc (.invokevirtual k) len && len == 3) = true) (hc : CallOK l own rk (.invokevirtual k) xa xb xu xs) (h : popN xa st [] fun as r => bif Nat.ble (catS r) 8 && Nat.ble (u + xu) B then xs as S fun o S' => match o with
            | Sum.inl (some v) => K nx L (v :: r) S' (u + xu)
            | Sum.inl none => K nx L r S' (u + xu)
            | Sum.inr e => match fH hn pc e with
              | some t => ∀ q : Nat, K (drp tb t) L (aR 99 q :: []) S' (u + xu)
              | none => Q (Sum.inr e) S'
           else False) (C : Cx p l s m meth c R cc own nL rk cb sb B ini g) (hK : KOK tb (Ga p l e R s m args below meth c Qm g α0 S0 nL cb sb B) K) (hsx : nx <:+ tb) (hnx : ∀ q ∈ nx.head?, q.1 = pc + len) : Go p l e R s m args below meth c Qm g α0 S0 nL cb sb B pc L st S u := by
  obtain ⟨hdg, rfl⟩ := chk_plain (own := own) (ini := ini) (xa := 0) (xb := 0) (xv := 0) (xl := []) hd
  obtain ⟨as, r, rfl, hn9, hA⟩ := popN_ok h
  obtain ⟨h1, h2⟩ := cond_ok hA
  rw [Bool.and_eq_true, Nat.ble_eq, Nat.ble_eq] at h1
  rw [List.append_nil] at h2
  obtain ⟨y, cy, maxL, rz, ret, a9, hct, hlk, hin9, hse9, hrk, hx1, hrv⟩ := hc
  obtain ⟨k', i, as', rfl, rfl, hkk⟩ := hrv as S _ h2
  intro hu α h9 H locs ls hR hE hL hst hS hLH
  have h30 := C.2.2.2.2.2.2.2.2.2.2.2.2.1
  have h31 := C.2.2.2.2.2.2.2.2.2.2.2.2.2.1
  have hr : ∀ a ∈ r, LvV S a := fun a ha => hst a (List.mem_append_right _ ha)
  have has : ∀ a ∈ aR k' i :: as', LvV S a := fun a ha => hst a (List.mem_append_left _ (List.mem_reverse.mpr ha))
  have hi : i < S.2.2 k' := LvR_of (has _ List.mem_cons_self) (hkk.imp id fun q => by rw [q]; rfl)
  have e1 : (((aR k' i :: as').reverse ++ r).map (conc α)) = (as'.map (conc α)).reverse ++ .ref (α k' i) :: r.map (conc α) := by
    rw [List.map_append, List.reverse_cons, List.map_append, List.map_reverse, List.append_assoc]
    show _ ++ (conc α (aR k' i) :: r.map (conc α)) = _
    rw [conc_ob (ob_ne (hkk.imp id fun q => by rw [q]; rfl)).2.1]
  rw [e1]
  exact w_callV C hct hlk hin9 hse9 hrk (by rw [List.length_cons] at hn9; omega) hkk hi h2 hR hS (fun a ha => has a (List.mem_cons_of_mem _ ha)) hLH.1 (by rw [cats_conc]; exact h1.1) ⟨by omega, by omega⟩ hdg (fun o α' h' S' H1 locs1 hP hE2 hlo hR1 hS1 => call_kk hK hsx hnx h1.2 hE hL hr hLH hP hE2 hlo hR1 hS1)
    (fun x α' h' S' H1 locs1 q9 ce hP hE2 hR1 hS1 hce hcv hcl => call_kx (nx := nx) (r := r) hf hK h1.2 hE hL hLH hP hE2 hR1 hS1 hce hcv hcl)
theorem objI_ok : Cond.instanceMethod Lib.objectInit ∈ lw_tbl ∧ Cond.code Lib.objectInit ⟨#[0xb1]⟩ 1 none ∈ lw_tbl := by decide +kernel
theorem s_invI {k : Nat} (hf : Fin p l e R s m args below meth c Qm g α0 S0 nL cb sb B cc own Q rb hn) (hd : (dcd cc pc (.invokespecial k) len && len == 3) = true) (hc : CallOK l own rk (.invokespecial k) xa xb xu xs) (h : bif xb == 9 then r1 st fun _ _ r => bif Nat.ble (catS r) 8 then K nx L r S u else False else
          popN xa st [] fun as r => bif Nat.ble (catS r) 8 && Nat.ble (u + xu) B then xs as S fun o S' => match o with
            | Sum.inl none => K nx L r S' (u + xu)
            | _ => False
           else False) (C : Cx p l s m meth c R cc own nL rk cb sb B ini g) (hK : KOK tb (Ga p l e R s m args below meth c Qm g α0 S0 nL cb sb B) K) (hsx : nx <:+ tb) (hnx : ∀ q ∈ nx.head?, q.1 = pc + len) : Go p l e R s m args below meth c Qm g α0 S0 nL cb sb B pc L st S u := by
  obtain ⟨hdg, rfl⟩ := chk_plain (own := own) (ini := ini) (xa := 0) (xb := 0) (xv := 0) (xl := []) hd
  have h30 := C.2.2.2.2.2.2.2.2.2.2.2.2.1
  have h31 := C.2.2.2.2.2.2.2.2.2.2.2.2.2.1
  have hWT := C.2.2.2.2.2.2.2.1
  by_cases h9 : xb = 9
  · subst h9
    have h : r1 st fun _ _ r => bif Nat.ble (catS r) 8 then K nx L r S u else False := h
    have hc : Cond.methodLink own k Lib.objectInit ∈ lw_tbl := hc
    obtain ⟨a, b, r, rfl, hA⟩ := r1_ok h
    obtain ⟨h1, h2⟩ := cond_ok hA
    rw [Nat.ble_eq] at h1
    intro hu α h9 H locs ls hR hE hL hst hS hLH
    obtain ⟨q, hq⟩ := conc_ref (α := α) (k := a) (i := b)
    rw [List.map_cons, hq]
    have hfr := C.2.2.2.2.2.2.2.2.2.2.1
    have hlo := C.2.2.2.2.2.2.2.2.2.2.2.1
    exact W.objInit C.1 C.2.1 C.2.2.2.1 (hWT _ hc rfl _) (hWT _ objI_ok.1 rfl _) (hWT _ objI_ok.2 rfl _) rfl (by rw [C.2.2.1]; exact hLH.1) rfl hdg (by omega) (by rw [cats_conc]; show 2 * 0 + _ + 12 ≤ _; omega) (W.eq (g2 := F0 m (pc + 3) ls (r.map (conc α))) rfl (kok_next hK hsx hnx h2 hu α h9 H locs ls hR hE hL (lvV_tail hst) hS hLH))
  · have hb : (xb == 9) = false := by rw [beq_eq_false_iff_ne]; exact h9
    rw [hb] at h
    have h : popN xa st [] fun as r => bif Nat.ble (catS r) 8 && Nat.ble (u + xu) B then xs as S fun o S' => match o with
            | Sum.inl none => K nx L r S' (u + xu)
            | _ => False
           else False := h
    have hc : ∃ (y : MethodName) (cy : ByteArray) (maxL rz : Nat), CT l y cy maxL none rz xu xs ∧ LkB own k y cy maxL none (xa - 1) ∧ Cond.instanceMethod y ∈ lw_tbl ∧ y.name = "<init>" ∧ rz < rk ∧ 1 ≤ xa ∧ (∀ as S P, xs as S P → ∃ k i r, as = aR k i :: r ∧ (obK k = true ∨ k = 13)) := by
      unfold CallOK at hc
      dsimp only at hc
      rw [if_neg h9] at hc
      exact hc
    obtain ⟨as, r, rfl, hn9, hA⟩ := popN_ok h
    obtain ⟨h1, h2⟩ := cond_ok hA
    rw [Bool.and_eq_true, Nat.ble_eq, Nat.ble_eq] at h1
    rw [List.append_nil] at h2
    obtain ⟨y, cy, maxL, rz, hct, hlk, hin9, hy9, hrk, hx1, hrv⟩ := hc
    obtain ⟨k', i, as', rfl, hkk⟩ := hrv as S _ h2
    intro hu α h9 H locs ls hR hE hL hst hS hLH
    have hr : ∀ a ∈ r, LvV S a := fun a ha => hst a (List.mem_append_right _ ha)
    have has : ∀ a ∈ aR k' i :: as', LvV S a := fun a ha => hst a (List.mem_append_left _ (List.mem_reverse.mpr ha))
    have hi : i < S.2.2 k' := LvR_of (has _ List.mem_cons_self) (hkk.imp id fun q => by rw [q]; rfl)
    have e1 : (((aR k' i :: as').reverse ++ r).map (conc α)) = (as'.map (conc α)).reverse ++ .ref (α k' i) :: r.map (conc α) := by
      rw [List.map_append, List.reverse_cons, List.map_append, List.map_reverse, List.append_assoc]
      show _ ++ (conc α (aR k' i) :: r.map (conc α)) = _
      rw [conc_ob (ob_ne (hkk.imp id fun q => by rw [q]; rfl)).2.1]
    rw [e1]
    refine w_callI C hct hlk hin9 hy9 hrk (by rw [List.length_cons] at hn9; omega) hkk hi h2 hR hS (fun a ha => has a (List.mem_cons_of_mem _ ha)) hLH.1 (by rw [cats_conc]; exact h1.1) ⟨by omega, by omega⟩ hdg (fun o α' h' S' H1 locs1 hP hE2 hlo hR1 hS1 => ?_) (fun x α' h' S' H1 locs1 q9 ce hP hE2 hR1 hS1 hce hcv hcl => ?_)
    · have e1 : cb + u + xu = cb + (u + xu) := by omega
      have e2 : sb + 120 * u + 120 * xu = sb + 120 * (u + xu) := by omega
      rw [e1, e2]
      cases o with
      | none => exact go_new0 (kok_next hK hsx hnx hP) h1.2 hR1 hE hE2 hL hr hS1 hLH
      | some v => exact hP.elim
    · exact hP.elim
end STU
end
section
/-! SOUND: the whole -/
section SNW
variable {p : Program} {l : Launch} {e : Env} {R : Room} {s : State} {m : MethodId} {args : Array Value} {below : List Frame} {meth : Method} {c : Code} {Qm : State → Prop} {g : GT} {α0 : Nat → Nat → Nat} {S0 : Sto} {cc : ByteArray} {own : String} {nL rk cb sb B : Nat} {ini : Bool} {rb : Nat}
variable {tb : Tb} {Q : Out → Sto → Prop} {hn : List (Nat × Nat × Nat × Nat)} {scr : Nat × (Nat → Int32)}
set_option maxHeartbeats 4000000 in
theorem wpI_sound {pc len xa xb : Nat} {ins : Instr} {xv : Int32} {xl : List Nat} {xu : Nat} {xs : SP} {nx : Tb} {K : Tb → Lo → List AV → Sto → Nat → Prop} {L : Lo} {st : List AV} {S : Sto} {u : Nat}
    (C : Cx p l s m meth c R cc own nL rk cb sb B ini g) (hf : Fin p l e R s m args below meth c Qm g α0 S0 nL cb sb B cc own Q rb hn) (hsc : 0 < scr.1 → ScrOK s g α0 scr) (hK : KOK tb (Ga p l e R s m args below meth c Qm g α0 S0 nL cb sb B) K) (hsx : nx <:+ tb) (hnx : ∀ q ∈ nx.head?, q.1 = pc + len)
    (hchk : chkI cc own ini pc ins len xa xb xv xl = true) (hcall : CallOK l own rk ins xa xb xu xs) (h : wpI tb Q rb B hn scr pc ins xa xb xv xl xu xs nx K L st S u) : Go p l e R s m args below meth c Qm g α0 S0 nL cb sb B pc L st S u := by
  have pl : ∀ {n : Nat} {b : Bool}, (dcd cc pc ins len && len == n && b) = true → (dcd cc pc ins len && len == n) = true ∧ b = true := fun q => by rwa [Bool.and_eq_true] at q
  cases ins with
  | iload_n i => exact s_iload_n (pl hchk).1 h C hK hsx hnx
  | iload i => exact s_iload (pl hchk).1 h C hK hsx hnx
  | aload_n i => exact s_aload_n (pl hchk).1 h C hK hsx hnx
  | aload i => exact s_aload (pl hchk).1 h C hK hsx hnx
  | lload_n i => exact s_lload_n (pl hchk).1 h C hK hsx hnx
  | lload i => exact s_lload (pl hchk).1 h C hK hsx hnx
  | istore_n i => exact s_istore_n (pl hchk).1 h C hK hsx hnx
  | istore i => exact s_istore (pl hchk).1 h C hK hsx hnx
  | astore_n i => exact s_astore_n (pl hchk).1 h C hK hsx hnx
  | astore i => exact s_astore (pl hchk).1 h C hK hsx hnx
  | lstore_n i => exact s_lstore_n (pl hchk).1 h C hK hsx hnx
  | lstore i => exact s_lstore (pl hchk).1 h C hK hsx hnx
  | iconst k => exact s_iconst (pl hchk).1 (of_decide_eq_true (pl hchk).2) h C hK hsx hnx
  | bipush k => exact s_bipush (pl hchk).1 (of_decide_eq_true (pl hchk).2) h C hK hsx hnx
  | sipush k => exact s_sipush (pl hchk).1 (of_decide_eq_true (pl hchk).2) h C hK hsx hnx
  | lconst k => exact s_lconst (pl hchk).1 h C hK hsx hnx
  | iinc i n => exact s_iinc (pl hchk).1 (of_decide_eq_true (pl hchk).2) h C hK hsx hnx
  | ldc k =>
    have h2 := (pl hchk).2
    rcases xl with _ | ⟨w, _ | ⟨w', r⟩⟩
    · cases h2
    · exact s_ldc (pl hchk).1 h2 h C hK hsx hnx
    · cases h2
  | iadd => exact s_iadd (pl hchk).1 h C hK hsx hnx
  | isub => exact s_isub (pl hchk).1 h C hK hsx hnx
  | imul => exact s_imul (pl hchk).1 h C hK hsx hnx
  | iand => exact s_iand (pl hchk).1 h C hK hsx hnx
  | ior => exact s_ior (pl hchk).1 h C hK hsx hnx
  | ixor => exact s_ixor (pl hchk).1 h C hK hsx hnx
  | ineg => exact s_ineg (pl hchk).1 h C hK hsx hnx
  | lrem => exact s_lrem (pl hchk).1 h C hK hsx hnx
  | land => exact s_land (pl hchk).1 h C hK hsx hnx
  | lor => exact s_lor (pl hchk).1 h C hK hsx hnx
  | lshl => exact s_lshl (pl hchk).1 h C hK hsx hnx
  | lshr => exact s_lshr (pl hchk).1 h C hK hsx hnx
  | ishl => exact s_ishl (pl hchk).1 h C hK hsx hnx
  | ishr => exact s_ishr (pl hchk).1 h C hK hsx hnx
  | idiv => exact s_idiv (pl hchk).1 h C hK hsx hnx
  | irem => exact s_irem (pl hchk).1 h C hK hsx hnx
  | ladd => exact s_ladd (pl hchk).1 h C hK hsx hnx
  | lsub => exact s_lsub (pl hchk).1 h C hK hsx hnx
  | lmul => exact s_lmul (pl hchk).1 h C hK hsx hnx
  | ldiv => exact s_ldiv (pl hchk).1 h C hK hsx hnx
  | lcmp => exact s_lcmp (pl hchk).1 h C hK hsx hnx
  | i2l => exact s_i2l (pl hchk).1 h C hK hsx hnx
  | l2i => exact s_l2i (pl hchk).1 h C hK hsx hnx
  | dup => exact s_dup (pl hchk).1 h C hK hsx hnx
  | dup2 => exact s_dup2 (pl hchk).1 h C hK hsx hnx
  | pop => exact s_pop (pl hchk).1 h C hK hsx hnx
  | baload => exact s_baload (pl hchk).1 h C hK hsx hnx
  | laload => exact s_laload (pl hchk).1 h C hK hsx hnx
  | iastore => exact s_iastore (pl hchk).1 h C hK hsx hnx
  | bastore => exact s_bastore (pl hchk).1 h C hK hsx hnx
  | lastore => exact s_lastore (pl hchk).1 h C hK hsx hnx
  | goto off => exact s_goto (pl hchk).1 (of_decide_eq_true (pl hchk).2) h C hK hsx hnx
  | ifCond o off => exact s_if (pl hchk).1 (of_decide_eq_true (pl hchk).2) h C hK hsx hnx
  | if_icmp o off => exact s_icmp (pl hchk).1 (of_decide_eq_true (pl hchk).2) h C hK hsx hnx
  | tableswitch d lo hi offs =>
    have h2 : (dcd cc pc (.tableswitch d lo hi offs) len && decide ((pc : Int) + d = (xa : Int)) && decide (offs.toList.map (fun o => (pc : Int) + o) = xl.map (fun (t : Nat) => (t : Int))) && decide (hi + 1 = lo + (xl.length : Int))) = true := hchk
    simp only [Bool.and_eq_true, decide_eq_true_eq] at h2
    exact s_tsw h2.1.1.1 h2.1.1.2 h2.1.2 h2.2 h C hK hsx hnx
  | getfield k =>
    have h2 := (pl hchk).2
    rcases xl with _ | ⟨w, _ | ⟨w', r⟩⟩
    · cases h2
    · exact s_getfield (pl hchk).1 h2 h C hK hsx hnx
    · cases h2
  | putfield k =>
    have h2 := (pl hchk).2
    rcases xl with _ | ⟨w, _ | ⟨w', r⟩⟩
    · cases h2
    · exact s_putfield (pl hchk).1 h2 h C hK hsx hnx
    · cases h2
  | newarray t =>
    have h2 := (pl hchk).2
    rcases xl with _ | ⟨w, _ | ⟨w', r⟩⟩
    · cases h2
    · exact s_newarray (pl hchk).1 h2 h C hK hsx hnx
    · cases h2
  | checkcast k =>
    have h2 := (pl hchk).2
    rcases xl with _ | ⟨w, _ | ⟨w', r⟩⟩
    · cases h2
    · exact s_cast (pl hchk).1 h2 h C hK hsx hnx
    · cases h2
  | new k => exact s_new hf hchk h C hK hsx hnx
  | iaload => exact s_iaload (pl hchk).1 hsc h C hK hsx hnx
  | arraylength => exact s_alen (pl hchk).1 hsc h C hK hsx hnx
  | ireturn => exact s_ireturn hf (pl hchk).1 h C hK hsx hnx
  | areturn => exact s_areturn hf (pl hchk).1 h C hK hsx hnx
  | return_ => exact s_return hf (pl hchk).1 h C hK hsx hnx
  | invokestatic k => exact s_invS hf (pl hchk).1 hcall h C hK hsx hnx
  | invokevirtual k => exact s_invV hf (pl hchk).1 hcall h C hK hsx hnx
  | invokespecial k => exact s_invI hf (pl hchk).1 hcall h C hK hsx hnx
  | _ => exact (show False from h).elim
theorem callsOK_mem {l : Launch} {own : String} {rk : Nat} {tb : Tb} (h : CallsOK l own rk tb) {q : Nat × Instr × Nat × Xi} (hq : q ∈ tb) : CallOK l own rk q.2.1 q.2.2.2.1.1 q.2.2.2.1.2.1 q.2.2.2.2.2.1 q.2.2.2.2.2.2 := by
  induction tb with
  | nil => cases hq
  | cons a r ih =>
    rcases List.mem_cons.mp hq with rfl | hq
    · exact h.1
    · exact ih h.2 hq
theorem wp_sound (C : Cx p l s m meth c R cc own nL rk cb sb B ini g) (hf : Fin p l e R s m args below meth c Qm g α0 S0 nL cb sb B cc own Q rb hn) (hsc : 0 < scr.1 → ScrOK s g α0 scr) (hchk : chkTb cc own ini tb = true) (hcalls : CallsOK l own rk tb) (cuts : List Nat) :
    ∀ (n : Nat) (fi : Bool) (suf : Tb) (pc : Nat) (L : Lo) (st : List AV) (S : Sto) (u : Nat), suf <:+ tb → (∀ q ∈ suf.head?, q.1 = pc) → wp tb (Ga p l e R s m args below meth c Qm g α0 S0 nL cb sb B) Q rb B hn cuts scr n fi suf L st S u → Go p l e R s m args below meth c Qm g α0 S0 nL cb sb B pc L st S u := by
  rw [chkTb, Bool.and_eq_true] at hchk
  intro n
  induction n with
  | zero => intro fi suf pc L st S u _ _ h; exact h.elim
  | succ n ih =>
    intro fi suf pc L st S u hs hh h
    cases suf with
    | nil => exact h.elim
    | cons q nx =>
      obtain ⟨pc', ins, len, ⟨⟨xa, xb, xv⟩, xl, xu, xs⟩⟩ := q
      have hpc : pc' = pc := hh _ rfl
      subst hpc
      have hm : (pc', ins, len, ((xa, xb, xv), xl, xu, xs)) ∈ tb := hs.subset List.mem_cons_self
      have h1 : bif !fi && cuts.elem pc' then Ga p l e R s m args below meth c Qm g α0 S0 nL cb sb B pc' L st S u else wpI tb Q rb B hn scr pc' ins xa xb xv xl xu xs nx (wp tb (Ga p l e R s m args below meth c Qm g α0 S0 nL cb sb B) Q rb B hn cuts scr n false) L st S u := h
      cases hc : (!fi && cuts.elem pc') with
      | true =>
        rw [hc] at h1
        exact h1
      | false =>
        rw [hc] at h1
        have hsx : nx <:+ tb := (List.suffix_cons _ _).trans hs
        have k1 := List.all_eq_true.mp hchk.2 _ hm
        have k2 := callsOK_mem hcalls hm
        have k3 := chn_hd hchk.1 hs
        dsimp only at k1 k2 k3
        have k4 : KOK tb (Ga p l e R s m args below meth c Qm g α0 S0 nL cb sb B) (wp tb (Ga p l e R s m args below meth c Qm g α0 S0 nL cb sb B) Q rb B hn cuts scr n false) := fun nx2 pc2 L2 st2 S2 u2 hs2 hh2 hk2 => ih false nx2 pc2 L2 st2 S2 u2 hs2 hh2 hk2
        exact wpI_sound C hf hsc k4 hsx k3 k1 k2 h1
theorem seg_sound (C : Cx p l s m meth c R cc own nL rk cb sb B ini g) (hf : Fin p l e R s m args below meth c Qm g α0 S0 nL cb sb B cc own Q rb hn) (hsc : 0 < scr.1 → ScrOK s g α0 scr) (hchk : chkTb cc own ini tb = true) (hcalls : CallsOK l own rk tb) :
    Seg tb (Ga p l e R s m args below meth c Qm g α0 S0 nL cb sb B) Q rb B hn scr := fun cuts n pc L st S u h => wp_sound C hf hsc hchk hcalls cuts n true (drp tb pc) pc L st S u drp_suf drp_hd h
end SNW
end
section
/-! A CONTRACT out of what the pure machine asks -/
def rtOf : Option FieldType → Nat
  | none => 0
  | some .int => 1
  | some .boolean => 2
  | some (.object _) => 3
  | some (.array _) => 3
  | _ => 9
def argL (as : List AV) (n : Nat) : Lo := as.map some ++ List.replicate (n - as.length) none
/-- 'new ArrayList()' over the world -/
def NewL (l : Launch) : Prop := ∀ (p : Program) (e : Env) (R : Room) (s : State) (m : MethodId) (args : Array Value) (below : List Frame) (meth : Method) (c : Code) (Qm : State → Prop) (g : GT) (cc : ByteArray) (own : String) (nL rk cb sb B : Nat) (ini : Bool)
  (pc i len : Nat) (xl : List Nat) (S : Sto) (u : Nat) (α : Nat → Nat → Nat) (h : HT) (H : Heap) (locs : List Loc) (ls : Array Slot) (rest : List Value), Cx p l s m meth c R cc own nL rk cb sb B ini g → chkL cc own pc i len xl = true → S.2.2 13 < 5 → S.2.2 (20 + S.2.2 13) = 0 → u + 1 ≤ B → Rep g α h S H → va_S (AB g) s.heap H locs → ls.size = nL → (rest.map fun v => v.category).sum ≤ 6 →
    (∀ (h' : HT) (H1 : Heap) (locs1 : List Loc) (q : Nat), Rep g (al1 α 13 (S.2.2 13) q) h' (mkL S) H1 → va_S (AB g) s.heap H1 locs1 → W p l e R s m args below meth c H1 locs1 (cb + (u + 1)) (sb + 120 * (u + 1)) Qm (F0 m (pc + 7) ls (.ref q :: rest))) →
    W p l e R s m args below meth c H locs (cb + u) (sb + 120 * u) Qm (F0 m pc ls rest)
theorem str_at {si : Nat} (h : strs.any (fun q => q.1 == si) = true) : ∃ tx, (si, tx) ∈ strs := by
  obtain ⟨q, h1, h2⟩ := List.any_eq_true.mp h
  obtain ⟨a, tx⟩ := q
  have h2 : a = si := eq_of_beq h2
  subst h2
  exact ⟨tx, h1⟩
section CTO
variable {p : Program} {l : Launch} {e : Env} {R : Room} {s : State} {m : MethodId} {args : Array Value} {below : List Frame} {meth : Method} {c : Code} {g : GT} {α0 : Nat → Nat → Nat} {S0 : Sto} {cc : ByteArray} {own : String} {nL rk B : Nat} {ini : Bool} {ret : Option FieldType} {Q : Out → Sto → Prop}
theorem fin_ret (C : Cx p l s m meth c R cc own nL rk 0 0 B ini g) (hr : meth.sig.returnType = ret) {r : Option AV} {S : Sto} {u : Nat} {α : Nat → Nat → Nat} {h : HT} {H : Heap} {locs : List Loc} {pc : Nat} {ls : Array Slot} (hq : Q (Sum.inl r) S) (hu : u ≤ B) (hR : Rep g α h S H) (hE : Ext α0 S0 α S) (hlo : LvO S r) (hS : va_S (AB g) s.heap H locs) (hra : RetAt cc pc (rtOf ret) r) :
    W p l e R s m args below meth c H locs (0 + u) (0 + 120 * u) (vx_MQ below (QC g α0 S0 Q) (XC g α0 S0 Q) args s B (120 * B) (AB g)) (F0 m pc ls (r.map (conc α)).toList) := by
  refine W.widen (k := B) (n := 120 * B) (by omega) (by omega) (vx_ret ?_)
  have hlocks := C.2.2.2.2.1
  have key : ∀ t : State, t.heap = H → s.WarmedH t.vm → QC g α0 S0 Q args s (.returned (r.map (conc α))) t := fun t ht hW => ⟨r, α, h, S, rfl, hq, hE, hlo, by rw [ht]; exact hR, hS.F ht⟩
  rcases r with _ | (a | (v | ⟨k, i⟩))
  · obtain ⟨h1, h2⟩ := hra
    have hret : ret = none := by
      cases ret with
      | none => rfl
      | some t => cases t <;> simp [rtOf] at h1
    subst hret
    exact W.vret C.1 C.2.1 hr key hS.2.2 h2
  · obtain ⟨h1, h2⟩ := hra
    rcases h1 with h1 | ⟨h1, h3⟩
    · have hret : ret = some .int := by
        cases ret with
        | none => simp [rtOf] at h1
        | some t => cases t <;> simp [rtOf] at h1 <;> rfl
      subst hret
      exact W.iret C.1 C.2.1 hr key hS.2.2 h2
    · have hret : ret = some .boolean := by
        cases ret with
        | none => simp [rtOf] at h1
        | some t => cases t <;> simp [rtOf] at h1 <;> rfl
      subst hret
      exact W.zret C.1 C.2.1 hr (by show Value.int (a &&& 1) = _; rw [h3]) key hS.2.2 h2
  · exact hra.elim
  · obtain ⟨h1, h2⟩ := hra
    have hret : ∃ t, ret = some t ∧ ((∃ n, t = .object n) ∨ ∃ t', t = .array t') := by
      cases ret with
      | none => simp [rtOf] at h1
      | some t =>
        cases t <;> simp [rtOf] at h1
        · exact ⟨_, rfl, Or.inl ⟨_, rfl⟩⟩
        · exact ⟨_, rfl, Or.inr ⟨_, rfl⟩⟩
    obtain ⟨t, rfl, ht⟩ := hret
    exact W.aret C.1 C.2.1 hr ht (Or.inr ⟨_, rfl⟩) key hS.2.2 h2
theorem fin_out (C : Cx p l s m meth c R cc own nL rk 0 0 B ini g) {x : Nat} {S : Sto} {u : Nat} {α : Nat → Nat → Nat} {h : HT} {H : Heap} {locs : List Loc} {pc : Nat} {ls : Array Slot} {rest : List Value} {q : Addr} {ce : Cell} (hout : ∀ z ∈ c.exceptionTable.toList, covers z pc = false) (hq : Q (Sum.inr x) S) (hu : u ≤ B) (hR : Rep g α h S H) (hE : Ext α0 S0 α S) (hS : va_S (AB g) s.heap H locs) (hce : H[q]? = some ce) (hcv : ce.vm = .none) (hcl : s.vm.findClass (exn x) = some ce.cls) :
    vx_W p l e R s m args below meth c H locs (0 + u) (0 + 120 * u) (vx_MQ below (QC g α0 S0 Q) (XC g α0 S0 Q) args s B (120 * B) (AB g)) (F0 m pc ls rest) q :=
  vx_out (E := exn x) hout C.2.2.2.2.1 hce hcv hcl (fun t ht _ => ⟨x, α, h, S, rfl, hq, hE, by rw [ht]; exact hR, hS.F ht⟩) hS.2.2 (by omega) (by omega)
theorem fin_throw (C : Cx p l s m meth c R cc own nL rk 0 0 B ini g) {x pc i len : Nat} {xl : List Nat} {S : Sto} {u : Nat} {α : Nat → Nat → Nat} {h : HT} {H : Heap} {locs : List Loc} {ls : Array Slot} {rest : List Value} (hout : ∀ z ∈ c.exceptionTable.toList, False) (hc : chkT cc own pc i x len xl = true) (hq : Q (Sum.inr x) S) (hu : u + 1 ≤ B) (hR : Rep g α h S H) (hE : Ext α0 S0 α S) (hS : va_S (AB g) s.heap H locs) (hsz : ls.size = nL) (hcat : (rest.map fun v => v.category).sum ≤ 8) :
    W p l e R s m args below meth c H locs (0 + u) (0 + 120 * u) (vx_MQ below (QC g α0 S0 Q) (XC g α0 S0 Q) args s B (120 * B) (AB g)) (F0 m pc ls rest) := by
  obtain ⟨hx, hb, hml, hown, hlk, hin, hK, hWT, hST, hbs, hfr, hlo, h30, h31, hl⟩ := C
  unfold chkT at hc
  split at hc
  · rename_i w1 w2 si ic
    simp only [Bool.and_eq_true, decide_eq_true_eq] at hc
    obtain ⟨⟨⟨⟨⟨⟨⟨ho, hw1⟩, hw2⟩, hic⟩, hstr⟩, d0⟩, d3⟩, hd⟩ := hc
    subst ho
    have hic' : (x = 0 ∧ ic = 229) ∨ (x = 1 ∧ ic = 61) ∨ (x = 2 ∧ ic = 135) := by simpa [or_assoc] using hic
    have hat := List.all_eq_true.mp (atS_ok x ic hic')
    obtain ⟨tx, htx⟩ := str_at hstr
    obtain ⟨sa, hsa⟩ := hST.2.2.1 _ htx
    have hfit : Bundle.fit (exn x) = true := by rcases hic' with ⟨rfl, -⟩ | ⟨rfl, -⟩ | ⟨rfl, -⟩ <;> decide +kernel
    have hnames : ∀ n ∈ ["java/lang/RuntimeException", "java/lang/Exception"], Bundle.fit n = true := by decide +kernel
    have hat1 : ∀ w ∈ vx_atS "HeavyHaul" ic (exn x) ["java/lang/RuntimeException", "java/lang/Exception"], w.before args s = true := fun w hw => by
      have h9 := hat w hw
      simp only [Bool.and_eq_true, decide_eq_true_eq] at h9
      exact hWT w h9.1.1 h9.1.2 args
    have hgood : ∀ w ∈ Cond.classLink "HeavyHaul" i (exn x) :: Cond.initialized (exn x) :: vx_atS "HeavyHaul" ic (exn x) ["java/lang/RuntimeException", "java/lang/Exception"], vx_ot w = true := fun w hw => by
      rcases List.mem_cons.mp hw with rfl | hw
      · rfl
      · rcases List.mem_cons.mp hw with rfl | hw
        · rfl
        · have h9 := hat w hw
          simp only [Bool.and_eq_true, decide_eq_true_eq] at h9
          exact h9.2
    have hx9 : ∀ t : State, s.vm.Alike t.vm → H.size ≤ t.heap.size → (∀ q : Nat, q < H.size → t.heap[q]? = H[q]?) → XC g α0 S0 Q (exn x) s t := fun t _ hz hk => ⟨x, α, h, S, rfl, hq, hE, hR.cong fun q h1 _ => hk q h1, ⟨Nat.le_trans hS.1 hz, fun q h1 h2 => (hk q (Nat.lt_of_lt_of_le h1 hS.1)).trans (hS.2.1 q h1 h2)⟩⟩
    simp only [Bool.or_eq_true, Bool.and_eq_true] at hd
    rcases hd with ⟨⟨⟨_, e4⟩, e6⟩, e9⟩ | ⟨⟨⟨_, e4⟩, e7⟩, e10⟩
    · exact vx_throwS (sa := sa) (text := tx) hx hb hl hown hfit hnames (wdAt_ok hw1 hWT _) (wdAt_ok hw2 hWT _) hsa hat1 hgood hST.1 hST.2.1 hS (by rw [hsz, hml]) (dcd_ok d0) (dcd_ok d3) (dcd_ok e4) (dcd_ok e6) (dcd_ok e9) (fun z hz => (hout z hz).elim) (by show 2 + 3 < _; omega) (by show _ + (13 * 3 + 43) ≤ _; omega) (by omega) (by omega) hlk hx9 hS.2.2 (by omega) (by omega)
    · exact vx_throwSW (sa := sa) (text := tx) hx hb hl hown hfit hnames (wdAt_ok hw1 hWT _) (wdAt_ok hw2 hWT _) hsa hat1 hgood hST.1 hST.2.1 hS (by rw [hsz, hml]) (dcd_ok d0) (dcd_ok d3) (dcd_ok e4) (dcd_ok e7) (dcd_ok e10) (fun z hz => (hout z hz).elim) (by show 2 + 3 < _; omega) (by show _ + (13 * 3 + 43) ≤ _; omega) (by omega) (by omega) hlk hx9 hS.2.2 (by omega) (by omega)
  · cases hc
end CTO
theorem argL_at {as : List AV} {n i : Nat} {a : AV} (h : (argL as n)[i]? = some (some a)) : as[i]? = some a := by
  unfold argL at h
  by_cases hi : i < as.length
  · rw [List.getElem?_append_left (by simpa using hi), List.getElem?_map] at h
    cases hq : as[i]? with
    | none => rw [hq] at h; cases h
    | some b => rw [hq] at h; cases h; rfl
  · rw [List.getElem?_append_right (by simpa using hi)] at h
    have := List.mem_of_getElem? h
    have h2 := List.eq_of_mem_replicate this
    cases h2
theorem argL_len {as : List AV} {n : Nat} (h : as.length ≤ n) : (argL as n).length = n := by
  simp [argL]
  omega
theorem lv_args1 {vs : List Value} (hv : ∀ v ∈ vs, v.category = 1) {k i : Nat} {v : Value} (h : vs[i]? = some v) : (k + i, v) ∈ lv_args k vs := by
  induction vs generalizing k i with
  | nil => cases h
  | cons w r ih =>
    cases i with
    | zero =>
      cases h
      exact List.mem_cons_self
    | succ i =>
      have h1 : w.category = 1 := hv w List.mem_cons_self
      have := ih (k := k + 1) (fun v hv' => hv v (List.mem_cons_of_mem _ hv')) (i := i) h
      unfold lv_args
      refine List.mem_cons_of_mem _ ?_
      rw [h1]
      rw [show k + (i + 1) = k + 1 + i by omega]
      exact this
theorem lg_len1 {vs : List Value} (hv : ∀ v ∈ vs, v.category = 1) : (lg_sl vs).length = vs.length := by
  induction vs with
  | nil => rfl
  | cons w r ih =>
    have h1 : w.category = 1 := hv w List.mem_cons_self
    have h2 := ih fun v hv' => hv v (List.mem_cons_of_mem _ hv')
    unfold lg_sl at h2 ⊢
    rw [List.flatMap_cons, List.length_append, h2, if_neg (by omega)]
    simp
    omega
theorem cx_of {p : Program} {l : Launch} {e : Env} {s s₁ : State} {m : MethodId} {args : Array Value} {below : List Frame} {meth : Method} {c : Code} {y : MethodName} {ws : List Cond} {cc : ByteArray} {maxL rk u : Nat} {ret : Option FieldType} {own : String} {ini : Bool} {g : GT} {α : Nat → Nat → Nat} {h : HT} {S : Sto}
    (hl : l.stackTraces = false) (hcls : y.cls = own) (hini : ini = true → y.name = "<init>") (B : BodyLoose p l y (headSpec ws (rmx rk u)) cc maxL ret e s m args below meth c s₁) (hml : c.maxLocals = maxL) (hW : Wd g α h S s) : Cx p l s m meth c (headSpec ws (rmx rk u)).room cc own maxL rk 0 0 u ini g := by
  obtain ⟨hR, hK, hWT, hST, hbs⟩ := hW
  have hown : s.vm.findClass own = some m.cls := by rw [← hcls]; exact findClass_of_methodNamed B.named
  refine ⟨B.exec, B.bytes, hml, hown, B.notSynchronized, fun q => ?_, hK, hWT, hST, hbs, Nat.le_refl _, Nat.le_refl _, by show 0 + u ≤ u; omega, by show 0 + 120 * u ≤ 120 * u; omega, hl⟩
  rw [(name_of_methodNamed B.named B.method).1]
  exact hini q
theorem start_of {p : Program} {l : Launch} {e : Env} {R : Room} {s : State} {m : MethodId} {below : List Frame} {meth : Method} {c : Code} {Qm : State → Prop} {g : GT} {α : Nat → Nat → Nat} {h : HT} {S : Sto} {as : List AV} {nL B : Nat}
    (hR : Rep g α h S s.heap) (hLv : ∀ a ∈ as, LvV S a) (hlen : as.length ≤ nL) (hcat : ∀ a ∈ as, catV a = 1) (hgo : Go p l e R s m (as.map (conc α)).toArray below meth c Qm g α S nL 0 0 B 0 (argL as nL) [] S 0) :
    W p l e R s m (as.map (conc α)).toArray below meth c s.heap [] 0 0 Qm (entryFrame m (as.map (conc α)).toArray nL) := by
  rw [lg_entry_eq]
  have hc1 : ∀ v ∈ as.map (conc α), v.category = 1 := fun v hv => by
    obtain ⟨a, ha, rfl⟩ := List.mem_map.mp hv
    rw [cat_conc]
    exact hcat a ha
  have hl1 : (lg_sl (as.map (conc α))).length ≤ nL := by rw [lg_len1 hc1, List.length_map]; exact hlen
  have hle := lv_entry (as.map (conc α)) (n := nL) hl1
  generalize (lg_sl (as.map (conc α)) ++ List.replicate (nL - (lg_sl (as.map (conc α))).length) Slot.unset).toArray = ls at hle ⊢
  refine hgo (Nat.zero_le _) α h s.heap [] ls hR ⟨fun _ _ _ => rfl, fun _ => Nat.le_refl _⟩ (fun a ha => ?_) (fun a ha => nomatch ha) va_S.rf ⟨hle.1, argL_len hlen, hle.2.1, fun i a hi => ?_⟩
  · obtain ⟨j, hj⟩ := List.getElem?_of_mem ha
    exact hLv a (List.mem_of_getElem? (argL_at hj))
  · have h1 := argL_at hi
    have h2 : (as.map (conc α))[i]? = some (conc α a) := by rw [List.getElem?_map, h1]; rfl
    have h3 := lv_args1 hc1 (k := 0) h2
    rw [Nat.zero_add] at h3
    exact hle.2.2 _ h3
/-- the contract of a method without handlers -/
theorem CT_of {l : Launch} {y : MethodName} {cc : ByteArray} {maxL rk u : Nat} {ret : Option FieldType} {sp : SP} {own : String} {tb : Tb} {ini : Bool} (hl : l.stackTraces = false) (hNL : NewL l) (hy : plainName y.cls = true) (hcls : y.cls = own) (hini : ini = true → y.name = "<init>")
    (hchk : chkTb cc own ini tb = true) (hcalls : CallsOK l own rk tb) (hargs : ∀ as S P, sp as S P → as.length ≤ maxL ∧ ∀ a ∈ as, catV a = 1)
    (vc : ∀ (G : Gt) (Q : Out → Sto → Prop) (as : List AV) (S : Sto), sp as S Q → Seg tb G Q (rtOf ret) u [] (0, fun _ => 0) → G 0 (argL as maxL) [] S 0) : CT l y cc maxL ret rk u sp := by
  intro g α h S as P hsp
  obtain ⟨hlen, hcat⟩ := hargs as S P hsp
  refine vx_ofW (cc := cc) (maxL := maxL) (ret := ret) hy rfl ?_
  intro p e s m args below meth c s₁ B hml hout hv
  obtain ⟨rfl, hW, hLv⟩ := hv
  have C := cx_of hl hcls hini B hml hW
  have hf : Fin p l e (headSpec [Cond.code y cc maxL ret] (rmx rk u)).room s m (as.map (conc α)).toArray below meth c (vx_MQ below (QC g α S P) (XC g α S P) (as.map (conc α)).toArray s u (120 * u) (AB g)) g α S maxL 0 0 u cc own P (rtOf ret) [] :=
    ⟨fun r S' u' α' h' H locs pc ls hq hu hR hE hlo hS hra => fin_ret C B.returns hq hu hR hE hlo hS hra,
     fun x S' u' α' h' H locs pc ls rest q ce hq hu hR hE hS _ hce hcv hcl => fin_out C (fun z hz => (hout z hz).elim) hq hu hR hE hS hce hcv hcl,
     fun x t u' H locs pc ls rest q ce hh => (nomatch hh),
     fun x pc i len xl S' u' α' h' H locs ls rest hc hq hu hR hE hS hsz hct => fin_throw C hout hc hq hu hR hE hS hsz hct,
     fun pc i len xl S' u' α' h' H locs ls rest hc h5 h0 hu hR hS hsz hct kk => hNL p e _ s m _ below meth c _ g cc own maxL rk 0 0 u ini pc i len xl S' u' α' h' H locs ls rest C hc h5 h0 hu hR hS hsz hct kk⟩
  exact start_of hW.1 hLv hlen hcat (vc _ P as S hsp (seg_sound C hf (fun q => absurd q (by decide)) hchk hcalls))
end
section
/-! CONTRACTS of methods without loops: what the pure machine itself asks -/
def isCl : Instr → Bool
  | .invokestatic _ => true
  | .invokevirtual _ => true
  | .invokespecial _ => true
  | _ => false
theorem callsOK_f {l : Launch} {own : String} {rk : Nat} {tb : Tb} (h : CallsOK l own rk (tb.filter fun q => isCl q.2.1)) : CallsOK l own rk tb := by
  induction tb with
  | nil => trivial
  | cons q r ih =>
    rw [List.filter_cons] at h
    split at h
    · exact ⟨h.1, ih h.2⟩
    · rename_i hq
      refine ⟨?_, ih h⟩
      obtain ⟨pc, ins, x⟩ := q
      cases ins <;> first | trivial | exact absurd rfl hq
theorem wp_G {tb : Tb} {G G' : Gt} {Q : Out → Sto → Prop} {rb B : Nat} {hn : List (Nat × Nat × Nat × Nat)} {scr : Nat × (Nat → Int32)} : ∀ n, wp tb G Q rb B hn [] scr n = wp tb G' Q rb B hn [] scr n := by
  intro n
  induction n with
  | zero => rfl
  | succ n ih =>
    funext fi suf L st S u
    unfold wp
    cases suf with
    | nil => rfl
    | cons q r =>
      obtain ⟨pc, ins, len, ⟨⟨xa, xb, xv⟩, xl, xu, xs⟩⟩ := q
      show (bif !fi && List.elem pc [] then _ else _) = (bif !fi && List.elem pc [] then _ else _)
      rw [List.elem_nil, Bool.and_false, cond_false, cond_false, ih]
def aS (tb : Tb) (n maxL rb B : Nat) : SP := fun as S Q => bif as.length == n && as.all (fun a => catV a == 1) then wp tb (fun _ _ _ _ _ => False) Q rb B [] [] (0, fun _ => 0) 300 true (drp tb 0) (argL as maxL) [] S 0 else False
def aM (tb : Tb) (c n maxL rb B : Nat) : SP := fun as S Q => match as with
  | Sum.inr (Sum.inr (k, i)) :: r => bif obK k && ci k == c then aS tb n maxL rb B (Sum.inr (Sum.inr (k, i)) :: r) S Q else False
  | _ => False
theorem aS_vc {tb : Tb} {n maxL rb B : Nat} : ∀ (G : Gt) (Q : Out → Sto → Prop) (as : List AV) (S : Sto), aS tb n maxL rb B as S Q → Seg tb G Q rb B [] (0, fun _ => 0) → G 0 (argL as maxL) [] S 0 := by
  intro G Q as S h hs
  unfold aS at h
  cases hc : (as.length == n && as.all (fun a => catV a == 1)) <;> rw [hc] at h
  · exact h.elim
  · exact hs [] 300 0 _ _ _ _ (by rw [wp_G (G' := fun _ _ _ _ _ => False)]; exact h)
theorem aS_args {tb : Tb} {n maxL rb B : Nat} (hn : n ≤ maxL) : ∀ as S P, aS tb n maxL rb B as S P → as.length ≤ maxL ∧ ∀ a ∈ as, catV a = 1 := by
  intro as S P h
  unfold aS at h
  cases hc : (as.length == n && as.all (fun a => catV a == 1)) <;> rw [hc] at h
  · exact h.elim
  · simp only [Bool.and_eq_true, beq_iff_eq, List.all_eq_true] at hc
    exact ⟨by omega, hc.2⟩
theorem aM_in {tb : Tb} {c n maxL rb B : Nat} {as : List AV} {S : Sto} {P : Out → Sto → Prop} (h : aM tb c n maxL rb B as S P) : aS tb n maxL rb B as S P ∧ ∃ k i r, as = aR k i :: r ∧ ci k = c ∧ obK k = true := by
  unfold aM at h
  split at h
  · rename_i k i r
    cases hc : (obK k && ci k == c) <;> rw [hc] at h
    · exact h.elim
    · simp only [Bool.and_eq_true, beq_iff_eq] at hc
      exact ⟨h, k, i, r, rfl, hc.2, hc.1⟩
  · exact h.elim
theorem aM_vc {tb : Tb} {c n maxL rb B : Nat} : ∀ (G : Gt) (Q : Out → Sto → Prop) (as : List AV) (S : Sto), aM tb c n maxL rb B as S Q → Seg tb G Q rb B [] (0, fun _ => 0) → G 0 (argL as maxL) [] S 0 := fun G Q as S h hs => aS_vc G Q as S (aM_in h).1 hs
theorem aM_args {tb : Tb} {c n maxL rb B : Nat} (hn : n ≤ maxL) : ∀ as S P, aM tb c n maxL rb B as S P → as.length ≤ maxL ∧ ∀ a ∈ as, catV a = 1 := fun as S P h => aS_args hn as S P (aM_in h).1
theorem aM_rc {tb : Tb} {c n maxL rb B : Nat} : ∀ as S P, aM tb c n maxL rb B as S P → ∃ k i r, as = aR k i :: r ∧ ci k = c ∧ (obK k = true ∨ k = 13) := fun as S P h => by
  obtain ⟨k, i, r, h1, h2, h3⟩ := (aM_in h).2
  exact ⟨k, i, r, h1, h2, Or.inl h3⟩
theorem aM_ri {tb : Tb} {c n maxL rb B : Nat} : ∀ as S P, aM tb c n maxL rb B as S P → ∃ k i r, as = aR k i :: r ∧ (obK k = true ∨ k = 13) := fun as S P h => by
  obtain ⟨k, i, r, h1, h2, h3⟩ := (aM_in h).2
  exact ⟨k, i, r, h1, Or.inl h3⟩
end
section
/-! THE SMALL METHODS -/
def tb_X6_needNumber : Tb := [(0, .iload_n 0, 1, x0), (1, .ifCond .lt 8, 3, xN 9), (4, .iload_n 0, 1, x0), (5, .iload_n 1, 1, x0), (6, .if_icmp .lt 13, 3, xN 19), (9, .new 225, 10, xF 50 0 [145, 34, 227, 229]), (19, .return_, 1, x0)]
theorem chk_X6_needNumber : chkTb cX6_needNumber "HeavyHaul" false tb_X6_needNumber = true := by decide +kernel
theorem cal_X6_needNumber {l : Launch} (hl : l.stackTraces = false) (hNL : NewL l) : CallsOK l "HeavyHaul" 0 tb_X6_needNumber := callsOK_f trivial
def s_X6_needNumber : SP := aS tb_X6_needNumber 2 2 0 1
theorem ct_X6_needNumber {l : Launch} (hl : l.stackTraces = false) (hNL : NewL l) : CT l yX6_needNumber cX6_needNumber 2 none 0 1 s_X6_needNumber := CT_of hl hNL (by decide +kernel) (own := "HeavyHaul") rfl (ini := false) (fun q => nomatch q) chk_X6_needNumber (cal_X6_needNumber hl hNL) (aS_args (by decide)) aS_vc
def tb_X6_needNumber0 : Tb := [(0, .iload_n 0, 1, x0), (1, .ifCond .lt 8, 3, xN 9), (4, .iload_n 0, 1, x0), (5, .iload_n 1, 1, x0), (6, .if_icmp .lt 13, 3, xN 19), (9, .new 225, 10, xF 50 0 [145, 34, 227, 229]), (19, .return_, 1, x0)]
theorem chk_X6_needNumber0 : chkTb cX6_needNumber "HeavyHaul" false tb_X6_needNumber0 = true := by decide +kernel
theorem cal_X6_needNumber0 {l : Launch} (hl : l.stackTraces = false) (hNL : NewL l) : CallsOK l "HeavyHaul" 0 tb_X6_needNumber0 := callsOK_f trivial
def s_X6_needNumber0 : SP := aS tb_X6_needNumber0 2 2 0 0
theorem ct_X6_needNumber0 {l : Launch} (hl : l.stackTraces = false) (hNL : NewL l) : CT l yX6_needNumber cX6_needNumber 2 none 0 0 s_X6_needNumber0 := CT_of hl hNL (by decide +kernel) (own := "HeavyHaul") rfl (ini := false) (fun q => nomatch q) chk_X6_needNumber0 (cal_X6_needNumber0 hl hNL) (aS_args (by decide)) aS_vc
def tb_X6_needRange : Tb := [(0, .iload_n 0, 1, x0), (1, .iload_n 1, 1, x0), (2, .if_icmp .lt 8, 3, xN 10), (5, .iload_n 0, 1, x0), (6, .iload_n 2, 1, x0), (7, .if_icmp .le 13, 3, xN 20), (10, .new 57, 10, xF 51 0 [213, 35, 230, 61]), (20, .return_, 1, x0)]
theorem chk_X6_needRange : chkTb cX6_needRange "HeavyHaul" false tb_X6_needRange = true := by decide +kernel
theorem cal_X6_needRange {l : Launch} (hl : l.stackTraces = false) (hNL : NewL l) : CallsOK l "HeavyHaul" 0 tb_X6_needRange := callsOK_f trivial
def s_X6_needRange : SP := aS tb_X6_needRange 3 3 0 1
theorem ct_X6_needRange {l : Launch} (hl : l.stackTraces = false) (hNL : NewL l) : CT l yX6_needRange cX6_needRange 3 none 0 1 s_X6_needRange := CT_of hl hNL (by decide +kernel) (own := "HeavyHaul") rfl (ini := false) (fun q => nomatch q) chk_X6_needRange (cal_X6_needRange hl hNL) (aS_args (by decide)) aS_vc
def tb_X6_needRoom : Tb := [(0, .iload_n 0, 1, x0), (1, .iload_n 1, 1, x0), (2, .if_icmp .lt 13, 3, xN 15), (5, .new 131, 10, xF 52 0 [240, 36, 232, 135]), (15, .return_, 1, x0)]
theorem chk_X6_needRoom : chkTb cX6_needRoom "HeavyHaul" false tb_X6_needRoom = true := by decide +kernel
theorem cal_X6_needRoom {l : Launch} (hl : l.stackTraces = false) (hNL : NewL l) : CallsOK l "HeavyHaul" 0 tb_X6_needRoom := callsOK_f trivial
def s_X6_needRoom : SP := aS tb_X6_needRoom 2 2 0 1
theorem ct_X6_needRoom {l : Launch} (hl : l.stackTraces = false) (hNL : NewL l) : CT l yX6_needRoom cX6_needRoom 2 none 0 1 s_X6_needRoom := CT_of hl hNL (by decide +kernel) (own := "HeavyHaul") rfl (ini := false) (fun q => nomatch q) chk_X6_needRoom (cal_X6_needRoom hl hNL) (aS_args (by decide)) aS_vc
def tb_X6_needPeriod : Tb := [(0, .iload_n 0, 1, x0), (1, .iconst 0, 1, xI (0)), (2, .sipush 9999, 3, xI (9999)), (5, .invokestatic 64, 3, xS 3 1 s_X6_needRange), (8, .iload_n 1, 1, x0), (9, .iload_n 0, 1, x0), (10, .iconst 1, 1, xI (1)), (11, .iadd, 1, x0), (12, .sipush 9999, 3, xI (9999)), (15, .invokestatic 64, 3, xS 3 1 s_X6_needRange), (18, .return_, 1, x0)]
theorem chk_X6_needPeriod : chkTb cX6_needPeriod "HeavyHaul" false tb_X6_needPeriod = true := by decide +kernel
theorem cal_X6_needPeriod {l : Launch} (hl : l.stackTraces = false) (hNL : NewL l) : CallsOK l "HeavyHaul" 1 tb_X6_needPeriod := callsOK_f ⟨⟨_, _, 3, 0, _, (ct_X6_needRange hl hNL), ⟨List.mem_of_getElem? (i := 231) (by decide +kernel), List.mem_of_getElem? (i := 26) (by decide +kernel), List.mem_of_getElem? (i := 229) (by decide +kernel), ⟨by decide +kernel, by decide +kernel⟩, by decide +kernel, by decide⟩, List.mem_of_getElem? (i := 230) (by decide +kernel), by decide⟩, ⟨_, _, 3, 0, _, (ct_X6_needRange hl hNL), ⟨List.mem_of_getElem? (i := 231) (by decide +kernel), List.mem_of_getElem? (i := 26) (by decide +kernel), List.mem_of_getElem? (i := 229) (by decide +kernel), ⟨by decide +kernel, by decide +kernel⟩, by decide +kernel, by decide⟩, List.mem_of_getElem? (i := 230) (by decide +kernel), by decide⟩, trivial⟩
def s_X6_needPeriod : SP := aS tb_X6_needPeriod 2 2 0 2
theorem ct_X6_needPeriod {l : Launch} (hl : l.stackTraces = false) (hNL : NewL l) : CT l yX6_needPeriod cX6_needPeriod 2 none 1 2 s_X6_needPeriod := CT_of hl hNL (by decide +kernel) (own := "HeavyHaul") rfl (ini := false) (fun q => nomatch q) chk_X6_needPeriod (cal_X6_needPeriod hl hNL) (aS_args (by decide)) aS_vc
def tb_X6_isOfOneNight : Tb := [(0, .iload_n 0, 1, x0), (1, .sipush 144, 3, xI (144)), (4, .irem, 1, x0), (5, .iload_n 1, 1, x0), (6, .iadd, 1, x0), (7, .bipush 36, 2, xI (36)), (9, .if_icmp .gt 7, 3, xN 16), (12, .iconst 1, 1, xI (1)), (13, .goto 4, 3, xN 17), (16, .iconst 0, 1, xI (0)), (17, .ireturn, 1, x0)]
theorem chk_X6_isOfOneNight : chkTb cX6_isOfOneNight "HeavyHaul" false tb_X6_isOfOneNight = true := by decide +kernel
theorem cal_X6_isOfOneNight {l : Launch} (hl : l.stackTraces = false) (hNL : NewL l) : CallsOK l "HeavyHaul" 0 tb_X6_isOfOneNight := callsOK_f trivial
def s_X6_isOfOneNight : SP := aS tb_X6_isOfOneNight 2 2 2 0
theorem ct_X6_isOfOneNight {l : Launch} (hl : l.stackTraces = false) (hNL : NewL l) : CT l yX6_isOfOneNight cX6_isOfOneNight 2 (some .boolean) 0 0 s_X6_isOfOneNight := CT_of hl hNL (by decide +kernel) (own := "HeavyHaul") rfl (ini := false) (fun q => nomatch q) chk_X6_isOfOneNight (cal_X6_isOfOneNight hl hNL) (aS_args (by decide)) aS_vc
def tb_X6_mostOfAxle : Tb := [(0, .iload_n 1, 1, x0), (1, .ifCond .lt 17, 3, xN 18), (4, .iload_n 1, 1, x0), (5, .iconst 4, 1, xI (4)), (6, .if_icmp .ge 12, 3, xN 18), (9, .aload_n 0, 1, x0), (10, .getfield 17, 3, xF 7 2 [99]), (13, .iload_n 1, 1, x0), (14, .iaload, 1, x0), (15, .goto 4, 3, xN 19), (18, .iconst 0, 1, xI (0)), (19, .ireturn, 1, x0)]
theorem chk_X6_mostOfAxle : chkTb cX6_mostOfAxle "HeavyHaul" false tb_X6_mostOfAxle = true := by decide +kernel
theorem cal_X6_mostOfAxle {l : Launch} (hl : l.stackTraces = false) (hNL : NewL l) : CallsOK l "HeavyHaul" 0 tb_X6_mostOfAxle := callsOK_f trivial
def s_X6_mostOfAxle : SP := aM tb_X6_mostOfAxle 7 2 2 1 0
theorem ct_X6_mostOfAxle {l : Launch} (hl : l.stackTraces = false) (hNL : NewL l) : CT l yX6_mostOfAxle cX6_mostOfAxle 2 (some .int) 0 0 s_X6_mostOfAxle := CT_of hl hNL (by decide +kernel) (own := "HeavyHaul") rfl (ini := false) (fun q => nomatch q) chk_X6_mostOfAxle (cal_X6_mostOfAxle hl hNL) (aM_args (by decide)) aM_vc
theorem rc_X6_mostOfAxle : ∀ as S P, s_X6_mostOfAxle as S P → ∃ k i r, as = aR k i :: r ∧ ci k = 7 ∧ (obK k = true ∨ k = 13) := aM_rc
def tb_X6_hasBay : Tb := [(0, .iload_n 1, 1, x0), (1, .ifCond .lt 22, 3, xN 23), (4, .iload_n 1, 1, x0), (5, .bipush 10, 2, xI (10)), (7, .if_icmp .ge 16, 3, xN 23), (10, .aload_n 0, 1, x0), (11, .getfield 9, 3, xF 7 0 [97]), (14, .iload_n 1, 1, x0), (15, .baload, 1, x0), (16, .ifCond .eq 7, 3, xN 23), (19, .iconst 1, 1, xI (1)), (20, .goto 4, 3, xN 24), (23, .iconst 0, 1, xI (0)), (24, .ireturn, 1, x0)]
theorem chk_X6_hasBay : chkTb cX6_hasBay "HeavyHaul" false tb_X6_hasBay = true := by decide +kernel
theorem cal_X6_hasBay {l : Launch} (hl : l.stackTraces = false) (hNL : NewL l) : CallsOK l "HeavyHaul" 0 tb_X6_hasBay := callsOK_f trivial
def s_X6_hasBay : SP := aM tb_X6_hasBay 7 2 2 2 0
theorem ct_X6_hasBay {l : Launch} (hl : l.stackTraces = false) (hNL : NewL l) : CT l yX6_hasBay cX6_hasBay 2 (some .boolean) 0 0 s_X6_hasBay := CT_of hl hNL (by decide +kernel) (own := "HeavyHaul") rfl (ini := false) (fun q => nomatch q) chk_X6_hasBay (cal_X6_hasBay hl hNL) (aM_args (by decide)) aM_vc
theorem rc_X6_hasBay : ∀ as S P, s_X6_hasBay as S P → ∃ k i r, as = aR k i :: r ∧ ci k = 7 ∧ (obK k = true ∨ k = 13) := aM_rc
def tb_X1_init : Tb := [(0, .aload_n 0, 1, x0), (1, .invokespecial 1, 3, xO), (4, .aload_n 0, 1, x0), (5, .iload_n 1, 1, x0), (6, .putfield 7, 3, xF 2 0 [455]), (9, .aload_n 0, 1, x0), (10, .iload_n 2, 1, x0), (11, .putfield 13, 3, xF 2 1 [456]), (14, .return_, 1, x0)]
theorem chk_X1_init : chkTb cX1_init "HeavyHaul$Period" true tb_X1_init = true := by decide +kernel
theorem cal_X1_init {l : Launch} (hl : l.stackTraces = false) (hNL : NewL l) : CallsOK l "HeavyHaul$Period" 0 tb_X1_init := callsOK_f ⟨(List.mem_of_getElem? (i := 454) (by decide +kernel)), trivial⟩
def s_X1_init : SP := aM tb_X1_init 2 3 3 0 0
theorem ct_X1_init {l : Launch} (hl : l.stackTraces = false) (hNL : NewL l) : CT l yX1_init cX1_init 3 none 0 0 s_X1_init := CT_of hl hNL (by decide +kernel) (own := "HeavyHaul$Period") rfl (ini := true) (fun _ => rfl) chk_X1_init (cal_X1_init hl hNL) (aM_args (by decide)) aM_vc
theorem ri_X1_init : ∀ as S P, s_X1_init as S P → ∃ k i r, as = aR k i :: r ∧ (obK k = true ∨ k = 13) := aM_ri
def tb_X1_hasAll : Tb := [(0, .aload_n 0, 1, x0), (1, .getfield 7, 3, xF 2 0 [455]), (4, .iload_n 1, 1, x0), (5, .if_icmp .gt 15, 3, xN 20), (8, .iload_n 2, 1, x0), (9, .aload_n 0, 1, x0), (10, .getfield 13, 3, xF 2 1 [456]), (13, .if_icmp .gt 7, 3, xN 20), (16, .iconst 1, 1, xI (1)), (17, .goto 4, 3, xN 21), (20, .iconst 0, 1, xI (0)), (21, .ireturn, 1, x0)]
theorem chk_X1_hasAll : chkTb cX1_hasAll "HeavyHaul$Period" false tb_X1_hasAll = true := by decide +kernel
theorem cal_X1_hasAll {l : Launch} (hl : l.stackTraces = false) (hNL : NewL l) : CallsOK l "HeavyHaul$Period" 0 tb_X1_hasAll := callsOK_f trivial
def s_X1_hasAll : SP := aM tb_X1_hasAll 2 3 3 2 0
theorem ct_X1_hasAll {l : Launch} (hl : l.stackTraces = false) (hNL : NewL l) : CT l yX1_hasAll cX1_hasAll 3 (some .boolean) 0 0 s_X1_hasAll := CT_of hl hNL (by decide +kernel) (own := "HeavyHaul$Period") rfl (ini := false) (fun q => nomatch q) chk_X1_hasAll (cal_X1_hasAll hl hNL) (aM_args (by decide)) aM_vc
theorem rc_X1_hasAll : ∀ as S P, s_X1_hasAll as S P → ∃ k i r, as = aR k i :: r ∧ ci k = 2 ∧ (obK k = true ∨ k = 13) := aM_rc
def tb_X1_hasAny : Tb := [(0, .aload_n 0, 1, x0), (1, .getfield 7, 3, xF 2 0 [455]), (4, .iload_n 2, 1, x0), (5, .if_icmp .ge 15, 3, xN 20), (8, .iload_n 1, 1, x0), (9, .aload_n 0, 1, x0), (10, .getfield 13, 3, xF 2 1 [456]), (13, .if_icmp .ge 7, 3, xN 20), (16, .iconst 1, 1, xI (1)), (17, .goto 4, 3, xN 21), (20, .iconst 0, 1, xI (0)), (21, .ireturn, 1, x0)]
theorem chk_X1_hasAny : chkTb cX1_hasAny "HeavyHaul$Period" false tb_X1_hasAny = true := by decide +kernel
theorem cal_X1_hasAny {l : Launch} (hl : l.stackTraces = false) (hNL : NewL l) : CallsOK l "HeavyHaul$Period" 0 tb_X1_hasAny := callsOK_f trivial
def s_X1_hasAny : SP := aM tb_X1_hasAny 2 3 3 2 0
theorem ct_X1_hasAny {l : Launch} (hl : l.stackTraces = false) (hNL : NewL l) : CT l yX1_hasAny cX1_hasAny 3 (some .boolean) 0 0 s_X1_hasAny := CT_of hl hNL (by decide +kernel) (own := "HeavyHaul$Period") rfl (ini := false) (fun q => nomatch q) chk_X1_hasAny (cal_X1_hasAny hl hNL) (aM_args (by decide)) aM_vc
theorem rc_X1_hasAny : ∀ as S P, s_X1_hasAny as S P → ∃ k i r, as = aR k i :: r ∧ ci k = 2 ∧ (obK k = true ∨ k = 13) := aM_rc
def tb_X4_init : Tb := [(0, .aload_n 0, 1, x0), (1, .invokespecial 1, 3, xO), (4, .aload_n 0, 1, x0), (5, .iload_n 1, 1, x0), (6, .putfield 7, 3, xF 5 0 [262]), (9, .aload_n 0, 1, x0), (10, .iload_n 2, 1, x0), (11, .putfield 13, 3, xF 5 1 [264]), (14, .aload_n 0, 1, x0), (15, .iload_n 3, 1, x0), (16, .putfield 16, 3, xF 5 2 [266]), (19, .aload_n 0, 1, x0), (20, .iload 4, 2, x0), (22, .putfield 19, 3, xF 5 3 [268]), (25, .aload_n 0, 1, x0), (26, .iload 5, 2, x0), (28, .putfield 22, 3, xF 5 4 [270]), (31, .aload_n 0, 1, x0), (32, .iload 6, 2, x0), (34, .putfield 25, 3, xF 5 5 [272]), (37, .aload_n 0, 1, x0), (38, .iload 7, 2, x0), (40, .putfield 28, 3, xF 5 6 [274]), (43, .return_, 1, x0)]
theorem chk_X4_init : chkTb cX4_init "HeavyHaul$Road" true tb_X4_init = true := by decide +kernel
theorem cal_X4_init {l : Launch} (hl : l.stackTraces = false) (hNL : NewL l) : CallsOK l "HeavyHaul$Road" 0 tb_X4_init := callsOK_f ⟨(List.mem_of_getElem? (i := 261) (by decide +kernel)), trivial⟩
def s_X4_init : SP := aM tb_X4_init 5 8 8 0 0
theorem ct_X4_init {l : Launch} (hl : l.stackTraces = false) (hNL : NewL l) : CT l yX4_init cX4_init 8 none 0 0 s_X4_init := CT_of hl hNL (by decide +kernel) (own := "HeavyHaul$Road") rfl (ini := true) (fun _ => rfl) chk_X4_init (cal_X4_init hl hNL) (aM_args (by decide)) aM_vc
theorem ri_X4_init : ∀ as S P, s_X4_init as S P → ∃ k i r, as = aR k i :: r ∧ (obK k = true ∨ k = 13) := aM_ri
def tb_X4_hasBridge : Tb := [(0, .aload_n 0, 1, x0), (1, .getfield 31, 3, xF 5 7 [276]), (4, .ifCond .le 7, 3, xN 11), (7, .iconst 1, 1, xI (1)), (8, .goto 4, 3, xN 12), (11, .iconst 0, 1, xI (0)), (12, .ireturn, 1, x0)]
theorem chk_X4_hasBridge : chkTb cX4_hasBridge "HeavyHaul$Road" false tb_X4_hasBridge = true := by decide +kernel
theorem cal_X4_hasBridge {l : Launch} (hl : l.stackTraces = false) (hNL : NewL l) : CallsOK l "HeavyHaul$Road" 0 tb_X4_hasBridge := callsOK_f trivial
def s_X4_hasBridge : SP := aM tb_X4_hasBridge 5 1 1 2 0
theorem ct_X4_hasBridge {l : Launch} (hl : l.stackTraces = false) (hNL : NewL l) : CT l yX4_hasBridge cX4_hasBridge 1 (some .boolean) 0 0 s_X4_hasBridge := CT_of hl hNL (by decide +kernel) (own := "HeavyHaul$Road") rfl (ini := false) (fun q => nomatch q) chk_X4_hasBridge (cal_X4_hasBridge hl hNL) (aM_args (by decide)) aM_vc
theorem rc_X4_hasBridge : ∀ as S P, s_X4_hasBridge as S P → ∃ k i r, as = aR k i :: r ∧ ci k = 5 ∧ (obK k = true ∨ k = 13) := aM_rc
def tb_X4_endsAt : Tb := [(0, .iload_n 1, 1, x0), (1, .aload_n 0, 1, x0), (2, .getfield 7, 3, xF 5 0 [262]), (5, .if_icmp .eq 11, 3, xN 16), (8, .iload_n 1, 1, x0), (9, .aload_n 0, 1, x0), (10, .getfield 13, 3, xF 5 1 [264]), (13, .if_icmp .ne 7, 3, xN 20), (16, .iconst 1, 1, xI (1)), (17, .goto 4, 3, xN 21), (20, .iconst 0, 1, xI (0)), (21, .ireturn, 1, x0)]
theorem chk_X4_endsAt : chkTb cX4_endsAt "HeavyHaul$Road" false tb_X4_endsAt = true := by decide +kernel
theorem cal_X4_endsAt {l : Launch} (hl : l.stackTraces = false) (hNL : NewL l) : CallsOK l "HeavyHaul$Road" 0 tb_X4_endsAt := callsOK_f trivial
def s_X4_endsAt : SP := aM tb_X4_endsAt 5 2 2 2 0
theorem ct_X4_endsAt {l : Launch} (hl : l.stackTraces = false) (hNL : NewL l) : CT l yX4_endsAt cX4_endsAt 2 (some .boolean) 0 0 s_X4_endsAt := CT_of hl hNL (by decide +kernel) (own := "HeavyHaul$Road") rfl (ini := false) (fun q => nomatch q) chk_X4_endsAt (cal_X4_endsAt hl hNL) (aM_args (by decide)) aM_vc
theorem rc_X4_endsAt : ∀ as S P, s_X4_endsAt as S P → ∃ k i r, as = aR k i :: r ∧ ci k = 5 ∧ (obK k = true ∨ k = 13) := aM_rc
def tb_X4_endBeyond : Tb := [(0, .iload_n 1, 1, x0), (1, .aload_n 0, 1, x0), (2, .getfield 7, 3, xF 5 0 [262]), (5, .if_icmp .ne 10, 3, xN 15), (8, .aload_n 0, 1, x0), (9, .getfield 13, 3, xF 5 1 [264]), (12, .goto 7, 3, xN 19), (15, .aload_n 0, 1, x0), (16, .getfield 7, 3, xF 5 0 [262]), (19, .ireturn, 1, x0)]
theorem chk_X4_endBeyond : chkTb cX4_endBeyond "HeavyHaul$Road" false tb_X4_endBeyond = true := by decide +kernel
theorem cal_X4_endBeyond {l : Launch} (hl : l.stackTraces = false) (hNL : NewL l) : CallsOK l "HeavyHaul$Road" 0 tb_X4_endBeyond := callsOK_f trivial
def s_X4_endBeyond : SP := aM tb_X4_endBeyond 5 2 2 1 0
theorem ct_X4_endBeyond {l : Launch} (hl : l.stackTraces = false) (hNL : NewL l) : CT l yX4_endBeyond cX4_endBeyond 2 (some .int) 0 0 s_X4_endBeyond := CT_of hl hNL (by decide +kernel) (own := "HeavyHaul$Road") rfl (ini := false) (fun q => nomatch q) chk_X4_endBeyond (cal_X4_endBeyond hl hNL) (aM_args (by decide)) aM_vc
theorem rc_X4_endBeyond : ∀ as S P, s_X4_endBeyond as S P → ∃ k i r, as = aR k i :: r ∧ ci k = 5 ∧ (obK k = true ∨ k = 13) := aM_rc
def tb_X5_init : Tb := [(0, .aload_n 0, 1, x0), (1, .invokespecial 1, 3, xO), (4, .aload_n 0, 1, x0), (5, .iload_n 1, 1, x0), (6, .putfield 7, 3, xF 6 0 [551]), (9, .aload_n 0, 1, x0), (10, .iload_n 2, 1, x0), (11, .putfield 13, 3, xF 6 1 [553]), (14, .aload_n 0, 1, x0), (15, .iload_n 3, 1, x0), (16, .putfield 16, 3, xF 6 2 [555]), (19, .aload_n 0, 1, x0), (20, .aload 4, 2, x0), (22, .putfield 19, 3, xF 6 3 [557]), (25, .return_, 1, x0)]
theorem chk_X5_init : chkTb cX5_init "HeavyHaul$Work" true tb_X5_init = true := by decide +kernel
theorem cal_X5_init {l : Launch} (hl : l.stackTraces = false) (hNL : NewL l) : CallsOK l "HeavyHaul$Work" 0 tb_X5_init := callsOK_f ⟨(List.mem_of_getElem? (i := 550) (by decide +kernel)), trivial⟩
def s_X5_init : SP := aM tb_X5_init 6 5 5 0 0
theorem ct_X5_init {l : Launch} (hl : l.stackTraces = false) (hNL : NewL l) : CT l yX5_init cX5_init 5 none 0 0 s_X5_init := CT_of hl hNL (by decide +kernel) (own := "HeavyHaul$Work") rfl (ini := true) (fun _ => rfl) chk_X5_init (cal_X5_init hl hNL) (aM_args (by decide)) aM_vc
theorem ri_X5_init : ∀ as S P, s_X5_init as S P → ∃ k i r, as = aR k i :: r ∧ (obK k = true ∨ k = 13) := aM_ri
def tb_X2_init : Tb := [(0, .aload_n 0, 1, x0), (1, .invokespecial 1, 3, xO), (4, .aload_n 0, 1, x0), (5, .iload_n 1, 1, x0), (6, .putfield 7, 3, xF 3 0 [486]), (9, .aload_n 0, 1, x0), (10, .iload_n 2, 1, x0), (11, .putfield 13, 3, xF 3 1 [488]), (14, .aload_n 0, 1, x0), (15, .aload_n 3, 1, x0), (16, .putfield 16, 3, xF 3 2 [490]), (19, .return_, 1, x0)]
theorem chk_X2_init : chkTb cX2_init "HeavyHaul$Permit" true tb_X2_init = true := by decide +kernel
theorem cal_X2_init {l : Launch} (hl : l.stackTraces = false) (hNL : NewL l) : CallsOK l "HeavyHaul$Permit" 0 tb_X2_init := callsOK_f ⟨(List.mem_of_getElem? (i := 485) (by decide +kernel)), trivial⟩
def s_X2_init : SP := aM tb_X2_init 3 4 4 0 0
theorem ct_X2_init {l : Launch} (hl : l.stackTraces = false) (hNL : NewL l) : CT l yX2_init cX2_init 4 none 0 0 s_X2_init := CT_of hl hNL (by decide +kernel) (own := "HeavyHaul$Permit") rfl (ini := true) (fun _ => rfl) chk_X2_init (cal_X2_init hl hNL) (aM_args (by decide)) aM_vc
theorem ri_X2_init : ∀ as S P, s_X2_init as S P → ∃ k i r, as = aR k i :: r ∧ (obK k = true ∨ k = 13) := aM_ri
def tb_X0_init : Tb := [(0, .aload_n 0, 1, x0), (1, .invokespecial 1, 3, xO), (4, .aload_n 0, 1, x0), (5, .iload_n 1, 1, x0), (6, .putfield 7, 3, xF 1 0 [466]), (9, .aload_n 0, 1, x0), (10, .aload_n 2, 1, x0), (11, .putfield 13, 3, xF 1 1 [468]), (14, .return_, 1, x0)]
theorem chk_X0_init : chkTb cX0_init "HeavyHaul$Embargo" true tb_X0_init = true := by decide +kernel
theorem cal_X0_init {l : Launch} (hl : l.stackTraces = false) (hNL : NewL l) : CallsOK l "HeavyHaul$Embargo" 0 tb_X0_init := callsOK_f ⟨(List.mem_of_getElem? (i := 465) (by decide +kernel)), trivial⟩
def s_X0_init : SP := aM tb_X0_init 1 3 3 0 0
theorem ct_X0_init {l : Launch} (hl : l.stackTraces = false) (hNL : NewL l) : CT l yX0_init cX0_init 3 none 0 0 s_X0_init := CT_of hl hNL (by decide +kernel) (own := "HeavyHaul$Embargo") rfl (ini := true) (fun _ => rfl) chk_X0_init (cal_X0_init hl hNL) (aM_args (by decide)) aM_vc
theorem ri_X0_init : ∀ as S P, s_X0_init as S P → ∃ k i r, as = aR k i :: r ∧ (obK k = true ∨ k = 13) := aM_ri
def tb_X3_init : Tb := [(0, .aload_n 0, 1, x0), (1, .invokespecial 3, 3, xO), (4, .aload_n 0, 1, x0), (5, .iconst (-1), 1, xI (-1)), (6, .putfield 9, 3, xF 4 9 [386]), (9, .aload_n 0, 1, x0), (10, .iconst (-1), 1, xI (-1)), (11, .putfield 15, 3, xF 4 10 [388]), (14, .aload_n 0, 1, x0), (15, .iload_n 1, 1, x0), (16, .putfield 18, 3, xF 4 8 [384]), (19, .aload_n 0, 1, x0), (20, .iload_n 2, 1, x0), (21, .putfield 21, 3, xF 4 0 [371]), (24, .aload_n 0, 1, x0), (25, .iload_n 3, 1, x0), (26, .putfield 24, 3, xF 4 1 [373]), (29, .aload_n 0, 1, x0), (30, .iload 4, 2, x0), (32, .putfield 27, 3, xF 4 2 [375]), (35, .aload_n 0, 1, x0), (36, .iload 5, 2, x0), (38, .putfield 30, 3, xF 4 3 [377]), (41, .aload_n 0, 1, x0), (42, .iload 6, 2, x0), (44, .putfield 33, 3, xF 4 4 [379]), (47, .aload_n 0, 1, x0), (48, .iload 7, 2, x0), (50, .putfield 36, 3, xF 4 5 [381]), (53, .return_, 1, x0)]
theorem chk_X3_init : chkTb cX3_init "HeavyHaul$Rig" true tb_X3_init = true := by decide +kernel
theorem cal_X3_init {l : Launch} (hl : l.stackTraces = false) (hNL : NewL l) : CallsOK l "HeavyHaul$Rig" 0 tb_X3_init := callsOK_f ⟨(List.mem_of_getElem? (i := 370) (by decide +kernel)), trivial⟩
def s_X3_init : SP := aM tb_X3_init 4 8 8 0 0
theorem ct_X3_init {l : Launch} (hl : l.stackTraces = false) (hNL : NewL l) : CT l yX3_init cX3_init 8 none 0 0 s_X3_init := CT_of hl hNL (by decide +kernel) (own := "HeavyHaul$Rig") rfl (ini := true) (fun _ => rfl) chk_X3_init (cal_X3_init hl hNL) (aM_args (by decide)) aM_vc
theorem ri_X3_init : ∀ as S P, s_X3_init as S P → ∃ k i r, as = aR k i :: r ∧ (obK k = true ∨ k = 13) := aM_ri
def tb_X3_base : Tb := [(0, .aload_n 0, 1, x0), (1, .getfield 21, 3, xF 4 0 [371]), (4, .aload_n 0, 1, x0), (5, .getfield 24, 3, xF 4 1 [373]), (8, .imul, 1, x0), (9, .ireturn, 1, x0)]
theorem chk_X3_base : chkTb cX3_base "HeavyHaul$Rig" false tb_X3_base = true := by decide +kernel
theorem cal_X3_base {l : Launch} (hl : l.stackTraces = false) (hNL : NewL l) : CallsOK l "HeavyHaul$Rig" 0 tb_X3_base := callsOK_f trivial
def s_X3_base : SP := aM tb_X3_base 4 1 1 1 0
theorem ct_X3_base {l : Launch} (hl : l.stackTraces = false) (hNL : NewL l) : CT l yX3_base cX3_base 1 (some .int) 0 0 s_X3_base := CT_of hl hNL (by decide +kernel) (own := "HeavyHaul$Rig") rfl (ini := false) (fun q => nomatch q) chk_X3_base (cal_X3_base hl hNL) (aM_args (by decide)) aM_vc
theorem rc_X3_base : ∀ as S P, s_X3_base as S P → ∃ k i r, as = aR k i :: r ∧ ci k = 4 ∧ (obK k = true ∨ k = 13) := aM_rc
def tb_X3_leverOf : Tb := [(0, .iconst 2, 1, xI (2)), (1, .iload_n 1, 1, x0), (2, .imul, 1, x0), (3, .aload_n 0, 1, x0), (4, .getfield 21, 3, xF 4 0 [371]), (7, .iconst 2, 1, xI (2)), (8, .idiv, 1, x0), (9, .iconst 1, 1, xI (1)), (10, .isub, 1, x0), (11, .aload_n 0, 1, x0), (12, .getfield 24, 3, xF 4 1 [373]), (15, .imul, 1, x0), (16, .isub, 1, x0), (17, .ireturn, 1, x0)]
theorem chk_X3_leverOf : chkTb cX3_leverOf "HeavyHaul$Rig" false tb_X3_leverOf = true := by decide +kernel
theorem cal_X3_leverOf {l : Launch} (hl : l.stackTraces = false) (hNL : NewL l) : CallsOK l "HeavyHaul$Rig" 0 tb_X3_leverOf := callsOK_f trivial
def s_X3_leverOf : SP := aM tb_X3_leverOf 4 2 2 1 0
theorem ct_X3_leverOf {l : Launch} (hl : l.stackTraces = false) (hNL : NewL l) : CT l yX3_leverOf cX3_leverOf 2 (some .int) 0 0 s_X3_leverOf := CT_of hl hNL (by decide +kernel) (own := "HeavyHaul$Rig") rfl (ini := false) (fun q => nomatch q) chk_X3_leverOf (cal_X3_leverOf hl hNL) (aM_args (by decide)) aM_vc
theorem rc_X3_leverOf : ∀ as S P, s_X3_leverOf as S P → ∃ k i r, as = aR k i :: r ∧ ci k = 4 ∧ (obK k = true ∨ k = 13) := aM_rc
def tb_X3_canTake : Tb := [(0, .iload_n 1, 1, x0), (1, .ifCond .eq 23, 3, xN 24), (4, .aload_n 0, 1, x0), (5, .iload_n 2, 1, x0), (6, .invokevirtual 39, 3, xS 2 0 s_X3_leverOf), (9, .ifCond .lt 19, 3, xN 28), (12, .aload_n 0, 1, x0), (13, .iload_n 2, 1, x0), (14, .invokevirtual 39, 3, xS 2 0 s_X3_leverOf), (17, .aload_n 0, 1, x0), (18, .invokevirtual 43, 3, xS 1 0 s_X3_base), (21, .if_icmp .gt 7, 3, xN 28), (24, .iconst 1, 1, xI (1)), (25, .goto 4, 3, xN 29), (28, .iconst 0, 1, xI (0)), (29, .ireturn, 1, x0)]
theorem chk_X3_canTake : chkTb cX3_canTake "HeavyHaul$Rig" false tb_X3_canTake = true := by decide +kernel
theorem cal_X3_canTake {l : Launch} (hl : l.stackTraces = false) (hNL : NewL l) : CallsOK l "HeavyHaul$Rig" 1 tb_X3_canTake := callsOK_f ⟨⟨_, _, 2, 0, _, 4, (ct_X3_leverOf hl hNL), ⟨List.mem_of_getElem? (i := 431) (by decide +kernel), List.mem_of_getElem? (i := 41) (by decide +kernel), List.mem_of_getElem? (i := 428) (by decide +kernel), ⟨by decide +kernel, by decide +kernel⟩, by decide +kernel, by decide⟩, List.mem_of_getElem? (i := 430) (by decide +kernel), List.mem_of_getElem? (i := 5) (by decide +kernel), by decide, by decide, rc_X3_leverOf⟩, ⟨_, _, 2, 0, _, 4, (ct_X3_leverOf hl hNL), ⟨List.mem_of_getElem? (i := 431) (by decide +kernel), List.mem_of_getElem? (i := 41) (by decide +kernel), List.mem_of_getElem? (i := 428) (by decide +kernel), ⟨by decide +kernel, by decide +kernel⟩, by decide +kernel, by decide⟩, List.mem_of_getElem? (i := 430) (by decide +kernel), List.mem_of_getElem? (i := 5) (by decide +kernel), by decide, by decide, rc_X3_leverOf⟩, ⟨_, _, 1, 0, _, 4, (ct_X3_base hl hNL), ⟨List.mem_of_getElem? (i := 427) (by decide +kernel), List.mem_of_getElem? (i := 41) (by decide +kernel), List.mem_of_getElem? (i := 424) (by decide +kernel), ⟨by decide +kernel, by decide +kernel⟩, by decide +kernel, by decide⟩, List.mem_of_getElem? (i := 426) (by decide +kernel), List.mem_of_getElem? (i := 4) (by decide +kernel), by decide, by decide, rc_X3_base⟩, trivial⟩
def s_X3_canTake : SP := aM tb_X3_canTake 4 3 3 2 0
theorem ct_X3_canTake {l : Launch} (hl : l.stackTraces = false) (hNL : NewL l) : CT l yX3_canTake cX3_canTake 3 (some .boolean) 1 0 s_X3_canTake := CT_of hl hNL (by decide +kernel) (own := "HeavyHaul$Rig") rfl (ini := false) (fun q => nomatch q) chk_X3_canTake (cal_X3_canTake hl hNL) (aM_args (by decide)) aM_vc
theorem rc_X3_canTake : ∀ as S P, s_X3_canTake as S P → ∃ k i r, as = aR k i :: r ∧ ci k = 4 ∧ (obK k = true ∨ k = 13) := aM_rc
def tb_X3_share : Tb := [(0, .aload_n 0, 1, x0), (1, .getfield 21, 3, xF 4 0 [371]), (4, .iconst 2, 1, xI (2)), (5, .idiv, 1, x0), (6, .istore_n 2, 1, x0), (7, .iload_n 1, 1, x0), (8, .aload_n 0, 1, x0), (9, .getfield 36, 3, xF 4 5 [381]), (12, .iconst 2, 1, xI (2)), (13, .idiv, 1, x0), (14, .iadd, 1, x0), (15, .istore_n 3, 1, x0), (16, .iload_n 2, 1, x0), (17, .ifCond .le 13, 3, xN 30), (20, .iload_n 3, 1, x0), (21, .iload_n 2, 1, x0), (22, .iadd, 1, x0), (23, .iconst 1, 1, xI (1)), (24, .isub, 1, x0), (25, .iload_n 2, 1, x0), (26, .idiv, 1, x0), (27, .goto 4, 3, xN 31), (30, .iconst 0, 1, xI (0)), (31, .ireturn, 1, x0)]
theorem chk_X3_share : chkTb cX3_share "HeavyHaul$Rig" false tb_X3_share = true := by decide +kernel
theorem cal_X3_share {l : Launch} (hl : l.stackTraces = false) (hNL : NewL l) : CallsOK l "HeavyHaul$Rig" 0 tb_X3_share := callsOK_f trivial
def s_X3_share : SP := aM tb_X3_share 4 2 4 1 0
theorem ct_X3_share {l : Launch} (hl : l.stackTraces = false) (hNL : NewL l) : CT l yX3_share cX3_share 4 (some .int) 0 0 s_X3_share := CT_of hl hNL (by decide +kernel) (own := "HeavyHaul$Rig") rfl (ini := false) (fun q => nomatch q) chk_X3_share (cal_X3_share hl hNL) (aM_args (by decide)) aM_vc
theorem rc_X3_share : ∀ as S P, s_X3_share as S P → ∃ k i r, as = aR k i :: r ∧ ci k = 4 ∧ (obK k = true ∨ k = 13) := aM_rc
def tb_X3_weightOf : Tb := [(0, .iload_n 1, 1, x0), (1, .aload_n 0, 1, x0), (2, .getfield 21, 3, xF 4 0 [371]), (5, .iconst 2, 1, xI (2)), (6, .idiv, 1, x0), (7, .if_icmp .ge 10, 3, xN 17), (10, .aload_n 0, 1, x0), (11, .getfield 50, 3, xF 4 6 [382]), (14, .goto 7, 3, xN 21), (17, .aload_n 0, 1, x0), (18, .getfield 53, 3, xF 4 7 [383]), (21, .ireturn, 1, x0)]
theorem chk_X3_weightOf : chkTb cX3_weightOf "HeavyHaul$Rig" false tb_X3_weightOf = true := by decide +kernel
theorem cal_X3_weightOf {l : Launch} (hl : l.stackTraces = false) (hNL : NewL l) : CallsOK l "HeavyHaul$Rig" 0 tb_X3_weightOf := callsOK_f trivial
def s_X3_weightOf : SP := aM tb_X3_weightOf 4 2 2 1 0
theorem ct_X3_weightOf {l : Launch} (hl : l.stackTraces = false) (hNL : NewL l) : CT l yX3_weightOf cX3_weightOf 2 (some .int) 0 0 s_X3_weightOf := CT_of hl hNL (by decide +kernel) (own := "HeavyHaul$Rig") rfl (ini := false) (fun q => nomatch q) chk_X3_weightOf (cal_X3_weightOf hl hNL) (aM_args (by decide)) aM_vc
theorem rc_X3_weightOf : ∀ as S P, s_X3_weightOf as S P → ∃ k i r, as = aR k i :: r ∧ ci k = 4 ∧ (obK k = true ∨ k = 13) := aM_rc
def tb_X3_heaviestAxle : Tb := [(0, .aload_n 0, 1, x0), (1, .getfield 50, 3, xF 4 6 [382]), (4, .aload_n 0, 1, x0), (5, .getfield 53, 3, xF 4 7 [383]), (8, .invokestatic 56, 3, (((2, 7, 0), [], (0, sMax)) : Xi)), (11, .ireturn, 1, x0)]
theorem chk_X3_heaviestAxle : chkTb cX3_heaviestAxle "HeavyHaul$Rig" false tb_X3_heaviestAxle = true := by decide +kernel
theorem cal_X3_heaviestAxle {l : Launch} (hl : l.stackTraces = false) (hNL : NewL l) : CallsOK l "HeavyHaul$Rig" 0 tb_X3_heaviestAxle := callsOK_f ⟨⟨List.mem_of_getElem? (i := 653) (by decide +kernel), rfl, rfl, rfl⟩, trivial⟩
def s_X3_heaviestAxle : SP := aM tb_X3_heaviestAxle 4 1 1 1 0
theorem ct_X3_heaviestAxle {l : Launch} (hl : l.stackTraces = false) (hNL : NewL l) : CT l yX3_heaviestAxle cX3_heaviestAxle 1 (some .int) 0 0 s_X3_heaviestAxle := CT_of hl hNL (by decide +kernel) (own := "HeavyHaul$Rig") rfl (ini := false) (fun q => nomatch q) chk_X3_heaviestAxle (cal_X3_heaviestAxle hl hNL) (aM_args (by decide)) aM_vc
theorem rc_X3_heaviestAxle : ∀ as S P, s_X3_heaviestAxle as S P → ∃ k i r, as = aR k i :: r ∧ ci k = 4 ∧ (obK k = true ∨ k = 13) := aM_rc
def tb_X3_isDriving : Tb := [(0, .aload_n 0, 1, x0), (1, .getfield 9, 3, xF 4 9 [386]), (4, .iconst (-1), 1, xI (-1)), (5, .if_icmp .eq 7, 3, xN 12), (8, .iconst 1, 1, xI (1)), (9, .goto 4, 3, xN 13), (12, .iconst 0, 1, xI (0)), (13, .ireturn, 1, x0)]
theorem chk_X3_isDriving : chkTb cX3_isDriving "HeavyHaul$Rig" false tb_X3_isDriving = true := by decide +kernel
theorem cal_X3_isDriving {l : Launch} (hl : l.stackTraces = false) (hNL : NewL l) : CallsOK l "HeavyHaul$Rig" 0 tb_X3_isDriving := callsOK_f trivial
def s_X3_isDriving : SP := aM tb_X3_isDriving 4 1 1 2 0
theorem ct_X3_isDriving {l : Launch} (hl : l.stackTraces = false) (hNL : NewL l) : CT l yX3_isDriving cX3_isDriving 1 (some .boolean) 0 0 s_X3_isDriving := CT_of hl hNL (by decide +kernel) (own := "HeavyHaul$Rig") rfl (ini := false) (fun q => nomatch q) chk_X3_isDriving (cal_X3_isDriving hl hNL) (aM_args (by decide)) aM_vc
theorem rc_X3_isDriving : ∀ as S P, s_X3_isDriving as S P → ∃ k i r, as = aR k i :: r ∧ ci k = 4 ∧ (obK k = true ∨ k = 13) := aM_rc
def tb_X3_setOut : Tb := [(0, .aload_n 0, 1, x0), (1, .iload_n 1, 1, x0), (2, .putfield 9, 3, xF 4 9 [386]), (5, .aload_n 0, 1, x0), (6, .iload_n 2, 1, x0), (7, .putfield 18, 3, xF 4 8 [384]), (10, .aload_n 0, 1, x0), (11, .iload_n 3, 1, x0), (12, .putfield 15, 3, xF 4 10 [388]), (15, .aload_n 0, 1, x0), (16, .dup, 1, x0), (17, .getfield 62, 3, xF 4 12 [391]), (20, .iconst 1, 1, xI (1)), (21, .iadd, 1, x0), (22, .putfield 62, 3, xF 4 12 [391]), (25, .return_, 1, x0)]
theorem chk_X3_setOut : chkTb cX3_setOut "HeavyHaul$Rig" false tb_X3_setOut = true := by decide +kernel
theorem cal_X3_setOut {l : Launch} (hl : l.stackTraces = false) (hNL : NewL l) : CallsOK l "HeavyHaul$Rig" 0 tb_X3_setOut := callsOK_f trivial
def s_X3_setOut : SP := aM tb_X3_setOut 4 4 4 0 0
theorem ct_X3_setOut {l : Launch} (hl : l.stackTraces = false) (hNL : NewL l) : CT l yX3_setOut cX3_setOut 4 none 0 0 s_X3_setOut := CT_of hl hNL (by decide +kernel) (own := "HeavyHaul$Rig") rfl (ini := false) (fun q => nomatch q) chk_X3_setOut (cal_X3_setOut hl hNL) (aM_args (by decide)) aM_vc
theorem rc_X3_setOut : ∀ as S P, s_X3_setOut as S P → ∃ k i r, as = aR k i :: r ∧ ci k = 4 ∧ (obK k = true ∨ k = 13) := aM_rc
def tb_X3_standIfArrived : Tb := [(0, .iload_n 1, 1, x0), (1, .aload_n 0, 1, x0), (2, .getfield 15, 3, xF 4 10 [388]), (5, .if_icmp .lt 8, 3, xN 13), (8, .aload_n 0, 1, x0), (9, .iconst (-1), 1, xI (-1)), (10, .putfield 9, 3, xF 4 9 [386]), (13, .return_, 1, x0)]
theorem chk_X3_standIfArrived : chkTb cX3_standIfArrived "HeavyHaul$Rig" false tb_X3_standIfArrived = true := by decide +kernel
theorem cal_X3_standIfArrived {l : Launch} (hl : l.stackTraces = false) (hNL : NewL l) : CallsOK l "HeavyHaul$Rig" 0 tb_X3_standIfArrived := callsOK_f trivial
def s_X3_standIfArrived : SP := aM tb_X3_standIfArrived 4 2 2 0 0
theorem ct_X3_standIfArrived {l : Launch} (hl : l.stackTraces = false) (hNL : NewL l) : CT l yX3_standIfArrived cX3_standIfArrived 2 none 0 0 s_X3_standIfArrived := CT_of hl hNL (by decide +kernel) (own := "HeavyHaul$Rig") rfl (ini := false) (fun q => nomatch q) chk_X3_standIfArrived (cal_X3_standIfArrived hl hNL) (aM_args (by decide)) aM_vc
theorem rc_X3_standIfArrived : ∀ as S P, s_X3_standIfArrived as S P → ∃ k i r, as = aR k i :: r ∧ ci k = 4 ∧ (obK k = true ∨ k = 13) := aM_rc
end
section
theorem dJx4a65c_size_8abf5_0 : decode cJx4a65c_size_8abf5 0 = .ok (.aload_n 0, 1) := by decide +kernel
theorem dJx4a65c_size_8abf5_1 : decode cJx4a65c_size_8abf5 1 = .ok (.getfield 48, 3) := by decide +kernel
theorem dJx4a65c_size_8abf5_4 : decode cJx4a65c_size_8abf5 4 = .ok (.ireturn, 1) := by decide +kernel
theorem dJx4a65c_elementData_915e3_0 : decode cJx4a65c_elementData_915e3 0 = .ok (.aload_n 0, 1) := by decide +kernel
theorem dJx4a65c_elementData_915e3_1 : decode cJx4a65c_elementData_915e3 1 = .ok (.getfield 9, 3) := by decide +kernel
theorem dJx4a65c_elementData_915e3_4 : decode cJx4a65c_elementData_915e3 4 = .ok (.iload_n 1, 1) := by decide +kernel
theorem dJx4a65c_elementData_915e3_5 : decode cJx4a65c_elementData_915e3 5 = .ok (.aaload, 1) := by decide +kernel
theorem dJx4a65c_elementData_915e3_6 : decode cJx4a65c_elementData_915e3 6 = .ok (.areturn, 1) := by decide +kernel
theorem dJx4a65c_get_915e3_0 : decode cJx4a65c_get_915e3 0 = .ok (.iload_n 1, 1) := by decide +kernel
theorem dJx4a65c_get_915e3_1 : decode cJx4a65c_get_915e3 1 = .ok (.aload_n 0, 1) := by decide +kernel
theorem dJx4a65c_get_915e3_2 : decode cJx4a65c_get_915e3 2 = .ok (.getfield 48, 3) := by decide +kernel
theorem dJx4a65c_get_915e3_5 : decode cJx4a65c_get_915e3 5 = .ok (.invokestatic 118, 3) := by decide +kernel
theorem dJx4a65c_get_915e3_8 : decode cJx4a65c_get_915e3 8 = .ok (.pop, 1) := by decide +kernel
theorem dJx4a65c_get_915e3_9 : decode cJx4a65c_get_915e3 9 = .ok (.aload_n 0, 1) := by decide +kernel
theorem dJx4a65c_get_915e3_10 : decode cJx4a65c_get_915e3 10 = .ok (.iload_n 1, 1) := by decide +kernel
theorem dJx4a65c_get_915e3_11 : decode cJx4a65c_get_915e3 11 = .ok (.invokevirtual 123, 3) := by decide +kernel
theorem dJx4a65c_get_915e3_14 : decode cJx4a65c_get_915e3 14 = .ok (.areturn, 1) := by decide +kernel
theorem dJx4a65c_add_72be8_0 : decode cJx4a65c_add_72be8 0 = .ok (.iload_n 3, 1) := by decide +kernel
theorem dJx4a65c_add_72be8_1 : decode cJx4a65c_add_72be8 1 = .ok (.aload_n 2, 1) := by decide +kernel
theorem dJx4a65c_add_72be8_2 : decode cJx4a65c_add_72be8 2 = .ok (.arraylength, 1) := by decide +kernel
theorem dJx4a65c_add_72be8_3 : decode cJx4a65c_add_72be8 3 = .ok (.if_icmp .ne 8, 3) := by decide +kernel
theorem dJx4a65c_add_72be8_6 : decode cJx4a65c_add_72be8 6 = .ok (.aload_n 0, 1) := by decide +kernel
theorem dJx4a65c_add_72be8_7 : decode cJx4a65c_add_72be8 7 = .ok (.invokevirtual 129, 3) := by decide +kernel
theorem dJx4a65c_add_72be8_10 : decode cJx4a65c_add_72be8 10 = .ok (.astore_n 2, 1) := by decide +kernel
theorem dJx4a65c_add_72be8_11 : decode cJx4a65c_add_72be8 11 = .ok (.aload_n 2, 1) := by decide +kernel
theorem dJx4a65c_add_72be8_12 : decode cJx4a65c_add_72be8 12 = .ok (.iload_n 3, 1) := by decide +kernel
theorem dJx4a65c_add_72be8_13 : decode cJx4a65c_add_72be8 13 = .ok (.aload_n 1, 1) := by decide +kernel
theorem dJx4a65c_add_72be8_14 : decode cJx4a65c_add_72be8 14 = .ok (.aastore, 1) := by decide +kernel
theorem dJx4a65c_add_72be8_15 : decode cJx4a65c_add_72be8 15 = .ok (.aload_n 0, 1) := by decide +kernel
theorem dJx4a65c_add_72be8_16 : decode cJx4a65c_add_72be8 16 = .ok (.iload_n 3, 1) := by decide +kernel
theorem dJx4a65c_add_72be8_17 : decode cJx4a65c_add_72be8 17 = .ok (.iconst 1, 1) := by decide +kernel
theorem dJx4a65c_add_72be8_18 : decode cJx4a65c_add_72be8 18 = .ok (.iadd, 1) := by decide +kernel
theorem dJx4a65c_add_72be8_19 : decode cJx4a65c_add_72be8 19 = .ok (.putfield 48, 3) := by decide +kernel
theorem dJx4a65c_add_72be8_22 : decode cJx4a65c_add_72be8 22 = .ok (.return_, 1) := by decide +kernel
theorem dJx4a65c_add_9ea2d_0 : decode cJx4a65c_add_9ea2d 0 = .ok (.aload_n 0, 1) := by decide +kernel
theorem dJx4a65c_add_9ea2d_1 : decode cJx4a65c_add_9ea2d 1 = .ok (.dup, 1) := by decide +kernel
theorem dJx4a65c_add_9ea2d_2 : decode cJx4a65c_add_9ea2d 2 = .ok (.getfield 63, 3) := by decide +kernel
theorem dJx4a65c_add_9ea2d_5 : decode cJx4a65c_add_9ea2d 5 = .ok (.iconst 1, 1) := by decide +kernel
theorem dJx4a65c_add_9ea2d_6 : decode cJx4a65c_add_9ea2d 6 = .ok (.iadd, 1) := by decide +kernel
theorem dJx4a65c_add_9ea2d_7 : decode cJx4a65c_add_9ea2d 7 = .ok (.putfield 63, 3) := by decide +kernel
theorem dJx4a65c_add_9ea2d_10 : decode cJx4a65c_add_9ea2d 10 = .ok (.aload_n 0, 1) := by decide +kernel
theorem dJx4a65c_add_9ea2d_11 : decode cJx4a65c_add_9ea2d 11 = .ok (.aload_n 1, 1) := by decide +kernel
theorem dJx4a65c_add_9ea2d_12 : decode cJx4a65c_add_9ea2d 12 = .ok (.aload_n 0, 1) := by decide +kernel
theorem dJx4a65c_add_9ea2d_13 : decode cJx4a65c_add_9ea2d 13 = .ok (.getfield 9, 3) := by decide +kernel
theorem dJx4a65c_add_9ea2d_16 : decode cJx4a65c_add_9ea2d 16 = .ok (.aload_n 0, 1) := by decide +kernel
theorem dJx4a65c_add_9ea2d_17 : decode cJx4a65c_add_9ea2d 17 = .ok (.getfield 48, 3) := by decide +kernel
theorem dJx4a65c_add_9ea2d_20 : decode cJx4a65c_add_9ea2d 20 = .ok (.invokevirtual 131, 3) := by decide +kernel
theorem dJx4a65c_add_9ea2d_23 : decode cJx4a65c_add_9ea2d 23 = .ok (.iconst 1, 1) := by decide +kernel
theorem dJx4a65c_add_9ea2d_24 : decode cJx4a65c_add_9ea2d 24 = .ok (.ireturn, 1) := by decide +kernel
theorem dJx4a65c_grow_92f84_0 : decode cJx4a65c_grow_92f84 0 = .ok (.aload_n 0, 1) := by decide +kernel
theorem dJx4a65c_grow_92f84_1 : decode cJx4a65c_grow_92f84 1 = .ok (.getfield 9, 3) := by decide +kernel
theorem dJx4a65c_grow_92f84_4 : decode cJx4a65c_grow_92f84 4 = .ok (.arraylength, 1) := by decide +kernel
theorem dJx4a65c_grow_92f84_5 : decode cJx4a65c_grow_92f84 5 = .ok (.istore_n 2, 1) := by decide +kernel
theorem dJx4a65c_grow_92f84_6 : decode cJx4a65c_grow_92f84 6 = .ok (.iload_n 2, 1) := by decide +kernel
theorem dJx4a65c_grow_92f84_7 : decode cJx4a65c_grow_92f84 7 = .ok (.ifCond .gt 13, 3) := by decide +kernel
theorem dJx4a65c_grow_92f84_10 : decode cJx4a65c_grow_92f84 10 = .ok (.aload_n 0, 1) := by decide +kernel
theorem dJx4a65c_grow_92f84_11 : decode cJx4a65c_grow_92f84 11 = .ok (.getfield 9, 3) := by decide +kernel
theorem dJx4a65c_grow_92f84_14 : decode cJx4a65c_grow_92f84 14 = .ok (.getstatic 39, 3) := by decide +kernel
theorem dJx4a65c_grow_92f84_17 : decode cJx4a65c_grow_92f84 17 = .ok (.if_acmp .eq 28, 3) := by decide +kernel
theorem dJx4a65c_grow_92f84_20 : decode cJx4a65c_grow_92f84 20 = .ok (.iload_n 2, 1) := by decide +kernel
theorem dJx4a65c_grow_92f84_21 : decode cJx4a65c_grow_92f84 21 = .ok (.iload_n 1, 1) := by decide +kernel
theorem dJx4a65c_grow_92f84_22 : decode cJx4a65c_grow_92f84 22 = .ok (.iload_n 2, 1) := by decide +kernel
theorem dJx4a65c_grow_92f84_23 : decode cJx4a65c_grow_92f84 23 = .ok (.isub, 1) := by decide +kernel
theorem dJx4a65c_grow_92f84_24 : decode cJx4a65c_grow_92f84 24 = .ok (.iload_n 2, 1) := by decide +kernel
theorem dJx4a65c_grow_92f84_25 : decode cJx4a65c_grow_92f84 25 = .ok (.iconst 1, 1) := by decide +kernel
theorem dJx4a65c_grow_92f84_26 : decode cJx4a65c_grow_92f84 26 = .ok (.ishr, 1) := by decide +kernel
theorem dJx4a65c_grow_92f84_27 : decode cJx4a65c_grow_92f84 27 = .ok (.invokestatic 73, 3) := by decide +kernel
theorem dJx4a65c_grow_92f84_30 : decode cJx4a65c_grow_92f84 30 = .ok (.istore_n 3, 1) := by decide +kernel
theorem dJx4a65c_grow_92f84_31 : decode cJx4a65c_grow_92f84 31 = .ok (.aload_n 0, 1) := by decide +kernel
theorem dJx4a65c_grow_92f84_32 : decode cJx4a65c_grow_92f84 32 = .ok (.aload_n 0, 1) := by decide +kernel
theorem dJx4a65c_grow_92f84_33 : decode cJx4a65c_grow_92f84 33 = .ok (.getfield 9, 3) := by decide +kernel
theorem dJx4a65c_grow_92f84_36 : decode cJx4a65c_grow_92f84 36 = .ok (.iload_n 3, 1) := by decide +kernel
theorem dJx4a65c_grow_92f84_37 : decode cJx4a65c_grow_92f84 37 = .ok (.invokestatic 66, 3) := by decide +kernel
theorem dJx4a65c_grow_92f84_40 : decode cJx4a65c_grow_92f84 40 = .ok (.dup_x1, 1) := by decide +kernel
theorem dJx4a65c_grow_92f84_41 : decode cJx4a65c_grow_92f84 41 = .ok (.putfield 9, 3) := by decide +kernel
theorem dJx4a65c_grow_92f84_44 : decode cJx4a65c_grow_92f84 44 = .ok (.areturn, 1) := by decide +kernel
theorem dJx4a65c_grow_92f84_45 : decode cJx4a65c_grow_92f84 45 = .ok (.aload_n 0, 1) := by decide +kernel
theorem dJx4a65c_grow_92f84_46 : decode cJx4a65c_grow_92f84 46 = .ok (.bipush 10, 2) := by decide +kernel
theorem dJx4a65c_grow_92f84_48 : decode cJx4a65c_grow_92f84 48 = .ok (.iload_n 1, 1) := by decide +kernel
theorem dJx4a65c_grow_92f84_49 : decode cJx4a65c_grow_92f84 49 = .ok (.invokestatic 79, 3) := by decide +kernel
theorem dJx4a65c_grow_92f84_52 : decode cJx4a65c_grow_92f84 52 = .ok (.anewarray 7, 3) := by decide +kernel
theorem dJx4a65c_grow_92f84_55 : decode cJx4a65c_grow_92f84 55 = .ok (.dup_x1, 1) := by decide +kernel
theorem dJx4a65c_grow_92f84_56 : decode cJx4a65c_grow_92f84 56 = .ok (.putfield 9, 3) := by decide +kernel
theorem dJx4a65c_grow_92f84_59 : decode cJx4a65c_grow_92f84 59 = .ok (.areturn, 1) := by decide +kernel
theorem dJx4a65c_grow_d5877_0 : decode cJx4a65c_grow_d5877 0 = .ok (.aload_n 0, 1) := by decide +kernel
theorem dJx4a65c_grow_d5877_1 : decode cJx4a65c_grow_d5877 1 = .ok (.aload_n 0, 1) := by decide +kernel
theorem dJx4a65c_grow_d5877_2 : decode cJx4a65c_grow_d5877 2 = .ok (.getfield 48, 3) := by decide +kernel
theorem dJx4a65c_grow_d5877_5 : decode cJx4a65c_grow_d5877 5 = .ok (.iconst 1, 1) := by decide +kernel
theorem dJx4a65c_grow_d5877_6 : decode cJx4a65c_grow_d5877 6 = .ok (.iadd, 1) := by decide +kernel
theorem dJx4a65c_grow_d5877_7 : decode cJx4a65c_grow_d5877 7 = .ok (.invokevirtual 69, 3) := by decide +kernel
theorem dJx4a65c_grow_d5877_10 : decode cJx4a65c_grow_d5877 10 = .ok (.areturn, 1) := by decide +kernel
theorem dJx4a65c_init_da8c8_0 : decode cJx4a65c_init_da8c8 0 = .ok (.aload_n 0, 1) := by decide +kernel
theorem dJx4a65c_init_da8c8_1 : decode cJx4a65c_init_da8c8 1 = .ok (.invokespecial 1, 3) := by decide +kernel
theorem dJx4a65c_init_da8c8_4 : decode cJx4a65c_init_da8c8 4 = .ok (.aload_n 0, 1) := by decide +kernel
theorem dJx4a65c_init_da8c8_5 : decode cJx4a65c_init_da8c8 5 = .ok (.getstatic 39, 3) := by decide +kernel
theorem dJx4a65c_init_da8c8_8 : decode cJx4a65c_init_da8c8 8 = .ok (.putfield 9, 3) := by decide +kernel
theorem dJx4a65c_init_da8c8_11 : decode cJx4a65c_init_da8c8 11 = .ok (.return_, 1) := by decide +kernel
theorem dJxa1e45_init_da8c8_0 : decode cJxa1e45_init_da8c8 0 = .ok (.aload_n 0, 1) := by decide +kernel
theorem dJxa1e45_init_da8c8_1 : decode cJxa1e45_init_da8c8 1 = .ok (.invokespecial 1, 3) := by decide +kernel
theorem dJxa1e45_init_da8c8_4 : decode cJxa1e45_init_da8c8 4 = .ok (.return_, 1) := by decide +kernel
theorem dJxc12de_init_da8c8_0 : decode cJxc12de_init_da8c8 0 = .ok (.aload_n 0, 1) := by decide +kernel
theorem dJxc12de_init_da8c8_1 : decode cJxc12de_init_da8c8 1 = .ok (.invokespecial 1, 3) := by decide +kernel
theorem dJxc12de_init_da8c8_4 : decode cJxc12de_init_da8c8 4 = .ok (.aload_n 0, 1) := by decide +kernel
theorem dJxc12de_init_da8c8_5 : decode cJxc12de_init_da8c8 5 = .ok (.iconst 0, 1) := by decide +kernel
theorem dJxc12de_init_da8c8_6 : decode cJxc12de_init_da8c8 6 = .ok (.putfield 7, 3) := by decide +kernel
theorem dJxc12de_init_da8c8_9 : decode cJxc12de_init_da8c8 9 = .ok (.return_, 1) := by decide +kernel
theorem dJ7_copyOf_1904c_0 : decode cJ7_copyOf_1904c 0 = .ok (.aload_n 0, 1) := by decide +kernel
theorem dJ7_copyOf_1904c_1 : decode cJ7_copyOf_1904c 1 = .ok (.iload_n 1, 1) := by decide +kernel
theorem dJ7_copyOf_1904c_2 : decode cJ7_copyOf_1904c 2 = .ok (.aload_n 0, 1) := by decide +kernel
theorem dJ7_copyOf_1904c_3 : decode cJ7_copyOf_1904c 3 = .ok (.invokevirtual 86, 3) := by decide +kernel
theorem dJ7_copyOf_1904c_6 : decode cJ7_copyOf_1904c 6 = .ok (.invokestatic 300, 3) := by decide +kernel
theorem dJ7_copyOf_1904c_9 : decode cJ7_copyOf_1904c 9 = .ok (.areturn, 1) := by decide +kernel
theorem dJ7_copyOf_6403c_0 : decode cJ7_copyOf_6403c 0 = .ok (.aload_n 2, 1) := by decide +kernel
theorem dJ7_copyOf_6403c_1 : decode cJ7_copyOf_6403c 1 = .ok (.ldc 110, 2) := by decide +kernel
theorem dJ7_copyOf_6403c_3 : decode cJ7_copyOf_6403c 3 = .ok (.if_acmp .ne 10, 3) := by decide +kernel
theorem dJ7_copyOf_6403c_6 : decode cJ7_copyOf_6403c 6 = .ok (.iload_n 1, 1) := by decide +kernel
theorem dJ7_copyOf_6403c_7 : decode cJ7_copyOf_6403c 7 = .ok (.anewarray 2, 3) := by decide +kernel
theorem dJ7_copyOf_6403c_10 : decode cJ7_copyOf_6403c 10 = .ok (.goto 14, 3) := by decide +kernel
theorem dJ7_copyOf_6403c_13 : decode cJ7_copyOf_6403c 13 = .ok (.aload_n 2, 1) := by decide +kernel
theorem dJ7_copyOf_6403c_14 : decode cJ7_copyOf_6403c 14 = .ok (.invokevirtual 90, 3) := by decide +kernel
theorem dJ7_copyOf_6403c_17 : decode cJ7_copyOf_6403c 17 = .ok (.iload_n 1, 1) := by decide +kernel
theorem dJ7_copyOf_6403c_18 : decode cJ7_copyOf_6403c 18 = .ok (.invokestatic 95, 3) := by decide +kernel
theorem dJ7_copyOf_6403c_21 : decode cJ7_copyOf_6403c 21 = .ok (.checkcast 110, 3) := by decide +kernel
theorem dJ7_copyOf_6403c_24 : decode cJ7_copyOf_6403c 24 = .ok (.astore_n 3, 1) := by decide +kernel
theorem dJ7_copyOf_6403c_25 : decode cJ7_copyOf_6403c 25 = .ok (.aload_n 0, 1) := by decide +kernel
theorem dJ7_copyOf_6403c_26 : decode cJ7_copyOf_6403c 26 = .ok (.iconst 0, 1) := by decide +kernel
theorem dJ7_copyOf_6403c_27 : decode cJ7_copyOf_6403c 27 = .ok (.aload_n 3, 1) := by decide +kernel
theorem dJ7_copyOf_6403c_28 : decode cJ7_copyOf_6403c 28 = .ok (.iconst 0, 1) := by decide +kernel
theorem dJ7_copyOf_6403c_29 : decode cJ7_copyOf_6403c 29 = .ok (.aload_n 0, 1) := by decide +kernel
theorem dJ7_copyOf_6403c_30 : decode cJ7_copyOf_6403c 30 = .ok (.arraylength, 1) := by decide +kernel
theorem dJ7_copyOf_6403c_31 : decode cJ7_copyOf_6403c 31 = .ok (.iload_n 1, 1) := by decide +kernel
theorem dJ7_copyOf_6403c_32 : decode cJ7_copyOf_6403c 32 = .ok (.invokestatic 304, 3) := by decide +kernel
theorem dJ7_copyOf_6403c_35 : decode cJ7_copyOf_6403c 35 = .ok (.invokestatic 150, 3) := by decide +kernel
theorem dJ7_copyOf_6403c_38 : decode cJ7_copyOf_6403c 38 = .ok (.aload_n 3, 1) := by decide +kernel
theorem dJ7_copyOf_6403c_39 : decode cJ7_copyOf_6403c 39 = .ok (.areturn, 1) := by decide +kernel
theorem dJ15_checkIndex_7cf53_0 : decode cJ15_checkIndex_7cf53 0 = .ok (.iload_n 0, 1) := by decide +kernel
theorem dJ15_checkIndex_7cf53_1 : decode cJ15_checkIndex_7cf53 1 = .ok (.iload_n 1, 1) := by decide +kernel
theorem dJ15_checkIndex_7cf53_2 : decode cJ15_checkIndex_7cf53 2 = .ok (.aconst_null, 1) := by decide +kernel
theorem dJ15_checkIndex_7cf53_3 : decode cJ15_checkIndex_7cf53 3 = .ok (.invokestatic 105, 3) := by decide +kernel
theorem dJ15_checkIndex_7cf53_6 : decode cJ15_checkIndex_7cf53 6 = .ok (.ireturn, 1) := by decide +kernel
theorem dJ3_checkIndex_8e157_0 : decode cJ3_checkIndex_8e157 0 = .ok (.iload_n 0, 1) := by decide +kernel
theorem dJ3_checkIndex_8e157_1 : decode cJ3_checkIndex_8e157 1 = .ok (.ifCond .lt 8, 3) := by decide +kernel
theorem dJ3_checkIndex_8e157_4 : decode cJ3_checkIndex_8e157 4 = .ok (.iload_n 0, 1) := by decide +kernel
theorem dJ3_checkIndex_8e157_5 : decode cJ3_checkIndex_8e157 5 = .ok (.iload_n 1, 1) := by decide +kernel
theorem dJ3_checkIndex_8e157_6 : decode cJ3_checkIndex_8e157 6 = .ok (.if_icmp .lt 10, 3) := by decide +kernel
theorem dJ3_checkIndex_8e157_9 : decode cJ3_checkIndex_8e157 9 = .ok (.aload_n 2, 1) := by decide +kernel
theorem dJ3_checkIndex_8e157_10 : decode cJ3_checkIndex_8e157 10 = .ok (.iload_n 0, 1) := by decide +kernel
theorem dJ3_checkIndex_8e157_11 : decode cJ3_checkIndex_8e157 11 = .ok (.iload_n 1, 1) := by decide +kernel
theorem dJ3_checkIndex_8e157_12 : decode cJ3_checkIndex_8e157 12 = .ok (.invokestatic 95, 3) := by decide +kernel
theorem dJ3_checkIndex_8e157_15 : decode cJ3_checkIndex_8e157 15 = .ok (.athrow, 1) := by decide +kernel
theorem dJ3_checkIndex_8e157_16 : decode cJ3_checkIndex_8e157 16 = .ok (.iload_n 0, 1) := by decide +kernel
theorem dJ3_checkIndex_8e157_17 : decode cJ3_checkIndex_8e157 17 = .ok (.ireturn, 1) := by decide +kernel
/-! THE JDK's LISTS over the world -/
theorem CT_w {l : Launch} {y : MethodName} {cc : ByteArray} {maxL rk u : Nat} {ret : Option FieldType} {sp : SP} {own : String} (hl : l.stackTraces = false) (hy : plainName y.cls = true) (hcls : y.cls = own) (hargs : ∀ as S P, sp as S P → as.length ≤ maxL ∧ ∀ a ∈ as, catV a = 1)
    (body : ∀ (p : Program) (e : Env) (R : Room) (s : State) (m : MethodId) (below : List Frame) (meth : Method) (c : Code) (g : GT) (α : Nat → Nat → Nat) (h : HT) (S : Sto) (as : List AV) (P : Out → Sto → Prop) (ls : Array Slot), sp as S P → Cx p l s m meth c R cc own maxL rk 0 0 u false g → meth.sig.returnType = ret → Rep g α h S s.heap → (∀ a ∈ as, LvV S a) → lv_has ls maxL (lv_args 0 (as.map (conc α))) →
      W p l e R s m (as.map (conc α)).toArray below meth c s.heap [] 0 0 (vx_MQ below (QC g α S P) (XC g α S P) (as.map (conc α)).toArray s u (120 * u) (AB g)) (F0 m 0 ls [])) : CT l y cc maxL ret rk u sp := by
  intro g α h S as P hsp
  obtain ⟨hlen, hcat⟩ := hargs as S P hsp
  refine vx_ofW (cc := cc) (maxL := maxL) (ret := ret) hy rfl ?_
  intro p e s m args below meth c s₁ B hml hout hv
  obtain ⟨rfl, hW, hLv⟩ := hv
  have C := cx_of (ini := false) hl hcls (fun q => nomatch q) B hml hW
  rw [lg_entry_eq]
  have hc1 : ∀ v ∈ as.map (conc α), v.category = 1 := fun v hv => by
    obtain ⟨a, ha, rfl⟩ := List.mem_map.mp hv
    rw [cat_conc]
    exact hcat a ha
  have hl1 : (lg_sl (as.map (conc α))).length ≤ maxL := by rw [lg_len1 hc1, List.length_map]; exact hlen
  have hle := lv_entry (as.map (conc α)) (n := maxL) hl1
  generalize (lg_sl (as.map (conc α)) ++ List.replicate (maxL - (lg_sl (as.map (conc α))).length) Slot.unset).toArray = ls at hle ⊢
  exact body p e _ s m below meth c g α h S as P ls hsp C B.returns hW.1 hLv hle
/-- a list as a receiver -/
def l1 (as : List AV) (k : Nat → Prop) : Prop := match as with
  | [Sum.inr (Sum.inr (a, i))] => a = 13 ∧ k i
  | _ => False
def l2i (as : List AV) (k : Nat → Int32 → Prop) : Prop := match as with
  | [Sum.inr (Sum.inr (a, i)), Sum.inl j] => a = 13 ∧ k i j
  | _ => False
def i2i (as : List AV) (k : Int32 → Int32 → Prop) : Prop := match as with
  | [Sum.inl a, Sum.inl b] => k a b
  | _ => False
theorem l1_ok {as : List AV} {k : Nat → Prop} (h : l1 as k) : ∃ i, as = [aR 13 i] ∧ k i := by
  unfold l1 at h
  split at h
  · obtain ⟨rfl, h⟩ := h; exact ⟨_, rfl, h⟩
  · exact h.elim
theorem l2i_ok {as : List AV} {k : Nat → Int32 → Prop} (h : l2i as k) : ∃ i j, as = [aR 13 i, aI j] ∧ k i j := by
  unfold l2i at h
  split at h
  · obtain ⟨rfl, h⟩ := h; exact ⟨_, _, rfl, h⟩
  · exact h.elim
theorem i2i_ok {as : List AV} {k : Int32 → Int32 → Prop} (h : i2i as k) : ∃ i j, as = [aI i, aI j] ∧ k i j := by
  unfold i2i at h
  split at h
  · exact ⟨_, _, rfl, h⟩
  · exact h.elim
section JD
variable {p : Program} {l : Launch} {e : Env} {R : Room} {s : State} {m : MethodId} {args : Array Value} {below : List Frame} {meth : Method} {c : Code} {H : Heap} {locs : List Loc} {cells slots : Nat} {Q : State → Prop}
variable {cc : ByteArray} {pc : Nat} {ls : Array Slot} {rest : List Value} {g : GT} {α : Nat → Nat → Nat} {h : HT} {S : Sto} {H0 : Heap} {own : String} {idx : Nat}
def ed (g : GT) (h : HT) (i : Nat) : Nat := if (h i).1 = 0 then g.2.2.1 else (h i).2.1
def lfs (g : GT) (h : HT) (S : Sto) (i : Nat) : List Value := [.int (h i).2.2, .ref (ed g h i), .int (nI (S.2.2 (20 + i)))]
theorem Rep.lst {i : Nat} (hR : Rep g α h S H) (hi : i < S.2.2 13) : va_P g.1 vwCl [(α 13 i, .inr (0, lfs g h S i))] H := hR.ar (k := 13) rfl hi
theorem Rep.lar {i : Nat} (hR : Rep g α h S H) (hi : i < S.2.2 13) (h0 : (h i).1 ≠ 0) : va_P g.1 vwCl [((h i).2.1, .inl (g.2.1.2.2.2.1, (h i).1, .inr (.inr (.inr (.inr (fun j => if j < S.2.2 (20 + i) then some (α (lk i) j) else none))))))] H := by
  have h1 := hR.1 15 i (by rw [Lv, if_pos rfl]; exact ⟨hi, h0⟩)
  rw [adr, if_pos rfl, ent_15] at h1
  exact va_P1 h1
theorem w_lget (hx : p.tables.exec = Jvm.exec) (hb : c.code = cc) (hown : s.vm.findClass own = some m.cls) (hK : va_K g.1 vwCl (tysG g) s) (hWT : WT s) (hR : Rep g α h S H) {i : Nat} (hi : i < S.2.2 13) (k : Nat) (hk : k < 3) {ref : String} {v : Value}
    (hlink : (Cond.fieldLink own idx ref ((vC 0).2.1 k).2.1 ((vC 0).2.1 k).2.2.1).before args s = true) (hsame : ∀ x, s.fieldFound? ((vC 0).2.1 k).1 ((vC 0).2.1 k).2.1 ((vC 0).2.1 k).2.2.1 = some x → s.fieldFound? ref ((vC 0).2.1 k).2.1 ((vC 0).2.1 k).2.2.1 = some x) (hv : (lfs g h S i)[k]? = some v) (hdg : decode cc pc = .ok (.getfield idx, 3))
    (kk : W p l e R s m args below meth c H locs cells slots Q (F0 m (pc + 3) ls (v :: rest))) : W p l e R s m args below meth c H locs cells slots Q (F0 m pc ls (.ref (α 13 i) :: rest)) :=
  va_get (D := g.1) (ci := 0) (C := (vC 0).1) (T := (vC 0).2.1) (N := (vC 0).2.2) (Ts := u_ws (vC 0).1 (vC 0).2.1 (vC 0).2.2) hx hb (kf_words hWT KF0) (fun _ h => h) hown hK (hR.lst hi) 0 rfl KF0.1 k hk hlink hsame hv hdg kk
theorem wt_at {w : Nat} {k : Jvm.Cond} (hWT : WT s) (hw : lw_tbl[w]? = some k) (hg : (goodWord k || isDC k) = true) : k.before args s = true := hWT k (List.mem_of_getElem? hw) hg args
end JD
def s_size : SP := vS fun as S k => l1 as fun i => i < S.2.2 13 ∧ k (some (aI (nI (S.2.2 (20 + i)))))
theorem ct_size {l : Launch} (hl : l.stackTraces = false) : CT l yJx4a65c_size_8abf5 cJx4a65c_size_8abf5 1 (some .int) 0 0 s_size := by
  refine CT_w (own := "java/util/ArrayList") hl (by decide +kernel) rfl (fun as S P h => ?_) ?_
  · obtain ⟨i, rfl, -⟩ := l1_ok h
    exact ⟨Nat.le_refl _, fun a ha => by rw [List.mem_singleton.mp ha]; rfl⟩
  · intro p e R s m below meth c g α h S as P ls hsp C hr hR hLv hle
    obtain ⟨i, rfl, hi, hP⟩ := l1_ok hsp
    have hWT := C.2.2.2.2.2.2.2.1
    refine lv_aload_n C.1 C.2.1 dJx4a65c_size_8abf5_0 rfl (hle.2.2 _ List.mem_cons_self) ?_
    refine w_lget C.1 C.2.1 C.2.2.2.1 C.2.2.2.2.2.2.1 hWT hR hi 2 (by decide) (wt_at (w := 80) hWT (by decide +kernel) rfl) (fun _ h => h) rfl dJx4a65c_size_8abf5_1 ?_
    exact fin_ret (u := 0) (r := some (aI (nI (S.2.2 (20 + i))))) C hr hP (Nat.le_refl _) hR ⟨fun _ _ _ => rfl, fun _ => Nat.le_refl _⟩ trivial va_S.rf ⟨Or.inl rfl, dJx4a65c_size_8abf5_4⟩
def s_elem : SP := vS fun as S k => l2i as fun i j => i < S.2.2 13 ∧ 0 ≤ j ∧ j.toNatClampNeg < S.2.2 (20 + i) ∧ k (some (aR (lk i) j.toNatClampNeg))
theorem ct_elem {l : Launch} (hl : l.stackTraces = false) : CT l yJx4a65c_elementData_915e3 cJx4a65c_elementData_915e3 2 (some (.object "java/lang/Object")) 0 0 s_elem := by
  refine CT_w (own := "java/util/ArrayList") hl (by decide +kernel) rfl (fun as S P h => ?_) ?_
  · obtain ⟨i, j, rfl, -⟩ := l2i_ok h
    exact ⟨Nat.le_refl _, fun a ha => by
      rcases List.mem_cons.mp ha with rfl | ha
      · rfl
      · rw [List.mem_singleton.mp ha]; rfl⟩
  · intro p e R s m below meth c g α h S as P ls hsp C hr hR hLv hle
    obtain ⟨i, j, rfl, hi, hj0, hj, hP⟩ := l2i_ok hsp
    have hWT := C.2.2.2.2.2.2.2.1
    have h9 := hR.2.2.2.2.1 i hi
    have h0 : (h i).1 ≠ 0 := by omega
    refine lv_aload_n C.1 C.2.1 dJx4a65c_elementData_915e3_0 rfl (hle.2.2 _ List.mem_cons_self) ?_
    refine w_lget C.1 C.2.1 C.2.2.2.1 C.2.2.2.2.2.2.1 hWT hR hi 1 (by decide) (wt_at (w := 79) hWT (by decide +kernel) rfl) (fun _ h => h) rfl dJx4a65c_elementData_915e3_1 ?_
    refine lv_iload_n C.1 C.2.1 dJx4a65c_elementData_915e3_4 rfl (hle.2.2 (1, .int j) (List.mem_cons_of_mem _ List.mem_cons_self)) ?_
    rw [show ed g h i = (h i).2.1 from if_neg h0]
    refine va_aldq (n := (h i).1) (tys := tysG g) C.1 C.2.1 C.2.2.2.2.2.2.1 (hR.lar hi h0) 0 3 rfl rfl (fun q => q.elim (fun q => absurd q (Int32.not_lt.mpr hj0)) (fun q => by omega)) (by decide +kernel) ?_
    rw [if_pos hj]
    have hli : obK (lk i) = true := lk_ok
    refine W.eq (g2 := F0 m 6 ls (Option.map (conc α) (some (aR (lk i) j.toNatClampNeg))).toList) ?_ (fin_ret (u := 0) (r := some (aR (lk i) j.toNatClampNeg)) C hr hP (Nat.le_refl _) hR ⟨fun _ _ _ => rfl, fun _ => Nat.le_refl _⟩ ?_ va_S.rf ⟨rfl, (by decide +kernel)⟩)
    · show F0 m 6 ls [va_rf (some (α (lk i) j.toNatClampNeg))] = F0 m 6 ls [conc α (aR (lk i) j.toNatClampNeg)]
      rw [conc_ob (ob_ne (Or.inl hli)).2.1]
      rfl
    · exact Or.inr (Or.inr ⟨Or.inl hli, by omega⟩)
end
section
/-! THE JDK's LISTS: the index check, and reading -/
theorem lv_args_hd {v : Value} {vs : List Value} {k : Nat} : (k, v) ∈ lv_args k (v :: vs) := List.mem_cons_self
/-- a contract of a method by its walk: any arguments of one slot each -/
theorem Met_w {l : Launch} {y : MethodName} {cc : ByteArray} {maxL rk u : Nat} {ret : Option FieldType} {own : String} (ini : Bool) (hl : l.stackTraces = false) (hy : plainName y.cls = true) (hcls : y.cls = own) (hini : ini = true → y.name = "<init>") {g : GT} {α : Nat → Nat → Nat} {h : HT} {S : Sto} {vs : List Value} {Qc : Array Value → State → Outcome → State → Prop} {XCc : String → State → State → Prop} (hlen : vs.length ≤ maxL) (hcat : ∀ v ∈ vs, v.category = 1)
    (body : ∀ (p : Program) (e : Env) (R : Room) (s : State) (m : MethodId) (below : List Frame) (meth : Method) (c : Code) (ls : Array Slot), Cx p l s m meth c R cc own maxL rk 0 0 u ini g → meth.sig.returnType = ret → Rep g α h S s.heap → lv_has ls maxL (lv_args 0 vs) →
      W p l e R s m vs.toArray below meth c s.heap [] 0 0 (vx_MQ below Qc XCc vs.toArray s u (120 * u) (AB g)) (F0 m 0 ls [])) : vx_Met l y [.code y cc maxL ret] (rmx rk u) (va_Pc vs (Wd g α h S)) Qc XCc u (120 * u) (AB g) := by
  refine vx_ofW (cc := cc) (maxL := maxL) (ret := ret) hy rfl ?_
  intro p e s m args below meth c s₁ B hml hout hv
  obtain ⟨rfl, hW⟩ := hv
  have C := cx_of (ini := ini) hl hcls hini B hml hW
  rw [lg_entry_eq]
  have hl1 : (lg_sl vs).length ≤ maxL := by rw [lg_len1 hcat]; exact hlen
  have hle := lv_entry vs (n := maxL) hl1
  generalize (lg_sl vs ++ List.replicate (maxL - (lg_sl vs).length) Slot.unset).toArray = ls at hle ⊢
  exact body p e _ s m below meth c ls C B.returns hW.1 hle
section JD2
variable {p : Program} {l : Launch} {e : Env} {R : Room} {s : State} {m : MethodId} {args : Array Value} {below : List Frame} {meth : Method} {c : Code} {H : Heap} {locs : List Loc} {cells slots : Nat} {Q : State → Prop}
variable {cc : ByteArray} {pc : Nat} {ls : Array Slot} {rest st0 : List Value} {g : GT} {α : Nat → Nat → Nat} {h : HT} {S : Sto} {H0 : Heap} {own : String} {idx nL rk cb sb B : Nat} {ini : Bool} {P : Out → Sto → Prop}
theorem w_afterQ {a : Array Value} {mc ms : Nat} {Qc : Array Value → State → Outcome → State → Prop} {XCc : String → State → State → Prop} (hr : vx_Run p l e R s m args below meth c H locs cells slots mc ms (F0 m pc ls st0) rest (Qc a) XCc (AB g)) (hS : va_S (AB g) s.heap H locs)
    (hF : ∀ (v : Option Value) (st₀ t : State), st₀.heap = H → Qc a st₀ (.returned v) t → va_F (AB g) st₀ t)
    (kk : ∀ (v : Option Value) (st₀ t : State) (locs1 : List Loc), st₀.heap = H → Qc a st₀ (.returned v) t → va_S (AB g) s.heap t.heap locs1 → W p l e R s m args below meth c t.heap locs1 (cells + mc) (slots + ms) Q (F0 m (pc + 3) ls (v.toList ++ rest)))
    (kx : ∀ (E : String) (st₀ t : State), XCc E st₀ t → False) : W p l e R s m args below meth c H locs cells slots Q (F0 m pc ls st0) := by
  intro T hT X
  rcases hr T hT X with ⟨v, st₀, t, T', L, h0, X', hL, e1, e2, hQ, st⟩ | ⟨q, st₀, t, T', L, E, ce, h0, X', hL, e1, e2, hX, hce, hcv, hcl, st⟩
  · obtain ⟨k1, k2, k3⟩ := vx_keep h0 e1 hS (fun _ _ h => h) (fun _ h => h) hL (hF v st₀ t h0 hQ)
    obtain ⟨t2, a1, b1⟩ := kk v st₀ t (locs ++ L) h0 hQ (by rw [← e1]; exact k3) T' e1 X'
    exact ⟨t2, st t2 a1, b1⟩
  · exact (kx E st₀ t hX).elim
theorem pre_Wd (C : Cx p l s m meth c R cc own nL rk cb sb B ini g) (hR : Rep g α h S H) (hS : va_S (AB g) s.heap H locs) (vs : List Value) : PreS s H (va_Pc vs (Wd g α h S)) vs := by
  obtain ⟨hx, hb, hml, hown, hlk, hin, hK, hWT, hST, hbs, -⟩ := C
  refine ⟨?_, fun U hU hW => ⟨rfl, by rw [hU]; exact hR, va_K.moved hW.alike hK, WT.warm hW hWT, by rw [hU]; exact (ST.moved hW hST).kept hS.2.1, by rw [hU]; exact Nat.le_trans hbs hS.1⟩⟩
  intro a U f mk q
  obtain ⟨q1, q2, q3, q4, q5, q6⟩ := q
  exact ⟨q1, q2, va_K.moved (u := U) (U := U.calling f mk a) (Vm.Alike.refl U.vm) q3, WT.warm (s := U) (U := U.calling f mk a) (State.WarmedH.refl U) q4, ST.moved (s := U) (U := U.calling f mk a) (State.WarmedH.refl U) q5, q6⟩
theorem qc_F {P : Out → Sto → Prop} {a : Array Value} (v : Option Value) (st₀ t : State) (hq : QC g α S P a st₀ (.returned v) t) : va_F (AB g) st₀ t := by
  obtain ⟨r, α', h', S', -, -, -, -, -, hF⟩ := hq
  exact hF
end JD2
theorem ct_ck3 {l : Launch} (hl : l.stackTraces = false) {g : GT} {α : Nat → Nat → Nat} {h : HT} {S : Sto} {a b : Int32} {P : Out → Sto → Prop} (h0 : 0 ≤ a) (hab : a < b) (hP : P (Sum.inl (some (aI a))) S) :
    vx_Met l yJ3_checkIndex_8e157 [.code yJ3_checkIndex_8e157 cJ3_checkIndex_8e157 3 (some .int)] (rmx 0 0) (va_Pc [.int a, .int b, .null] (Wd g α h S)) (QC g α S P) (fun _ _ _ => False) 0 (120 * 0) (AB g) := by
  refine Met_w (own := "jdk/internal/util/Preconditions") false hl (by decide +kernel) rfl (fun q => nomatch q) (Nat.le_refl 3) (fun v hv => ?_) ?_
  · simp only [List.mem_cons, List.not_mem_nil, or_false] at hv
    rcases hv with rfl | rfl | rfl <;> rfl
  · intro p e R s m below meth c ls C hr hR hle
    have hlocks := C.2.2.2.2.1
    have l0 := hle.2.2 (0, .int a) List.mem_cons_self
    have l1 := hle.2.2 (1, .int b) (List.mem_cons_of_mem _ List.mem_cons_self)
    refine lv_iload_n C.1 C.2.1 dJ3_checkIndex_8e157_0 rfl l0 ?_
    refine lv_if_lt (tgt := 9) C.1 C.2.1 dJ3_checkIndex_8e157_1 rfl (fun q => absurd q (Int32.not_lt.mpr h0)) fun _ => ?_
    refine lv_iload_n C.1 C.2.1 dJ3_checkIndex_8e157_4 rfl l0 ?_
    refine lv_iload_n C.1 C.2.1 dJ3_checkIndex_8e157_5 rfl l1 ?_
    refine lv_icmp_lt (tgt := 16) C.1 C.2.1 dJ3_checkIndex_8e157_6 rfl (fun _ => ?_) (fun q => absurd hab q)
    refine lv_iload_n C.1 C.2.1 dJ3_checkIndex_8e157_16 rfl l0 ?_
    refine vx_ret ?_
    exact W.iret C.1 C.2.1 hr (fun t ht _ => ⟨some (aI a), α, h, S, rfl, hP, ⟨fun _ _ _ => rfl, fun _ => Nat.le_refl _⟩, trivial, by rw [ht]; exact hR, (va_S.rf (A := AB g) (H0 := s.heap)).F ht⟩) (fun _ q => nomatch q) dJ3_checkIndex_8e157_17
def s_ck : SP := vS fun as _ k => i2i as fun a b => 0 ≤ a ∧ a < b ∧ k (some (aI a))
theorem ct_ck {l : Launch} (hl : l.stackTraces = false) : CT l yJ15_checkIndex_7cf53 cJ15_checkIndex_7cf53 2 (some .int) 1 0 s_ck := by
  refine CT_w (own := "java/util/Objects") hl (by decide +kernel) rfl (fun as S P h => ?_) ?_
  · obtain ⟨i, j, rfl, -⟩ := i2i_ok h
    exact ⟨Nat.le_refl _, fun a ha => by
      rcases List.mem_cons.mp ha with rfl | ha
      · rfl
      · rw [List.mem_singleton.mp ha]; rfl⟩
  · intro p e R s m below meth c g α h S as P ls hsp C hr hR hLv hle
    obtain ⟨a, b, rfl, h0, hab, hP⟩ := i2i_ok hsp
    have hWT := C.2.2.2.2.2.2.2.1
    refine lv_iload_n C.1 C.2.1 dJ15_checkIndex_7cf53_0 rfl (hle.2.2 (0, .int a) List.mem_cons_self) ?_
    refine lv_iload_n C.1 C.2.1 dJ15_checkIndex_7cf53_1 rfl (hle.2.2 (1, .int b) (List.mem_cons_of_mem _ List.mem_cons_self)) ?_
    refine lv_null C.1 C.2.1 dJ15_checkIndex_7cf53_2 ?_
    have hlk : LkB "java/util/Objects" 105 yJ3_checkIndex_8e157 cJ3_checkIndex_8e157 3 (some .int) 3 := ⟨List.mem_of_getElem? (i := 525) (by decide +kernel), List.mem_of_getElem? (i := 46) (by decide +kernel), List.mem_of_getElem? (i := 523) (by decide +kernel), ⟨by decide +kernel, by decide +kernel⟩, by decide +kernel, by decide⟩
    refine w_afterQ (rest := []) (mc := 0) (ms := 120 * 0) (vx_runS (Ts := []) (own := "java/util/Objects") (As := [.int a, .int b, .null]) ⟨C.1, C.2.1, C.2.2.1, C.2.2.2.1, fun _ h => nomatch h⟩ (ct_ck3 hl (g := g) (α := α) (h := h) (S := S) (P := fun o S' => o = Sum.inl (some (aI a)) ∧ S' = S) h0 hab ⟨rfl, rfl⟩) ⟨lkB_call C hlk (by decide), wt_at (w := 524) hWT (by decide +kernel) rfl⟩ (pre_Wd C hR va_S.rf _) rfl rfl hle.1 rfl (by show 2 * 0 + 0 ≤ 8; decide) dJ15_checkIndex_7cf53_3 ⟨Nat.zero_le _, Nat.zero_le _⟩) va_S.rf (fun v st₀ t _ hq => qc_F v st₀ t hq) (fun v st₀ t locs1 _ hq hS1 => ?_) (fun E st₀ t hx => hx)
    obtain ⟨r, α', h', S', ho, ⟨h1, h2⟩, hE, hLvO, hR', hF⟩ := hq
    cases h1
    cases h2
    cases ho
    exact fin_ret (u := 0) (r := some (aI a)) C hr hP (Nat.le_refl _) hR' hE trivial hS1 ⟨Or.inl rfl, dJ15_checkIndex_7cf53_6⟩
def s_get : SP := vS fun as S k => l2i as fun i j => i < S.2.2 13 ∧ 0 ≤ j ∧ j < nI (S.2.2 (20 + i)) ∧ k (some (aR (lk i) j.toNatClampNeg))
theorem j_ltn {j : Int32} {n : Nat} (h0 : 0 ≤ j) (h : j < nI n) (hn : n < 2 ^ 31) : j.toNatClampNeg < n := by
  have h1 : (nI n).toInt = n := by
    show (Int32.ofNat n).toInt = n
    rw [Int32.toInt_ofNat_of_lt hn]
  rw [Int32.lt_iff_toInt_lt, h1] at h
  rw [Int32.le_iff_toInt_le] at h0
  have h2 : j.toNatClampNeg = j.toInt.toNat := rfl
  rw [h2]
  have h3 : (0 : Int32).toInt = 0 := rfl
  omega
theorem ct_get {l : Launch} (hl : l.stackTraces = false) : CT l yJx4a65c_get_915e3 cJx4a65c_get_915e3 2 (some (.object "java/lang/Object")) 2 0 s_get := by
  refine CT_w (own := "java/util/ArrayList") hl (by decide +kernel) rfl (fun as S P h => ?_) ?_
  · obtain ⟨i, j, rfl, -⟩ := l2i_ok h
    exact ⟨Nat.le_refl _, fun a ha => by
      rcases List.mem_cons.mp ha with rfl | ha
      · rfl
      · rw [List.mem_singleton.mp ha]; rfl⟩
  · intro p e R s m below meth c g α h S as P ls hsp C hr hR hLv hle
    obtain ⟨i, j, rfl, hi, hj0, hj, hP⟩ := l2i_ok hsp
    have hWT := C.2.2.2.2.2.2.2.1
    have h9 := hR.2.2.2.2.1 i hi
    have hjn := j_ltn hj0 hj (by omega)
    have e0 : Ext α S α S := ⟨fun _ _ _ => rfl, fun _ => Nat.le_refl _⟩
    have a0 := hle.2.2 (0, .ref (α 13 i)) List.mem_cons_self
    have a1 := hle.2.2 (1, .int j) (List.mem_cons_of_mem _ List.mem_cons_self)
    refine lv_iload_n C.1 C.2.1 dJx4a65c_get_915e3_0 rfl a1 ?_
    refine lv_aload_n C.1 C.2.1 dJx4a65c_get_915e3_1 rfl a0 ?_
    refine w_lget C.1 C.2.1 C.2.2.2.1 C.2.2.2.2.2.2.1 hWT hR hi 2 (by decide) (wt_at (w := 80) hWT (by decide +kernel) rfl) (fun _ h => h) rfl dJx4a65c_get_915e3_2 ?_
    have hlk1 : LkB "java/util/ArrayList" 118 yJ15_checkIndex_7cf53 cJ15_checkIndex_7cf53 2 (some .int) 2 := ⟨List.mem_of_getElem? (i := 522) (by decide +kernel), List.mem_of_getElem? (i := 45) (by decide +kernel), List.mem_of_getElem? (i := 520) (by decide +kernel), ⟨by decide +kernel, by decide +kernel⟩, by decide +kernel, by decide⟩
    refine w_callS (as := [aI j, aI (nI (S.2.2 (20 + i)))]) (P := fun o S' => o = Sum.inl (some (aI j)) ∧ S' = S) C (ct_ck hl) hlk1 (List.mem_of_getElem? (i := 521) (by decide +kernel)) (by decide) rfl (show s_ck _ _ _ from ⟨hj0, hj, rfl, rfl⟩) hR va_S.rf (fun a ha => ?_) hle.1 (Nat.zero_le _) ⟨Nat.zero_le _, Nat.zero_le _⟩ dJx4a65c_get_915e3_5 (fun r α' h' S' H1 locs1 hq hE hlo hR1 hS1 => ?_) (fun x α' h' S' H1 locs1 q9 ce hq => nomatch hq.1)
    · rcases List.mem_cons.mp ha with rfl | ha
      · trivial
      · rw [List.mem_singleton.mp ha]; trivial
    · obtain ⟨h1, h2⟩ := hq
      cases h1
      cases h2
      refine lv_pop C.1 C.2.1 dJx4a65c_get_915e3_8 rfl ?_
      have e1 : α' 13 i = α 13 i := hE.1 13 i (Or.inr (Or.inr ⟨Or.inr rfl, hi⟩))
      refine lv_aload_n C.1 C.2.1 dJx4a65c_get_915e3_9 rfl a0 ?_
      refine lv_iload_n C.1 C.2.1 dJx4a65c_get_915e3_10 rfl a1 ?_
      rw [← e1]
      have hlk2 : LkB "java/util/ArrayList" 123 yJx4a65c_elementData_915e3 cJx4a65c_elementData_915e3 2 (some (.object "java/lang/Object")) 1 := ⟨List.mem_of_getElem? (i := 529) (by decide +kernel), List.mem_of_getElem? (i := 29) (by decide +kernel), List.mem_of_getElem? (i := 526) (by decide +kernel), ⟨by decide +kernel, by decide +kernel⟩, by decide +kernel, by decide⟩
      refine w_callV (as := [aI j]) (k := 13) (i := i) (P := fun o S' => o = Sum.inl (some (aR (lk i) j.toNatClampNeg)) ∧ S' = S) C (ct_elem hl) hlk2 (List.mem_of_getElem? (i := 527) (by decide +kernel)) (List.mem_of_getElem? (i := 528) (by decide +kernel)) (by decide) rfl (Or.inr rfl) hi (show s_elem _ _ _ from ⟨rfl, hi, hj0, hjn, rfl, rfl⟩) hR1 hS1 (fun a ha => by rw [List.mem_singleton.mp ha]; trivial) hle.1 (Nat.zero_le _) ⟨Nat.zero_le _, Nat.zero_le _⟩ dJx4a65c_get_915e3_11 (fun r α'' h'' S'' H2 locs2 hq hE2 hlo hR2 hS2 => ?_) (fun x α' h' S' H1 locs1 q9 ce hq => nomatch hq.1)
      obtain ⟨h1, h2⟩ := hq
      cases h1
      cases h2
      exact fin_ret (u := 0) (r := some (aR (lk i) j.toNatClampNeg)) C hr hP (Nat.le_refl _) hR2 (hE.tr hE2) hlo hS2 ⟨rfl, dJx4a65c_get_915e3_14⟩
end
section
/-! THE JDK's LISTS: a new one -/
def Cy (p : Program) (s : State) (m : MethodId) (meth : Method) (c : Code) (cc : ByteArray) (own : String) (nL : Nat) (g : GT) : Prop :=
  p.tables.exec = Jvm.exec ∧ c.code = cc ∧ c.maxLocals = nL ∧ s.vm.findClass own = some m.cls ∧ meth.locks = false ∧ va_K g.1 vwCl (tysG g) s ∧ WT s ∧ ST g s s.heap ∧ g.2.2.2 ≤ s.heap.size
theorem Met_y {l : Launch} {y : MethodName} {cc : ByteArray} {maxL u : Nat} {rm : Room} {ret : Option FieldType} {own : String} (hl : l.stackTraces = false) (hy : plainName y.cls = true) (hcls : y.cls = own) {g : GT} {α : Nat → Nat → Nat} {h : HT} {S : Sto} {X : Heap → Prop} {vs : List Value} {Qc : Array Value → State → Outcome → State → Prop} {XCc : String → State → State → Prop} (hlen : vs.length ≤ maxL) (hcat : ∀ v ∈ vs, v.category = 1)
    (body : ∀ (p : Program) (e : Env) (s : State) (m : MethodId) (below : List Frame) (meth : Method) (c : Code) (ls : Array Slot), Cy p s m meth c cc own maxL g → meth.sig.returnType = ret → Rep g α h S s.heap → X s.heap → lv_has ls maxL (lv_args 0 vs) →
      W p l e rm s m vs.toArray below meth c s.heap [] 0 0 (vx_MQ below Qc XCc vs.toArray s u (120 * u) (AB g)) (F0 m 0 ls [])) : vx_Met l y [.code y cc maxL ret] rm (va_Pc vs (fun U => Wd g α h S U ∧ X U.heap)) Qc XCc u (120 * u) (AB g) := by
  refine vx_ofW (cc := cc) (maxL := maxL) (ret := ret) hy rfl ?_
  intro p e s m args below meth c s₁ B hml hout hv
  obtain ⟨rfl, ⟨hR, hK, hWT, hST, hbs⟩, hX⟩ := hv
  have hown : s.vm.findClass own = some m.cls := by rw [← hcls]; exact findClass_of_methodNamed B.named
  rw [lg_entry_eq]
  have hl1 : (lg_sl vs).length ≤ maxL := by rw [lg_len1 hcat]; exact hlen
  have hle := lv_entry vs (n := maxL) hl1
  generalize (lg_sl vs ++ List.replicate (maxL - (lg_sl vs).length) Slot.unset).toArray = ls at hle ⊢
  exact body p e s m below meth c ls ⟨B.exec, B.bytes, hml, hown, B.notSynchronized, hK, hWT, hST, hbs⟩ B.returns hR hX hle
section JD3
variable {p : Program} {l : Launch} {e : Env} {R : Room} {s : State} {m : MethodId} {args : Array Value} {below : List Frame} {meth : Method} {c : Code} {H : Heap} {locs : List Loc} {cells slots : Nat} {Q : State → Prop}
variable {cc : ByteArray} {pc : Nat} {ls : Array Slot} {rest st0 : List Value} {g : GT} {α : Nat → Nat → Nat} {h : HT} {S : Sto} {H0 : Heap} {own : String} {idx nL rk cb sb B : Nat} {ini : Bool} {P : Out → Sto → Prop}
theorem pre_Wy (C : Cy p s m meth c cc own nL g) (hR : Rep g α h S H) {X : Heap → Prop} (hX : X H) (hS : va_S (AB g) s.heap H locs) (vs : List Value) : PreS s H (va_Pc vs (fun U => Wd g α h S U ∧ X U.heap)) vs := by
  obtain ⟨hx, hb, hml, hown, hlk, hK, hWT, hST, hbs⟩ := C
  refine ⟨?_, fun U hU hW => ⟨rfl, ⟨by rw [hU]; exact hR, va_K.moved hW.alike hK, WT.warm hW hWT, by rw [hU]; exact (ST.moved hW hST).kept hS.2.1, by rw [hU]; exact Nat.le_trans hbs hS.1⟩, by rw [hU]; exact hX⟩⟩
  intro a U f mk q
  obtain ⟨q1, ⟨q2, q3, q4, q5, q6⟩, q7⟩ := q
  exact ⟨q1, ⟨q2, va_K.moved (u := U) (U := U.calling f mk a) (Vm.Alike.refl U.vm) q3, WT.warm (s := U) (U := U.calling f mk a) (State.WarmedH.refl U) q4, ST.moved (s := U) (U := U.calling f mk a) (State.WarmedH.refl U) q5, q6⟩, q7⟩
theorem lkB_y {y : MethodName} {cy : ByteArray} {maxL n : Nat} {ret : Option FieldType} {rm : Room} (hWT : WT s) (hL : LkB own idx y cy maxL ret n) (h1 : rm.frames + 1 ≤ R.frames) (h2 : 8 + (maxL + 11) + rm.locals ≤ R.locals) :
    CallB R s args own idx y cy maxL ret [.code y cy maxL ret] rm rm.cells rm.slots n := by
  obtain ⟨q1, q2, q3, q4, q5, q6⟩ := hL
  have hcode : (Cond.code y cy maxL ret).before args s = true := hWT _ q1 rfl args
  refine ⟨rfl, rfl, h1, h2, code_pay hcode, List.mem_singleton.mpr rfl, hcode, hWT _ q2 rfl args, q4, fun sig h => ?_, hWT _ q3 rfl args⟩
  rw [h] at q5
  exact (Option.some.inj q5).symm
/-- a list's field is written -/
theorem w_putL (hx : p.tables.exec = Jvm.exec) (hb : c.code = cc) (hown : s.vm.findClass own = some m.cls) (hK : va_K g.1 vwCl (tysG g) s) (hWT : WT s) (hS : va_S (AB g) H0 H locs) {q : Nat} {fs : List Value} (hP : va_P g.1 vwCl [(q, .inr (0, fs))] H) (hAB : AB g q) (k : Nat) (hk : k < 3) (hlen : fs.length = 3) {ref : String} {v : Value}
    (hlink : (Cond.fieldLink own idx ref ((vC 0).2.1 k).2.1 ((vC 0).2.1 k).2.2.1).before args s = true) (hsame : ∀ x, s.fieldFound? ((vC 0).2.1 k).1 ((vC 0).2.1 k).2.1 ((vC 0).2.1 k).2.2.1 = some x → s.fieldFound? ref ((vC 0).2.1 k).2.1 ((vC 0).2.1 k).2.2.1 = some x)
    (hfin : ((vC 0).2.1 k).2.2.2 = false) (hfit : narrow (tyC 0 k) v = v ∧ fits (tyC 0 k) v = true) (hdg : decode cc pc = .ok (.putfield idx, 3))
    (kk : ∀ (H1 : Heap) (locs1 : List Loc), va_P g.1 vwCl [(q, .inr (0, fs.set k v))] H1 → H1.size = H.size → (∀ q', q' ≠ q → H1[q']? = H[q']?) → va_S (AB g) H0 H1 locs1 → W p l e R s m args below meth c H1 locs1 cells slots Q (F0 m (pc + 3) ls rest)) : W p l e R s m args below meth c H locs cells slots Q (F0 m pc ls (v :: .ref q :: rest)) := by
  have hts := kf_words (args := args) hWT KF0
  have hap := va_apart (D := g.1) (cl := vwCl) (tys := tysG g) (own := own) (ci := 0) hts (fun _ h => h) (tyC 0) KF0.2.1 KF0.2.2.1 hK KF0.1
  obtain ⟨r, h1, cell, q1, q2, q3, q4⟩ := hP 0 _ rfl
  have hr : r = ((vC 0).1, (vC 0).2.1, (vC 0).2.2) := Option.some.inj (h1.symm.trans KF0.1)
  subst hr
  obtain ⟨hSl, hfc, kC, hkC, hkind⟩ := hK.1 0 _ KF0.1
  obtain ⟨cf, kf, fi, f, hi, hsl⟩ := hSl k hk
  have hlay := hts _ (u_in_lay (N := (vC 0).2.2) hk)
  unfold u_lay at hlay
  rw [if_neg (by rw [hfin]; decide)] at hlay
  have hst := (u_facts hfc hkC (u_lays hts (fun _ h => h) hk) hi).1
  have h6 := u_store hfc hkC hkind hlay hi (KF0.2.1 k hk) hfit.1 hfit.2
  refine W.putK hx hb (f := f) ⟨hown, hlink, ⟨_, _, _, hsame _ hi⟩, hst⟩ (by rw [q2]; exact h6) q1 q3 (by rw [hsl]; exact k2_hasslot (q4 k hk)) rfl rfl hdg fun H' e1 e2 e3 => ?_
  rw [hsl] at e1 ⊢
  refine kk H' _ (va_P1 ⟨_, KF0.1, t_OB.to (V := updV (vp_V fs) k v) ⟨_, e1, q2, q3, t_set q4 hap hk v⟩ (fun j _ => vp_updV_set (by rw [hlen]; exact hk) v j)⟩) e2 e3 (hS.put e2 e3 hAB)
end JD3
def QI (g : GT) (q : Nat) (fs : List Value) : Array Value → State → Outcome → State → Prop := fun _ st o t => o = .returned none ∧ va_P g.1 vwCl [(q, .inr (0, fs))] t.heap ∧ st.heap.size = t.heap.size ∧ ∀ q', q' ≠ q → t.heap[q']? = st.heap[q']?
theorem qi_F {g : GT} {q : Nat} {fs : List Value} (hq : AB g q) {a : Array Value} (v : Option Value) (st t : State) (h : QI g q fs a st (.returned v) t) : va_F (AB g) st t := ⟨by rw [h.2.2.1]; exact Nat.le_refl _, fun q' _ hn => h.2.2.2 q' fun e => hn (by rw [e]; exact hq)⟩
def XN : String → State → State → Prop := fun _ _ _ => False
def rmA : Room := { frames := 1, cells := 0, slots := 0, locals := 12 }
def rmB : Room := { frames := 2, cells := 0, slots := 0, locals := 32 }
def rmC : Room := { frames := 3, cells := 0, slots := 0, locals := 52 }
theorem ct_ac {l : Launch} (hl : l.stackTraces = false) {g : GT} {α : Nat → Nat → Nat} {h : HT} {S : Sto} {q : Nat} {fs : List Value} :
    vx_Met l yJxa1e45_init_da8c8 [.code yJxa1e45_init_da8c8 cJxa1e45_init_da8c8 1 none] rmA (va_Pc [.ref q] (fun U => Wd g α h S U ∧ va_P g.1 vwCl [(q, .inr (0, fs))] U.heap)) (QI g q fs) XN 0 (120 * 0) (AB g) := by
  refine Met_y (X := va_P g.1 vwCl [(q, .inr (0, fs))]) (own := "java/util/AbstractCollection") hl (by decide +kernel) rfl (Nat.le_refl 1) (fun v hv => by rw [List.mem_singleton.mp hv]; rfl) ?_
  intro p e s m below meth c ls C hr hR hX hle
  have hWT := C.2.2.2.2.2.2.1
  have hlocks := C.2.2.2.2.1
  refine lv_aload_n C.1 C.2.1 dJxa1e45_init_da8c8_0 rfl (hle.2.2 _ List.mem_cons_self) ?_
  refine W.objInit C.1 C.2.1 C.2.2.2.1 (wt_at (w := 76) hWT (by decide +kernel) rfl) (hWT _ objI_ok.1 rfl _) (hWT _ objI_ok.2 rfl _) rfl (by rw [C.2.2.1]; exact hle.1) rfl dJxa1e45_init_da8c8_1 (by decide) (by show 2 * 0 + 0 + 12 ≤ 12; decide) ?_
  refine vx_ret ?_
  exact W.vret C.1 C.2.1 hr (fun t ht _ => ⟨rfl, by rw [ht]; exact hX, by rw [ht], fun q' _ => by rw [ht]⟩) (fun _ q => nomatch q) dJxa1e45_init_da8c8_4
theorem ct_al {l : Launch} (hl : l.stackTraces = false) {g : GT} {α : Nat → Nat → Nat} {h : HT} {S : Sto} {q : Nat} {fs : List Value} (hq : AB g q) (hq2 : ∀ k i, Lv h S k i → adr α h k i ≠ q) (hlen : fs.length = 3) :
    vx_Met l yJxc12de_init_da8c8 [.code yJxc12de_init_da8c8 cJxc12de_init_da8c8 1 none] rmB (va_Pc [.ref q] (fun U => Wd g α h S U ∧ va_P g.1 vwCl [(q, .inr (0, fs))] U.heap)) (QI g q (fs.set 0 (.int 0))) XN 0 (120 * 0) (AB g) := by
  refine Met_y (X := va_P g.1 vwCl [(q, .inr (0, fs))]) (own := "java/util/AbstractList") hl (by decide +kernel) rfl (Nat.le_refl 1) (fun v hv => by rw [List.mem_singleton.mp hv]; rfl) ?_
  intro p e s m below meth c ls C hr hR hX hle
  have hWT := C.2.2.2.2.2.2.1
  have hlocks := C.2.2.2.2.1
  have a0 := hle.2.2 (0, .ref q) List.mem_cons_self
  refine lv_aload_n C.1 C.2.1 dJxc12de_init_da8c8_0 rfl a0 ?_
  have hlk : LkB "java/util/AbstractList" 1 yJxa1e45_init_da8c8 cJxa1e45_init_da8c8 1 none 0 := ⟨List.mem_of_getElem? (i := 75) (by decide +kernel), List.mem_of_getElem? (i := 27) (by decide +kernel), List.mem_of_getElem? (i := 73) (by decide +kernel), ⟨by decide +kernel, by decide +kernel⟩, by decide +kernel, by decide⟩
  refine w_afterQ (rest := []) (mc := 0) (ms := 120 * 0) (vx_runI (Ts := []) (own := "java/util/AbstractList") (As := []) (b := q) ⟨C.1, C.2.1, C.2.2.1, C.2.2.2.1, fun _ h => nomatch h⟩ (ct_ac hl (α := α) (h := h) (S := S)) ⟨lkB_y C.2.2.2.2.2.2.1 hlk (by decide) (by decide), rfl, wt_at (w := 74) hWT (by decide +kernel) rfl⟩ (pre_Wy C hR (X := va_P g.1 vwCl [(q, .inr (0, fs))]) hX va_S.rf _) rfl rfl hle.1 rfl (by show 2 * 0 + 0 ≤ 8; decide) dJxc12de_init_da8c8_1 ⟨Nat.zero_le _, Nat.zero_le _⟩) va_S.rf (fun v st₀ t _ hz => qi_F hq v st₀ t hz) (fun v st₀ t locs1 hst hz hS1 => ?_) (fun E st₀ t hx => hx)
  obtain ⟨ho, hP, hsz, hoth⟩ := hz
  cases ho
  refine lv_aload_n C.1 C.2.1 dJxc12de_init_da8c8_4 rfl a0 ?_
  refine lv_iconst C.1 C.2.1 dJxc12de_init_da8c8_5 rfl ?_
  refine w_putL C.1 C.2.1 C.2.2.2.1 C.2.2.2.2.2.1 hWT hS1 hP hq 0 (by decide) hlen (wt_at (w := 81) hWT (by decide +kernel) rfl) (fun _ h => h) rfl ⟨rfl, rfl⟩ dJxc12de_init_da8c8_6 (fun H1 locs2 hP1 z1 o1 hS2 => ?_)
  refine vx_ret ?_
  exact W.vret C.1 C.2.1 hr (fun t' ht _ => ⟨rfl, by rw [ht]; exact hP1, by rw [ht, z1, ← hsz, hst], fun q' hq' => by rw [ht, o1 q' hq', hoth q' hq', hst]⟩) hS2.2.2 dJxc12de_init_da8c8_9
theorem ct_li {l : Launch} (hl : l.stackTraces = false) {g : GT} {α : Nat → Nat → Nat} {h : HT} {S : Sto} {q : Nat} {fs : List Value} (hq : AB g q) (hq2 : ∀ k i, Lv h S k i → adr α h k i ≠ q) (hlen : fs.length = 3) :
    vx_Met l yJx4a65c_init_da8c8 [.code yJx4a65c_init_da8c8 cJx4a65c_init_da8c8 1 none] rmC (va_Pc [.ref q] (fun U => Wd g α h S U ∧ va_P g.1 vwCl [(q, .inr (0, fs))] U.heap)) (QI g q ((fs.set 0 (.int 0)).set 1 (.ref g.2.2.1))) XN 0 (120 * 0) (AB g) := by
  refine Met_y (X := va_P g.1 vwCl [(q, .inr (0, fs))]) (own := "java/util/ArrayList") hl (by decide +kernel) rfl (Nat.le_refl 1) (fun v hv => by rw [List.mem_singleton.mp hv]; rfl) ?_
  intro p e s m below meth c ls C hr hR hX hle
  have hWT := C.2.2.2.2.2.2.1
  have hlocks := C.2.2.2.2.1
  have hST := C.2.2.2.2.2.2.2.1
  have a0 := hle.2.2 (0, .ref q) List.mem_cons_self
  refine lv_aload_n C.1 C.2.1 dJx4a65c_init_da8c8_0 rfl a0 ?_
  have hlk : LkB "java/util/ArrayList" 1 yJxc12de_init_da8c8 cJxc12de_init_da8c8 1 none 0 := ⟨List.mem_of_getElem? (i := 72) (by decide +kernel), List.mem_of_getElem? (i := 28) (by decide +kernel), List.mem_of_getElem? (i := 70) (by decide +kernel), ⟨by decide +kernel, by decide +kernel⟩, by decide +kernel, by decide⟩
  refine w_afterQ (rest := []) (mc := 0) (ms := 120 * 0) (vx_runI (Ts := []) (own := "java/util/ArrayList") (As := []) (b := q) ⟨C.1, C.2.1, C.2.2.1, C.2.2.2.1, fun _ h => nomatch h⟩ (ct_al hl (α := α) (h := h) (S := S) hq hq2 hlen) ⟨lkB_y C.2.2.2.2.2.2.1 hlk (by decide) (by decide), rfl, wt_at (w := 71) hWT (by decide +kernel) rfl⟩ (pre_Wy C hR (X := va_P g.1 vwCl [(q, .inr (0, fs))]) hX va_S.rf _) rfl rfl hle.1 rfl (by show 2 * 0 + 0 ≤ 8; decide) dJx4a65c_init_da8c8_1 ⟨Nat.zero_le _, Nat.zero_le _⟩) va_S.rf (fun v st₀ t _ hz => qi_F hq v st₀ t hz) (fun v st₀ t locs1 hst hz hS1 => ?_) (fun E st₀ t hx => hx)
  obtain ⟨ho, hP, hsz, hoth⟩ := hz
  cases ho
  refine lv_aload_n C.1 C.2.1 dJx4a65c_init_da8c8_4 rfl a0 ?_
  refine va_gets C.1 C.2.1 hST.2.2.2.1 hS1 C.2.2.2.1 (wt_at (w := 77) hWT (by decide +kernel) rfl) (fun _ h => h) dJx4a65c_init_da8c8_5 ?_
  refine w_putL C.1 C.2.1 C.2.2.2.1 C.2.2.2.2.2.1 hWT hS1 hP hq 1 (by decide) (by rw [List.length_set]; exact hlen) (wt_at (w := 79) hWT (by decide +kernel) rfl) (fun _ h => h) rfl ((rty_ok rfl).2 _) dJx4a65c_init_da8c8_8 (fun H1 locs2 hP1 z1 o1 hS2 => ?_)
  refine vx_ret ?_
  exact W.vret C.1 C.2.1 hr (fun t' ht _ => ⟨rfl, by rw [ht]; exact hP1, by rw [ht, z1, ← hsz, hst], fun q' hq' => by rw [ht, o1 q' hq', hoth q' hq', hst]⟩) hS2.2.2 dJx4a65c_init_da8c8_11
def h1n (h : HT) (n : Nat) (v : Nat × Nat × Int32) : HT := fun i => if i = n then v else h i
theorem h1n_eq {h : HT} {n : Nat} {v : Nat × Nat × Int32} : h1n h n v n = v := if_pos rfl
theorem h1n_ne {h : HT} {n i : Nat} {v : Nat × Nat × Int32} (q : i ≠ n) : h1n h n v i = h i := if_neg q
theorem Rep.growL {g : GT} {α : Nat → Nat → Nat} {h : HT} {S : Sto} {H H1 : Heap} (R : Rep g α h S H) (h5 : S.2.2 13 < 5) (h0 : S.2.2 (20 + S.2.2 13) = 0) {q : Nat} (hq : AB g q) (hq2 : ∀ k i, Lv h S k i → adr α h k i ≠ q)
    (hat : va_P g.1 vwCl [(q, .inr (0, [.int 0, .ref g.2.2.1, .int 0]))] H1) (hoth : ∀ k i, Lv h S k i → H1[adr α h k i]? = H[adr α h k i]?) : Rep g (al1 α 13 (S.2.2 13) q) (h1n h (S.2.2 13) (0, 0, 0)) (mkL S) H1 := by
  have hag : AgR S α (al1 α 13 (S.2.2 13) q) := al1_ag (Or.inr rfl)
  have hle : ∀ k', S.2.2 k' ≤ (mkL S).2.2 k' := fun k' => bump_le k'
  have hn0 : h1n h (S.2.2 13) (0, 0, 0) (S.2.2 13) = (0, 0, 0) := h1n_eq
  have h20 : ∀ i, (mkL S).2.2 (20 + i) = S.2.2 (20 + i) := fun i => bump_ne (by omega)
  have e1 : ∀ k' i', Lv (h1n h (S.2.2 13) (0, 0, 0)) (mkL S) k' i' → (k' = 13 ∧ i' = S.2.2 13) ∨ (Lv h S k' i' ∧ ((k' = 13 ∨ k' = 15) → i' ≠ S.2.2 13)) := by
    intro k' i' hl
    rcases Lv_un hl with ⟨rfl, h2, h3⟩ | ⟨h2, h3, h4⟩
    · right
      have hne : i' ≠ S.2.2 13 := fun e => h3 (by rw [e, hn0])
      rw [h1n_ne hne] at h3
      have h2' : i' < S.2.2 13 + 1 := h2
      rw [Lv, if_pos rfl]
      exact ⟨⟨by omega, h3⟩, fun _ => hne⟩
    · by_cases e : k' = 13
      · subst e
        have h4' : i' < S.2.2 13 + 1 := h4
        by_cases e2 : i' = S.2.2 13
        · exact Or.inl ⟨rfl, e2⟩
        · exact Or.inr ⟨Lv_of h3 (by omega), fun _ => e2⟩
      · have h4' : i' < bump S.2.2 13 k' := h4
        rw [bump_ne e] at h4'
        exact Or.inr ⟨Lv_of h3 h4', fun hz => by rcases hz with hz | hz; exact absurd hz e; exact absurd hz h2⟩
  have e2 : ∀ k' i', Lv h S k' i' → ((k' = 13 ∨ k' = 15) → i' ≠ S.2.2 13) → adr (al1 α 13 (S.2.2 13) q) (h1n h (S.2.2 13) (0, 0, 0)) k' i' = adr α h k' i' := fun k' i' hl hne => by
    rw [← adr_ext hag hl]
    unfold adr
    by_cases h15 : k' = 15
    · rw [if_pos h15, if_pos h15, h1n_ne (hne (Or.inr h15))]
    · rw [if_neg h15, if_neg h15]
  have e3 : adr (al1 α 13 (S.2.2 13) q) (h1n h (S.2.2 13) (0, 0, 0)) 13 (S.2.2 13) = q := by rw [adr_of (Or.inr rfl), al1_eq]
  have e4 : ∀ k' i', Lv h S k' i' → ((k' = 13 ∨ k' = 15) → i' ≠ S.2.2 13) → ent g (al1 α 13 (S.2.2 13) q) (h1n h (S.2.2 13) (0, 0, 0)) (mkL S) k' i' = ent g α h S k' i' := fun k' i' hl hne => by
    rw [← ent_ext R hag hl]
    unfold ent
    rw [h20]
    by_cases h13 : k' = 13
    · subst h13
      rw [h1n_ne (hne (Or.inl rfl))]
      rfl
    · by_cases h15 : k' = 15
      · subst h15
        rw [h1n_ne (hne (Or.inr rfl))]
        rfl
      · rcases Lv_un hl with ⟨q9, -⟩ | ⟨-, q9, -⟩
        · exact absurd q9 h15
        · rcases q9 with q9 | q9
          · rw [if_pos q9, if_pos q9]; rfl
          · rcases ar_or q9 with rfl | rfl | rfl | rfl
            · rfl
            · rfl
            · rfl
            · exact absurd rfl h13
  refine ⟨fun k' i' hl => ?_, fun k1 i1 k2 i2 hl1 hl2 he => ?_, fun k' i' hl => ?_, fun k' i f g1 g2 g3 g4 => ?_, fun i hi => ?_, ?_⟩
  · rcases e1 k' i' hl with ⟨rfl, rfl⟩ | ⟨h2, h3⟩
    · rw [e3, ent_13, hn0, h20, h0]
      exact hat 0 _ rfl
    · rw [e2 k' i' h2 h3, e4 k' i' h2 h3]
      exact (R.1 k' i' h2).kept (hoth k' i' h2)
  · rcases e1 k1 i1 hl1 with ⟨rfl, rfl⟩ | ⟨h3, h3'⟩ <;> rcases e1 k2 i2 hl2 with ⟨rfl, rfl⟩ | ⟨h4, h4'⟩
    · exact ⟨rfl, rfl⟩
    · rw [e3, e2 k2 i2 h4 h4'] at he
      exact absurd he.symm (hq2 k2 i2 h4)
    · rw [e3, e2 k1 i1 h3 h3'] at he
      exact absurd he (hq2 k1 i1 h3)
    · rw [e2 k1 i1 h3 h3', e2 k2 i2 h4 h4'] at he
      exact R.2.1 _ _ _ _ h3 h4 he
  · rcases e1 k' i' hl with ⟨rfl, rfl⟩ | ⟨h2, h3⟩
    · rw [e3]; exact hq
    · rw [e2 k' i' h2 h3]; exact R.2.2.1 k' i' h2
  · have g2' : i < S.2.2 k' := by
      have g5 : i < bump S.2.2 13 k' := g2
      rwa [bump_ne (fun e => by rw [e] at g1; exact absurd g1 (by decide))] at g5
    rcases R.2.2.2.1 k' i f g1 g2' g3 g4 with g5 | g5
    · exact Or.inl g5
    · exact Or.inr (LvR_le hle g5)
  · have hi' : i < S.2.2 13 + 1 := hi
    rw [h20]
    by_cases e : i = S.2.2 13
    · subst e
      rw [hn0, h0]
      exact ⟨h5, Nat.zero_le _, Nat.le_refl _, Nat.zero_le _, Or.inl rfl⟩
    · rw [h1n_ne e]
      have h9 := R.2.2.2.2.1 i (by omega)
      exact ⟨h9.1, Nat.le_trans h9.2.1 (hle _), h9.2.2⟩
  · rw [al1_ne fun z => absurd z.1 (by decide)]
    exact R.2.2.2.2.2
theorem newL {l : Launch} (hl : l.stackTraces = false) : NewL l := by
  intro p e R s m args below meth c Qm g cc own nL rk cb sb B ini pc i len xl S u α h H locs ls rest C hc h5 h0 hu hR hS hsz hcat kk
  have hWT := C.2.2.2.2.2.2.2.1
  have hK := C.2.2.2.2.2.2.1
  have h30 := C.2.2.2.2.2.2.2.2.2.2.2.2.1
  have h31 := C.2.2.2.2.2.2.2.2.2.2.2.2.2.1
  have hfr := C.2.2.2.2.2.2.2.2.2.2.1
  have hlo := C.2.2.2.2.2.2.2.2.2.2.2.1
  unfold chkL at hc
  split at hc
  · rename_i w1 ic
    simp only [Bool.and_eq_true, decide_eq_true_eq] at hc
    obtain ⟨⟨⟨⟨⟨hw1, d0⟩, d3⟩, d4⟩, hml⟩, -⟩ := hc
    have hKn := hK.1 0 _ KF0.1
    have hts := kf_words (args := args) hWT KF0
    have hbs : g.2.2.2 ≤ H.size := Nat.le_trans C.2.2.2.2.2.2.2.2.2.1 hS.1
    refine W.newcK C.1 C.2.1 C.2.2.2.1 (wdAt_ok hw1 hWT _) (wt_at (w := 66) (k := Cond.instantiable "java/util/ArrayList" 3) hWT (by decide +kernel) rfl) (wt_at (w := 29) hWT (by decide +kernel) rfl) rfl (dcd_ok d0) (by omega) (by show _ + 3 ≤ _; omega) hKn.2.1 rfl fun H1 kC hkC e1 z1 o1 => ?_
    have hP1 : va_P g.1 vwCl [(H.size, .inr (0, [.int 0, .null, .int 0]))] H1 := va_P1 ⟨_, KF0.1, (u_born (tyC 0) hts (fun _ h => h) hKn hkC e1 KF0.2.1).to fun j hj => by
      have hj3 : j < 3 := hj
      rcases j with _ | _ | _ | j
      · rfl
      · rfl
      · rfl
      · omega⟩
    have hS1 : va_S (AB g) s.heap H1 locs := ⟨Nat.le_trans hS.1 (by omega), fun x h1 h2 => (o1 x (Nat.lt_of_lt_of_le h1 hS.1)).trans (hS.2.1 x h1 h2), hS.2.2⟩
    have hR1 : Rep g α h S H1 := hR.cong fun q h1 _ => o1 q h1
    have hq2 : ∀ k i, Lv h S k i → adr α h k i ≠ H.size := fun k i hlv e9 => by have := hR.lt hlv; omega
    refine lv_dup C.1 C.2.1 (dcd_ok d3) rfl ?_
    have hlk : LkB own ic yJx4a65c_init_da8c8 cJx4a65c_init_da8c8 1 none 0 := ⟨List.mem_of_getElem? (i := 69) (by decide +kernel), List.mem_of_getElem? (i := 29) (by decide +kernel), hml, ⟨by decide +kernel, by decide +kernel⟩, by decide +kernel, by decide⟩
    have hcs : H.size < H1.size := by rw [z1]; exact Nat.lt_succ_self _
    refine w_afterQ (rest := .ref H.size :: rest) (mc := 0) (ms := 120 * 0) (vx_runI (Ts := []) (own := own) (As := []) (b := H.size) ⟨C.1, C.2.1, C.2.2.1, C.2.2.2.1, fun _ h => nomatch h⟩ (ct_li hl (α := α) (h := h) (S := S) hbs hq2 rfl) ⟨lkB_y hWT hlk (by show 3 + 1 ≤ _; omega) (by show 8 + (1 + 11) + 52 ≤ _; omega), rfl, wt_at (w := 68) hWT (by decide +kernel) rfl⟩ (pre_Wy (cc := cc) (own := own) (nL := nL) ⟨C.1, C.2.1, C.2.2.1, C.2.2.2.1, C.2.2.2.2.1, hK, hWT, C.2.2.2.2.2.2.2.2.1, C.2.2.2.2.2.2.2.2.2.1⟩ hR1 (X := va_P g.1 vwCl [(H.size, .inr (0, [.int 0, .null, .int 0]))]) hP1 hS1 _) rfl rfl hsz rfl (by show 2 * 0 + (1 + (rest.map fun v => v.category).sum) ≤ 8; omega) (dcd_ok d4) ⟨by show _ + 0 ≤ _; omega, by show _ + 120 * 0 ≤ _; omega⟩) hS1 (fun v st₀ t _ hz => qi_F hbs v st₀ t hz) (fun v st₀ t locs1 hst hz hS2 => ?_) (fun E st₀ t hx => hx)
    obtain ⟨ho, hP, hsz2, hoth⟩ := hz
    cases ho
    have hR2 : Rep g (al1 α 13 (S.2.2 13) H.size) (h1n h (S.2.2 13) (0, 0, 0)) (mkL S) t.heap := hR.growL h5 h0 hbs hq2 hP fun k i hlv => by rw [hoth _ (hq2 k i hlv), hst, o1 _ (hR.lt hlv)]
    refine W.widen (k := cb + (u + 1)) (n := sb + 120 * (u + 1)) (by omega) (by show _ + 3 + 120 * 0 ≤ _; omega) (kk _ _ _ _ hR2 hS2)
  · cases hc
end
section
/-! THE JDK's LISTS: growing -/
section JD4
variable {p : Program} {l : Launch} {e : Env} {R : Room} {s : State} {m : MethodId} {args : Array Value} {below : List Frame} {meth : Method} {c : Code} {H : Heap} {locs : List Loc} {cells slots : Nat} {Q : State → Prop}
variable {cc : ByteArray} {pc : Nat} {ls : Array Slot} {rest st0 : List Value} {g : GT} {α : Nat → Nat → Nat} {h : HT} {S : Sto} {H0 : Heap} {own : String} {idx nL rk cb sb B : Nat} {ini : Bool} {P : Out → Sto → Prop}
abbrev arO (g : GT) (N : Nat) (f : Nat → Option Nat) : va_E := .inl (g.2.1.2.2.2.1, N, .inr (.inr (.inr (.inr f))))
def elF (α : Nat → Nat → Nat) (S : Sto) (i : Nat) : Nat → Option Nat := fun j => if j < S.2.2 (20 + i) then some (α (lk i) j) else none
theorem w_anewO (hx : p.tables.exec = Jvm.exec) (hb : c.code = cc) (hown : s.vm.findClass own = some m.cls) (hK : va_K g.1 vwCl (tysG g) s) (hWT : WT s) {n : Int32} {N : Nat} (hn : ¬ n < 0) (hN : n.toNatClampNeg = N) (hN2 : N ≤ 100) (hclink : (Cond.classLink own idx "java/lang/Object").before args s = true) (hcells : cells + 1 ≤ R.cells) (hslots : slots + N ≤ R.slots) (hdg : decode cc pc = .ok (.anewarray idx, 3))
    (kk : ∀ H1 : Heap, H1.size = H.size + 1 → (∀ q : Nat, q < H.size → H1[q]? = H[q]?) → va_P g.1 vwCl [(H.size, arO g N fun _ => none)] H1 → W p l e R s m args below meth c H1 locs (cells + 1) (slots + N) Q (F0 m (pc + 3) ls (.ref H.size :: rest))) : W p l e R s m args below meth c H locs cells slots Q (F0 m pc ls (.int n :: rest)) := by
  subst hN
  refine W.anew hx hb hown hclink (wt_at (w := 349) hWT (by decide +kernel) rfl) rfl hdg rfl hn (by omega) hcells hslots fun cA kA comp f1 f2 f3 f4 => ?_
  have hcA : cA = g.2.1.2.2.2.1 := by
    obtain ⟨kA', comp', k1, k2, k3, k4⟩ := (hK.2 3 _ rfl).2
    exact Option.some.inj (f1.symm.trans k4)
  subst hcA
  generalize hH1 : H.push ({ cls := g.2.1.2.2.2.1, slots := Array.replicate n.toNatClampNeg .null, vm := .none } : Cell) = H1
  have z1 : H1.size = H.size + 1 := by rw [← hH1, Array.size_push]
  have e1 : H1[H.size]? = some (arrV g.2.1.2.2.2.1 n.toNatClampNeg (fun _ => .null)) := by rw [← hH1, Array.getElem?_push_size, ← arrV_new]
  have o1 : ∀ q : Nat, q < H.size → H1[q]? = H[q]? := fun q hq => by rw [← hH1, Array.getElem?_push, if_neg (Nat.ne_of_lt hq)]
  exact kk H1 z1 o1 (va_P1 e1)
end JD4
def QN (g : GT) (α : Nat → Nat → Nat) (S : Sto) (i N : Nat) : Array Value → State → Outcome → State → Prop := fun _ st o t => ∃ q, o = .returned (some (.ref q)) ∧ st.heap.size ≤ q ∧ va_P g.1 vwCl [(q, arO g N (elF α S i))] t.heap ∧ st.heap.size ≤ t.heap.size ∧ ∀ q' : Nat, q' < st.heap.size → t.heap[q']? = st.heap[q']?
theorem qn_F {g : GT} {α : Nat → Nat → Nat} {S : Sto} {i N : Nat} {a : Array Value} (v : Option Value) (st t : State) (h : QN g α S i N a st (.returned v) t) : va_F (AB g) st t := by
  obtain ⟨q, -, -, -, h1, h2⟩ := h
  exact ⟨h1, fun q' hq _ => h2 q' hq⟩
theorem any_el {s : State} {g : GT} {α : Nat → Nat → Nat} {h : HT} {S : Sto} {H : Heap} (hK : va_K g.1 vwCl (tysG g) s) (hWT : WT s) (hR : Rep g α h S H) {k j : Nat} (hk : k = 2 ∨ k = 3 ∨ k = 4 ∨ k = 5 ∨ k = 6) (hj : j < S.2.2 k) : va_Any "java/lang/Object" s H (α k j) := by
  have hob : obK k = true := by rcases hk with rfl | rfl | rfl | rfl | rfl <;> rfl
  refine va_rAny hK (hR.ob hob hj) (q0 := 0) rfl (kd_KF hob).1.1 fun comp c0 h1 h2 => ?_
  have key : ∀ nm : String, Cond.castable nm "java/lang/Object" ∈ lw_tbl → s.vm.findClass nm = some c0 → s.vm.assignable c0 comp = true := fun nm hw hc => by
    obtain ⟨c1, t1, f1, f2, f3⟩ := Cond.castable_spec (hWT _ hw rfl #[])
    cases hc.symm.trans f1
    cases h1.symm.trans f2
    exact f3
  rcases hk with rfl | rfl | rfl | rfl | rfl
  · exact key _ (List.mem_of_getElem? (i := 774) (by decide +kernel)) h2
  · exact key _ (List.mem_of_getElem? (i := 779) (by decide +kernel)) h2
  · exact key _ (List.mem_of_getElem? (i := 775) (by decide +kernel)) h2
  · exact key _ (List.mem_of_getElem? (i := 778) (by decide +kernel)) h2
  · exact key _ (List.mem_of_getElem? (i := 776) (by decide +kernel)) h2
theorem lk_or (i : Nat) : lk i = 2 ∨ lk i = 3 ∨ lk i = 4 ∨ lk i = 5 ∨ lk i = 6 := by
  unfold lk
  split <;> simp
theorem Met_z {l : Launch} {y : MethodName} {cc : ByteArray} {maxL rk u : Nat} {ret : Option FieldType} {own : String} (hl : l.stackTraces = false) (hy : plainName y.cls = true) (hcls : y.cls = own) {g : GT} {α : Nat → Nat → Nat} {h : HT} {S : Sto} {X : State → Prop} {vs : List Value} {Qc : Array Value → State → Outcome → State → Prop} {XCc : String → State → State → Prop} (hlen : vs.length ≤ maxL) (hcat : ∀ v ∈ vs, v.category = 1)
    (body : ∀ (p : Program) (e : Env) (R : Room) (s : State) (m : MethodId) (below : List Frame) (meth : Method) (c : Code) (ls : Array Slot), Cx p l s m meth c R cc own maxL rk 0 0 u false g → meth.sig.returnType = ret → Rep g α h S s.heap → X s → lv_has ls maxL (lv_args 0 vs) →
      W p l e R s m vs.toArray below meth c s.heap [] 0 0 (vx_MQ below Qc XCc vs.toArray s u (120 * u) (AB g)) (F0 m 0 ls [])) : vx_Met l y [.code y cc maxL ret] (rmx rk u) (va_Pc vs (fun U => Wd g α h S U ∧ X U)) Qc XCc u (120 * u) (AB g) := by
  refine vx_ofW (cc := cc) (maxL := maxL) (ret := ret) hy rfl ?_
  intro p e s m args below meth c s₁ B hml hout hv
  obtain ⟨rfl, hW, hX⟩ := hv
  have C := cx_of (ini := false) hl hcls (fun q => nomatch q) B hml hW
  rw [lg_entry_eq]
  have hl1 : (lg_sl vs).length ≤ maxL := by rw [lg_len1 hcat]; exact hlen
  have hle := lv_entry vs (n := maxL) hl1
  generalize (lg_sl vs ++ List.replicate (maxL - (lg_sl vs).length) Slot.unset).toArray = ls at hle ⊢
  exact body p e _ s m below meth c ls C B.returns hW.1 hX hle
theorem pre_Wz {p : Program} {l : Launch} {R : Room} {s : State} {m : MethodId} {meth : Method} {c : Code} {H : Heap} {locs : List Loc} {cc : ByteArray} {own : String} {nL rk cb sb B : Nat} {ini : Bool} {g : GT} {α : Nat → Nat → Nat} {h : HT} {S : Sto} (C : Cx p l s m meth c R cc own nL rk cb sb B ini g) (hR : Rep g α h S H) {X : State → Prop} (hX : ∀ U : State, s.vm.Alike U.vm → X U) (hX2 : ∀ U U' : State, U.vm.Alike U'.vm → X U → X U') (hS : va_S (AB g) s.heap H locs) (vs : List Value) : PreS s H (va_Pc vs (fun U => Wd g α h S U ∧ X U)) vs := by
  have h1 := pre_Wd C hR hS vs
  refine ⟨?_, fun U hU hW => ⟨rfl, (h1.2 U hU hW).2, hX U hW.alike⟩⟩
  intro a U f mk q
  obtain ⟨q1, ⟨q2, q3, q4, q5, q6⟩, q7⟩ := q
  exact ⟨q1, ⟨q2, va_K.moved (u := U) (U := U.calling f mk a) (Vm.Alike.refl U.vm) q3, WT.warm (s := U) (U := U.calling f mk a) (State.WarmedH.refl U) q4, ST.moved (s := U) (U := U.calling f mk a) (State.WarmedH.refl U) q5, q6⟩, hX2 U _ (Vm.Alike.refl U.vm) q7⟩
theorem ofNat_cl {n : Nat} (h : n < 2 ^ 31) : (Int32.ofNat n).toNatClampNeg = n := by
  show (Int32.ofNat n).toInt.toNat = n
  rw [Int32.toInt_ofNat_of_lt h]
  rfl
theorem ofNat_nn {n : Nat} (h : n < 2 ^ 31) : ¬ Int32.ofNat n < 0 := by
  rw [Int32.lt_iff_toInt_lt, Int32.toInt_ofNat_of_lt h]
  show ¬ (n : Int) < 0
  omega
/-- Arrays.copyOf of the array of a list -/
theorem ct_cp3 {l : Launch} (hl : l.stackTraces = false) {g : GT} {α : Nat → Nat → Nat} {h : HT} {S : Sto} {i N mi : Nat} {n : Int32} (hi : i < S.2.2 13) (h0 : (h i).1 ≠ 0) (hn0 : ¬ n < 0) (hN : n.toNatClampNeg = N) (hle : (h i).1 ≤ N) (hN2 : N ≤ 100) :
    vx_Met l yJ7_copyOf_6403c [.code yJ7_copyOf_6403c cJ7_copyOf_6403c 4 (some (.array (.object "java/lang/Object")))] (rmx 0 1) (va_Pc [.ref (h i).2.1, .int n, .ref mi] (fun U => Wd g α h S U ∧ va_Mi "[Ljava/lang/Object;" mi U)) (QN g α S i N) XN 1 (120 * 1) (AB g) := by
  refine Met_z (X := va_Mi "[Ljava/lang/Object;" mi) (own := "java/util/Arrays") hl (by decide +kernel) rfl (Nat.le_of_ble_eq_true rfl) (fun v hv => ?_) ?_
  · simp only [List.mem_cons, List.not_mem_nil, or_false] at hv
    rcases hv with rfl | rfl | rfl <;> rfl
  · intro p e R s m below meth c ls C hr hR hX hl9
    have hWT := C.2.2.2.2.2.2.2.1
    have hK := C.2.2.2.2.2.2.1
    have hlocks := C.2.2.2.2.1
    have hfr := C.2.2.2.2.2.2.2.2.2.2.1
    have hlo := C.2.2.2.2.2.2.2.2.2.2.2.1
    have h30 := C.2.2.2.2.2.2.2.2.2.2.2.2.1
    have h31 := C.2.2.2.2.2.2.2.2.2.2.2.2.2.1
    have h9 := hR.2.2.2.2.1 i hi
    have a0 := hl9.2.2 (0, .ref (h i).2.1) List.mem_cons_self
    have a1 := hl9.2.2 (1, .int n) (List.mem_cons_of_mem _ List.mem_cons_self)
    have a2 := hl9.2.2 (2, .ref mi) (List.mem_cons_of_mem _ (List.mem_cons_of_mem _ List.mem_cons_self))
    refine lv_aload_n C.1 C.2.1 dJ7_copyOf_6403c_0 rfl a2 ?_
    refine va_ldcM C.1 C.2.1 C.2.2.2.1 (wt_at (w := 348) hWT (by decide +kernel) rfl) hX dJ7_copyOf_6403c_1 ?_
    refine lv_acmp_ne (tgt := 13) (rx := some mi) (ry := some mi) C.1 C.2.1 dJ7_copyOf_6403c_3 rfl (fun q => absurd rfl q) fun _ => ?_
    refine lv_iload_n C.1 C.2.1 dJ7_copyOf_6403c_6 rfl a1 ?_
    refine w_anewO (g := g) C.1 C.2.1 C.2.2.2.1 hK hWT hn0 hN hN2 (wt_at (w := 350) hWT (by decide +kernel) rfl) (by omega) (by omega) dJ7_copyOf_6403c_7 fun H1 z1 o1 hP1 => ?_
    refine lv_goto (tgt := 24) C.1 C.2.1 dJ7_copyOf_6403c_10 rfl ?_
    refine lv_astore_n (lv' := [(3, .ref s.heap.size), (0, .ref (h i).2.1), (1, .int n), (2, .ref mi)]) C.1 C.2.1 dJ7_copyOf_6403c_24 rfl hl9 (by decide) rfl fun ls1 hl1 => ?_
    have b3 := hl1.2.2 (3, .ref s.heap.size) List.mem_cons_self
    have b0 := hl1.2.2 (0, .ref (h i).2.1) (List.mem_cons_of_mem _ List.mem_cons_self)
    have b1 := hl1.2.2 (1, .int n) (List.mem_cons_of_mem _ (List.mem_cons_of_mem _ List.mem_cons_self))
    have hR1 : Rep g α h S H1 := hR.cong fun q h1 _ => o1 q h1
    have hla := hR1.lar hi h0
    have hlt : (h i).2.1 < s.heap.size := by
      have := hR.lt (k := 15) (i := i) (by rw [Lv, if_pos rfl]; exact ⟨hi, h0⟩)
      rwa [adr, if_pos rfl] at this
    have hab : AB g (h i).2.1 := by
      have := hR.2.2.1 15 i (by rw [Lv, if_pos rfl]; exact ⟨hi, h0⟩)
      rwa [adr, if_pos rfl] at this
    refine lv_aload_n C.1 C.2.1 dJ7_copyOf_6403c_25 rfl b0 ?_
    refine lv_iconst C.1 C.2.1 dJ7_copyOf_6403c_26 rfl ?_
    refine lv_aload_n C.1 C.2.1 dJ7_copyOf_6403c_27 rfl b3 ?_
    refine lv_iconst C.1 C.2.1 dJ7_copyOf_6403c_28 rfl ?_
    refine lv_aload_n C.1 C.2.1 dJ7_copyOf_6403c_29 rfl b0 ?_
    refine va_alen (ty := .object "java/lang/Object") C.1 C.2.1 hK hla 0 3 rfl rfl rfl dJ7_copyOf_6403c_30 ?_
    refine lv_iload_n C.1 C.2.1 dJ7_copyOf_6403c_31 rfl b1 ?_
    refine va_mmin C.1 C.2.1 (by rw [C.2.2.1, hl1.1]) C.2.2.2.1 (wt_at (w := 351) hWT (by decide +kernel) rfl) (hWT _ mathI_ok.2.2.2.1 rfl _) (hWT _ mathI_ok.1 rfl _) (hWT _ mathI_ok.2.2.2.2 rfl _) (by omega) (by show 4 + 13 ≤ _; omega) (by omega) (by omega) dJ7_copyOf_6403c_32 ?_
    have hnl : ¬ n < Int32.ofNat (h i).1 := by
      have e1 : n.toInt = N := by
        have : n.toInt.toNat = N := hN
        have h2 : 0 ≤ n.toInt := by
          have := Int32.not_lt.mp hn0
          simpa using Int32.le_iff_toInt_le.mp this
        omega
      rw [Int32.lt_iff_toInt_lt, e1, Int32.toInt_ofNat_of_lt (by omega)]
      omega
    rw [if_neg hnl]
    have hP2 : va_P g.1 vwCl [((h i).2.1, arO g (h i).1 (elF α S i)), (s.heap.size, arO g N fun _ => none)] H1 := hla.app hP1
    refine va_copyM (D := g.1) (cl := vwCl) (A := fun x => x = s.heap.size ∨ x = (h i).2.1) (H0 := H1) C.1 C.2.1 (by rw [C.2.2.1, hl1.1]) C.2.2.2.1 (wt_at (w := 354) hWT (by decide +kernel) rfl) (wt_at (w := 356) hWT (by decide +kernel) rfl) (wt_at (w := 355) hWT (by decide +kernel) rfl) (wt_at (w := 40) hWT (by decide +kernel) rfl) hK hP2 ?_ va_S.rf 0 1 3 3 rfl rfl rfl rfl (by decide) (by decide) (ofNat_nn (by omega)) (by show 0 + (Int32.ofNat (h i).1).toNatClampNeg ≤ (h i).1; have := ofNat_cl (n := (h i).1) (by omega); omega) (by show 0 + (Int32.ofNat (h i).1).toNatClampNeg ≤ N; have := ofNat_cl (n := (h i).1) (by omega); omega) (fun j hj y hy => ?_) (by omega) (by show 0 + (_ + 11) ≤ _; have e : nativeFrameWords "java/lang/System" "arraycopy" 5 ≤ 40 := (by decide +kernel); omega) dJ7_copyOf_6403c_35 (fun H2 locs2 hP3 hD3 hS3 => ?_)
    · refine ⟨fun a b x y hx hy he => ?_, fun a x hx => ?_⟩
      · rcases a with _ | _ | a <;> rcases b with _ | _ | b
        · rfl
        · cases hx; cases hy; exact absurd he (Nat.ne_of_lt hlt)
        · cases hy
        · cases hx; cases hy; exact absurd he.symm (Nat.ne_of_lt hlt)
        · rfl
        · cases hy
        · cases hx
        · cases hx
        · cases hx
      · rcases a with _ | _ | a
        · cases hx; exact Or.inr rfl
        · cases hx; exact Or.inl rfl
        · cases hx
    · unfold elF at hy
      split at hy
      · rename_i hj2
        cases hy
        exact any_el hK hWT hR1 (lk_or i) (by omega)
      · cases hy
    · refine lv_aload_n C.1 C.2.1 dJ7_copyOf_6403c_38 rfl b3 ?_
      refine W.widen (k := 1) (n := 120 * 1) (by omega) (by omega) (vx_ret ?_)
      have hq9 : H2[(h i).2.1]? = H1[(h i).2.1]? := (hP3 0 _ rfl).trans (hla 0 _ rfl).symm
      have hk2 : ∀ x : Nat, x < s.heap.size → H2[x]? = s.heap[x]? := fun x hx => by
        by_cases hxe : x = (h i).2.1
        · rw [hxe, hq9, o1 _ hlt]
        · rw [hS3.2.1 x (by omega) (fun q => q.elim (fun q => by omega) hxe), o1 x hx]
      have hcpy : va_cpy (elF α S i) (fun _ => none) (0 : Int32).toNatClampNeg (0 : Int32).toNatClampNeg (Int32.ofNat (h i).1).toNatClampNeg = elF α S i := by
        rw [ofNat_cl (by omega)]
        funext k
        show (if 0 ≤ k ∧ k < 0 + (h i).1 then elF α S i (0 + (k - 0)) else none) = elF α S i k
        by_cases hk : 0 ≤ k ∧ k < 0 + (h i).1
        · rw [if_pos hk, Nat.sub_zero, Nat.zero_add]
        · rw [if_neg hk]
          unfold elF
          rw [if_neg (by omega)]
      have hfin : va_P g.1 vwCl [(s.heap.size, arO g N (elF α S i))] H2 := by
        have h3 : va_at g.1 vwCl (s.heap.size, arO g N (va_cpy (elF α S i) (fun _ => none) (0 : Int32).toNatClampNeg (0 : Int32).toNatClampNeg (Int32.ofNat (h i).1).toNatClampNeg)) H2 := hP3 1 _ rfl
        rw [hcpy] at h3
        exact va_P1 h3
      refine W.aret (rt := .array (.object "java/lang/Object")) C.1 C.2.1 hr (Or.inr ⟨_, rfl⟩) (Or.inr ⟨_, rfl⟩) (fun t ht _ => ⟨s.heap.size, rfl, Nat.le_refl _, by rw [ht]; exact hfin, by rw [ht]; have := hS3.1; omega, fun x hx => by rw [ht]; exact hk2 x hx⟩) (fun x hx => ?_) dJ7_copyOf_6403c_39
      rcases hS3.2.2 x hx with q | q
      · rw [q]; exact C.2.2.2.2.2.2.2.2.2.1
      · rw [q]; exact hab
/-- a list's own cells are written: its object, its array -/
theorem Rep.lupd {g : GT} {α : Nat → Nat → Nat} {h : HT} {S S' : Sto} {H H1 : Heap} (R : Rep g α h S H) {i : Nat} {v : Nat × Nat × Int32} (hi : i < S.2.2 13) (e1 : S'.1 = S.1) (e2 : S'.2.1 = S.2.1) (e3 : ∀ k, k ≠ 20 + i → S'.2.2 k = S.2.2 k) (e4 : S.2.2 (20 + i) ≤ S'.2.2 (20 + i))
    (c1 : S'.2.2 (20 + i) ≤ S.2.2 (lk i)) (c2 : S'.2.2 (20 + i) ≤ v.1) (c3 : v.1 ≤ 100) (c4 : v.1 = 0 ∨ 10 ≤ v.1) (hq : v.1 ≠ 0 → AB g v.2.1 ∧ ∀ k i', Lv h S k i' → ¬ (k = 15 ∧ i' = i) → adr α h k i' ≠ v.2.1)
    (hl : va_P g.1 vwCl [(α 13 i, .inr (0, lfs g (h1n h i v) S' i))] H1) (ha : v.1 ≠ 0 → va_P g.1 vwCl [(v.2.1, arO g v.1 (elF α S' i))] H1)
    (hoth : ∀ k i', Lv h S k i' → ¬ (k = 13 ∧ i' = i) → ¬ (k = 15 ∧ i' = i) → H1[adr α h k i']? = H[adr α h k i']?) : Rep g α (h1n h i v) S' H1 := by
  have n13 : S'.2.2 13 = S.2.2 13 := e3 13 (by omega)
  have hv : h1n h i v i = v := h1n_eq
  have f1 : ∀ k i', Lv (h1n h i v) S' k i' → ¬ (k = 15 ∧ i' = i) → Lv h S k i' := fun k i' q hne => by
    rcases Lv_un q with ⟨rfl, h2, h3⟩ | ⟨h2, h3, h4⟩
    · have hne' : i' ≠ i := fun e => hne ⟨rfl, e⟩
      rw [h1n_ne hne'] at h3
      rw [n13] at h2
      rw [Lv, if_pos rfl]
      exact ⟨h2, h3⟩
    · rw [e3 k (by have := (ob_ne h3).2.2.2; omega)] at h4
      exact Lv_of h3 h4
  have f2 : ∀ k i', ¬ (k = 15 ∧ i' = i) → adr α (h1n h i v) k i' = adr α h k i' := fun k i' hne => by
    unfold adr
    by_cases h15 : k = 15
    · rw [if_pos h15, if_pos h15, h1n_ne fun e => hne ⟨h15, e⟩]
    · rw [if_neg h15, if_neg h15]
  have f3 : adr α (h1n h i v) 15 i = v.2.1 := by rw [adr, if_pos rfl, hv]
  have f4 : ∀ k i', Lv h S k i' → ¬ (k = 13 ∧ i' = i) → ¬ (k = 15 ∧ i' = i) → ent g α (h1n h i v) S' k i' = ent g α h S k i' := fun k i' q g1 g2 => by
    have e20 : i' ≠ i → S'.2.2 (20 + i') = S.2.2 (20 + i') := fun z => e3 _ (by omega)
    have efv : ∀ f, fv α S' k i' f = fv α S k i' f := fun f => by unfold fv; rw [e1]
    have efs : fs α S' k i' = fs α S k i' := List.map_congr_left fun f _ => efv f
    rcases Lv_un q with ⟨rfl, -, -⟩ | ⟨-, q9, -⟩
    · have z : i' ≠ i := fun z => g2 ⟨rfl, z⟩
      rw [ent_15, ent_15, h1n_ne z, e20 z]
    · rcases q9 with q9 | q9
      · rw [ent_ob q9, ent_ob q9, efs]
      · rcases ar_or q9 with rfl | rfl | rfl | rfl
        · rw [ent_10, ent_10, e1]
        · rw [ent_11, ent_11, e1]
        · rw [ent_12, ent_12, e2]
        · have z : i' ≠ i := fun z => g1 ⟨rfl, z⟩
          rw [ent_13, ent_13, h1n_ne z, e20 z]
  have l13 : Lv h S 13 i := Lv_of (Or.inr rfl) hi
  refine ⟨fun k i' q => ?_, fun k1 i1 k2 i2 q1 q2 he => ?_, fun k i' q => ?_, fun k i' f g1 g2 g3 g4 => ?_, fun i' q => ?_, R.2.2.2.2.2⟩
  · by_cases g2 : k = 15 ∧ i' = i
    · obtain ⟨rfl, rfl⟩ := g2
      rcases Lv_un q with ⟨-, -, h3⟩ | ⟨h2, -, -⟩
      · rw [hv] at h3
        rw [f3, ent_15, hv]
        exact ha h3 0 _ rfl
      · exact absurd rfl h2
    · by_cases g1 : k = 13 ∧ i' = i
      · obtain ⟨rfl, rfl⟩ := g1
        rw [f2 13 i' g2, adr_of (Or.inr rfl)]
        exact hl 0 _ rfl
      · rw [f2 k i' g2, f4 k i' (f1 k i' q g2) g1 g2]
        exact (R.1 k i' (f1 k i' q g2)).kept (hoth k i' (f1 k i' q g2) g1 g2)
  · by_cases g1 : k1 = 15 ∧ i1 = i <;> by_cases g2 : k2 = 15 ∧ i2 = i
    · exact ⟨g1.1.trans g2.1.symm, g1.2.trans g2.2.symm⟩
    · obtain ⟨rfl, rfl⟩ := g1
      rw [f3, f2 k2 i2 g2] at he
      rcases Lv_un q1 with ⟨-, -, h3⟩ | ⟨h2, -, -⟩
      · rw [hv] at h3
        exact absurd he.symm ((hq h3).2 k2 i2 (f1 k2 i2 q2 g2) g2)
      · exact absurd rfl h2
    · obtain ⟨rfl, rfl⟩ := g2
      rw [f3, f2 k1 i1 g1] at he
      rcases Lv_un q2 with ⟨-, -, h3⟩ | ⟨h2, -, -⟩
      · rw [hv] at h3
        exact absurd he ((hq h3).2 k1 i1 (f1 k1 i1 q1 g1) g1)
      · exact absurd rfl h2
    · rw [f2 k1 i1 g1, f2 k2 i2 g2] at he
      exact R.2.1 _ _ _ _ (f1 k1 i1 q1 g1) (f1 k2 i2 q2 g2) he
  · by_cases g2 : k = 15 ∧ i' = i
    · obtain ⟨rfl, rfl⟩ := g2
      rcases Lv_un q with ⟨-, -, h3⟩ | ⟨h2, -, -⟩
      · rw [hv] at h3
        rw [f3]
        exact (hq h3).1
      · exact absurd rfl h2
    · rw [f2 k i' g2]
      exact R.2.2.1 k i' (f1 k i' q g2)
  · have n9 : ∀ k, S.2.2 k ≤ S'.2.2 k := fun k => by
      by_cases hk : k = 20 + i
      · rw [hk]; exact e4
      · rw [e3 k hk]; exact Nat.le_refl _
    rw [e3 k (by have := (ob_ne (Or.inl g1)).2.2.2; omega)] at g2
    rw [e1]
    rcases R.2.2.2.1 k i' f g1 g2 g3 g4 with g5 | g5
    · exact Or.inl g5
    · exact Or.inr (LvR_le n9 g5)
  · rw [n13] at q
    have hlk : S'.2.2 (lk i') = S.2.2 (lk i') := e3 _ (by have := (ob_ne (Or.inl (lk_ok (i := i')))).2.2.2; omega)
    rw [hlk]
    by_cases z : i' = i
    · subst z
      rw [hv]
      exact ⟨(R.2.2.2.2.1 i' q).1, c1, c2, c3, c4⟩
    · rw [h1n_ne z, e3 _ (by omega)]
      exact R.2.2.2.2.1 i' q
theorem cO_cls {s : State} {g : GT} (hK : va_K g.1 vwCl (tysG g) s) : s.vm.findClass "[Ljava/lang/Object;" = some g.2.1.2.2.2.1 := by
  obtain ⟨kA', comp', k1, k2, k3, k4⟩ := (hK.2 3 _ rfl).2
  exact k4
theorem ct_cp2 {l : Launch} (hl : l.stackTraces = false) {g : GT} {α : Nat → Nat → Nat} {h : HT} {S : Sto} {i N : Nat} {n : Int32} (hi : i < S.2.2 13) (h0 : (h i).1 ≠ 0) (hn0 : ¬ n < 0) (hN : n.toNatClampNeg = N) (hle : (h i).1 ≤ N) (hN2 : N ≤ 100) :
    vx_Met l yJ7_copyOf_1904c [.code yJ7_copyOf_1904c cJ7_copyOf_1904c 2 (some (.array (.object "java/lang/Object")))] (rmx 1 1) (va_Pc [.ref (h i).2.1, .int n] (fun U => Wd g α h S U ∧ True)) (QN g α S i N) XN 1 (120 * 1) (AB g) := by
  refine Met_z (X := fun _ => True) (own := "java/util/Arrays") hl (by decide +kernel) rfl (Nat.le_of_ble_eq_true rfl) (fun v hv => ?_) ?_
  · simp only [List.mem_cons, List.not_mem_nil, or_false] at hv
    rcases hv with rfl | rfl <;> rfl
  · intro p e R s m below meth c ls C hr hR hX hl9
    have hWT := C.2.2.2.2.2.2.2.1
    have hK := C.2.2.2.2.2.2.1
    have hlocks := C.2.2.2.2.1
    have hfr := C.2.2.2.2.2.2.2.2.2.2.1
    have hlo := C.2.2.2.2.2.2.2.2.2.2.2.1
    have h30 := C.2.2.2.2.2.2.2.2.2.2.2.2.1
    have h31 := C.2.2.2.2.2.2.2.2.2.2.2.2.2.1
    obtain ⟨mi, hMi⟩ := C.2.2.2.2.2.2.2.2.1.2.2.2.2.2.1
    have a0 := hl9.2.2 (0, .ref (h i).2.1) List.mem_cons_self
    have a1 := hl9.2.2 (1, .int n) (List.mem_cons_of_mem _ List.mem_cons_self)
    have hla := hR.lar hi h0
    refine lv_aload_n C.1 C.2.1 dJ7_copyOf_1904c_0 rfl a0 ?_
    refine lv_iload_n C.1 C.2.1 dJ7_copyOf_1904c_1 rfl a1 ?_
    refine lv_aload_n C.1 C.2.1 dJ7_copyOf_1904c_2 rfl a0 ?_
    refine va_getC (C := "[Ljava/lang/Object;") C.1 C.2.1 (by rw [C.2.2.1, hl9.1]) C.2.2.2.1 (wt_at (w := 330) hWT (by decide +kernel) rfl) (wt_at (w := 784) hWT (by decide +kernel) rfl) (wt_at (w := 783) hWT (by decide +kernel) rfl) (wt_at (w := 331) hWT (by decide +kernel) rfl) (wt_at (w := 344) hWT (by decide +kernel) rfl) hMi ⟨_, hla 0 _ rfl, rfl, cO_cls hK⟩ (by omega) (by show 2 + 14 ≤ _; omega) dJ7_copyOf_1904c_3 ?_
    have hlk : LkB "java/util/Arrays" 300 yJ7_copyOf_6403c cJ7_copyOf_6403c 4 (some (.array (.object "java/lang/Object"))) 3 := ⟨List.mem_of_getElem? (i := 347) (by decide +kernel), List.mem_of_getElem? (i := 30) (by decide +kernel), List.mem_of_getElem? (i := 345) (by decide +kernel), ⟨by decide +kernel, by decide +kernel⟩, by decide +kernel, by decide⟩
    refine w_afterQ (rest := []) (mc := 1) (ms := 120 * 1) (vx_runS (Ts := []) (own := "java/util/Arrays") (As := [.ref (h i).2.1, .int n, .ref mi]) ⟨C.1, C.2.1, C.2.2.1, C.2.2.2.1, fun _ h => nomatch h⟩ (ct_cp3 hl (g := g) (α := α) (mi := mi) hi h0 hn0 hN hle hN2) ⟨lkB_call C hlk (by decide), wt_at (w := 346) hWT (by decide +kernel) rfl⟩ (pre_Wz C hR (X := va_Mi "[Ljava/lang/Object;" mi) (fun U hU => hMi.moved hU) (fun U U' hU hx => hx.moved hU) va_S.rf _) rfl rfl hl9.1 rfl (by show 2 * 0 + 0 ≤ 8; decide) dJ7_copyOf_1904c_6 ⟨by omega, by omega⟩) va_S.rf (fun v st₀ t _ hz => qn_F v st₀ t hz) (fun v st₀ t locs1 hst hz hS1 => ?_) (fun E st₀ t hx => hx)
    obtain ⟨q, ho, hq, hP, hsz, hoth⟩ := hz
    cases ho
    refine W.widen (k := 1) (n := 120 * 1) (by omega) (by omega) (vx_ret ?_)
    exact W.aret (rt := .array (.object "java/lang/Object")) C.1 C.2.1 hr (Or.inr ⟨_, rfl⟩) (Or.inr ⟨_, rfl⟩) (fun t' ht _ => ⟨q, rfl, by rw [← hst]; exact hq, by rw [ht]; exact hP, by rw [ht, ← hst]; exact hsz, fun x hx => by rw [ht, hoth x (by rw [hst]; exact hx), hst]⟩) hS1.2.2 dJ7_copyOf_1904c_9
end
section
/-! THE JDK's LISTS: grow -/
theorem dJ8_newLength_cabcc_0 : decode cJ8_newLength_cabcc 0 = .ok (.iload_n 0, 1) := by decide +kernel
theorem dJ8_newLength_cabcc_1 : decode cJ8_newLength_cabcc 1 = .ok (.iload_n 1, 1) := by decide +kernel
theorem dJ8_newLength_cabcc_2 : decode cJ8_newLength_cabcc 2 = .ok (.iload_n 2, 1) := by decide +kernel
theorem dJ8_newLength_cabcc_3 : decode cJ8_newLength_cabcc 3 = .ok (.invokestatic 194, 3) := by decide +kernel
theorem dJ8_newLength_cabcc_6 : decode cJ8_newLength_cabcc 6 = .ok (.iadd, 1) := by decide +kernel
theorem dJ8_newLength_cabcc_7 : decode cJ8_newLength_cabcc 7 = .ok (.istore_n 3, 1) := by decide +kernel
theorem dJ8_newLength_cabcc_8 : decode cJ8_newLength_cabcc 8 = .ok (.iconst 0, 1) := by decide +kernel
theorem dJ8_newLength_cabcc_9 : decode cJ8_newLength_cabcc 9 = .ok (.iload_n 3, 1) := by decide +kernel
theorem dJ8_newLength_cabcc_10 : decode cJ8_newLength_cabcc 10 = .ok (.if_icmp .ge 11, 3) := by decide +kernel
theorem dJ8_newLength_cabcc_13 : decode cJ8_newLength_cabcc 13 = .ok (.iload_n 3, 1) := by decide +kernel
theorem dJ8_newLength_cabcc_14 : decode cJ8_newLength_cabcc 14 = .ok (.ldc 200, 2) := by decide +kernel
theorem dJ8_newLength_cabcc_16 : decode cJ8_newLength_cabcc 16 = .ok (.if_icmp .gt 5, 3) := by decide +kernel
theorem dJ8_newLength_cabcc_19 : decode cJ8_newLength_cabcc 19 = .ok (.iload_n 3, 1) := by decide +kernel
theorem dJ8_newLength_cabcc_20 : decode cJ8_newLength_cabcc 20 = .ok (.ireturn, 1) := by decide +kernel
theorem dJ8_newLength_cabcc_21 : decode cJ8_newLength_cabcc 21 = .ok (.iload_n 0, 1) := by decide +kernel
theorem dJ8_newLength_cabcc_22 : decode cJ8_newLength_cabcc 22 = .ok (.iload_n 1, 1) := by decide +kernel
theorem dJ8_newLength_cabcc_23 : decode cJ8_newLength_cabcc 23 = .ok (.invokestatic 201, 3) := by decide +kernel
theorem dJ8_newLength_cabcc_26 : decode cJ8_newLength_cabcc 26 = .ok (.ireturn, 1) := by decide +kernel
def nlD (c : Nat) : Int32 := Int32.ofNat c + (if nI (c + 1) - Int32.ofNat c < Int32.ofNat c >>> ((1 : Int32) &&& 31) then Int32.ofNat c >>> ((1 : Int32) &&& 31) else nI (c + 1) - Int32.ofNat c)
theorem nl_ok : ∀ c : Nat, c < 60 → 10 ≤ c → (0 < Int32.ofNat c) ∧ (¬ nlD c ≤ 0) ∧ (¬ (2147483639 : Int32) < nlD c) ∧ (¬ nlD c < 0) ∧ c < (nlD c).toNatClampNeg ∧ (nlD c).toNatClampNeg ≤ 100 := by decide +kernel
def QP (r : Int32) : Array Value → State → Outcome → State → Prop := fun _ st o t => o = .returned (some (.int r)) ∧ t.heap = st.heap
theorem qp_F {g : GT} {r : Int32} {a : Array Value} (v : Option Value) (st t : State) (h : QP r a st (.returned v) t) : va_F (AB g) st t := ⟨by rw [h.2]; exact Nat.le_refl _, fun q _ _ => by rw [h.2]⟩
theorem ct_nl {l : Launch} (hl : l.stackTraces = false) {g : GT} {α : Nat → Nat → Nat} {h : HT} {S : Sto} {c0 : Nat} (h10 : 10 ≤ c0) (h60 : c0 < 60) :
    vx_Met l yJ8_newLength_cabcc [.code yJ8_newLength_cabcc cJ8_newLength_cabcc 4 (some .int)] (rmx 0 0) (va_Pc [.int (Int32.ofNat c0), .int (nI (c0 + 1) - Int32.ofNat c0), .int (Int32.ofNat c0 >>> ((1 : Int32) &&& 31))] (fun U => Wd g α h S U ∧ True)) (QP (nlD c0)) XN 0 (120 * 0) (AB g) := by
  refine Met_z (X := fun _ => True) (own := "jdk/internal/util/ArraysSupport") hl (by decide +kernel) rfl (Nat.le_of_ble_eq_true rfl) (fun v hv => ?_) ?_
  · simp only [List.mem_cons, List.not_mem_nil, or_false] at hv
    rcases hv with rfl | rfl | rfl <;> rfl
  · intro p e R s m below meth c ls C hr hR hX hl9
    have hWT := C.2.2.2.2.2.2.2.1
    have hlocks := C.2.2.2.2.1
    have hfr := C.2.2.2.2.2.2.2.2.2.2.1
    have hlo := C.2.2.2.2.2.2.2.2.2.2.2.1
    obtain ⟨n1, n2, n3, n4, n5, n6⟩ := nl_ok c0 h60 h10
    refine lv_iload_n C.1 C.2.1 dJ8_newLength_cabcc_0 rfl (hl9.2.2 (0, .int (Int32.ofNat c0)) List.mem_cons_self) ?_
    refine lv_iload_n C.1 C.2.1 dJ8_newLength_cabcc_1 rfl (hl9.2.2 (1, .int (nI (c0 + 1) - Int32.ofNat c0)) (List.mem_cons_of_mem _ List.mem_cons_self)) ?_
    refine lv_iload_n C.1 C.2.1 dJ8_newLength_cabcc_2 rfl (hl9.2.2 (2, .int (Int32.ofNat c0 >>> ((1 : Int32) &&& 31))) (List.mem_cons_of_mem _ (List.mem_cons_of_mem _ List.mem_cons_self))) ?_
    refine va_mmax C.1 C.2.1 (by rw [C.2.2.1, hl9.1]) C.2.2.2.1 (wt_at (w := 320) hWT (by decide +kernel) rfl) (hWT _ mathI_ok.2.1 rfl _) (hWT _ mathI_ok.1 rfl _) (hWT _ mathI_ok.2.2.1 rfl _) (by omega) (by show 1 + 13 ≤ _; omega) (Nat.zero_le _) (Nat.zero_le _) dJ8_newLength_cabcc_3 ?_
    refine lv_iadd C.1 C.2.1 dJ8_newLength_cabcc_6 ?_
    refine lv_istore_n C.1 C.2.1 dJ8_newLength_cabcc_7 rfl hl9 (by decide) rfl fun ls1 hl1 => ?_
    have b3 : ls1[3]? = some (.val (.int (nlD c0))) := hl1.2.2 (3, .int (nlD c0)) List.mem_cons_self
    refine lv_iconst (v := 0) C.1 C.2.1 dJ8_newLength_cabcc_8 rfl ?_
    refine lv_iload_n C.1 C.2.1 dJ8_newLength_cabcc_9 rfl b3 ?_
    refine lv_icmp_ge (tgt := 21) C.1 C.2.1 dJ8_newLength_cabcc_10 rfl (fun q => absurd q n2) fun _ => ?_
    refine lv_iload_n C.1 C.2.1 dJ8_newLength_cabcc_13 rfl b3 ?_
    refine lv_ldc (v := 2147483639) C.1 C.2.1 C.2.2.2.1 (wt_at (w := 323) hWT (by decide +kernel) rfl) dJ8_newLength_cabcc_14 ?_
    refine lv_icmp_gt (tgt := 21) C.1 C.2.1 dJ8_newLength_cabcc_16 rfl (fun q => absurd q n3) fun _ => ?_
    refine lv_iload_n C.1 C.2.1 dJ8_newLength_cabcc_19 rfl b3 ?_
    refine vx_ret ?_
    exact W.iret C.1 C.2.1 hr (fun t ht _ => ⟨rfl, ht⟩) (fun _ q => nomatch q) dJ8_newLength_cabcc_20
def QG (g : GT) (α : Nat → Nat → Nat) (S : Sto) (i : Nat) : Array Value → State → Outcome → State → Prop := fun _ st o t => ∃ h' : HT, o = .returned (some (.ref (h' i).2.1)) ∧ S.2.2 (20 + i) < (h' i).1 ∧ Rep g α h' S t.heap ∧ va_F (AB g) st t
theorem qg_F {g : GT} {α : Nat → Nat → Nat} {S : Sto} {i : Nat} {a : Array Value} (v : Option Value) (st t : State) (h : QG g α S i a st (.returned v) t) : va_F (AB g) st t := by
  obtain ⟨h', -, -, -, h1⟩ := h
  exact h1
theorem adr_ne13 {g : GT} {α : Nat → Nat → Nat} {h : HT} {S : Sto} {H : Heap} (hR : Rep g α h S H) {i : Nat} (hi : i < S.2.2 13) {k i' : Nat} (hl : Lv h S k i') (hne : ¬ (k = 13 ∧ i' = i)) : adr α h k i' ≠ α 13 i := fun e => by
  have l13 : Lv h S 13 i := Lv_of (Or.inr rfl) hi
  exact hne (hR.2.1 k i' 13 i hl l13 (by rw [e, adr_of (Or.inr rfl)]))
theorem lst_AB {g : GT} {α : Nat → Nat → Nat} {h : HT} {S : Sto} {H : Heap} (hR : Rep g α h S H) {i : Nat} (hi : i < S.2.2 13) : AB g (α 13 i) := by
  have := hR.2.2.1 13 i (Lv_of (Or.inr rfl) hi)
  rwa [adr_of (Or.inr rfl)] at this
theorem ct_growi {l : Launch} (hl : l.stackTraces = false) {g : GT} {α : Nat → Nat → Nat} {h : HT} {S : Sto} {i : Nat} (hi : i < S.2.2 13) (hfull : (h i).1 = S.2.2 (20 + i)) (h60 : S.2.2 (20 + i) < 60) :
    vx_Met l yJx4a65c_grow_92f84 [.code yJx4a65c_grow_92f84 cJx4a65c_grow_92f84 4 (some (.array (.object "java/lang/Object")))] (rmx 2 1) (va_Pc [.ref (α 13 i), .int (nI (S.2.2 (20 + i) + 1))] (fun U => Wd g α h S U ∧ True)) (QG g α S i) XN 1 (120 * 1) (AB g) := by
  refine Met_z (X := fun _ => True) (own := "java/util/ArrayList") hl (by decide +kernel) rfl (Nat.le_of_ble_eq_true rfl) (fun v hv => ?_) ?_
  · simp only [List.mem_cons, List.not_mem_nil, or_false] at hv
    rcases hv with rfl | rfl <;> rfl
  · intro p e R s m below meth c ls C hr hR hX hl9
    have hWT := C.2.2.2.2.2.2.2.1
    have hK := C.2.2.2.2.2.2.1
    have hST := C.2.2.2.2.2.2.2.2.1
    have hlocks := C.2.2.2.2.1
    have hfr := C.2.2.2.2.2.2.2.2.2.2.1
    have hlo := C.2.2.2.2.2.2.2.2.2.2.2.1
    have h30 := C.2.2.2.2.2.2.2.2.2.2.2.2.1
    have h31 := C.2.2.2.2.2.2.2.2.2.2.2.2.2.1
    have h9 := hR.2.2.2.2.1 i hi
    have a0 := hl9.2.2 (0, .ref (α 13 i)) List.mem_cons_self
    refine lv_aload_n C.1 C.2.1 dJx4a65c_grow_92f84_0 rfl a0 ?_
    refine w_lget C.1 C.2.1 C.2.2.2.1 hK hWT hR hi 1 (by decide) (wt_at (w := 79) hWT (by decide +kernel) rfl) (fun _ h => h) rfl dJx4a65c_grow_92f84_1 ?_
    by_cases h0 : (h i).1 = 0
    · have hs0 : S.2.2 (20 + i) = 0 := by omega
      rw [show ed g h i = g.2.2.1 from if_pos h0]
      obtain ⟨hde, cell, hc1, hc2, hc3, hc4⟩ := hST.2.2.2.2.1
      refine W.alen (n := 0) (ty := .object "java/lang/Object") C.1 C.2.1 hc1 hc2 (by rw [hc4]; rfl) rfl rfl dJx4a65c_grow_92f84_4 ?_
      refine lv_istore_n (lv' := [(2, .int 0), (0, .ref (α 13 i)), (1, .int (nI (S.2.2 (20 + i) + 1)))]) C.1 C.2.1 dJx4a65c_grow_92f84_5 rfl hl9 (by decide) rfl fun ls1 hl1 => ?_
      have b0 := hl1.2.2 (0, .ref (α 13 i)) (List.mem_cons_of_mem _ List.mem_cons_self)
      have b1 := hl1.2.2 (1, .int (nI (S.2.2 (20 + i) + 1))) (List.mem_cons_of_mem _ (List.mem_cons_of_mem _ List.mem_cons_self))
      refine lv_iload_n C.1 C.2.1 dJx4a65c_grow_92f84_6 rfl (hl1.2.2 (2, .int 0) List.mem_cons_self) ?_
      refine lv_if_gt (tgt := 20) C.1 C.2.1 dJx4a65c_grow_92f84_7 rfl (fun q => absurd q (by decide)) fun _ => ?_
      refine lv_aload_n C.1 C.2.1 dJx4a65c_grow_92f84_10 rfl b0 ?_
      refine w_lget C.1 C.2.1 C.2.2.2.1 hK hWT hR hi 1 (by decide) (wt_at (w := 79) hWT (by decide +kernel) rfl) (fun _ h => h) rfl dJx4a65c_grow_92f84_11 ?_
      rw [show ed g h i = g.2.2.1 from if_pos h0]
      refine va_gets C.1 C.2.1 hST.2.2.2.1 va_S.rf C.2.2.2.1 (wt_at (w := 77) hWT (by decide +kernel) rfl) (fun _ h => h) dJx4a65c_grow_92f84_14 ?_
      refine lv_acmp_eq (tgt := 45) (rx := some g.2.2.1) (ry := some g.2.2.1) C.1 C.2.1 dJx4a65c_grow_92f84_17 rfl (fun _ => ?_) (fun q => absurd rfl q)
      refine lv_aload_n C.1 C.2.1 dJx4a65c_grow_92f84_45 rfl b0 ?_
      refine lv_bipush (v := 10) C.1 C.2.1 dJx4a65c_grow_92f84_46 rfl ?_
      refine lv_iload_n C.1 C.2.1 dJx4a65c_grow_92f84_48 rfl b1 ?_
      refine va_mmax C.1 C.2.1 (by rw [C.2.2.1, hl1.1]) C.2.2.2.1 (wt_at (w := 357) hWT (by decide +kernel) rfl) (hWT _ mathI_ok.2.1 rfl _) (hWT _ mathI_ok.1 rfl _) (hWT _ mathI_ok.2.2.1 rfl _) (by omega) (by show 1 + 13 ≤ _; omega) (by omega) (by omega) dJx4a65c_grow_92f84_49 ?_
      have e10 : (if (10 : Int32) < nI (S.2.2 (20 + i) + 1) then nI (S.2.2 (20 + i) + 1) else 10) = 10 := by rw [hs0]; decide
      rw [e10]
      refine w_anewO (g := g) (N := 10) C.1 C.2.1 C.2.2.2.1 hK hWT (by decide) (by decide) (by decide) (wt_at (w := 358) hWT (by decide +kernel) rfl) (by omega) (by omega) dJx4a65c_grow_92f84_52 fun H1 z1 o1 hP1 => ?_
      have hR1 : Rep g α h S H1 := hR.cong fun q h1 _ => o1 q h1
      refine lv_dup_x1 C.1 C.2.1 dJx4a65c_grow_92f84_55 rfl rfl ?_
      have hS1 : va_S (AB g) s.heap H1 [] := ⟨by omega, fun x h1 _ => o1 x h1, fun _ q => nomatch q⟩
      have hbs := C.2.2.2.2.2.2.2.2.2.1
      refine w_putL C.1 C.2.1 C.2.2.2.1 hK hWT hS1 (hR1.lst hi) (lst_AB hR hi) 1 (by decide) rfl (wt_at (w := 79) hWT (by decide +kernel) rfl) (fun _ h => h) rfl ((rty_ok rfl).2 _) dJx4a65c_grow_92f84_56 (fun H2 locs2 hP2 z2 o2 hS2 => ?_)
      have hne : s.heap.size ≠ α 13 i := fun q => by
        have := hR.lt (Lv_of (h := h) (Or.inr rfl) hi)
        rw [adr_of (Or.inr rfl)] at this
        omega
      have hR2 : Rep g α (h1n h i (10, s.heap.size, (h i).2.2)) S H2 := by
        refine hR1.lupd (v := (10, s.heap.size, (h i).2.2)) hi rfl rfl (fun _ _ => rfl) (Nat.le_refl _) h9.2.1 (by show S.2.2 (20 + i) ≤ 10; omega) (show 10 ≤ 100 by decide) (Or.inr (show 10 ≤ 10 by decide)) (fun _ => ⟨hbs, fun k i' q _ => Nat.ne_of_lt (hR.lt q)⟩) ?_ (fun _ => ?_) (fun k i' q g1 _ => o2 _ (adr_ne13 hR hi q g1))
        · have e : lfs g (h1n h i (10, s.heap.size, (h i).2.2)) S i = (lfs g h S i).set 1 (.ref s.heap.size) := by
            unfold lfs ed
            rw [h1n_eq]
            rfl
          rw [e]
          exact hP2
        · intro k q hk
          have hk1 : k < 1 := (List.getElem?_eq_some_iff.mp hk).1
          obtain rfl : k = 0 := by omega
          cases hk
          have h3 := hP1 0 _ rfl
          have e : elF α S i = fun _ => none := by
            funext j
            unfold elF
            rw [if_neg (by omega)]
          rw [e]
          exact h3.kept (o2 _ hne)
      refine W.widen (k := 1) (n := 120 * 1) (by omega) (by omega) (vx_ret ?_)
      exact W.aret (rt := .array (.object "java/lang/Object")) C.1 C.2.1 hr (Or.inr ⟨_, rfl⟩) (Or.inr ⟨_, rfl⟩) (fun t' ht _ => ⟨h1n h i (10, s.heap.size, (h i).2.2), by rw [h1n_eq], by rw [h1n_eq]; show S.2.2 (20 + i) < 10; omega, by rw [ht]; exact hR2, hS2.F ht⟩) hS2.2.2 dJx4a65c_grow_92f84_59
    · rw [show ed g h i = (h i).2.1 from if_neg h0]
      have h10 : 10 ≤ (h i).1 := h9.2.2.2.2.resolve_left h0
      obtain ⟨n1, n2, n3, n4, n5, n6⟩ := nl_ok (h i).1 (by omega) h10
      refine va_alen (ty := .object "java/lang/Object") C.1 C.2.1 hK (hR.lar hi h0) 0 3 rfl rfl rfl dJx4a65c_grow_92f84_4 ?_
      refine lv_istore_n (lv' := [(2, .int (Int32.ofNat (h i).1)), (0, .ref (α 13 i)), (1, .int (nI (S.2.2 (20 + i) + 1)))]) C.1 C.2.1 dJx4a65c_grow_92f84_5 rfl hl9 (by decide) rfl fun ls1 hl1 => ?_
      have b0 := hl1.2.2 (0, .ref (α 13 i)) (List.mem_cons_of_mem _ List.mem_cons_self)
      have b1 := hl1.2.2 (1, .int (nI (S.2.2 (20 + i) + 1))) (List.mem_cons_of_mem _ (List.mem_cons_of_mem _ List.mem_cons_self))
      have b2 := hl1.2.2 (2, .int (Int32.ofNat (h i).1)) List.mem_cons_self
      refine lv_iload_n C.1 C.2.1 dJx4a65c_grow_92f84_6 rfl b2 ?_
      refine lv_if_gt (tgt := 20) C.1 C.2.1 dJx4a65c_grow_92f84_7 rfl (fun _ => ?_) fun q => absurd n1 q
      refine lv_iload_n C.1 C.2.1 dJx4a65c_grow_92f84_20 rfl b2 ?_
      refine lv_iload_n C.1 C.2.1 dJx4a65c_grow_92f84_21 rfl b1 ?_
      refine lv_iload_n C.1 C.2.1 dJx4a65c_grow_92f84_22 rfl b2 ?_
      refine lv_isub C.1 C.2.1 dJx4a65c_grow_92f84_23 ?_
      refine lv_iload_n C.1 C.2.1 dJx4a65c_grow_92f84_24 rfl b2 ?_
      refine lv_iconst (v := 1) C.1 C.2.1 dJx4a65c_grow_92f84_25 rfl ?_
      refine lv_ishr C.1 C.2.1 dJx4a65c_grow_92f84_26 ?_
      rw [← hfull] at b1 ⊢
      have hlk1 : LkB "java/util/ArrayList" 73 yJ8_newLength_cabcc cJ8_newLength_cabcc 4 (some .int) 3 := ⟨List.mem_of_getElem? (i := 319) (by decide +kernel), List.mem_of_getElem? (i := 38) (by decide +kernel), List.mem_of_getElem? (i := 317) (by decide +kernel), ⟨by decide +kernel, by decide +kernel⟩, by decide +kernel, by decide⟩
      refine w_afterQ (mc := 0) (ms := 120 * 0) (rest := []) (vx_runS (Ts := []) (own := "java/util/ArrayList") (As := [.int (Int32.ofNat (h i).1), .int (nI ((h i).1 + 1) - Int32.ofNat (h i).1), .int (Int32.ofNat (h i).1 >>> ((1 : Int32) &&& 31))]) ⟨C.1, C.2.1, C.2.2.1, C.2.2.2.1, fun _ h => nomatch h⟩ (ct_nl hl (g := g) (α := α) (h := h) (S := S) h10 (by omega)) ⟨lkB_call C hlk1 (by decide), wt_at (w := 318) hWT (by decide +kernel) rfl⟩ (pre_Wz C hR (X := fun _ => True) (fun _ _ => trivial) (fun _ _ _ _ => trivial) va_S.rf _) rfl rfl hl1.1 rfl (by show 2 * 0 + 0 ≤ 8; decide) dJx4a65c_grow_92f84_27 ⟨by omega, by omega⟩) va_S.rf (fun v st₀ t _ hz => qp_F v st₀ t hz) (fun v st₀ t locs1 hst hz hS1 => ?_) (fun E st₀ t hx => hx)
      obtain ⟨ho, hth⟩ := hz
      cases ho
      have hR1 : Rep g α h S t.heap := by rw [hth, hst]; exact hR
      refine lv_istore_n (lv' := [(3, .int (nlD (h i).1)), (2, .int (Int32.ofNat (h i).1)), (0, .ref (α 13 i)), (1, .int (nI ((h i).1 + 1)))]) C.1 C.2.1 dJx4a65c_grow_92f84_30 rfl hl1 (by decide) (by rw [hfull]; rfl) fun ls2 hl2 => ?_
      have d0 := hl2.2.2 (0, .ref (α 13 i)) (List.mem_cons_of_mem _ (List.mem_cons_of_mem _ List.mem_cons_self))
      have d3 := hl2.2.2 (3, .int (nlD (h i).1)) List.mem_cons_self
      refine lv_aload_n C.1 C.2.1 dJx4a65c_grow_92f84_31 rfl d0 ?_
      refine lv_aload_n C.1 C.2.1 dJx4a65c_grow_92f84_32 rfl d0 ?_
      refine w_lget C.1 C.2.1 C.2.2.2.1 hK hWT hR1 hi 1 (by decide) (wt_at (w := 79) hWT (by decide +kernel) rfl) (fun _ h => h) rfl dJx4a65c_grow_92f84_33 ?_
      rw [show ed g h i = (h i).2.1 from if_neg h0]
      refine lv_iload_n C.1 C.2.1 dJx4a65c_grow_92f84_36 rfl d3 ?_
      have hlk2 : LkB "java/util/ArrayList" 66 yJ7_copyOf_1904c cJ7_copyOf_1904c 2 (some (.array (.object "java/lang/Object"))) 2 := ⟨List.mem_of_getElem? (i := 329) (by decide +kernel), List.mem_of_getElem? (i := 30) (by decide +kernel), List.mem_of_getElem? (i := 327) (by decide +kernel), ⟨by decide +kernel, by decide +kernel⟩, by decide +kernel, by decide⟩
      refine w_afterQ (mc := 1) (ms := 120 * 1) (rest := [.ref (α 13 i)]) (vx_runS (Ts := []) (own := "java/util/ArrayList") (As := [.ref (h i).2.1, .int (nlD (h i).1)]) ⟨C.1, C.2.1, C.2.2.1, C.2.2.2.1, fun _ h => nomatch h⟩ (ct_cp2 hl (g := g) (α := α) (h := h) (S := S) hi h0 n4 rfl (Nat.le_of_lt n5) n6) ⟨lkB_call C hlk2 (by decide), wt_at (w := 328) hWT (by decide +kernel) rfl⟩ (pre_Wz C hR1 (X := fun _ => True) (fun _ _ => trivial) (fun _ _ _ _ => trivial) hS1 _) rfl rfl hl2.1 rfl (by show 2 * 0 + 1 ≤ 8; decide) dJx4a65c_grow_92f84_37 ⟨by show 0 + 0 + 1 ≤ _; omega, by show 0 + 120 * 0 + 120 * 1 ≤ _; omega⟩) hS1 (fun v st₀ t _ hz => qn_F v st₀ t hz) (fun v st2 t2 locs2 hst2 hz hS2 => ?_) (fun E st₀ t hx => hx)
      obtain ⟨q, ho, hq, hP, hsz, hoth⟩ := hz
      cases ho
      have hlt9 : ∀ k i', Lv h S k i' → adr α h k i' < st2.heap.size := fun k i' z => by rw [hst2]; exact hR1.lt z
      have hR2 : Rep g α h S t2.heap := by
        rw [← hst2] at hR1
        exact hR1.cong fun x hx _ => hoth x hx
      have hABq : AB g q := Nat.le_trans C.2.2.2.2.2.2.2.2.2.1 (Nat.le_trans hS1.1 (by rw [← hst2]; exact hq))
      refine lv_dup_x1 C.1 C.2.1 dJx4a65c_grow_92f84_40 rfl rfl ?_
      refine w_putL C.1 C.2.1 C.2.2.2.1 hK hWT hS2 (hR2.lst hi) (lst_AB hR hi) 1 (by decide) rfl (wt_at (w := 79) hWT (by decide +kernel) rfl) (fun _ h => h) rfl ((rty_ok rfl).2 _) dJx4a65c_grow_92f84_41 (fun H3 locs3 hP3 z3 o3 hS3 => ?_)
      have hne : q ≠ α 13 i := fun z => by
        have := hlt9 13 i (Lv_of (Or.inr rfl) hi)
        rw [adr_of (Or.inr rfl), ← z] at this
        exact absurd hq (Nat.not_le.mpr this)
      have hR3 : Rep g α (h1n h i ((nlD (h i).1).toNatClampNeg, q, (h i).2.2)) S H3 := by
        refine hR2.lupd (v := ((nlD (h i).1).toNatClampNeg, q, (h i).2.2)) hi rfl rfl (fun _ _ => rfl) (Nat.le_refl _) h9.2.1 (by show S.2.2 (20 + i) ≤ (nlD (h i).1).toNatClampNeg; omega) n6 (Or.inr (by show 10 ≤ (nlD (h i).1).toNatClampNeg; omega)) (fun _ => ⟨hABq, fun k i' z _ => Nat.ne_of_lt (Nat.lt_of_lt_of_le (hlt9 k i' z) hq)⟩) ?_ (fun _ => ?_) (fun k i' z g1 _ => o3 _ (adr_ne13 hR hi z g1))
        · have e : lfs g (h1n h i ((nlD (h i).1).toNatClampNeg, q, (h i).2.2)) S i = (lfs g h S i).set 1 (.ref q) := by
            unfold lfs ed
            rw [h1n_eq]
            show _ = [Value.int (h i).2.2, .ref q, .int (nI (S.2.2 (20 + i)))]
            have hnz : ¬ (nlD (h i).1).toNatClampNeg = 0 := by omega
            simp only [if_neg hnz]
          rw [e]
          exact hP3
        · intro k z hk
          have hk1 : k < 1 := (List.getElem?_eq_some_iff.mp hk).1
          obtain rfl : k = 0 := by omega
          cases hk
          exact (hP 0 _ rfl).kept (o3 _ hne)
      refine W.widen (k := 1) (n := 120 * 1) (by omega) (by omega) (vx_ret ?_)
      exact W.aret (rt := .array (.object "java/lang/Object")) C.1 C.2.1 hr (Or.inr ⟨_, rfl⟩) (Or.inr ⟨_, rfl⟩) (fun t' ht _ => ⟨h1n h i ((nlD (h i).1).toNatClampNeg, q, (h i).2.2), by rw [h1n_eq], by rw [h1n_eq]; show S.2.2 (20 + i) < (nlD (h i).1).toNatClampNeg; omega, by rw [ht]; exact hR3, hS3.F ht⟩) hS3.2.2 dJx4a65c_grow_92f84_44
theorem ct_grow0 {l : Launch} (hl : l.stackTraces = false) {g : GT} {α : Nat → Nat → Nat} {h : HT} {S : Sto} {i : Nat} (hi : i < S.2.2 13) (hfull : (h i).1 = S.2.2 (20 + i)) (h60 : S.2.2 (20 + i) < 60) :
    vx_Met l yJx4a65c_grow_d5877 [.code yJx4a65c_grow_d5877 cJx4a65c_grow_d5877 1 (some (.array (.object "java/lang/Object")))] (rmx 3 1) (va_Pc [.ref (α 13 i)] (fun U => Wd g α h S U ∧ True)) (QG g α S i) XN 1 (120 * 1) (AB g) := by
  refine Met_z (X := fun _ => True) (own := "java/util/ArrayList") hl (by decide +kernel) rfl (Nat.le_refl 1) (fun v hv => by rw [List.mem_singleton.mp hv]; rfl) ?_
  intro p e R s m below meth c ls C hr hR hX hl9
  have hWT := C.2.2.2.2.2.2.2.1
  have hK := C.2.2.2.2.2.2.1
  have hlocks := C.2.2.2.2.1
  have h30 := C.2.2.2.2.2.2.2.2.2.2.2.2.1
  have h31 := C.2.2.2.2.2.2.2.2.2.2.2.2.2.1
  have a0 := hl9.2.2 (0, .ref (α 13 i)) List.mem_cons_self
  refine lv_aload_n C.1 C.2.1 dJx4a65c_grow_d5877_0 rfl a0 ?_
  refine lv_aload_n C.1 C.2.1 dJx4a65c_grow_d5877_1 rfl a0 ?_
  refine w_lget C.1 C.2.1 C.2.2.2.1 hK hWT hR hi 2 (by decide) (wt_at (w := 80) hWT (by decide +kernel) rfl) (fun _ h => h) rfl dJx4a65c_grow_d5877_2 ?_
  refine lv_iconst (v := 1) C.1 C.2.1 dJx4a65c_grow_d5877_5 rfl ?_
  refine lv_iadd C.1 C.2.1 dJx4a65c_grow_d5877_6 ?_
  have e1 : nI (S.2.2 (20 + i)) + 1 = nI (S.2.2 (20 + i) + 1) := by
    show Int32.ofNat _ + 1 = Int32.ofNat _
    rw [Int32.ofNat_add]
    rfl
  rw [e1]
  have hlk : LkB "java/util/ArrayList" 69 yJx4a65c_grow_92f84 cJx4a65c_grow_92f84 4 (some (.array (.object "java/lang/Object"))) 1 := ⟨List.mem_of_getElem? (i := 316) (by decide +kernel), List.mem_of_getElem? (i := 29) (by decide +kernel), List.mem_of_getElem? (i := 313) (by decide +kernel), ⟨by decide +kernel, by decide +kernel⟩, by decide +kernel, by decide⟩
  have hpre := pre_Wz C hR (X := fun _ => True) (fun _ _ => trivial) (fun _ _ _ _ => trivial) va_S.rf [.ref (α 13 i), .int (nI (S.2.2 (20 + i) + 1))]
  refine w_afterQ (mc := 1) (ms := 120 * 1) (rest := []) (vx_runV (Ts := []) (own := "java/util/ArrayList") (C := "java/util/ArrayList") (b := α 13 i) (As := [.int (nI (S.2.2 (20 + i) + 1))]) ⟨C.1, C.2.1, C.2.2.1, C.2.2.2.1, fun _ h => nomatch h⟩ (ct_growi hl (g := g) (α := α) (h := h) (S := S) hi hfull h60) ⟨lkB_call C hlk (by decide), wt_at (w := 315) hWT (by decide +kernel) rfl, wt_at (w := 3) hWT (by decide +kernel) rfl⟩ ⟨hpre.1, recv_ob hK hR (Or.inr rfl) hi, hpre.2⟩ rfl rfl hl9.1 rfl (by show 2 * 0 + 0 ≤ 8; decide) dJx4a65c_grow_d5877_7 ⟨by omega, by omega⟩) va_S.rf (fun v st₀ t _ hz => qg_F v st₀ t hz) (fun v st₀ t locs1 hst hz hS1 => ?_) (fun E st₀ t hx => hx)
  obtain ⟨h', ho, hc, hR1, hF⟩ := hz
  cases ho
  refine W.widen (k := 1) (n := 120 * 1) (by omega) (by omega) (vx_ret ?_)
  exact W.aret (rt := .array (.object "java/lang/Object")) C.1 C.2.1 hr (Or.inr ⟨_, rfl⟩) (Or.inr ⟨_, rfl⟩) (fun t' ht _ => ⟨h', rfl, hc, by rw [ht]; exact hR1, hS1.F ht⟩) hS1.2.2 dJx4a65c_grow_d5877_10
/-- the adding itself: a list, and an object that is the next of its kind -/
def a2 (as : List AV) (k : Nat → Nat → Nat → Prop) : Prop := match as with
  | [Sum.inr (Sum.inr (a, i)), Sum.inr (Sum.inr (b, j))] => a = 13 ∧ k i b j
  | _ => False
def sAdd (S : Sto) (i : Nat) : Sto := (S.1, S.2.1, bump S.2.2 (20 + i))
def s_add : SP := fun as S Q => a2 as fun i b j => i < S.2.2 13 ∧ b = lk i ∧ j = S.2.2 (20 + i) ∧ S.2.2 (20 + i) < 60 ∧ S.2.2 (20 + i) < S.2.2 (lk i) ∧ Q (Sum.inl (some (aI 1))) (sAdd S i)
theorem s_add_ok {as : List AV} {S : Sto} {Q : Out → Sto → Prop} (h : s_add as S Q) : ∃ i, as = [aR 13 i, aR (lk i) (S.2.2 (20 + i))] ∧ i < S.2.2 13 ∧ S.2.2 (20 + i) < 60 ∧ S.2.2 (20 + i) < S.2.2 (lk i) ∧ Q (Sum.inl (some (aI 1))) (sAdd S i) := by
  unfold s_add a2 at h
  split at h
  · obtain ⟨rfl, h1, rfl, rfl, h2⟩ := h
    exact ⟨_, rfl, h1, h2⟩
  · exact h.elim
def QA (g : GT) (α : Nat → Nat → Nat) (S : Sto) (i : Nat) : Array Value → State → Outcome → State → Prop := fun _ st o t => ∃ h' : HT, o = .returned none ∧ Rep g α h' (sAdd S i) t.heap ∧ va_F (AB g) st t
theorem qa_F {g : GT} {α : Nat → Nat → Nat} {S : Sto} {i : Nat} {a : Array Value} (v : Option Value) (st t : State) (h : QA g α S i a st (.returned v) t) : va_F (AB g) st t := by
  obtain ⟨h', -, -, h1⟩ := h
  exact h1
end
section
/-! THE JDK's LISTS: adding -/
section JD5
variable {p : Program} {l : Launch} {e : Env} {R : Room} {s : State} {m : MethodId} {args : Array Value} {below : List Frame} {meth : Method} {c : Code} {H : Heap} {locs : List Loc} {cells slots : Nat} {Q : State → Prop}
variable {pc : Nat} {ls : Array Slot} {rest : List Value} {g : GT} {α : Nat → Nat → Nat} {h : HT} {S : Sto} {own : String} {idx nL rk cb sb B : Nat} {ini : Bool}
theorem nI_cl {n : Nat} (h : n < 2 ^ 31) : (nI n).toNatClampNeg = n := ofNat_cl h
theorem nI_nn {n : Nat} (h : n < 2 ^ 31) : ¬ nI n < 0 := ofNat_nn h
set_option maxHeartbeats 1000000 in
theorem add_tail {i : Nat} (C : Cx p l s m meth c R cJx4a65c_add_72be8 "java/util/ArrayList" nL rk cb sb B ini g) (hr : meth.sig.returnType = none) (hR : Rep g α h S H) (hS : va_S (AB g) s.heap H locs) (hi : i < S.2.2 13) (hc : S.2.2 (20 + i) < (h i).1) (hj : S.2.2 (20 + i) < S.2.2 (lk i)) (hcs : cells ≤ 1 ∧ slots ≤ 120) (b0 : ls[0]? = some (.val (.ref (α 13 i)))) (b1 : ls[1]? = some (.val (.ref (α (lk i) (S.2.2 (20 + i)))))) (b2 : ls[2]? = some (.val (.ref (h i).2.1))) (b3 : ls[3]? = some (.val (.int (nI (S.2.2 (20 + i)))))) :
    W p l e R s m args below meth c H locs cells slots (vx_MQ below (QA g α S i) XN args s 1 (120 * 1) (AB g)) (F0 m 11 ls []) := by
  have hWT := C.2.2.2.2.2.2.2.1
  have hK := C.2.2.2.2.2.2.1
  have hlocks := C.2.2.2.2.1
  have h9 := hR.2.2.2.2.1 i hi
  have h0 : (h i).1 ≠ 0 := by omega
  refine lv_aload_n C.1 C.2.1 dJx4a65c_add_72be8_11 rfl b2 ?_
  refine lv_iload_n C.1 C.2.1 dJx4a65c_add_72be8_12 rfl b3 ?_
  refine lv_aload_n C.1 C.2.1 dJx4a65c_add_72be8_13 rfl b1 ?_
  have hla : va_P g.1 vwCl [((h i).2.1, arO g (h i).1 (elF α S i))] H := hR.lar hi h0
  obtain ⟨cv, g1, g2, ⟨kC, hkC⟩, hasg⟩ := any_el hK hWT hR (lk_or i) hj
  obtain ⟨kA, comp, k1, k2, k3, -⟩ := (hK.2 3 _ rfl).2
  obtain ⟨kE, hkE, -⟩ := Vm.findClass_spec k3
  have l15 : Lv h S 15 i := by rw [Lv, if_pos rfl]; exact ⟨hi, h0⟩
  have l13 : Lv h S 13 i := Lv_of (Or.inr rfl) hi
  have a15 : adr α h 15 i = (h i).2.1 := by rw [adr, if_pos rfl]
  have a13 : adr α h 13 i = α 13 i := adr_of (Or.inr rfl)
  have hne : (h i).2.1 ≠ α 13 i := fun z => by
    have := hR.2.1 15 i 13 i l15 l13 (by rw [a15, a13]; exact z)
    exact absurd this.1 (by decide)
  have hAB15 : AB g (h i).2.1 := by have := hR.2.2.1 15 i l15; rwa [a15] at this
  refine W.aast C.1 C.2.1 (hla 0 _ rfl) (fun q h => by cases h) (fun h => by cases h) k1 k2 rfl hkE ⟨nI_nn (by omega), by show _ < (arrV _ _ _).slots.size; rw [arrV_size, nI_cl (by omega)]; exact hc⟩ g1 (fun q h => by rw [h] at g2; cases g2) hkC (hasg comp k3) rfl rfl dJx4a65c_add_72be8_14 fun H2 e2 z2 o2 => ?_
  have hS2 := hS.put (k := (nI (S.2.2 (20 + i))).toNatClampNeg) z2 o2 hAB15
  refine W.eq (g2 := F0 m 15 ls []) rfl ?_
  refine lv_aload_n C.1 C.2.1 dJx4a65c_add_72be8_15 rfl b0 ?_
  refine lv_iload_n C.1 C.2.1 dJx4a65c_add_72be8_16 rfl b3 ?_
  refine lv_iconst (v := 1) C.1 C.2.1 dJx4a65c_add_72be8_17 rfl ?_
  refine lv_iadd C.1 C.2.1 dJx4a65c_add_72be8_18 ?_
  have hP2 : va_P g.1 vwCl [(α 13 i, .inr (0, lfs g h S i))] H2 := va_P1 ((hR.lst hi 0 _ rfl).kept (o2 _ hne.symm))
  refine w_putL C.1 C.2.1 C.2.2.2.1 hK hWT hS2 hP2 (lst_AB hR hi) 2 (by decide) rfl (wt_at (w := 80) hWT (by decide +kernel) rfl) (fun _ h => h) rfl ⟨rfl, rfl⟩ dJx4a65c_add_72be8_19 (fun H3 locs3 hP3 z3 o3 hS3 => ?_)
  have ha9 : va_P g.1 vwCl [((h i).2.1, arO g (h i).1 (elF α (sAdd S i) i))] H3 := by
    refine va_P1 ?_
    show H3[(h i).2.1]? = some (vp_cell _ _)
    rw [o3 _ hne]
    refine e2.trans ?_
    rw [vp_cell_q, vp_cell_q, nI_cl (by omega), arrV_store]
    congr 2
    funext q
    have hb : (sAdd S i).2.2 (20 + i) = S.2.2 (20 + i) + 1 := bump_k
    unfold elF
    rw [hb]
    by_cases hq : q = S.2.2 (20 + i)
    · subst hq
      simp [updV, va_rf]
    · have : q < S.2.2 (20 + i) + 1 ↔ q < S.2.2 (20 + i) := by omega
      simp [updV, hq, this]
  have hR3 : Rep g α (h1n h i (h i)) (sAdd S i) H3 := by
    have hb : (sAdd S i).2.2 (20 + i) = S.2.2 (20 + i) + 1 := bump_k
    refine hR.lupd (v := h i) hi rfl rfl (fun k hk => bump_ne hk) (by rw [hb]; omega) (by rw [hb]; omega) (by rw [hb]; omega) h9.2.2.2.1 h9.2.2.2.2 (fun _ => ⟨hAB15, fun k i' z g1 => fun w => g1 (hR.2.1 k i' 15 i z l15 (by rw [a15]; exact w))⟩) ?_ (fun _ => ha9) (fun k i' z g1 g2 => ?_)
    · have e : lfs g (h1n h i (h i)) (sAdd S i) i = (lfs g h S i).set 2 (.int (nI (S.2.2 (20 + i)) + 1)) := by
        unfold lfs ed
        rw [h1n_eq, hb, nI_succ]
        rfl
      rw [e]
      exact hP3
    · rw [o3 _ (adr_ne13 hR hi z g1)]
      exact o2 _ fun w => g2 (hR.2.1 k i' 15 i z l15 (by rw [a15]; exact w))
  refine W.widen (k := 1) (n := 120 * 1) (by omega) (by omega) (vx_ret ?_)
  exact W.vret C.1 C.2.1 hr (fun t' ht _ => ⟨_, rfl, by rw [ht]; exact hR3, hS3.F ht⟩) hS3.2.2 dJx4a65c_add_72be8_22
end JD5
theorem ct_add3 {l : Launch} (hl : l.stackTraces = false) {g : GT} {α : Nat → Nat → Nat} {h : HT} {S : Sto} {i : Nat} (hi : i < S.2.2 13) (hj : S.2.2 (20 + i) < S.2.2 (lk i)) (h60 : S.2.2 (20 + i) < 60) :
    vx_Met l yJx4a65c_add_72be8 [.code yJx4a65c_add_72be8 cJx4a65c_add_72be8 4 none] (rmx 4 1) (va_Pc [.ref (α 13 i), .ref (α (lk i) (S.2.2 (20 + i))), .ref (ed g h i), .int (nI (S.2.2 (20 + i)))] (fun U => Wd g α h S U ∧ True)) (QA g α S i) XN 1 (120 * 1) (AB g) := by
  refine Met_z (X := fun _ => True) (own := "java/util/ArrayList") hl (by decide +kernel) rfl (Nat.le_refl 4) (fun v hv => ?_) ?_
  · simp only [List.mem_cons, List.not_mem_nil, or_false] at hv
    rcases hv with rfl | rfl | rfl | rfl <;> rfl
  · intro p e R s m below meth c ls C hr hR hX hl9
    have hWT := C.2.2.2.2.2.2.2.1
    have hK := C.2.2.2.2.2.2.1
    have hST := C.2.2.2.2.2.2.2.2.1
    have h30 := C.2.2.2.2.2.2.2.2.2.2.2.2.1
    have h31 := C.2.2.2.2.2.2.2.2.2.2.2.2.2.1
    have h9 := hR.2.2.2.2.1 i hi
    have b0 := hl9.2.2 (0, .ref (α 13 i)) List.mem_cons_self
    have b1 := hl9.2.2 (1, .ref (α (lk i) (S.2.2 (20 + i)))) (List.mem_cons_of_mem _ List.mem_cons_self)
    have b2 := hl9.2.2 (2, .ref (ed g h i)) (List.mem_cons_of_mem _ (List.mem_cons_of_mem _ List.mem_cons_self))
    have b3 := hl9.2.2 (3, .int (nI (S.2.2 (20 + i)))) (List.mem_cons_of_mem _ (List.mem_cons_of_mem _ (List.mem_cons_of_mem _ List.mem_cons_self)))
    have hgrow : (h i).1 = S.2.2 (20 + i) → W p l e R s m #[.ref (α 13 i), .ref (α (lk i) (S.2.2 (20 + i))), .ref (ed g h i), .int (nI (S.2.2 (20 + i)))] below meth c s.heap [] 0 0 (vx_MQ below (QA g α S i) XN #[.ref (α 13 i), .ref (α (lk i) (S.2.2 (20 + i))), .ref (ed g h i), .int (nI (S.2.2 (20 + i)))] s 1 (120 * 1) (AB g)) (F0 m 6 ls []) := fun hfull => by
      refine lv_aload_n C.1 C.2.1 dJx4a65c_add_72be8_6 rfl b0 ?_
      have hlk : LkB "java/util/ArrayList" 129 yJx4a65c_grow_d5877 cJx4a65c_grow_d5877 1 (some (.array (.object "java/lang/Object"))) 0 := ⟨List.mem_of_getElem? (i := 312) (by decide +kernel), List.mem_of_getElem? (i := 29) (by decide +kernel), List.mem_of_getElem? (i := 309) (by decide +kernel), ⟨by decide +kernel, by decide +kernel⟩, by decide +kernel, by decide⟩
      have hpre := pre_Wz C hR (X := fun _ => True) (fun _ _ => trivial) (fun _ _ _ _ => trivial) va_S.rf [.ref (α 13 i)]
      refine w_afterQ (mc := 1) (ms := 120 * 1) (rest := []) (vx_runV (Ts := []) (own := "java/util/ArrayList") (C := "java/util/ArrayList") (b := α 13 i) (As := []) ⟨C.1, C.2.1, C.2.2.1, C.2.2.2.1, fun _ h => nomatch h⟩ (ct_grow0 hl (g := g) (α := α) (h := h) (S := S) hi hfull h60) ⟨lkB_call C hlk (by decide), wt_at (w := 311) hWT (by decide +kernel) rfl, wt_at (w := 2) hWT (by decide +kernel) rfl⟩ ⟨hpre.1, recv_ob hK hR (Or.inr rfl) hi, hpre.2⟩ rfl rfl hl9.1 rfl (by show 2 * 0 + 0 ≤ 8; decide) dJx4a65c_add_72be8_7 ⟨by omega, by omega⟩) va_S.rf (fun v st₀ t _ hz => qg_F v st₀ t hz) (fun v st₀ t locs1 hst hz hS1 => ?_) (fun E st₀ t hx => hx)
      obtain ⟨h', ho, hc, hR1, hF⟩ := hz
      cases ho
      refine lv_astore_n (lv' := [(2, .ref (h' i).2.1), (0, .ref (α 13 i)), (1, .ref (α (lk i) (S.2.2 (20 + i)))), (3, .int (nI (S.2.2 (20 + i))))]) C.1 C.2.1 dJx4a65c_add_72be8_10 rfl hl9 (by decide) rfl fun ls1 hl1 => ?_
      exact add_tail C hr hR1 hS1 hi hc hj ⟨by omega, by omega⟩ (hl1.2.2 (0, _) (List.mem_cons_of_mem _ List.mem_cons_self)) (hl1.2.2 (1, _) (List.mem_cons_of_mem _ (List.mem_cons_of_mem _ List.mem_cons_self))) (hl1.2.2 (2, _) List.mem_cons_self) (hl1.2.2 (3, _) (List.mem_cons_of_mem _ (List.mem_cons_of_mem _ (List.mem_cons_of_mem _ List.mem_cons_self))))
    refine lv_iload_n C.1 C.2.1 dJx4a65c_add_72be8_0 rfl b3 ?_
    refine lv_aload_n C.1 C.2.1 dJx4a65c_add_72be8_1 rfl b2 ?_
    by_cases h0 : (h i).1 = 0
    · rw [show ed g h i = g.2.2.1 from if_pos h0] at hgrow ⊢
      obtain ⟨hde, cell, hc1, hc2, hc3, hc4⟩ := hST.2.2.2.2.1
      have hs0 : S.2.2 (20 + i) = 0 := by omega
      refine W.alen (n := 0) (ty := .object "java/lang/Object") C.1 C.2.1 hc1 hc2 (by rw [hc4]; rfl) rfl rfl dJx4a65c_add_72be8_2 ?_
      refine lv_icmp_ne (tgt := 11) C.1 C.2.1 dJx4a65c_add_72be8_3 rfl (fun q => absurd (by rw [hs0]; rfl) q) fun _ => ?_
      exact hgrow (by omega)
    · have e1 : ed g h i = (h i).2.1 := if_neg h0
      rw [e1] at hgrow b2 ⊢
      refine va_alen (ty := .object "java/lang/Object") C.1 C.2.1 hK (hR.lar hi h0) 0 3 rfl rfl rfl dJx4a65c_add_72be8_2 ?_
      refine lv_icmp_ne (tgt := 11) C.1 C.2.1 dJx4a65c_add_72be8_3 rfl (fun q => ?_) fun q => ?_
      · have hlt : S.2.2 (20 + i) < (h i).1 := by
          have : S.2.2 (20 + i) ≠ (h i).1 := fun z => q (by rw [z]; rfl)
          omega
        exact add_tail C hr hR va_S.rf hi hlt hj ⟨by omega, by omega⟩ b0 b1 b2 b3
      · refine hgrow ?_
        have q1 := congrArg Int32.toNatClampNeg q
        rw [nI_cl (by omega), ofNat_cl (by omega)] at q1
        exact q1.symm
theorem ct_add {l : Launch} (hl : l.stackTraces = false) : CT l yJx4a65c_add_9ea2d cJx4a65c_add_9ea2d 2 (some .boolean) 5 1 s_add := by
  refine CT_w (own := "java/util/ArrayList") hl (by decide +kernel) rfl (fun as S P h => ?_) ?_
  · obtain ⟨i, rfl, -⟩ := s_add_ok h
    exact ⟨Nat.le_refl _, fun a ha => by
      rcases List.mem_cons.mp ha with rfl | ha
      · rfl
      · rw [List.mem_singleton.mp ha]; rfl⟩
  · intro p e R s m below meth c g α h S as P ls hsp C hr hR hLv hle
    obtain ⟨i, rfl, hi, h60, hj, hP⟩ := s_add_ok hsp
    have hWT := C.2.2.2.2.2.2.2.1
    have hK := C.2.2.2.2.2.2.1
    have h30 := C.2.2.2.2.2.2.2.2.2.2.2.2.1
    have h31 := C.2.2.2.2.2.2.2.2.2.2.2.2.2.1
    have h9 := hR.2.2.2.2.1 i hi
    have hk9 : lk i ≠ 99 := (ob_ne (Or.inl (lk_ok (i := i)))).2.1
    have b0 : ls[0]? = some (.val (.ref (α 13 i))) := hle.2.2 (0, .ref (α 13 i)) List.mem_cons_self
    have b1 : ls[1]? = some (.val (.ref (α (lk i) (S.2.2 (20 + i))))) := by
      have := hle.2.2 (1, conc α (aR (lk i) (S.2.2 (20 + i)))) (List.mem_cons_of_mem _ List.mem_cons_self)
      rw [conc_ob hk9] at this
      exact this
    have hsm : ∀ x, s.fieldFound? ((vC 0).2.1 0).1 ((vC 0).2.1 0).2.1 ((vC 0).2.1 0).2.2.1 = some x → s.fieldFound? "java/util/ArrayList" ((vC 0).2.1 0).2.1 ((vC 0).2.1 0).2.2.1 = some x := fun x hx => u_same (args := #[]) (hWT _ (List.mem_of_getElem? (i := 83) (by decide +kernel)) rfl _) x hx
    refine lv_aload_n C.1 C.2.1 dJx4a65c_add_9ea2d_0 rfl b0 ?_
    refine lv_dup C.1 C.2.1 dJx4a65c_add_9ea2d_1 rfl ?_
    refine w_lget C.1 C.2.1 C.2.2.2.1 hK hWT hR hi 0 (by decide) (wt_at (w := 82) hWT (by decide +kernel) rfl) hsm rfl dJx4a65c_add_9ea2d_2 ?_
    refine lv_iconst (v := 1) C.1 C.2.1 dJx4a65c_add_9ea2d_5 rfl ?_
    refine lv_iadd C.1 C.2.1 dJx4a65c_add_9ea2d_6 ?_
    refine w_putL C.1 C.2.1 C.2.2.2.1 hK hWT va_S.rf (hR.lst hi) (lst_AB hR hi) 0 (by decide) rfl (wt_at (w := 82) hWT (by decide +kernel) rfl) hsm rfl ⟨rfl, rfl⟩ dJx4a65c_add_9ea2d_7 (fun H1 locs1 hP1 z1 o1 hS1 => ?_)
    have hR1 : Rep g α (h1n h i ((h i).1, (h i).2.1, (h i).2.2 + 1)) S H1 := by
      refine hR.lupd (v := ((h i).1, (h i).2.1, (h i).2.2 + 1)) hi rfl rfl (fun _ _ => rfl) (Nat.le_refl _) h9.2.1 h9.2.2.1 h9.2.2.2.1 h9.2.2.2.2 (fun h0 => ?_) ?_ (fun h0 => ?_) (fun k i' z g1 _ => o1 _ (adr_ne13 hR hi z g1))
      · have l15 : Lv h S 15 i := by rw [Lv, if_pos rfl]; exact ⟨hi, h0⟩
        have a15 : adr α h 15 i = (h i).2.1 := by rw [adr, if_pos rfl]
        exact ⟨by have := hR.2.2.1 15 i l15; rwa [a15] at this, fun k i' z g1 => fun w => g1 (hR.2.1 k i' 15 i z l15 (by rw [a15]; exact w))⟩
      · have e : lfs g (h1n h i ((h i).1, (h i).2.1, (h i).2.2 + 1)) S i = (lfs g h S i).set 0 (.int ((h i).2.2 + 1)) := by
          unfold lfs ed
          rw [h1n_eq]
          rfl
        rw [e]
        exact hP1
      · have l15 : Lv h S 15 i := by rw [Lv, if_pos rfl]; exact ⟨hi, h0⟩
        have a15 : adr α h 15 i = (h i).2.1 := by rw [adr, if_pos rfl]
        exact va_P1 ((hR.lar hi h0 0 _ rfl).kept (o1 _ (by have := adr_ne13 hR hi l15 (fun q => absurd q.1 (by decide)); rwa [a15] at this)))
    have eed : ed g (h1n h i ((h i).1, (h i).2.1, (h i).2.2 + 1)) i = ed g h i := by
      unfold ed
      rw [h1n_eq]
    generalize h1n h i ((h i).1, (h i).2.1, (h i).2.2 + 1) = h1 at hR1 eed
    refine lv_aload_n C.1 C.2.1 dJx4a65c_add_9ea2d_10 rfl b0 ?_
    refine lv_aload_n C.1 C.2.1 dJx4a65c_add_9ea2d_11 rfl b1 ?_
    refine lv_aload_n C.1 C.2.1 dJx4a65c_add_9ea2d_12 rfl b0 ?_
    refine w_lget C.1 C.2.1 C.2.2.2.1 hK hWT hR1 hi 1 (by decide) (wt_at (w := 79) hWT (by decide +kernel) rfl) (fun _ h => h) rfl dJx4a65c_add_9ea2d_13 ?_
    refine lv_aload_n C.1 C.2.1 dJx4a65c_add_9ea2d_16 rfl b0 ?_
    refine w_lget C.1 C.2.1 C.2.2.2.1 hK hWT hR1 hi 2 (by decide) (wt_at (w := 80) hWT (by decide +kernel) rfl) (fun _ h => h) rfl dJx4a65c_add_9ea2d_17 ?_
    have hlk : LkB "java/util/ArrayList" 131 yJx4a65c_add_72be8 cJx4a65c_add_72be8 4 none 3 := ⟨List.mem_of_getElem? (i := 308) (by decide +kernel), List.mem_of_getElem? (i := 29) (by decide +kernel), List.mem_of_getElem? (i := 305) (by decide +kernel), ⟨by decide +kernel, by decide +kernel⟩, by decide +kernel, by decide⟩
    have hpre := pre_Wz C hR1 (X := fun _ => True) (fun _ _ => trivial) (fun _ _ _ _ => trivial) hS1 [.ref (α 13 i), .ref (α (lk i) (S.2.2 (20 + i))), .ref (ed g h1 i), .int (nI (S.2.2 (20 + i)))]
    refine w_afterQ (mc := 1) (ms := 120 * 1) (rest := []) (vx_runV (Ts := []) (own := "java/util/ArrayList") (C := "java/util/ArrayList") (b := α 13 i) (As := [.ref (α (lk i) (S.2.2 (20 + i))), .ref (ed g h1 i), .int (nI (S.2.2 (20 + i)))]) ⟨C.1, C.2.1, C.2.2.1, C.2.2.2.1, fun _ h => nomatch h⟩ (ct_add3 hl (g := g) (α := α) (h := h1) (S := S) hi hj h60) ⟨lkB_call C hlk (by decide), wt_at (w := 307) hWT (by decide +kernel) rfl, wt_at (w := 1) hWT (by decide +kernel) rfl⟩ ⟨hpre.1, recv_ob hK hR1 (Or.inr rfl) hi, hpre.2⟩ rfl rfl hle.1 rfl (by show 2 * 0 + 0 ≤ 8; decide) dJx4a65c_add_9ea2d_20 ⟨by omega, by omega⟩) hS1 (fun v st₀ t _ hz => qa_F v st₀ t hz) (fun v st₀ t locs2 hst hz hS2 => ?_) (fun E st₀ t hx => hx)
    obtain ⟨h', ho, hR2, hF⟩ := hz
    cases ho
    refine lv_iconst (v := 1) C.1 C.2.1 dJx4a65c_add_9ea2d_23 rfl ?_
    exact fin_ret (u := 1) (r := some (aI 1)) C hr hP (Nat.le_refl _) hR2 ⟨fun _ _ _ => rfl, fun k => bump_le k⟩ trivial hS2 ⟨Or.inr ⟨rfl, rfl⟩, dJx4a65c_add_9ea2d_24⟩
end
section
/-! THE LISTS' CONTRACTS by the names that the tables use, and Arrays.fill -/
abbrev s_Jx4a65c_size_8abf5 : SP := s_size
theorem ct_Jx4a65c_size_8abf5 {l : Launch} (hl : l.stackTraces = false) (_ : NewL l) : CT l yJx4a65c_size_8abf5 cJx4a65c_size_8abf5 1 (some .int) 0 0 s_Jx4a65c_size_8abf5 := ct_size hl
theorem rc_Jx4a65c_size_8abf5 : ∀ as S P, s_Jx4a65c_size_8abf5 as S P → ∃ k i r, as = aR k i :: r ∧ ci k = 0 ∧ (obK k = true ∨ k = 13) := fun as S P h => by
  obtain ⟨i, rfl, -⟩ := l1_ok h
  exact ⟨13, i, [], rfl, rfl, Or.inr rfl⟩
abbrev s_Jx4a65c_get_915e3 : SP := s_get
theorem ct_Jx4a65c_get_915e3 {l : Launch} (hl : l.stackTraces = false) (_ : NewL l) : CT l yJx4a65c_get_915e3 cJx4a65c_get_915e3 2 (some (.object "java/lang/Object")) 2 0 s_Jx4a65c_get_915e3 := ct_get hl
theorem rc_Jx4a65c_get_915e3 : ∀ as S P, s_Jx4a65c_get_915e3 as S P → ∃ k i r, as = aR k i :: r ∧ ci k = 0 ∧ (obK k = true ∨ k = 13) := fun as S P h => by
  obtain ⟨i, j, rfl, -⟩ := l2i_ok h
  exact ⟨13, i, _, rfl, rfl, Or.inr rfl⟩
abbrev s_Jx4a65c_add_9ea2d : SP := s_add
theorem ct_Jx4a65c_add_9ea2d {l : Launch} (hl : l.stackTraces = false) (_ : NewL l) : CT l yJx4a65c_add_9ea2d cJx4a65c_add_9ea2d 2 (some .boolean) 5 1 s_Jx4a65c_add_9ea2d := ct_add hl
theorem rc_Jx4a65c_add_9ea2d : ∀ as S P, s_Jx4a65c_add_9ea2d as S P → ∃ k i r, as = aR k i :: r ∧ ci k = 0 ∧ (obK k = true ∨ k = 13) := fun as S P h => by
  obtain ⟨i, rfl, -⟩ := s_add_ok h
  exact ⟨13, i, _, rfl, rfl, Or.inr rfl⟩
/-- Int32 by Int -/
theorem nI_int {n : Nat} (h : n < 2 ^ 31) : (nI n).toInt = n := Int32.toInt_ofNat_of_lt h
theorem nI_le2 {a b : Nat} (ha : a < 2 ^ 31) (hb : b < 2 ^ 31) : nI a ≤ nI b ↔ a ≤ b := by
  rw [Int32.le_iff_toInt_le, nI_int ha, nI_int hb]
  omega
theorem nI_lt2 {a b : Nat} (ha : a < 2 ^ 31) (hb : b < 2 ^ 31) : nI a < nI b ↔ a < b := by
  rw [Int32.lt_iff_toInt_lt, nI_int ha, nI_int hb]
  omega
theorem nI_vin {a b : Nat} (ha : a < 2 ^ 31) (h : a < b) : vp_in (nI a) b := fun q => q.elim (nI_nn ha) fun q => by
  rw [nI_cl ha] at q
  omega
def fillS (S : Sto) (a : Nat) (v : Int32) (n : Nat) : Sto := (fun k f i => if k = 10 ∧ f = a ∧ i < n then v else S.1 k f i, S.2)
theorem fillS_0 (S : Sto) (a : Nat) (v : Int32) : fillS S a v 0 = S := by
  have e : (fun k f i => if k = 10 ∧ f = a ∧ i < 0 then v else S.1 k f i) = S.1 := by
    funext k f i
    rw [if_neg (by omega)]
  show ((fun k f i => if k = 10 ∧ f = a ∧ i < 0 then v else S.1 k f i), S.2) = S
  rw [e]
theorem sto_eq {S S' : Sto} (h1 : ∀ k f i, S.1 k f i = S'.1 k f i) (h2 : S.2 = S'.2) : S = S' := by
  obtain ⟨a, b⟩ := S
  obtain ⟨a', b'⟩ := S'
  have e : a = a' := by funext k f i; exact h1 k f i
  cases e
  cases h2
  rfl
theorem fillS_s (S : Sto) (a : Nat) (v : Int32) (n : Nat) : wrI (fillS S a v n) 10 a n v = fillS S a v (n + 1) := by
  refine sto_eq (fun k f i => ?_) rfl
  rw [wrI_at]
  show (if k = 10 ∧ f = a ∧ i = n then v else if k = 10 ∧ f = a ∧ i < n then v else S.1 k f i) = if k = 10 ∧ f = a ∧ i < n + 1 then v else S.1 k f i
  by_cases h1 : k = 10 ∧ f = a ∧ i = n
  · rw [if_pos h1, if_pos ⟨h1.1, h1.2.1, by omega⟩]
  · rw [if_neg h1]
    by_cases h2 : k = 10 ∧ f = a ∧ i < n
    · rw [if_pos h2, if_pos ⟨h2.1, h2.2.1, by omega⟩]
    · rw [if_neg h2, if_neg fun q => by
        rcases Nat.lt_succ_iff_lt_or_eq.mp q.2.2 with z | z
        · exact h2 ⟨q.1, q.2.1, z⟩
        · exact h1 ⟨q.1, q.2.1, z⟩]
def ra (as : List AV) (k : Nat → Int32 → Prop) : Prop := match as with
  | [Sum.inr (Sum.inr (a, i)), Sum.inl v] => a = 10 ∧ k i v
  | _ => False
theorem ra_ok {as : List AV} {k : Nat → Int32 → Prop} (h : ra as k) : ∃ i v, as = [aR 10 i, aI v] ∧ k i v := by
  unfold ra at h
  split at h
  · obtain ⟨rfl, h⟩ := h; exact ⟨_, _, rfl, h⟩
  · exact h.elim
def s_J7_fill_53178 : SP := fun as S Q => ra as fun a v => a < 31 ∧ Q (Sum.inl none) (fillS S a v (al 10 a))
def tb_J7_fill_53178 : Tb := [(0, .iconst 0, 1, xI (0)), (1, .istore_n 2, 1, x0), (2, .aload_n 0, 1, x0), (3, .arraylength, 1, x0), (4, .istore_n 3, 1, x0), (5, .iload_n 2, 1, x0), (6, .iload_n 3, 1, x0), (7, .if_icmp .ge 13, 3, xN 20), (10, .aload_n 0, 1, x0), (11, .iload_n 2, 1, x0), (12, .iload_n 1, 1, x0), (13, .iastore, 1, x0), (14, .iinc 2 1, 3, xI (1)), (17, .goto (-12), 3, xN 5), (20, .return_, 1, x0)]
theorem chk_J7_fill_53178 : chkTb cJ7_fill_53178 "java/util/Arrays" false tb_J7_fill_53178 = true := by decide +kernel
theorem cal_J7_fill_53178 {l : Launch} (hl : l.stackTraces = false) (hNL : NewL l) : CallsOK l "java/util/Arrays" 0 tb_J7_fill_53178 := callsOK_f trivial
theorem ar_J7_fill_53178 : ∀ as S P, s_J7_fill_53178 as S P → as.length ≤ 4 ∧ ∀ a ∈ as, catV a = 1 := fun as S P h => by
  obtain ⟨i, v, rfl, -⟩ := ra_ok h
  exact ⟨by show 2 ≤ 4; decide, fun a ha => by
    rcases List.mem_cons.mp ha with rfl | ha
    · rfl
    · rw [List.mem_singleton.mp ha]; rfl⟩
theorem vc_J7_fill_53178 : ∀ (G : Gt) (Q : Out → Sto → Prop) (as : List AV) (S : Sto), s_J7_fill_53178 as S Q → Seg tb_J7_fill_53178 G Q 0 0 [] (0, fun _ => 0) → G 0 (argL as 4) [] S 0 := by
  intro G Q as S h hs
  obtain ⟨a, v, rfl, ha, hQ⟩ := ra_ok h
  have hal : al 10 a ≤ 3000 := al_le
  have loop : ∀ m j, j + m = al 10 a → G 5 [some (aR 10 a), some (aI v), some (aI (nI j)), some (aI (nI (al 10 a)))] [] (fillS S a v j) 0 := by
    intro m
    induction m with
    | zero =>
      intro j hj
      refine hs [5] 60 5 _ _ _ _ ?_
      refine ⟨fun _ => ?_, fun q => absurd ((nI_le2 (by omega) (by omega)).mpr (by omega)) q⟩
      obtain rfl : j = al 10 a := hj
      exact hQ
    | succ m ih =>
      intro j hj
      refine hs [5] 60 5 _ _ _ _ ?_
      refine ⟨fun q => absurd ((nI_le2 (by omega) (by omega)).mp q) (by omega), fun _ => ⟨nI_vin (by omega) (by omega), ?_⟩⟩
      have h1 := ih (j + 1) (by omega)
      rw [← show nI j + 1 = nI (j + 1) from by rw [nI_succ], ← fillS_s] at h1
      have e : (nI j).toNatClampNeg = j := nI_cl (by omega)
      show G 5 [some (aR 10 a), some (aI v), some (aI (nI j + 1)), some (aI (nI (al 10 a)))] [] (wrI (fillS S a v j) 10 a (nI j).toNatClampNeg v) 0
      rw [e]
      exact h1
  refine hs [5] 60 0 _ _ _ _ ?_
  have h0 := loop (al 10 a) 0 (by omega)
  rw [fillS_0] at h0
  exact h0
theorem ct_J7_fill_53178 {l : Launch} (hl : l.stackTraces = false) (hNL : NewL l) : CT l yJ7_fill_53178 cJ7_fill_53178 4 none 0 0 s_J7_fill_53178 := CT_of hl hNL (by decide +kernel) (own := "java/util/Arrays") rfl (ini := false) (fun q => nomatch q) chk_J7_fill_53178 (cal_J7_fill_53178 hl hNL) ar_J7_fill_53178 vc_J7_fill_53178
def tb_X6_roadOf : Tb := [(0, .iload_n 1, 1, x0), (1, .aload_n 0, 1, x0), (2, .getfield 23, 3, xF 7 3 [100]), (5, .invokevirtual 68, 3, xS 1 0 s_Jx4a65c_size_8abf5), (8, .invokestatic 53, 3, xS 2 1 s_X6_needNumber), (11, .aload_n 0, 1, x0), (12, .getfield 23, 3, xF 7 3 [100]), (15, .iload_n 1, 1, x0), (16, .invokevirtual 234, 3, xS 2 0 s_Jx4a65c_get_915e3), (19, .checkcast 75, 3, xF 5 0 [256]), (22, .areturn, 1, x0)]
theorem chk_X6_roadOf : chkTb cX6_roadOf "HeavyHaul" false tb_X6_roadOf = true := by decide +kernel
theorem cal_X6_roadOf {l : Launch} (hl : l.stackTraces = false) (hNL : NewL l) : CallsOK l "HeavyHaul" 3 tb_X6_roadOf := callsOK_f ⟨⟨_, _, 1, 0, _, 0, (ct_Jx4a65c_size_8abf5 hl hNL), ⟨List.mem_of_getElem? (i := 236) (by decide +kernel), List.mem_of_getElem? (i := 29) (by decide +kernel), List.mem_of_getElem? (i := 233) (by decide +kernel), ⟨by decide +kernel, by decide +kernel⟩, by decide +kernel, by decide⟩, List.mem_of_getElem? (i := 234) (by decide +kernel), List.mem_of_getElem? (i := 235) (by decide +kernel), by decide, by decide, rc_Jx4a65c_size_8abf5⟩, ⟨_, _, 2, 0, _, (ct_X6_needNumber hl hNL), ⟨List.mem_of_getElem? (i := 144) (by decide +kernel), List.mem_of_getElem? (i := 26) (by decide +kernel), List.mem_of_getElem? (i := 142) (by decide +kernel), ⟨by decide +kernel, by decide +kernel⟩, by decide +kernel, by decide⟩, List.mem_of_getElem? (i := 143) (by decide +kernel), by decide⟩, ⟨_, _, 2, 2, _, 0, (ct_Jx4a65c_get_915e3 hl hNL), ⟨List.mem_of_getElem? (i := 519) (by decide +kernel), List.mem_of_getElem? (i := 29) (by decide +kernel), List.mem_of_getElem? (i := 516) (by decide +kernel), ⟨by decide +kernel, by decide +kernel⟩, by decide +kernel, by decide⟩, List.mem_of_getElem? (i := 517) (by decide +kernel), List.mem_of_getElem? (i := 518) (by decide +kernel), by decide, by decide, rc_Jx4a65c_get_915e3⟩, trivial⟩
def s_X6_roadOf : SP := aM tb_X6_roadOf 7 2 2 3 1
theorem ct_X6_roadOf {l : Launch} (hl : l.stackTraces = false) (hNL : NewL l) : CT l yX6_roadOf cX6_roadOf 2 (some (.object "HeavyHaul$Road")) 3 1 s_X6_roadOf := CT_of hl hNL (by decide +kernel) (own := "HeavyHaul") rfl (ini := false) (fun q => nomatch q) chk_X6_roadOf (cal_X6_roadOf hl hNL) (aM_args (by decide)) aM_vc
theorem rc_X6_roadOf : ∀ as S P, s_X6_roadOf as S P → ∃ k i r, as = aR k i :: r ∧ ci k = 7 ∧ (obK k = true ∨ k = 13) := aM_rc
def tb_X6_rigOf : Tb := [(0, .iload_n 1, 1, x0), (1, .aload_n 0, 1, x0), (2, .getfield 30, 3, xF 7 5 [102]), (5, .invokevirtual 68, 3, xS 1 0 s_Jx4a65c_size_8abf5), (8, .invokestatic 53, 3, xS 2 1 s_X6_needNumber), (11, .aload_n 0, 1, x0), (12, .getfield 30, 3, xF 7 5 [102]), (15, .iload_n 1, 1, x0), (16, .invokevirtual 234, 3, xS 2 0 s_Jx4a65c_get_915e3), (19, .checkcast 117, 3, xF 4 0 [365]), (22, .areturn, 1, x0)]
theorem chk_X6_rigOf : chkTb cX6_rigOf "HeavyHaul" false tb_X6_rigOf = true := by decide +kernel
theorem cal_X6_rigOf {l : Launch} (hl : l.stackTraces = false) (hNL : NewL l) : CallsOK l "HeavyHaul" 3 tb_X6_rigOf := callsOK_f ⟨⟨_, _, 1, 0, _, 0, (ct_Jx4a65c_size_8abf5 hl hNL), ⟨List.mem_of_getElem? (i := 236) (by decide +kernel), List.mem_of_getElem? (i := 29) (by decide +kernel), List.mem_of_getElem? (i := 233) (by decide +kernel), ⟨by decide +kernel, by decide +kernel⟩, by decide +kernel, by decide⟩, List.mem_of_getElem? (i := 234) (by decide +kernel), List.mem_of_getElem? (i := 235) (by decide +kernel), by decide, by decide, rc_Jx4a65c_size_8abf5⟩, ⟨_, _, 2, 0, _, (ct_X6_needNumber hl hNL), ⟨List.mem_of_getElem? (i := 144) (by decide +kernel), List.mem_of_getElem? (i := 26) (by decide +kernel), List.mem_of_getElem? (i := 142) (by decide +kernel), ⟨by decide +kernel, by decide +kernel⟩, by decide +kernel, by decide⟩, List.mem_of_getElem? (i := 143) (by decide +kernel), by decide⟩, ⟨_, _, 2, 2, _, 0, (ct_Jx4a65c_get_915e3 hl hNL), ⟨List.mem_of_getElem? (i := 519) (by decide +kernel), List.mem_of_getElem? (i := 29) (by decide +kernel), List.mem_of_getElem? (i := 516) (by decide +kernel), ⟨by decide +kernel, by decide +kernel⟩, by decide +kernel, by decide⟩, List.mem_of_getElem? (i := 517) (by decide +kernel), List.mem_of_getElem? (i := 518) (by decide +kernel), by decide, by decide, rc_Jx4a65c_get_915e3⟩, trivial⟩
def s_X6_rigOf : SP := aM tb_X6_rigOf 7 2 2 3 1
theorem ct_X6_rigOf {l : Launch} (hl : l.stackTraces = false) (hNL : NewL l) : CT l yX6_rigOf cX6_rigOf 2 (some (.object "HeavyHaul$Rig")) 3 1 s_X6_rigOf := CT_of hl hNL (by decide +kernel) (own := "HeavyHaul") rfl (ini := false) (fun q => nomatch q) chk_X6_rigOf (cal_X6_rigOf hl hNL) (aM_args (by decide)) aM_vc
theorem rc_X6_rigOf : ∀ as S P, s_X6_rigOf as S P → ∃ k i r, as = aR k i :: r ∧ ci k = 7 ∧ (obK k = true ∨ k = 13) := aM_rc
end
section
/-! WHAT THE CLASS COMPUTES, as functions of the store; and shapes of arguments -/
def o0 (kd : Nat) (as : List AV) (f : Prop) : Prop := match as with
  | [Sum.inr (Sum.inr (k, i))] => k = kd ∧ i = 0 ∧ f
  | _ => False
def o1 (kd : Nat) (as : List AV) (f : Int32 → Prop) : Prop := match as with
  | [Sum.inr (Sum.inr (k, i)), Sum.inl a] => k = kd ∧ i = 0 ∧ f a
  | _ => False
def o2 (kd : Nat) (as : List AV) (f : Int32 → Int32 → Prop) : Prop := match as with
  | [Sum.inr (Sum.inr (k, i)), Sum.inl a, Sum.inl b] => k = kd ∧ i = 0 ∧ f a b
  | _ => False
def o3 (kd : Nat) (as : List AV) (f : Int32 → Int32 → Int32 → Prop) : Prop := match as with
  | [Sum.inr (Sum.inr (k, i)), Sum.inl a, Sum.inl b, Sum.inl c] => k = kd ∧ i = 0 ∧ f a b c
  | _ => False
def o4 (kd : Nat) (as : List AV) (f : Int32 → Int32 → Int32 → Int32 → Prop) : Prop := match as with
  | [Sum.inr (Sum.inr (k, i)), Sum.inl a, Sum.inl b, Sum.inl c, Sum.inl d] => k = kd ∧ i = 0 ∧ f a b c d
  | _ => False
def o5 (kd : Nat) (as : List AV) (f : Int32 → Int32 → Int32 → Int32 → Int32 → Prop) : Prop := match as with
  | [Sum.inr (Sum.inr (k, i)), Sum.inl a, Sum.inl b, Sum.inl c, Sum.inl d, Sum.inl e] => k = kd ∧ i = 0 ∧ f a b c d e
  | _ => False
/-- the object itself and an object of kind x -/
def oR (kd x : Nat) (as : List AV) (f : Nat → Prop) : Prop := match as with
  | [Sum.inr (Sum.inr (k, i)), Sum.inr (Sum.inr (y, j))] => k = kd ∧ i = 0 ∧ y = x ∧ f j
  | _ => False
/-- a road, a rig and two flags -/
def rr2 (as : List AV) (f : Nat → Nat → Int32 → Int32 → Prop) : Prop := match as with
  | [Sum.inr (Sum.inr (k, i)), Sum.inr (Sum.inr (y, j)), Sum.inl a, Sum.inl b] => k = 2 ∧ y = 4 ∧ f i j a b
  | _ => False
/-- a length, a rig, a step, two flags -/
def ir3 (as : List AV) (f : Int32 → Nat → Int32 → Int32 → Int32 → Prop) : Prop := match as with
  | [Sum.inl s, Sum.inr (Sum.inr (y, j)), Sum.inl t, Sum.inl a, Sum.inl b] => y = 4 ∧ f s j t a b
  | _ => False
theorem o0_ok {kd : Nat} {as : List AV} {f : Prop} (h : o0 kd as f) : as = [aR kd 0] ∧ f := by
  unfold o0 at h
  split at h
  · obtain ⟨rfl, rfl, h⟩ := h; exact ⟨rfl, h⟩
  · exact h.elim
theorem o1_ok {kd : Nat} {as : List AV} {f : Int32 → Prop} (h : o1 kd as f) : ∃ a, as = [aR kd 0, aI a] ∧ f a := by
  unfold o1 at h
  split at h
  · obtain ⟨rfl, rfl, h⟩ := h; exact ⟨_, rfl, h⟩
  · exact h.elim
theorem o2_ok {kd : Nat} {as : List AV} {f : Int32 → Int32 → Prop} (h : o2 kd as f) : ∃ a b, as = [aR kd 0, aI a, aI b] ∧ f a b := by
  unfold o2 at h
  split at h
  · obtain ⟨rfl, rfl, h⟩ := h; exact ⟨_, _, rfl, h⟩
  · exact h.elim
theorem o3_ok {kd : Nat} {as : List AV} {f : Int32 → Int32 → Int32 → Prop} (h : o3 kd as f) : ∃ a b c, as = [aR kd 0, aI a, aI b, aI c] ∧ f a b c := by
  unfold o3 at h
  split at h
  · obtain ⟨rfl, rfl, h⟩ := h; exact ⟨_, _, _, rfl, h⟩
  · exact h.elim
theorem o4_ok {kd : Nat} {as : List AV} {f : Int32 → Int32 → Int32 → Int32 → Prop} (h : o4 kd as f) : ∃ a b c d, as = [aR kd 0, aI a, aI b, aI c, aI d] ∧ f a b c d := by
  unfold o4 at h
  split at h
  · obtain ⟨rfl, rfl, h⟩ := h; exact ⟨_, _, _, _, rfl, h⟩
  · exact h.elim
theorem o5_ok {kd : Nat} {as : List AV} {f : Int32 → Int32 → Int32 → Int32 → Int32 → Prop} (h : o5 kd as f) : ∃ a b c d e, as = [aR kd 0, aI a, aI b, aI c, aI d, aI e] ∧ f a b c d e := by
  unfold o5 at h
  split at h
  · obtain ⟨rfl, rfl, h⟩ := h; exact ⟨_, _, _, _, _, rfl, h⟩
  · exact h.elim
theorem oR_ok {kd x : Nat} {as : List AV} {f : Nat → Prop} (h : oR kd x as f) : ∃ j, as = [aR kd 0, aR x j] ∧ f j := by
  unfold oR at h
  split at h
  · obtain ⟨rfl, rfl, rfl, h⟩ := h; exact ⟨_, rfl, h⟩
  · exact h.elim
theorem rr2_ok {as : List AV} {f : Nat → Nat → Int32 → Int32 → Prop} (h : rr2 as f) : ∃ i j a b, as = [aR 2 i, aR 4 j, aI a, aI b] ∧ f i j a b := by
  unfold rr2 at h
  split at h
  · obtain ⟨rfl, rfl, h⟩ := h; exact ⟨_, _, _, _, rfl, h⟩
  · exact h.elim
theorem ir3_ok {as : List AV} {f : Int32 → Nat → Int32 → Int32 → Int32 → Prop} (h : ir3 as f) : ∃ s j t a b, as = [aI s, aR 4 j, aI t, aI a, aI b] ∧ f s j t a b := by
  unfold ir3 at h
  split at h
  · obtain ⟨rfl, h⟩ := h; exact ⟨_, _, _, _, _, rfl, h⟩
  · exact h.elim
theorem ar_all {as : List AV} {n : Nat} (h : as.length ≤ n ∧ as.all (fun a => catV a == 1) = true) : as.length ≤ n ∧ ∀ a ∈ as, catV a = 1 := ⟨h.1, fun a ha => eq_of_beq (List.all_eq_true.mp h.2 a ha)⟩
theorem lp_go {n j : Nat} (hn : n ≤ 1000) (h : j < n) : ¬ nI n ≤ nI j := fun q => absurd ((nI_le2 (by omega) (by omega)).mp q) (by omega)
theorem lp_in {n j : Nat} (hn : n ≤ 1000) (h : j < n) : nI j < nI n := (nI_lt2 (by omega) (by omega)).mpr h
theorem lp_nn {n j : Nat} (hn : n ≤ 1000) (h : j < n) : 0 ≤ nI j := Int32.not_lt.mp (nI_nn (by omega))
theorem lp_cl {n j : Nat} (hn : n ≤ 1000) (h : j < n) : (nI j).toNatClampNeg = j := nI_cl (by omega)
theorem lp_end {n : Nat} (q : ¬ nI n ≤ nI n) : False := q (Int32.le_refl _)
theorem nI_s (n : Nat) : nI n + 1 = nI (n + 1) := by rw [nI_succ]
/-- the greatest gain of the first n works -/
def gainF (rd fr to vl : Nat → Int32) (road first en : Int32) : Nat → Int32
  | 0 => 0
  | n + 1 => if rd n = road ∧ fr n ≤ first ∧ en ≤ to n then (if gainF rd fr to vl road first en n < vl n then vl n else gainF rd fr to vl road first en n) else gainF rd fr to vl road first en n
def anyN (p : Nat → Bool) : Nat → Bool
  | 0 => false
  | n + 1 => anyN p n || p n
theorem anyN_t {p : Nat → Bool} {n j : Nat} (hj : j < n) (h : p j = true) : anyN p n = true := by
  induction n with
  | zero => omega
  | succ n ih =>
    show (anyN p n || p n) = true
    by_cases e : j = n
    · rw [← e, h, Bool.or_true]
    · rw [ih (by omega), Bool.true_or]
theorem anyN_f {p : Nat → Bool} {n : Nat} (h : ∀ j, j < n → p j = false) : anyN p n = false := by
  induction n with
  | zero => rfl
  | succ n ih =>
    show (anyN p n || p n) = false
    rw [ih (fun j hj => h j (by omega)), h n (by omega)]
    rfl
/-- how the class's own objects stand -/
def RoF (S : Sto) (i : Nat) : Prop := (∃ p q a t s : Nat, S.1 2 0 i = nI p ∧ S.1 2 1 i = nI q ∧ S.1 2 2 i = nI a ∧ S.1 2 6 i = nI t ∧ S.1 2 7 i = nI s ∧ p < 10 ∧ q < 10 ∧ p ≠ q ∧ a < 4 ∧ 1 ≤ t ∧ t ≤ 9 ∧ s ≤ 40)
def RiF (S : Sto) (i : Nat) : Prop := (∃ a d p : Nat, S.1 4 0 i = nI (2 * a) ∧ S.1 4 1 i = nI d ∧ S.1 4 8 i = nI p ∧ 1 ≤ a ∧ a ≤ 8 ∧ 1 ≤ d ∧ d ≤ 5 ∧ p < 10)
def WfH (S : Sto) : Prop :=
  S.2.2 13 = 5 ∧ (S.2.2 20 ≤ 20 ∧ S.2.2 21 ≤ 30 ∧ S.2.2 22 ≤ 6 ∧ S.2.2 23 ≤ 40 ∧ S.2.2 24 ≤ 20) ∧
  (S.2.2 2 = S.2.2 20 ∧ S.2.2 3 = S.2.2 21 ∧ S.2.2 4 = S.2.2 22 ∧ S.2.2 5 = S.2.2 23 ∧ S.2.2 6 = S.2.2 24 ∧ S.2.2 7 = S.2.2 21 ∧ S.2.2 8 = S.2.2 23 ∧ S.2.2 9 = S.2.2 24) ∧
  (∀ i, i < S.2.2 21 → S.1 3 3 i ≠ 0) ∧ (∀ i, i < S.2.2 23 → S.1 5 2 i ≠ 0) ∧ (∀ i, i < S.2.2 24 → S.1 6 1 i ≠ 0) ∧
  (∀ i, i < S.2.2 20 → RoF S i) ∧ (∀ i, i < S.2.2 22 → RiF S i)
def gainH (S : Sto) (road isH first en : Int32) (n : Nat) : Int32 := gainF (S.1 3 0) (S.1 7 0) (S.1 7 1) (if isH = 0 then S.1 3 1 else S.1 3 2) road first en n
theorem gainH_s {S : Sto} {road isH first en : Int32} {j : Nat} (hc : S.1 3 0 j = road ∧ S.1 7 0 j ≤ first ∧ en ≤ S.1 7 1 j) {vl : Nat → Int32} (hv : (if isH = 0 then S.1 3 1 else S.1 3 2) = vl) : (if gainH S road isH first en j < vl j then vl j else gainH S road isH first en j) = gainH S road isH first en (j + 1) := by
  subst hv
  exact (if_pos hc).symm
def permH (S : Sto) (rig au first en : Int32) : Nat → Bool := fun i => decide (S.1 5 0 i = rig ∧ S.1 5 1 i = au ∧ S.1 8 0 i ≤ first ∧ en ≤ S.1 8 1 i)
def embH (S : Sto) (au first en : Int32) : Nat → Bool := fun i => decide (S.1 6 0 i = au ∧ S.1 9 0 i < en ∧ first < S.1 9 1 i)
def onH (S : Sto) (road : Int32) : Nat → Bool := fun i => decide (S.1 4 9 i = road)
def bV (b : Bool) : Int32 := bif b then 1 else 0
def s_X6_gainByWorks : SP := vS fun as S k => o4 0 as fun road isH first en => WfH S ∧ k (some (aI (gainH S road isH first en (S.2.2 21))))
def tb_X6_gainByWorks : Tb := [(0, .iconst 0, 1, xI (0)), (1, .istore 5, 2, x0), (3, .iconst 0, 1, xI (0)), (4, .istore 6, 2, x0), (6, .iload 6, 2, x0), (8, .aload_n 0, 1, x0), (9, .getfield 27, 3, xF 7 4 [101]), (12, .invokevirtual 68, 3, xS 1 0 s_Jx4a65c_size_8abf5), (15, .if_icmp .ge 70, 3, xN 85), (18, .aload_n 0, 1, x0), (19, .getfield 27, 3, xF 7 4 [101]), (22, .iload 6, 2, x0), (24, .invokevirtual 234, 3, xS 2 0 s_Jx4a65c_get_915e3), (27, .checkcast 106, 3, xF 6 0 [545]), (30, .astore 7, 2, x0), (32, .aload 7, 2, x0), (34, .getfield 306, 3, xF 6 0 [552]), (37, .iload_n 1, 1, x0), (38, .if_icmp .ne 41, 3, xN 79), (41, .aload 7, 2, x0), (43, .getfield 307, 3, xF 6 3 [558]), (46, .iload_n 3, 1, x0), (47, .iload 4, 2, x0), (49, .invokevirtual 311, 3, xS 3 0 s_X1_hasAll), (52, .ifCond .eq 27, 3, xN 79), (55, .iload 5, 2, x0), (57, .iload_n 2, 1, x0), (58, .ifCond .eq 11, 3, xN 69), (61, .aload 7, 2, x0), (63, .getfield 314, 3, xF 6 2 [556]), (66, .goto 8, 3, xN 74), (69, .aload 7, 2, x0), (71, .getfield 317, 3, xF 6 1 [554]), (74, .invokestatic 245, 3, (((2, 7, 0), [], (0, sMax)) : Xi)), (77, .istore 5, 2, x0), (79, .iinc 6 1, 3, xI (1)), (82, .goto (-76), 3, xN 6), (85, .iload 5, 2, x0), (87, .ireturn, 1, x0)]
theorem chk_X6_gainByWorks : chkTb cX6_gainByWorks "HeavyHaul" false tb_X6_gainByWorks = true := by decide +kernel
theorem cal_X6_gainByWorks {l : Launch} (hl : l.stackTraces = false) (hNL : NewL l) : CallsOK l "HeavyHaul" 3 tb_X6_gainByWorks := callsOK_f ⟨⟨_, _, 1, 0, _, 0, (ct_Jx4a65c_size_8abf5 hl hNL), ⟨List.mem_of_getElem? (i := 236) (by decide +kernel), List.mem_of_getElem? (i := 29) (by decide +kernel), List.mem_of_getElem? (i := 233) (by decide +kernel), ⟨by decide +kernel, by decide +kernel⟩, by decide +kernel, by decide⟩, List.mem_of_getElem? (i := 234) (by decide +kernel), List.mem_of_getElem? (i := 235) (by decide +kernel), by decide, by decide, rc_Jx4a65c_size_8abf5⟩, ⟨_, _, 2, 2, _, 0, (ct_Jx4a65c_get_915e3 hl hNL), ⟨List.mem_of_getElem? (i := 519) (by decide +kernel), List.mem_of_getElem? (i := 29) (by decide +kernel), List.mem_of_getElem? (i := 516) (by decide +kernel), ⟨by decide +kernel, by decide +kernel⟩, by decide +kernel, by decide⟩, List.mem_of_getElem? (i := 517) (by decide +kernel), List.mem_of_getElem? (i := 518) (by decide +kernel), by decide, by decide, rc_Jx4a65c_get_915e3⟩, ⟨_, _, 3, 0, _, 2, (ct_X1_hasAll hl hNL), ⟨List.mem_of_getElem? (i := 629) (by decide +kernel), List.mem_of_getElem? (i := 43) (by decide +kernel), List.mem_of_getElem? (i := 626) (by decide +kernel), ⟨by decide +kernel, by decide +kernel⟩, by decide +kernel, by decide⟩, List.mem_of_getElem? (i := 627) (by decide +kernel), List.mem_of_getElem? (i := 628) (by decide +kernel), by decide, by decide, rc_X1_hasAll⟩, ⟨List.mem_of_getElem? (i := 630) (by decide +kernel), rfl, rfl, rfl⟩, trivial⟩
theorem ar_X6_gainByWorks : ∀ as S P, s_X6_gainByWorks as S P → as.length ≤ 8 ∧ ∀ a ∈ as, catV a = 1 := fun as S P h => by
  obtain ⟨_, _, _, _, rfl, _⟩ := o4_ok h
  exact ar_all ⟨Nat.le_of_ble_eq_true rfl, rfl⟩
theorem rc_X6_gainByWorks : ∀ as S P, s_X6_gainByWorks as S P → ∃ k i r, as = aR k i :: r ∧ ci k = 7 ∧ (obK k = true ∨ k = 13) := fun as S P h => by
  obtain ⟨_, _, _, _, rfl, _⟩ := o4_ok h
  exact ⟨_, _, _, rfl, rfl, Or.inl rfl⟩
theorem vc_X6_gainByWorks : ∀ (G : Gt) (Q : Out → Sto → Prop) (as : List AV) (S : Sto), s_X6_gainByWorks as S Q → Seg tb_X6_gainByWorks G Q 1 0 [] (0, fun _ => 0) → G 0 (argL as 8) [] S 0 := by
  intro G Q as S h hs
  obtain ⟨road, isH, first, en, rfl, hW, hQ⟩ := o4_ok h
  obtain ⟨w13, ⟨-, w21, -⟩, -, wf, -⟩ := hW
  have loop : ∀ m j, j + m = S.2.2 21 → ∀ x, G 6 [some (aR 0 0), some (aI road), some (aI isH), some (aI first), some (aI en), some (aI (gainH S road isH first en j)), some (aI (nI j)), x] [] S 0 := by
    intro m
    induction m with
    | zero =>
      intro j hj x
      obtain rfl : j = S.2.2 21 := hj
      refine hs [6] 60 6 _ _ _ _ ?_
      exact ⟨rfl, by omega, fun _ => hQ, fun q => (lp_end q).elim⟩
    | succ m ih =>
      intro j hj x
      have hn : S.2.2 21 ≤ 1000 := by omega
      have hj2 : j < S.2.2 21 := by omega
      refine hs [6] 60 6 _ _ _ _ ?_
      refine ⟨rfl, by omega, fun q => absurd q (lp_go hn hj2), fun _ => ⟨rfl, by omega, lp_nn hn hj2, lp_in hn hj2, ?_⟩⟩
      rw [lp_cl hn hj2]
      have key : ∀ v, v = gainH S road isH first en (j + 1) → G 6 [some (aR 0 0), some (aI road), some (aI isH), some (aI first), some (aI en), some (aI v), some (aI (nI j + 1)), some (aR 3 j)] [] S 0 := fun v hv => by
        have h1 := ih (j + 1) (by omega) (some (aR 3 j))
        rw [hv, nI_s]
        exact h1
      refine ⟨fun q1 => key _ (if_neg fun z => q1 z.1).symm, fun q1 => ⟨wf j (by omega), ?_⟩⟩
      refine ⟨fun q2 => ?_, fun q2 => ?_⟩
      · exact ⟨rfl, fun _ => key _ (if_neg fun z => absurd z.2.1 (Int32.not_le.mpr q2)).symm, fun q => absurd rfl q⟩
      · refine ⟨fun q3 => ⟨rfl, fun _ => key _ (if_neg fun z => absurd z.2.2 (Int32.not_le.mpr q3)).symm, fun q => absurd rfl q⟩, fun q3 => ⟨rfl, fun q => absurd q (by decide), fun _ => ?_⟩⟩
        have hc : S.1 3 0 j = road ∧ S.1 7 0 j ≤ first ∧ en ≤ S.1 7 1 j := ⟨q1, Int32.not_lt.mp q2, Int32.not_lt.mp q3⟩
        exact ⟨fun q4 => key _ (gainH_s hc (if_pos q4)), fun q4 => key _ (gainH_s hc (if_neg q4))⟩
  exact hs [6] 60 0 _ _ _ _ (loop (S.2.2 21) 0 (by omega) none)
theorem ct_X6_gainByWorks {l : Launch} (hl : l.stackTraces = false) (hNL : NewL l) : CT l yX6_gainByWorks cX6_gainByWorks 8 (some .int) 3 0 s_X6_gainByWorks := CT_of hl hNL (by decide +kernel) (own := "HeavyHaul") rfl (ini := false) (fun q => nomatch q) chk_X6_gainByWorks (cal_X6_gainByWorks hl hNL) ar_X6_gainByWorks vc_X6_gainByWorks
end
section
/-! THE CLASS's LOOPS -/
theorem nI_mul (a b : Nat) : nI a * nI b = nI (a * b) := (Int32.ofNat_mul a b).symm
theorem nI_sub {a b : Nat} (h : b ≤ a) : nI a - nI b = nI (a - b) := by
  have e : nI a = nI (a - b) + nI b := by rw [nI_add, Nat.sub_add_cancel h]
  rw [e, Int32.add_sub_cancel]
def s_X6_isPermitted : SP := vS fun as S k => o4 0 as fun rig au first en => WfH S ∧ k (some (aI (bV (anyN (permH S rig au first en) (S.2.2 23)))))
def tb_X6_isPermitted : Tb := [(0, .iconst 0, 1, xI (0)), (1, .istore 5, 2, x0), (3, .iload 5, 2, x0), (5, .aload_n 0, 1, x0), (6, .getfield 33, 3, xF 7 6 [103]), (9, .invokevirtual 68, 3, xS 1 0 s_Jx4a65c_size_8abf5), (12, .if_icmp .ge 57, 3, xN 69), (15, .aload_n 0, 1, x0), (16, .getfield 33, 3, xF 7 6 [103]), (19, .iload 5, 2, x0), (21, .invokevirtual 234, 3, xS 2 0 s_Jx4a65c_get_915e3), (24, .checkcast 155, 3, xF 3 0 [480]), (27, .astore 6, 2, x0), (29, .aload 6, 2, x0), (31, .getfield 320, 3, xF 3 0 [487]), (34, .iload_n 1, 1, x0), (35, .if_icmp .ne 28, 3, xN 63), (38, .aload 6, 2, x0), (40, .getfield 323, 3, xF 3 1 [489]), (43, .iload_n 2, 1, x0), (44, .if_icmp .ne 19, 3, xN 63), (47, .aload 6, 2, x0), (49, .getfield 324, 3, xF 3 2 [491]), (52, .iload_n 3, 1, x0), (53, .iload 4, 2, x0), (55, .invokevirtual 311, 3, xS 3 0 s_X1_hasAll), (58, .ifCond .eq 5, 3, xN 63), (61, .iconst 1, 1, xI (1)), (62, .ireturn, 1, x0), (63, .iinc 5 1, 3, xI (1)), (66, .goto (-63), 3, xN 3), (69, .iconst 0, 1, xI (0)), (70, .ireturn, 1, x0)]
theorem chk_X6_isPermitted : chkTb cX6_isPermitted "HeavyHaul" false tb_X6_isPermitted = true := by decide +kernel
theorem cal_X6_isPermitted {l : Launch} (hl : l.stackTraces = false) (hNL : NewL l) : CallsOK l "HeavyHaul" 3 tb_X6_isPermitted := callsOK_f ⟨⟨_, _, 1, 0, _, 0, (ct_Jx4a65c_size_8abf5 hl hNL), ⟨List.mem_of_getElem? (i := 236) (by decide +kernel), List.mem_of_getElem? (i := 29) (by decide +kernel), List.mem_of_getElem? (i := 233) (by decide +kernel), ⟨by decide +kernel, by decide +kernel⟩, by decide +kernel, by decide⟩, List.mem_of_getElem? (i := 234) (by decide +kernel), List.mem_of_getElem? (i := 235) (by decide +kernel), by decide, by decide, rc_Jx4a65c_size_8abf5⟩, ⟨_, _, 2, 2, _, 0, (ct_Jx4a65c_get_915e3 hl hNL), ⟨List.mem_of_getElem? (i := 519) (by decide +kernel), List.mem_of_getElem? (i := 29) (by decide +kernel), List.mem_of_getElem? (i := 516) (by decide +kernel), ⟨by decide +kernel, by decide +kernel⟩, by decide +kernel, by decide⟩, List.mem_of_getElem? (i := 517) (by decide +kernel), List.mem_of_getElem? (i := 518) (by decide +kernel), by decide, by decide, rc_Jx4a65c_get_915e3⟩, ⟨_, _, 3, 0, _, 2, (ct_X1_hasAll hl hNL), ⟨List.mem_of_getElem? (i := 629) (by decide +kernel), List.mem_of_getElem? (i := 43) (by decide +kernel), List.mem_of_getElem? (i := 626) (by decide +kernel), ⟨by decide +kernel, by decide +kernel⟩, by decide +kernel, by decide⟩, List.mem_of_getElem? (i := 627) (by decide +kernel), List.mem_of_getElem? (i := 628) (by decide +kernel), by decide, by decide, rc_X1_hasAll⟩, trivial⟩
theorem ar_X6_isPermitted : ∀ as S P, s_X6_isPermitted as S P → as.length ≤ 7 ∧ ∀ a ∈ as, catV a = 1 := fun as S P h => by
  obtain ⟨_, _, _, _, rfl, _⟩ := o4_ok h
  exact ar_all ⟨Nat.le_of_ble_eq_true rfl, rfl⟩
theorem rc_X6_isPermitted : ∀ as S P, s_X6_isPermitted as S P → ∃ k i r, as = aR k i :: r ∧ ci k = 7 ∧ (obK k = true ∨ k = 13) := fun as S P h => by
  obtain ⟨_, _, _, _, rfl, _⟩ := o4_ok h
  exact ⟨_, _, _, rfl, rfl, Or.inl rfl⟩
theorem vc_X6_isPermitted : ∀ (G : Gt) (Q : Out → Sto → Prop) (as : List AV) (S : Sto), s_X6_isPermitted as S Q → Seg tb_X6_isPermitted G Q 2 0 [] (0, fun _ => 0) → G 0 (argL as 7) [] S 0 := by
  intro G Q as S h hs
  obtain ⟨rig, au, first, en, rfl, hW, hQ⟩ := o4_ok h
  obtain ⟨w13, ⟨-, -, -, w23, -⟩, -, -, wf, -⟩ := hW
  have loop : ∀ m j, j + m = S.2.2 23 → (∀ i, i < j → permH S rig au first en i = false) → ∀ x, G 3 [some (aR 0 0), some (aI rig), some (aI au), some (aI first), some (aI en), some (aI (nI j)), x] [] S 0 := by
    intro m
    induction m with
    | zero =>
      intro j hj hf x
      obtain rfl : j = S.2.2 23 := hj
      rw [anyN_f hf] at hQ
      refine hs [3] 60 3 _ _ _ _ ?_
      exact ⟨rfl, by omega, fun _ => ⟨rfl, hQ⟩, fun q => (lp_end q).elim⟩
    | succ m ih =>
      intro j hj hf x
      have hn : S.2.2 23 ≤ 1000 := by omega
      have hj2 : j < S.2.2 23 := by omega
      refine hs [3] 60 3 _ _ _ _ ?_
      refine ⟨rfl, by omega, fun q => absurd q (lp_go hn hj2), fun _ => ⟨rfl, by omega, lp_nn hn hj2, lp_in hn hj2, ?_⟩⟩
      rw [lp_cl hn hj2]
      have key : ¬ (S.1 5 0 j = rig ∧ S.1 5 1 j = au ∧ S.1 8 0 j ≤ first ∧ en ≤ S.1 8 1 j) → G 3 [some (aR 0 0), some (aI rig), some (aI au), some (aI first), some (aI en), some (aI (nI j + 1)), some (aR 5 j)] [] S 0 := fun hv => by
        have h1 := ih (j + 1) (by omega) (fun i hi => by
          by_cases e : i = j
          · rw [e]; exact decide_eq_false hv
          · exact hf i (by omega)) (some (aR 5 j))
        rw [nI_s]
        exact h1
      refine ⟨fun q1 => key fun z => q1 z.1, fun q1 => ⟨fun q2 => key fun z => q2 z.2.1, fun q2 => ⟨wf j (by omega), ?_⟩⟩⟩
      refine ⟨fun q3 => ⟨rfl, fun _ => key fun z => absurd z.2.2.1 (Int32.not_le.mpr q3), fun q => absurd rfl q⟩, fun q3 => ⟨fun q4 => ⟨rfl, fun _ => key fun z => absurd z.2.2.2 (Int32.not_le.mpr q4), fun q => absurd rfl q⟩, fun q4 => ⟨rfl, fun q => absurd q (by decide), fun _ => ?_⟩⟩⟩
      have ht : anyN (permH S rig au first en) (S.2.2 23) = true := anyN_t hj2 (decide_eq_true ⟨q1, q2, Int32.not_lt.mp q3, Int32.not_lt.mp q4⟩)
      rw [ht] at hQ
      exact ⟨rfl, hQ⟩
  exact hs [3] 60 0 _ _ _ _ (loop (S.2.2 23) 0 (by omega) (fun i hi => absurd hi (by omega)) none)
theorem ct_X6_isPermitted {l : Launch} (hl : l.stackTraces = false) (hNL : NewL l) : CT l yX6_isPermitted cX6_isPermitted 7 (some .boolean) 3 0 s_X6_isPermitted := CT_of hl hNL (by decide +kernel) (own := "HeavyHaul") rfl (ini := false) (fun q => nomatch q) chk_X6_isPermitted (cal_X6_isPermitted hl hNL) ar_X6_isPermitted vc_X6_isPermitted
def s_X6_isEmbargoed : SP := vS fun as S k => o3 0 as fun au first en => WfH S ∧ k (some (aI (bV (anyN (embH S au first en) (S.2.2 24)))))
def tb_X6_isEmbargoed : Tb := [(0, .iconst 0, 1, xI (0)), (1, .istore 4, 2, x0), (3, .iload 4, 2, x0), (5, .aload_n 0, 1, x0), (6, .getfield 36, 3, xF 7 7 [104]), (9, .invokevirtual 68, 3, xS 1 0 s_Jx4a65c_size_8abf5), (12, .if_icmp .ge 47, 3, xN 59), (15, .aload_n 0, 1, x0), (16, .getfield 36, 3, xF 7 7 [104]), (19, .iload 4, 2, x0), (21, .invokevirtual 234, 3, xS 2 0 s_Jx4a65c_get_915e3), (24, .checkcast 160, 3, xF 1 0 [447]), (27, .astore 5, 2, x0), (29, .aload 5, 2, x0), (31, .getfield 325, 3, xF 1 0 [467]), (34, .iload_n 1, 1, x0), (35, .if_icmp .ne 18, 3, xN 53), (38, .aload 5, 2, x0), (40, .getfield 326, 3, xF 1 1 [469]), (43, .iload_n 2, 1, x0), (44, .iload_n 3, 1, x0), (45, .invokevirtual 327, 3, xS 3 0 s_X1_hasAny), (48, .ifCond .eq 5, 3, xN 53), (51, .iconst 1, 1, xI (1)), (52, .ireturn, 1, x0), (53, .iinc 4 1, 3, xI (1)), (56, .goto (-53), 3, xN 3), (59, .iconst 0, 1, xI (0)), (60, .ireturn, 1, x0)]
theorem chk_X6_isEmbargoed : chkTb cX6_isEmbargoed "HeavyHaul" false tb_X6_isEmbargoed = true := by decide +kernel
theorem cal_X6_isEmbargoed {l : Launch} (hl : l.stackTraces = false) (hNL : NewL l) : CallsOK l "HeavyHaul" 3 tb_X6_isEmbargoed := callsOK_f ⟨⟨_, _, 1, 0, _, 0, (ct_Jx4a65c_size_8abf5 hl hNL), ⟨List.mem_of_getElem? (i := 236) (by decide +kernel), List.mem_of_getElem? (i := 29) (by decide +kernel), List.mem_of_getElem? (i := 233) (by decide +kernel), ⟨by decide +kernel, by decide +kernel⟩, by decide +kernel, by decide⟩, List.mem_of_getElem? (i := 234) (by decide +kernel), List.mem_of_getElem? (i := 235) (by decide +kernel), by decide, by decide, rc_Jx4a65c_size_8abf5⟩, ⟨_, _, 2, 2, _, 0, (ct_Jx4a65c_get_915e3 hl hNL), ⟨List.mem_of_getElem? (i := 519) (by decide +kernel), List.mem_of_getElem? (i := 29) (by decide +kernel), List.mem_of_getElem? (i := 516) (by decide +kernel), ⟨by decide +kernel, by decide +kernel⟩, by decide +kernel, by decide⟩, List.mem_of_getElem? (i := 517) (by decide +kernel), List.mem_of_getElem? (i := 518) (by decide +kernel), by decide, by decide, rc_Jx4a65c_get_915e3⟩, ⟨_, _, 3, 0, _, 2, (ct_X1_hasAny hl hNL), ⟨List.mem_of_getElem? (i := 673) (by decide +kernel), List.mem_of_getElem? (i := 43) (by decide +kernel), List.mem_of_getElem? (i := 670) (by decide +kernel), ⟨by decide +kernel, by decide +kernel⟩, by decide +kernel, by decide⟩, List.mem_of_getElem? (i := 671) (by decide +kernel), List.mem_of_getElem? (i := 672) (by decide +kernel), by decide, by decide, rc_X1_hasAny⟩, trivial⟩
theorem ar_X6_isEmbargoed : ∀ as S P, s_X6_isEmbargoed as S P → as.length ≤ 6 ∧ ∀ a ∈ as, catV a = 1 := fun as S P h => by
  obtain ⟨_, _, _, rfl, _⟩ := o3_ok h
  exact ar_all ⟨Nat.le_of_ble_eq_true rfl, rfl⟩
theorem rc_X6_isEmbargoed : ∀ as S P, s_X6_isEmbargoed as S P → ∃ k i r, as = aR k i :: r ∧ ci k = 7 ∧ (obK k = true ∨ k = 13) := fun as S P h => by
  obtain ⟨_, _, _, rfl, _⟩ := o3_ok h
  exact ⟨_, _, _, rfl, rfl, Or.inl rfl⟩
theorem vc_X6_isEmbargoed : ∀ (G : Gt) (Q : Out → Sto → Prop) (as : List AV) (S : Sto), s_X6_isEmbargoed as S Q → Seg tb_X6_isEmbargoed G Q 2 0 [] (0, fun _ => 0) → G 0 (argL as 6) [] S 0 := by
  intro G Q as S h hs
  obtain ⟨au, first, en, rfl, hW, hQ⟩ := o3_ok h
  obtain ⟨w13, ⟨-, -, -, -, w24⟩, -, -, -, wf, -⟩ := hW
  have loop : ∀ m j, j + m = S.2.2 24 → (∀ i, i < j → embH S au first en i = false) → ∀ x, G 3 [some (aR 0 0), some (aI au), some (aI first), some (aI en), some (aI (nI j)), x] [] S 0 := by
    intro m
    induction m with
    | zero =>
      intro j hj hf x
      obtain rfl : j = S.2.2 24 := hj
      rw [anyN_f hf] at hQ
      refine hs [3] 60 3 _ _ _ _ ?_
      exact ⟨rfl, by omega, fun _ => ⟨rfl, hQ⟩, fun q => (lp_end q).elim⟩
    | succ m ih =>
      intro j hj hf x
      have hn : S.2.2 24 ≤ 1000 := by omega
      have hj2 : j < S.2.2 24 := by omega
      refine hs [3] 60 3 _ _ _ _ ?_
      refine ⟨rfl, by omega, fun q => absurd q (lp_go hn hj2), fun _ => ⟨rfl, by omega, lp_nn hn hj2, lp_in hn hj2, ?_⟩⟩
      rw [lp_cl hn hj2]
      have key : ¬ (S.1 6 0 j = au ∧ S.1 9 0 j < en ∧ first < S.1 9 1 j) → G 3 [some (aR 0 0), some (aI au), some (aI first), some (aI en), some (aI (nI j + 1)), some (aR 6 j)] [] S 0 := fun hv => by
        have h1 := ih (j + 1) (by omega) (fun i hi => by
          by_cases e : i = j
          · rw [e]; exact decide_eq_false hv
          · exact hf i (by omega)) (some (aR 6 j))
        rw [nI_s]
        exact h1
      refine ⟨fun q1 => key fun z => q1 z.1, fun q1 => ⟨wf j (by omega), ?_⟩⟩
      refine ⟨fun q3 => ⟨rfl, fun _ => key fun z => absurd z.2.1 (Int32.not_lt.mpr q3), fun q => absurd rfl q⟩, fun q3 => ⟨fun q4 => ⟨rfl, fun _ => key fun z => absurd z.2.2 (Int32.not_lt.mpr q4), fun q => absurd rfl q⟩, fun q4 => ⟨rfl, fun q => absurd q (by decide), fun _ => ?_⟩⟩⟩
      have ht : anyN (embH S au first en) (S.2.2 24) = true := anyN_t hj2 (decide_eq_true ⟨q1, Int32.not_le.mp q3, Int32.not_le.mp q4⟩)
      rw [ht] at hQ
      exact ⟨rfl, hQ⟩
  exact hs [3] 60 0 _ _ _ _ (loop (S.2.2 24) 0 (by omega) (fun i hi => absurd hi (by omega)) none)
theorem ct_X6_isEmbargoed {l : Launch} (hl : l.stackTraces = false) (hNL : NewL l) : CT l yX6_isEmbargoed cX6_isEmbargoed 6 (some .boolean) 3 0 s_X6_isEmbargoed := CT_of hl hNL (by decide +kernel) (own := "HeavyHaul") rfl (ini := false) (fun q => nomatch q) chk_X6_isEmbargoed (cal_X6_isEmbargoed hl hNL) ar_X6_isEmbargoed vc_X6_isEmbargoed
def s_X6_isAnyRigOn : SP := vS fun as S k => o1 0 as fun road => WfH S ∧ k (some (aI (bV (anyN (onH S road) (S.2.2 22)))))
def tb_X6_isAnyRigOn : Tb := [(0, .iconst 0, 1, xI (0)), (1, .istore_n 2, 1, x0), (2, .iload_n 2, 1, x0), (3, .aload_n 0, 1, x0), (4, .getfield 30, 3, xF 7 5 [102]), (7, .invokevirtual 68, 3, xS 1 0 s_Jx4a65c_size_8abf5), (10, .if_icmp .ge 29, 3, xN 39), (13, .aload_n 0, 1, x0), (14, .getfield 30, 3, xF 7 5 [102]), (17, .iload_n 2, 1, x0), (18, .invokevirtual 234, 3, xS 2 0 s_Jx4a65c_get_915e3), (21, .checkcast 117, 3, xF 4 0 [365]), (24, .getfield 211, 3, xF 4 9 [387]), (27, .iload_n 1, 1, x0), (28, .if_icmp .ne 5, 3, xN 33), (31, .iconst 1, 1, xI (1)), (32, .ireturn, 1, x0), (33, .iinc 2 1, 3, xI (1)), (36, .goto (-34), 3, xN 2), (39, .iconst 0, 1, xI (0)), (40, .ireturn, 1, x0)]
theorem chk_X6_isAnyRigOn : chkTb cX6_isAnyRigOn "HeavyHaul" false tb_X6_isAnyRigOn = true := by decide +kernel
theorem cal_X6_isAnyRigOn {l : Launch} (hl : l.stackTraces = false) (hNL : NewL l) : CallsOK l "HeavyHaul" 3 tb_X6_isAnyRigOn := callsOK_f ⟨⟨_, _, 1, 0, _, 0, (ct_Jx4a65c_size_8abf5 hl hNL), ⟨List.mem_of_getElem? (i := 236) (by decide +kernel), List.mem_of_getElem? (i := 29) (by decide +kernel), List.mem_of_getElem? (i := 233) (by decide +kernel), ⟨by decide +kernel, by decide +kernel⟩, by decide +kernel, by decide⟩, List.mem_of_getElem? (i := 234) (by decide +kernel), List.mem_of_getElem? (i := 235) (by decide +kernel), by decide, by decide, rc_Jx4a65c_size_8abf5⟩, ⟨_, _, 2, 2, _, 0, (ct_Jx4a65c_get_915e3 hl hNL), ⟨List.mem_of_getElem? (i := 519) (by decide +kernel), List.mem_of_getElem? (i := 29) (by decide +kernel), List.mem_of_getElem? (i := 516) (by decide +kernel), ⟨by decide +kernel, by decide +kernel⟩, by decide +kernel, by decide⟩, List.mem_of_getElem? (i := 517) (by decide +kernel), List.mem_of_getElem? (i := 518) (by decide +kernel), by decide, by decide, rc_Jx4a65c_get_915e3⟩, trivial⟩
theorem ar_X6_isAnyRigOn : ∀ as S P, s_X6_isAnyRigOn as S P → as.length ≤ 3 ∧ ∀ a ∈ as, catV a = 1 := fun as S P h => by
  obtain ⟨_, rfl, _⟩ := o1_ok h
  exact ar_all ⟨Nat.le_of_ble_eq_true rfl, rfl⟩
theorem rc_X6_isAnyRigOn : ∀ as S P, s_X6_isAnyRigOn as S P → ∃ k i r, as = aR k i :: r ∧ ci k = 7 ∧ (obK k = true ∨ k = 13) := fun as S P h => by
  obtain ⟨_, rfl, _⟩ := o1_ok h
  exact ⟨_, _, _, rfl, rfl, Or.inl rfl⟩
theorem vc_X6_isAnyRigOn : ∀ (G : Gt) (Q : Out → Sto → Prop) (as : List AV) (S : Sto), s_X6_isAnyRigOn as S Q → Seg tb_X6_isAnyRigOn G Q 2 0 [] (0, fun _ => 0) → G 0 (argL as 3) [] S 0 := by
  intro G Q as S h hs
  obtain ⟨road, rfl, hW, hQ⟩ := o1_ok h
  obtain ⟨w13, ⟨-, -, w22, -, -⟩, -⟩ := hW
  have loop : ∀ m j, j + m = S.2.2 22 → (∀ i, i < j → onH S road i = false) → G 2 [some (aR 0 0), some (aI road), some (aI (nI j))] [] S 0 := by
    intro m
    induction m with
    | zero =>
      intro j hj hf
      obtain rfl : j = S.2.2 22 := hj
      rw [anyN_f hf] at hQ
      refine hs [2] 60 2 _ _ _ _ ?_
      exact ⟨rfl, by omega, fun _ => ⟨rfl, hQ⟩, fun q => (lp_end q).elim⟩
    | succ m ih =>
      intro j hj hf
      have hn : S.2.2 22 ≤ 1000 := by omega
      have hj2 : j < S.2.2 22 := by omega
      refine hs [2] 60 2 _ _ _ _ ?_
      refine ⟨rfl, by omega, fun q => absurd q (lp_go hn hj2), fun _ => ⟨rfl, by omega, lp_nn hn hj2, lp_in hn hj2, ?_⟩⟩
      rw [lp_cl hn hj2]
      refine ⟨fun q1 => ?_, fun q1 => ?_⟩
      · have h1 := ih (j + 1) (by omega) (fun i hi => by
          by_cases e : i = j
          · rw [e]; exact decide_eq_false q1
          · exact hf i (by omega))
        rw [← nI_s] at h1
        exact h1
      · have ht : anyN (onH S road) (S.2.2 22) = true := anyN_t hj2 (decide_eq_true q1)
        rw [ht] at hQ
        exact ⟨rfl, hQ⟩
  exact hs [2] 60 0 _ _ _ _ (loop (S.2.2 22) 0 (by omega) (fun i hi => absurd hi (by omega)))
theorem ct_X6_isAnyRigOn {l : Launch} (hl : l.stackTraces = false) (hNL : NewL l) : CT l yX6_isAnyRigOn cX6_isAnyRigOn 3 (some .boolean) 3 0 s_X6_isAnyRigOn := CT_of hl hNL (by decide +kernel) (own := "HeavyHaul") rfl (ini := false) (fun q => nomatch q) chk_X6_isAnyRigOn (cal_X6_isAnyRigOn hl hNL) ar_X6_isAnyRigOn vc_X6_isAnyRigOn
end
section
/-! BRIDGES: the sum at a step, the greatest -/
def posF (st ap : Int32) (k : Nat) : Int32 := st - nI k * ap
def wtF (fr re ax idx : Int32) : Int32 := if ax / 2 ≤ idx then re else fr
def valF (w p sp isM : Int32) : Int32 := if isM = 0 then w else w * (if sp - p < p then sp - p else p)
def sumF (fr re ax ap sp st isM isB : Int32) : Nat → Int32
  | 0 => 0
  | k + 1 => if posF st ap k < 0 ∨ sp < posF st ap k then sumF fr re ax ap sp st isM isB k else sumF fr re ax ap sp st isM isB k + valF (wtF fr re ax (if isB = 0 then nI k else ax - 1 - nI k)) (posF st ap k) sp isM
def topF (f : Nat → Int32) : Nat → Int32
  | 0 => 0
  | n + 1 => if topF f n < f n then f n else topF f n
def sumH (S : Sto) (sp : Int32) (j : Nat) (st isM isB : Int32) : Int32 := sumF (S.1 4 6 j) (S.1 4 7 j) (S.1 4 0 j) (S.1 4 1 j) sp st isM isB (S.1 4 0 j).toNatClampNeg
def lastN (S : Sto) (i j : Nat) : Nat := (S.1 2 7 i + (S.1 4 0 j - 1) * S.1 4 1 j).toNatClampNeg
def greatH (S : Sto) (i j : Nat) (isM isB : Int32) : Int32 := if S.1 2 7 i ≤ 0 then -1 else topF (fun n => sumH S (S.1 2 7 i) j (nI n) isM isB) (lastN S i j + 1)
def s_X6_sumAtStep : SP := vS fun as S k => ir3 as fun s j t a b => WfH S ∧ j < S.2.2 22 ∧ k (some (aI (sumH S s j t a b)))
def tb_X6_sumAtStep : Tb := [(0, .iconst 0, 1, xI (0)), (1, .istore 5, 2, x0), (3, .iconst 0, 1, xI (0)), (4, .istore 6, 2, x0), (6, .iload 6, 2, x0), (8, .aload_n 1, 1, x0), (9, .getfield 142, 3, xF 4 0 [372]), (12, .if_icmp .ge 82, 3, xN 94), (15, .iload_n 2, 1, x0), (16, .iload 6, 2, x0), (18, .aload_n 1, 1, x0), (19, .getfield 238, 3, xF 4 1 [374]), (22, .imul, 1, x0), (23, .isub, 1, x0), (24, .istore 7, 2, x0), (26, .iload 7, 2, x0), (28, .ifCond .lt 60, 3, xN 88), (31, .iload 7, 2, x0), (33, .iload_n 0, 1, x0), (34, .if_icmp .gt 54, 3, xN 88), (37, .aload_n 1, 1, x0), (38, .iload 4, 2, x0), (40, .ifCond .eq 15, 3, xN 55), (43, .aload_n 1, 1, x0), (44, .getfield 142, 3, xF 4 0 [372]), (47, .iconst 1, 1, xI (1)), (48, .isub, 1, x0), (49, .iload 6, 2, x0), (51, .isub, 1, x0), (52, .goto 5, 3, xN 57), (55, .iload 6, 2, x0), (57, .invokevirtual 145, 3, xS 2 0 s_X3_weightOf), (60, .istore 8, 2, x0), (62, .iload 5, 2, x0), (64, .iload_n 3, 1, x0), (65, .ifCond .eq 18, 3, xN 83), (68, .iload 8, 2, x0), (70, .iload 7, 2, x0), (72, .iload_n 0, 1, x0), (73, .iload 7, 2, x0), (75, .isub, 1, x0), (76, .invokestatic 251, 3, (((2, 8, 0), [], (0, sMin)) : Xi)), (79, .imul, 1, x0), (80, .goto 5, 3, xN 85), (83, .iload 8, 2, x0), (85, .iadd, 1, x0), (86, .istore 5, 2, x0), (88, .iinc 6 1, 3, xI (1)), (91, .goto (-85), 3, xN 6), (94, .iload 5, 2, x0), (96, .ireturn, 1, x0)]
theorem chk_X6_sumAtStep : chkTb cX6_sumAtStep "HeavyHaul" false tb_X6_sumAtStep = true := by decide +kernel
theorem cal_X6_sumAtStep {l : Launch} (hl : l.stackTraces = false) (hNL : NewL l) : CallsOK l "HeavyHaul" 1 tb_X6_sumAtStep := callsOK_f ⟨⟨_, _, 2, 0, _, 4, (ct_X3_weightOf hl hNL), ⟨List.mem_of_getElem? (i := 647) (by decide +kernel), List.mem_of_getElem? (i := 41) (by decide +kernel), List.mem_of_getElem? (i := 644) (by decide +kernel), ⟨by decide +kernel, by decide +kernel⟩, by decide +kernel, by decide⟩, List.mem_of_getElem? (i := 645) (by decide +kernel), List.mem_of_getElem? (i := 646) (by decide +kernel), by decide, by decide, rc_X3_weightOf⟩, ⟨List.mem_of_getElem? (i := 648) (by decide +kernel), rfl, rfl, rfl⟩, trivial⟩
theorem ar_X6_sumAtStep : ∀ as S P, s_X6_sumAtStep as S P → as.length ≤ 9 ∧ ∀ a ∈ as, catV a = 1 := fun as S P h => by
  obtain ⟨_, _, _, _, _, rfl, _⟩ := ir3_ok h
  exact ar_all ⟨Nat.le_of_ble_eq_true rfl, rfl⟩
theorem vc_X6_sumAtStep : ∀ (G : Gt) (Q : Out → Sto → Prop) (as : List AV) (S : Sto), s_X6_sumAtStep as S Q → Seg tb_X6_sumAtStep G Q 1 0 [] (0, fun _ => 0) → G 0 (argL as 9) [] S 0 := by
  intro G Q as S h hs
  obtain ⟨sp, j, st, isM, isB, rfl, hW, hj, hQ⟩ := ir3_ok h
  obtain ⟨a, d, p, ha, hd, -, a1, a8, -⟩ := hW.2.2.2.2.2.2.2 j hj
  have hA : (S.1 4 0 j).toNatClampNeg = 2 * a := by rw [ha]; exact nI_cl (by omega)
  unfold sumH at hQ
  rw [hA] at hQ
  have n2 : ¬ (2 : Int32) = 0 := by decide
  have loop : ∀ m k, k + m = 2 * a → ∀ x y, G 6 [some (aI sp), some (aR 4 j), some (aI st), some (aI isM), some (aI isB), some (aI (sumF (S.1 4 6 j) (S.1 4 7 j) (S.1 4 0 j) (S.1 4 1 j) sp st isM isB k)), some (aI (nI k)), x, y] [] S 0 := by
    intro m
    induction m with
    | zero =>
      intro k hk x y
      obtain rfl : k = 2 * a := hk
      refine hs [6] 60 6 _ _ _ _ ?_
      refine ⟨fun _ => hQ, fun q => ?_⟩
      rw [ha] at q
      exact (lp_end q).elim
    | succ m ih =>
      intro k hk x y
      have key : ∀ v y', v = sumF (S.1 4 6 j) (S.1 4 7 j) (S.1 4 0 j) (S.1 4 1 j) sp st isM isB (k + 1) → G 6 [some (aI sp), some (aR 4 j), some (aI st), some (aI isM), some (aI isB), some (aI v), some (aI (nI k + 1)), some (aI (posF st (S.1 4 1 j) k)), y'] [] S 0 := fun v y' hv => by
        have h1 := ih (k + 1) (by omega) (some (aI (posF st (S.1 4 1 j) k))) y'
        rw [hv, nI_s]
        exact h1
      refine hs [6] 60 6 _ _ _ _ ?_
      refine ⟨fun q => ?_, fun _ => ⟨fun q1 => key _ y (if_pos (Or.inl q1)).symm, fun q1 => ⟨fun q2 => key _ y (if_pos (Or.inr q2)).symm, fun q2 => ?_⟩⟩⟩
      · rw [ha] at q
        exact absurd q (lp_go (by omega) (by omega))
      · have hno : ¬ (posF st (S.1 4 1 j) k < 0 ∨ sp < posF st (S.1 4 1 j) k) := fun z => z.elim q1 q2
        have fin : ∀ idx, idx = (if isB = 0 then nI k else S.1 4 0 j - 1 - nI k) → ∀ w, w = wtF (S.1 4 6 j) (S.1 4 7 j) (S.1 4 0 j) idx → ∀ v, v = valF w (posF st (S.1 4 1 j) k) sp isM → sumF (S.1 4 6 j) (S.1 4 7 j) (S.1 4 0 j) (S.1 4 1 j) sp st isM isB k + v = sumF (S.1 4 6 j) (S.1 4 7 j) (S.1 4 0 j) (S.1 4 1 j) sp st isM isB (k + 1) := fun idx hi w hw v hv => by
          subst hi
          subst hw
          subst hv
          exact (if_neg hno).symm
        refine ⟨fun q3 => ⟨n2, fun q4 => ⟨fun q5 => ?_, fun q5 => ?_⟩, fun q4 => ⟨fun q5 => ?_, fun q5 => ?_⟩⟩, fun q3 => ⟨n2, fun q4 => ⟨fun q5 => ?_, fun q5 => ?_⟩, fun q4 => ⟨fun q5 => ?_, fun q5 => ?_⟩⟩⟩
        · exact key _ _ (fin _ (if_pos q3).symm _ (if_pos q4).symm _ (if_pos q5).symm)
        · exact key _ _ (fin _ (if_pos q3).symm _ (if_pos q4).symm _ (if_neg q5).symm)
        · exact key _ _ (fin _ (if_pos q3).symm _ (if_neg q4).symm _ (if_pos q5).symm)
        · exact key _ _ (fin _ (if_pos q3).symm _ (if_neg q4).symm _ (if_neg q5).symm)
        · exact key _ _ (fin _ (if_neg q3).symm _ (if_pos q4).symm _ (if_pos q5).symm)
        · exact key _ _ (fin _ (if_neg q3).symm _ (if_pos q4).symm _ (if_neg q5).symm)
        · exact key _ _ (fin _ (if_neg q3).symm _ (if_neg q4).symm _ (if_pos q5).symm)
        · exact key _ _ (fin _ (if_neg q3).symm _ (if_neg q4).symm _ (if_neg q5).symm)
  exact hs [6] 60 0 _ _ _ _ (loop (2 * a) 0 (by omega) none none)
theorem ct_X6_sumAtStep {l : Launch} (hl : l.stackTraces = false) (hNL : NewL l) : CT l yX6_sumAtStep cX6_sumAtStep 9 (some .int) 1 0 s_X6_sumAtStep := CT_of hl hNL (by decide +kernel) (own := "HeavyHaul") rfl (ini := false) (fun q => nomatch q) chk_X6_sumAtStep (cal_X6_sumAtStep hl hNL) ar_X6_sumAtStep vc_X6_sumAtStep
theorem lastN_ok {S : Sto} (hW : WfH S) {i j : Nat} (hi : i < S.2.2 20) (hj : j < S.2.2 22) : S.1 2 7 i + (S.1 4 0 j - 1) * S.1 4 1 j = nI (lastN S i j) ∧ lastN S i j ≤ 200 := by
  obtain ⟨p, q, a, t, s, -, -, -, -, h1, -, -, -, -, -, -, h2⟩ := hW.2.2.2.2.2.2.1 i hi
  obtain ⟨b, d, r, k1, k2, -, k3, k4, k5, k6, -⟩ := hW.2.2.2.2.2.2.2 j hj
  have e : S.1 2 7 i + (S.1 4 0 j - 1) * S.1 4 1 j = nI (s + (2 * b - 1) * d) := by
    have e1 : (1 : Int32) = nI 1 := rfl
    rw [h1, k1, k2, e1, nI_sub (by omega), nI_mul, nI_add]
  have hb : (2 * b - 1) * d ≤ 15 * 5 := Nat.mul_le_mul (by omega) k6
  have e2 : lastN S i j = s + (2 * b - 1) * d := by
    unfold lastN
    rw [e]
    exact nI_cl (by omega)
  rw [e2]
  exact ⟨e, by omega⟩
def s_X6_greatestOver : SP := vS fun as S k => rr2 as fun i j a b => WfH S ∧ i < S.2.2 20 ∧ j < S.2.2 22 ∧ k (some (aI (greatH S i j a b)))
def tb_X6_greatestOver : Tb := [(0, .aload_n 0, 1, x0), (1, .invokevirtual 90, 3, xS 1 0 s_X4_hasBridge), (4, .ifCond .ne 5, 3, xN 9), (7, .iconst (-1), 1, xI (-1)), (8, .ireturn, 1, x0), (9, .iconst 0, 1, xI (0)), (10, .istore 4, 2, x0), (12, .aload_n 0, 1, x0), (13, .getfield 94, 3, xF 5 7 [277]), (16, .aload_n 1, 1, x0), (17, .getfield 142, 3, xF 4 0 [372]), (20, .iconst 1, 1, xI (1)), (21, .isub, 1, x0), (22, .aload_n 1, 1, x0), (23, .getfield 238, 3, xF 4 1 [374]), (26, .imul, 1, x0), (27, .iadd, 1, x0), (28, .istore 5, 2, x0), (30, .iconst 0, 1, xI (0)), (31, .istore 6, 2, x0), (33, .iload 6, 2, x0), (35, .iload 5, 2, x0), (37, .if_icmp .gt 32, 3, xN 69), (40, .aload_n 0, 1, x0), (41, .getfield 94, 3, xF 5 7 [277]), (44, .aload_n 1, 1, x0), (45, .iload 6, 2, x0), (47, .iload_n 2, 1, x0), (48, .iload_n 3, 1, x0), (49, .invokestatic 241, 3, xS 5 0 s_X6_sumAtStep), (52, .istore 7, 2, x0), (54, .iload 4, 2, x0), (56, .iload 7, 2, x0), (58, .invokestatic 245, 3, (((2, 7, 0), [], (0, sMax)) : Xi)), (61, .istore 4, 2, x0), (63, .iinc 6 1, 3, xI (1)), (66, .goto (-33), 3, xN 33), (69, .iload 4, 2, x0), (71, .ireturn, 1, x0)]
theorem chk_X6_greatestOver : chkTb cX6_greatestOver "HeavyHaul" false tb_X6_greatestOver = true := by decide +kernel
theorem cal_X6_greatestOver {l : Launch} (hl : l.stackTraces = false) (hNL : NewL l) : CallsOK l "HeavyHaul" 2 tb_X6_greatestOver := callsOK_f ⟨⟨_, _, 1, 0, _, 5, (ct_X4_hasBridge hl hNL), ⟨List.mem_of_getElem? (i := 535) (by decide +kernel), List.mem_of_getElem? (i := 37) (by decide +kernel), List.mem_of_getElem? (i := 532) (by decide +kernel), ⟨by decide +kernel, by decide +kernel⟩, by decide +kernel, by decide⟩, List.mem_of_getElem? (i := 533) (by decide +kernel), List.mem_of_getElem? (i := 534) (by decide +kernel), by decide, by decide, rc_X4_hasBridge⟩, ⟨_, _, 9, 1, _, (ct_X6_sumAtStep hl hNL), ⟨List.mem_of_getElem? (i := 643) (by decide +kernel), List.mem_of_getElem? (i := 26) (by decide +kernel), List.mem_of_getElem? (i := 641) (by decide +kernel), ⟨by decide +kernel, by decide +kernel⟩, by decide +kernel, by decide⟩, List.mem_of_getElem? (i := 642) (by decide +kernel), by decide⟩, ⟨List.mem_of_getElem? (i := 630) (by decide +kernel), rfl, rfl, rfl⟩, trivial⟩
theorem ar_X6_greatestOver : ∀ as S P, s_X6_greatestOver as S P → as.length ≤ 8 ∧ ∀ a ∈ as, catV a = 1 := fun as S P h => by
  obtain ⟨_, _, _, _, rfl, _⟩ := rr2_ok h
  exact ar_all ⟨Nat.le_of_ble_eq_true rfl, rfl⟩
theorem vc_X6_greatestOver : ∀ (G : Gt) (Q : Out → Sto → Prop) (as : List AV) (S : Sto), s_X6_greatestOver as S Q → Seg tb_X6_greatestOver G Q 1 0 [] (0, fun _ => 0) → G 0 (argL as 8) [] S 0 := by
  intro G Q as S h hs
  obtain ⟨i, j, isM, isB, rfl, hW, hi, hj, hQ⟩ := rr2_ok h
  obtain ⟨hl, hl2⟩ := lastN_ok hW hi hj
  by_cases hsp : S.1 2 7 i ≤ 0
  · unfold greatH at hQ
    rw [if_pos hsp] at hQ
    refine hs [33] 60 0 _ _ _ _ ?_
    refine ⟨fun _ => ⟨rfl, fun q => absurd rfl q, fun _ => hQ⟩, fun q => absurd hsp q⟩
  · unfold greatH at hQ
    rw [if_neg hsp] at hQ
    generalize lastN S i j = L at hl hl2 hQ
    have loop : ∀ m k, k + m = L + 1 → ∀ x, G 33 [some (aR 2 i), some (aR 4 j), some (aI isM), some (aI isB), some (aI (topF (fun n => sumH S (S.1 2 7 i) j (nI n) isM isB) k)), some (aI (nI L)), some (aI (nI k)), x] [] S 0 := by
      intro m
      induction m with
      | zero =>
        intro k hk x
        obtain rfl : k = L + 1 := hk
        refine hs [33] 60 33 _ _ _ _ ?_
        exact ⟨fun _ => hQ, fun q => absurd ((nI_lt2 (by omega) (by omega)).mpr (Nat.lt_succ_self L)) q⟩
      | succ m ih =>
        intro k hk x
        refine hs [33] 60 33 _ _ _ _ ?_
        refine ⟨fun q => absurd ((nI_lt2 (by omega) (by omega)).mp q) (by omega), fun _ => ⟨rfl, hW, hj, ?_⟩⟩
        have h1 := ih (k + 1) (by omega) (some (aI (sumH S (S.1 2 7 i) j (nI k) isM isB)))
        rw [← nI_s] at h1
        exact h1
    refine hs [33] 60 0 _ _ _ _ ?_
    refine ⟨fun q => absurd q hsp, fun _ => ⟨rfl, fun _ => ?_, fun q => absurd q (by decide)⟩⟩
    have h0 := loop (L + 1) 0 (by omega) none
    rw [← hl] at h0
    exact h0
theorem ct_X6_greatestOver {l : Launch} (hl : l.stackTraces = false) (hNL : NewL l) : CT l yX6_greatestOver cX6_greatestOver 8 (some .int) 2 0 s_X6_greatestOver := CT_of hl hNL (by decide +kernel) (own := "HeavyHaul") rfl (ini := false) (fun q => nomatch q) chk_X6_greatestOver (cal_X6_greatestOver hl hNL) ar_X6_greatestOver vc_X6_greatestOver
def tb_X6_isBorne : Tb := [(0, .aload_n 0, 1, x0), (1, .invokevirtual 90, 3, xS 1 0 s_X4_hasBridge), (4, .ifCond .eq 31, 3, xN 35), (7, .aload_n 0, 1, x0), (8, .aload_n 1, 1, x0), (9, .iconst 0, 1, xI (0)), (10, .iconst 0, 1, xI (0)), (11, .invokestatic 149, 3, xS 4 0 s_X6_greatestOver), (14, .aload_n 0, 1, x0), (15, .getfield 97, 3, xF 5 8 [278]), (18, .if_icmp .gt 21, 3, xN 39), (21, .aload_n 0, 1, x0), (22, .aload_n 1, 1, x0), (23, .iconst 1, 1, xI (1)), (24, .iconst 0, 1, xI (0)), (25, .invokestatic 149, 3, xS 4 0 s_X6_greatestOver), (28, .aload_n 0, 1, x0), (29, .getfield 100, 3, xF 5 9 [279]), (32, .if_icmp .gt 7, 3, xN 39), (35, .iconst 1, 1, xI (1)), (36, .goto 4, 3, xN 40), (39, .iconst 0, 1, xI (0)), (40, .ireturn, 1, x0)]
theorem chk_X6_isBorne : chkTb cX6_isBorne "HeavyHaul" false tb_X6_isBorne = true := by decide +kernel
theorem cal_X6_isBorne {l : Launch} (hl : l.stackTraces = false) (hNL : NewL l) : CallsOK l "HeavyHaul" 3 tb_X6_isBorne := callsOK_f ⟨⟨_, _, 1, 0, _, 5, (ct_X4_hasBridge hl hNL), ⟨List.mem_of_getElem? (i := 535) (by decide +kernel), List.mem_of_getElem? (i := 37) (by decide +kernel), List.mem_of_getElem? (i := 532) (by decide +kernel), ⟨by decide +kernel, by decide +kernel⟩, by decide +kernel, by decide⟩, List.mem_of_getElem? (i := 533) (by decide +kernel), List.mem_of_getElem? (i := 534) (by decide +kernel), by decide, by decide, rc_X4_hasBridge⟩, ⟨_, _, 8, 2, _, (ct_X6_greatestOver hl hNL), ⟨List.mem_of_getElem? (i := 640) (by decide +kernel), List.mem_of_getElem? (i := 26) (by decide +kernel), List.mem_of_getElem? (i := 638) (by decide +kernel), ⟨by decide +kernel, by decide +kernel⟩, by decide +kernel, by decide⟩, List.mem_of_getElem? (i := 639) (by decide +kernel), by decide⟩, ⟨_, _, 8, 2, _, (ct_X6_greatestOver hl hNL), ⟨List.mem_of_getElem? (i := 640) (by decide +kernel), List.mem_of_getElem? (i := 26) (by decide +kernel), List.mem_of_getElem? (i := 638) (by decide +kernel), ⟨by decide +kernel, by decide +kernel⟩, by decide +kernel, by decide⟩, List.mem_of_getElem? (i := 639) (by decide +kernel), by decide⟩, trivial⟩
def s_X6_isBorne : SP := aS tb_X6_isBorne 2 2 2 0
theorem ct_X6_isBorne {l : Launch} (hl : l.stackTraces = false) (hNL : NewL l) : CT l yX6_isBorne cX6_isBorne 2 (some .boolean) 3 0 s_X6_isBorne := CT_of hl hNL (by decide +kernel) (own := "HeavyHaul") rfl (ini := false) (fun q => nomatch q) chk_X6_isBorne (cal_X6_isBorne hl hNL) (aS_args (by decide)) aS_vc
end
section
/-! WHY A DRIVE MAY NOT BEGIN -/
def inN (r : Int32) (n : Nat) : Prop := 0 ≤ r ∧ r < nI n
theorem inN_lt {r : Int32} {n : Nat} (h : inN r n) (hn : n ≤ 1000) : r.toNatClampNeg < n := j_ltn h.1 h.2 (by omega)
def s_X6_rigOf0 : SP := vS fun as S k => o1 0 as fun r => WfH S ∧ inN r (S.2.2 22) ∧ k (some (aR 4 r.toNatClampNeg))
def tb_X6_rigOf0 : Tb := [(0, .iload_n 1, 1, x0), (1, .aload_n 0, 1, x0), (2, .getfield 30, 3, xF 7 5 [102]), (5, .invokevirtual 68, 3, xS 1 0 s_Jx4a65c_size_8abf5), (8, .invokestatic 53, 3, xS 2 0 s_X6_needNumber0), (11, .aload_n 0, 1, x0), (12, .getfield 30, 3, xF 7 5 [102]), (15, .iload_n 1, 1, x0), (16, .invokevirtual 234, 3, xS 2 0 s_Jx4a65c_get_915e3), (19, .checkcast 117, 3, xF 4 0 [365]), (22, .areturn, 1, x0)]
theorem chk_X6_rigOf0 : chkTb cX6_rigOf "HeavyHaul" false tb_X6_rigOf0 = true := by decide +kernel
theorem cal_X6_rigOf0 {l : Launch} (hl : l.stackTraces = false) (hNL : NewL l) : CallsOK l "HeavyHaul" 3 tb_X6_rigOf0 := callsOK_f ⟨⟨_, _, 1, 0, _, 0, (ct_Jx4a65c_size_8abf5 hl hNL), ⟨List.mem_of_getElem? (i := 236) (by decide +kernel), List.mem_of_getElem? (i := 29) (by decide +kernel), List.mem_of_getElem? (i := 233) (by decide +kernel), ⟨by decide +kernel, by decide +kernel⟩, by decide +kernel, by decide⟩, List.mem_of_getElem? (i := 234) (by decide +kernel), List.mem_of_getElem? (i := 235) (by decide +kernel), by decide, by decide, rc_Jx4a65c_size_8abf5⟩, ⟨_, _, 2, 0, _, (ct_X6_needNumber0 hl hNL), ⟨List.mem_of_getElem? (i := 144) (by decide +kernel), List.mem_of_getElem? (i := 26) (by decide +kernel), List.mem_of_getElem? (i := 142) (by decide +kernel), ⟨by decide +kernel, by decide +kernel⟩, by decide +kernel, by decide⟩, List.mem_of_getElem? (i := 143) (by decide +kernel), by decide⟩, ⟨_, _, 2, 2, _, 0, (ct_Jx4a65c_get_915e3 hl hNL), ⟨List.mem_of_getElem? (i := 519) (by decide +kernel), List.mem_of_getElem? (i := 29) (by decide +kernel), List.mem_of_getElem? (i := 516) (by decide +kernel), ⟨by decide +kernel, by decide +kernel⟩, by decide +kernel, by decide⟩, List.mem_of_getElem? (i := 517) (by decide +kernel), List.mem_of_getElem? (i := 518) (by decide +kernel), by decide, by decide, rc_Jx4a65c_get_915e3⟩, trivial⟩
theorem ar_X6_rigOf0 : ∀ as S P, s_X6_rigOf0 as S P → as.length ≤ 2 ∧ ∀ a ∈ as, catV a = 1 := fun as S P h => by
  obtain ⟨_, rfl, _⟩ := o1_ok h
  exact ar_all ⟨Nat.le_of_ble_eq_true rfl, rfl⟩
theorem rc_X6_rigOf0 : ∀ as S P, s_X6_rigOf0 as S P → ∃ k i r, as = aR k i :: r ∧ ci k = 7 ∧ (obK k = true ∨ k = 13) := fun as S P h => by
  obtain ⟨_, rfl, _⟩ := o1_ok h
  exact ⟨_, _, _, rfl, rfl, Or.inl rfl⟩
theorem vc_X6_rigOf0 : ∀ (G : Gt) (Q : Out → Sto → Prop) (as : List AV) (S : Sto), s_X6_rigOf0 as S Q → Seg tb_X6_rigOf0 G Q 3 0 [] (0, fun _ => 0) → G 0 (argL as 2) [] S 0 := by
  intro G Q as S h hs
  obtain ⟨r, rfl, hW, ⟨h0, h1⟩, hQ⟩ := o1_ok h
  have w13 := hW.1
  refine hs [] 60 0 _ _ _ _ ?_
  exact ⟨rfl, by omega, fun q => absurd q (Int32.not_lt.mpr h0), fun _ => ⟨fun _ => ⟨rfl, by omega, h0, h1, hQ⟩, fun q => absurd h1 q⟩⟩
theorem ct_X6_rigOf0 {l : Launch} (hl : l.stackTraces = false) (hNL : NewL l) : CT l yX6_rigOf cX6_rigOf 2 (some (.object "HeavyHaul$Rig")) 3 0 s_X6_rigOf0 := CT_of hl hNL (by decide +kernel) (own := "HeavyHaul") rfl (ini := false) (fun q => nomatch q) chk_X6_rigOf0 (cal_X6_rigOf0 hl hNL) ar_X6_rigOf0 vc_X6_rigOf0
def s_X6_roadOf0 : SP := vS fun as S k => o1 0 as fun r => WfH S ∧ inN r (S.2.2 20) ∧ k (some (aR 2 r.toNatClampNeg))
def tb_X6_roadOf0 : Tb := [(0, .iload_n 1, 1, x0), (1, .aload_n 0, 1, x0), (2, .getfield 23, 3, xF 7 3 [100]), (5, .invokevirtual 68, 3, xS 1 0 s_Jx4a65c_size_8abf5), (8, .invokestatic 53, 3, xS 2 0 s_X6_needNumber0), (11, .aload_n 0, 1, x0), (12, .getfield 23, 3, xF 7 3 [100]), (15, .iload_n 1, 1, x0), (16, .invokevirtual 234, 3, xS 2 0 s_Jx4a65c_get_915e3), (19, .checkcast 75, 3, xF 5 0 [256]), (22, .areturn, 1, x0)]
theorem chk_X6_roadOf0 : chkTb cX6_roadOf "HeavyHaul" false tb_X6_roadOf0 = true := by decide +kernel
theorem cal_X6_roadOf0 {l : Launch} (hl : l.stackTraces = false) (hNL : NewL l) : CallsOK l "HeavyHaul" 3 tb_X6_roadOf0 := callsOK_f ⟨⟨_, _, 1, 0, _, 0, (ct_Jx4a65c_size_8abf5 hl hNL), ⟨List.mem_of_getElem? (i := 236) (by decide +kernel), List.mem_of_getElem? (i := 29) (by decide +kernel), List.mem_of_getElem? (i := 233) (by decide +kernel), ⟨by decide +kernel, by decide +kernel⟩, by decide +kernel, by decide⟩, List.mem_of_getElem? (i := 234) (by decide +kernel), List.mem_of_getElem? (i := 235) (by decide +kernel), by decide, by decide, rc_Jx4a65c_size_8abf5⟩, ⟨_, _, 2, 0, _, (ct_X6_needNumber0 hl hNL), ⟨List.mem_of_getElem? (i := 144) (by decide +kernel), List.mem_of_getElem? (i := 26) (by decide +kernel), List.mem_of_getElem? (i := 142) (by decide +kernel), ⟨by decide +kernel, by decide +kernel⟩, by decide +kernel, by decide⟩, List.mem_of_getElem? (i := 143) (by decide +kernel), by decide⟩, ⟨_, _, 2, 2, _, 0, (ct_Jx4a65c_get_915e3 hl hNL), ⟨List.mem_of_getElem? (i := 519) (by decide +kernel), List.mem_of_getElem? (i := 29) (by decide +kernel), List.mem_of_getElem? (i := 516) (by decide +kernel), ⟨by decide +kernel, by decide +kernel⟩, by decide +kernel, by decide⟩, List.mem_of_getElem? (i := 517) (by decide +kernel), List.mem_of_getElem? (i := 518) (by decide +kernel), by decide, by decide, rc_Jx4a65c_get_915e3⟩, trivial⟩
theorem ar_X6_roadOf0 : ∀ as S P, s_X6_roadOf0 as S P → as.length ≤ 2 ∧ ∀ a ∈ as, catV a = 1 := fun as S P h => by
  obtain ⟨_, rfl, _⟩ := o1_ok h
  exact ar_all ⟨Nat.le_of_ble_eq_true rfl, rfl⟩
theorem rc_X6_roadOf0 : ∀ as S P, s_X6_roadOf0 as S P → ∃ k i r, as = aR k i :: r ∧ ci k = 7 ∧ (obK k = true ∨ k = 13) := fun as S P h => by
  obtain ⟨_, rfl, _⟩ := o1_ok h
  exact ⟨_, _, _, rfl, rfl, Or.inl rfl⟩
theorem vc_X6_roadOf0 : ∀ (G : Gt) (Q : Out → Sto → Prop) (as : List AV) (S : Sto), s_X6_roadOf0 as S Q → Seg tb_X6_roadOf0 G Q 3 0 [] (0, fun _ => 0) → G 0 (argL as 2) [] S 0 := by
  intro G Q as S h hs
  obtain ⟨r, rfl, hW, ⟨h0, h1⟩, hQ⟩ := o1_ok h
  have w13 := hW.1
  refine hs [] 60 0 _ _ _ _ ?_
  exact ⟨rfl, by omega, fun q => absurd q (Int32.not_lt.mpr h0), fun _ => ⟨fun _ => ⟨rfl, by omega, h0, h1, hQ⟩, fun q => absurd h1 q⟩⟩
theorem ct_X6_roadOf0 {l : Launch} (hl : l.stackTraces = false) (hNL : NewL l) : CT l yX6_roadOf cX6_roadOf 2 (some (.object "HeavyHaul$Road")) 3 0 s_X6_roadOf0 := CT_of hl hNL (by decide +kernel) (own := "HeavyHaul") rfl (ini := false) (fun q => nomatch q) chk_X6_roadOf0 (cal_X6_roadOf0 hl hNL) ar_X6_roadOf0 vc_X6_roadOf0
def gwH (S : Sto) (i : Nat) (road isH t : Int32) : Int32 := gainH S road isH t (t + S.1 2 6 i) (S.2.2 21)
def sizeH (S : Sto) (j i : Nat) (road t : Int32) : Int32 := if S.1 2 3 i + gwH S i road 0 t < S.1 4 3 j then 1 else if S.1 2 4 i + gwH S i road 1 t < S.1 4 4 j then 2 else 0
def borneH (S : Sto) (i j : Nat) : Bool := decide (S.1 2 7 i ≤ 0) || (decide (greatH S i j 0 0 ≤ S.1 2 8 i) && decide (greatH S i j 1 0 ≤ S.1 2 9 i))
def heavH (S : Sto) (j : Nat) : Int32 := if S.1 4 6 j < S.1 4 7 j then S.1 4 7 j else S.1 4 6 j
def lastH (S : Sto) (j i : Nat) : Int32 := if S.1 2 5 i < S.1 4 2 j then 3 else if borneH S i j = true then (if S.1 10 1 (S.1 2 2 i).toNatClampNeg < heavH S j then 5 else 0) else 4
def nightH (t tens : Int32) : Bool := decide (t - t / 144 * 144 + tens ≤ 36)
def leaveH (S : Sto) (i : Nat) (rig t : Int32) : Int32 := if anyN (permH S rig (S.1 2 2 i) t (t + S.1 2 6 i)) (S.2.2 23) = true then (if anyN (embH S (S.1 2 2 i) t (t + S.1 2 6 i)) (S.2.2 24) = true then 7 else if nightH t (S.1 2 6 i) = true then 0 else 8) else 6
def reasonH (S : Sto) (rig road t : Int32) : Int32 := if sizeH S rig.toNatClampNeg road.toNatClampNeg road t = 0 then (if lastH S rig.toNatClampNeg road.toNatClampNeg = 0 then leaveH S road.toNatClampNeg rig t else lastH S rig.toNatClampNeg road.toNatClampNeg) else sizeH S rig.toNatClampNeg road.toNatClampNeg road t
def openH (S : Sto) (rig road t : Int32) : Bool := nightH t (S.1 2 6 road.toNatClampNeg) && (decide (sizeH S rig.toNatClampNeg road.toNatClampNeg road t = 0) && decide (leaveH S road.toNatClampNeg rig t = 0))
def s_X6_sizeReason : SP := vS fun as S k => o3 0 as fun r d t => WfH S ∧ inN r (S.2.2 22) ∧ inN d (S.2.2 20) ∧ k (some (aI (sizeH S r.toNatClampNeg d.toNatClampNeg d t)))
def tb_X6_sizeReason : Tb := [(0, .aload_n 0, 1, x0), (1, .iload_n 1, 1, x0), (2, .invokevirtual 123, 3, xS 2 0 s_X6_rigOf0), (5, .astore 4, 2, x0), (7, .aload_n 0, 1, x0), (8, .iload_n 2, 1, x0), (9, .invokevirtual 84, 3, xS 2 0 s_X6_roadOf0), (12, .astore 5, 2, x0), (14, .iload_n 3, 1, x0), (15, .aload 5, 2, x0), (17, .getfield 188, 3, xF 5 6 [275]), (20, .iadd, 1, x0), (21, .istore 6, 2, x0), (23, .aload 4, 2, x0), (25, .getfield 264, 3, xF 4 3 [378]), (28, .aload 5, 2, x0), (30, .getfield 267, 3, xF 5 3 [269]), (33, .aload_n 0, 1, x0), (34, .iload_n 2, 1, x0), (35, .iconst 0, 1, xI (0)), (36, .iload_n 3, 1, x0), (37, .iload 6, 2, x0), (39, .invokevirtual 268, 3, xS 5 0 s_X6_gainByWorks), (42, .iadd, 1, x0), (43, .if_icmp .le 5, 3, xN 48), (46, .iconst 1, 1, xI (1)), (47, .ireturn, 1, x0), (48, .aload 4, 2, x0), (50, .getfield 272, 3, xF 4 4 [380]), (53, .aload 5, 2, x0), (55, .getfield 275, 3, xF 5 4 [271]), (58, .aload_n 0, 1, x0), (59, .iload_n 2, 1, x0), (60, .iconst 1, 1, xI (1)), (61, .iload_n 3, 1, x0), (62, .iload 6, 2, x0), (64, .invokevirtual 268, 3, xS 5 0 s_X6_gainByWorks), (67, .iadd, 1, x0), (68, .if_icmp .le 7, 3, xN 75), (71, .iconst 2, 1, xI (2)), (72, .goto 4, 3, xN 76), (75, .iconst 0, 1, xI (0)), (76, .ireturn, 1, x0)]
theorem chk_X6_sizeReason : chkTb cX6_sizeReason "HeavyHaul" false tb_X6_sizeReason = true := by decide +kernel
theorem cal_X6_sizeReason {l : Launch} (hl : l.stackTraces = false) (hNL : NewL l) : CallsOK l "HeavyHaul" 4 tb_X6_sizeReason := callsOK_f ⟨⟨_, _, 2, 3, _, 7, (ct_X6_rigOf0 hl hNL), ⟨List.mem_of_getElem? (i := 578) (by decide +kernel), List.mem_of_getElem? (i := 26) (by decide +kernel), List.mem_of_getElem? (i := 575) (by decide +kernel), ⟨by decide +kernel, by decide +kernel⟩, by decide +kernel, by decide⟩, List.mem_of_getElem? (i := 577) (by decide +kernel), List.mem_of_getElem? (i := 8) (by decide +kernel), by decide, by decide, rc_X6_rigOf0⟩, ⟨_, _, 2, 3, _, 7, (ct_X6_roadOf0 hl hNL), ⟨List.mem_of_getElem? (i := 515) (by decide +kernel), List.mem_of_getElem? (i := 26) (by decide +kernel), List.mem_of_getElem? (i := 512) (by decide +kernel), ⟨by decide +kernel, by decide +kernel⟩, by decide +kernel, by decide⟩, List.mem_of_getElem? (i := 514) (by decide +kernel), List.mem_of_getElem? (i := 7) (by decide +kernel), by decide, by decide, rc_X6_roadOf0⟩, ⟨_, _, 8, 3, _, 7, (ct_X6_gainByWorks hl hNL), ⟨List.mem_of_getElem? (i := 625) (by decide +kernel), List.mem_of_getElem? (i := 26) (by decide +kernel), List.mem_of_getElem? (i := 622) (by decide +kernel), ⟨by decide +kernel, by decide +kernel⟩, by decide +kernel, by decide⟩, List.mem_of_getElem? (i := 624) (by decide +kernel), List.mem_of_getElem? (i := 11) (by decide +kernel), by decide, by decide, rc_X6_gainByWorks⟩, ⟨_, _, 8, 3, _, 7, (ct_X6_gainByWorks hl hNL), ⟨List.mem_of_getElem? (i := 625) (by decide +kernel), List.mem_of_getElem? (i := 26) (by decide +kernel), List.mem_of_getElem? (i := 622) (by decide +kernel), ⟨by decide +kernel, by decide +kernel⟩, by decide +kernel, by decide⟩, List.mem_of_getElem? (i := 624) (by decide +kernel), List.mem_of_getElem? (i := 11) (by decide +kernel), by decide, by decide, rc_X6_gainByWorks⟩, trivial⟩
theorem ar_X6_sizeReason : ∀ as S P, s_X6_sizeReason as S P → as.length ≤ 7 ∧ ∀ a ∈ as, catV a = 1 := fun as S P h => by
  obtain ⟨_, _, _, rfl, _⟩ := o3_ok h
  exact ar_all ⟨Nat.le_of_ble_eq_true rfl, rfl⟩
theorem rc_X6_sizeReason : ∀ as S P, s_X6_sizeReason as S P → ∃ k i r, as = aR k i :: r ∧ ci k = 7 ∧ (obK k = true ∨ k = 13) := fun as S P h => by
  obtain ⟨_, _, _, rfl, _⟩ := o3_ok h
  exact ⟨_, _, _, rfl, rfl, Or.inl rfl⟩
theorem vc_X6_sizeReason : ∀ (G : Gt) (Q : Out → Sto → Prop) (as : List AV) (S : Sto), s_X6_sizeReason as S Q → Seg tb_X6_sizeReason G Q 1 0 [] (0, fun _ => 0) → G 0 (argL as 7) [] S 0 := by
  intro G Q as S h hs
  obtain ⟨r, d, t, rfl, hW, hr, hd, hQ⟩ := o3_ok h
  refine hs [] 90 0 _ _ _ _ ?_
  refine ⟨rfl, rfl, hW, hr, rfl, rfl, hW, hd, rfl, rfl, hW, fun q1 => ⟨rfl, rfl, hW, fun q2 => ?_, fun q2 => ?_⟩, fun q1 => ?_⟩
  · have e : sizeH S r.toNatClampNeg d.toNatClampNeg d t = 0 := (if_neg (Int32.not_lt.mpr q1)).trans (if_neg (Int32.not_lt.mpr q2))
    rw [e] at hQ
    exact hQ
  · have e : sizeH S r.toNatClampNeg d.toNatClampNeg d t = 2 := (if_neg (Int32.not_lt.mpr q1)).trans (if_pos (Int32.not_le.mp q2))
    rw [e] at hQ
    exact hQ
  · have e : sizeH S r.toNatClampNeg d.toNatClampNeg d t = 1 := if_pos (Int32.not_le.mp q1)
    rw [e] at hQ
    exact hQ
theorem ct_X6_sizeReason {l : Launch} (hl : l.stackTraces = false) (hNL : NewL l) : CT l yX6_sizeReason cX6_sizeReason 7 (some .int) 4 0 s_X6_sizeReason := CT_of hl hNL (by decide +kernel) (own := "HeavyHaul") rfl (ini := false) (fun q => nomatch q) chk_X6_sizeReason (cal_X6_sizeReason hl hNL) ar_X6_sizeReason vc_X6_sizeReason
def oRR (as : List AV) (f : Nat → Nat → Prop) : Prop := match as with
  | [Sum.inr (Sum.inr (k, i)), Sum.inr (Sum.inr (y, j)), Sum.inr (Sum.inr (z, n))] => k = 0 ∧ i = 0 ∧ y = 4 ∧ z = 2 ∧ f j n
  | _ => False
theorem oRR_ok {as : List AV} {f : Nat → Nat → Prop} (h : oRR as f) : ∃ j n, as = [aR 0 0, aR 4 j, aR 2 n] ∧ f j n := by
  unfold oRR at h
  split at h
  · obtain ⟨rfl, rfl, rfl, rfl, h⟩ := h; exact ⟨_, _, rfl, h⟩
  · exact h.elim
def s_X6_lastingReason : SP := vS fun as S k => oRR as fun j i => WfH S ∧ j < S.2.2 22 ∧ i < S.2.2 20 ∧ k (some (aI (lastH S j i)))
def tb_X6_lastingReason : Tb := [(0, .aload_n 1, 1, x0), (1, .getfield 276, 3, xF 4 2 [376]), (4, .aload_n 2, 1, x0), (5, .getfield 279, 3, xF 5 5 [273]), (8, .if_icmp .le 5, 3, xN 13), (11, .iconst 3, 1, xI (3)), (12, .ireturn, 1, x0), (13, .aload_n 2, 1, x0), (14, .aload_n 1, 1, x0), (15, .invokestatic 282, 3, xS 2 0 s_X6_isBorne), (18, .ifCond .ne 5, 3, xN 23), (21, .iconst 4, 1, xI (4)), (22, .ireturn, 1, x0), (23, .aload_n 1, 1, x0), (24, .invokevirtual 286, 3, xS 1 0 s_X3_heaviestAxle), (27, .aload_n 0, 1, x0), (28, .aload_n 2, 1, x0), (29, .getfield 289, 3, xF 5 2 [267]), (32, .invokevirtual 292, 3, xS 2 0 s_X6_mostOfAxle), (35, .if_icmp .le 7, 3, xN 42), (38, .iconst 5, 1, xI (5)), (39, .goto 4, 3, xN 43), (42, .iconst 0, 1, xI (0)), (43, .ireturn, 1, x0)]
theorem chk_X6_lastingReason : chkTb cX6_lastingReason "HeavyHaul" false tb_X6_lastingReason = true := by decide +kernel
theorem cal_X6_lastingReason {l : Launch} (hl : l.stackTraces = false) (hNL : NewL l) : CallsOK l "HeavyHaul" 4 tb_X6_lastingReason := callsOK_f ⟨⟨_, _, 2, 3, _, (ct_X6_isBorne hl hNL), ⟨List.mem_of_getElem? (i := 637) (by decide +kernel), List.mem_of_getElem? (i := 26) (by decide +kernel), List.mem_of_getElem? (i := 635) (by decide +kernel), ⟨by decide +kernel, by decide +kernel⟩, by decide +kernel, by decide⟩, List.mem_of_getElem? (i := 636) (by decide +kernel), by decide⟩, ⟨_, _, 1, 0, _, 4, (ct_X3_heaviestAxle hl hNL), ⟨List.mem_of_getElem? (i := 652) (by decide +kernel), List.mem_of_getElem? (i := 41) (by decide +kernel), List.mem_of_getElem? (i := 649) (by decide +kernel), ⟨by decide +kernel, by decide +kernel⟩, by decide +kernel, by decide⟩, List.mem_of_getElem? (i := 650) (by decide +kernel), List.mem_of_getElem? (i := 651) (by decide +kernel), by decide, by decide, rc_X3_heaviestAxle⟩, ⟨_, _, 2, 0, _, 7, (ct_X6_mostOfAxle hl hNL), ⟨List.mem_of_getElem? (i := 657) (by decide +kernel), List.mem_of_getElem? (i := 26) (by decide +kernel), List.mem_of_getElem? (i := 654) (by decide +kernel), ⟨by decide +kernel, by decide +kernel⟩, by decide +kernel, by decide⟩, List.mem_of_getElem? (i := 656) (by decide +kernel), List.mem_of_getElem? (i := 13) (by decide +kernel), by decide, by decide, rc_X6_mostOfAxle⟩, trivial⟩
theorem ar_X6_lastingReason : ∀ as S P, s_X6_lastingReason as S P → as.length ≤ 3 ∧ ∀ a ∈ as, catV a = 1 := fun as S P h => by
  obtain ⟨_, _, rfl, _⟩ := oRR_ok h
  exact ar_all ⟨Nat.le_of_ble_eq_true rfl, rfl⟩
theorem rc_X6_lastingReason : ∀ as S P, s_X6_lastingReason as S P → ∃ k i r, as = aR k i :: r ∧ ci k = 7 ∧ (obK k = true ∨ k = 13) := fun as S P h => by
  obtain ⟨_, _, rfl, _⟩ := oRR_ok h
  exact ⟨_, _, _, rfl, rfl, Or.inl rfl⟩
theorem vc_X6_lastingReason : ∀ (G : Gt) (Q : Out → Sto → Prop) (as : List AV) (S : Sto), s_X6_lastingReason as S Q → Seg tb_X6_lastingReason G Q 1 0 [] (0, fun _ => 0) → G 0 (argL as 3) [] S 0 := by
  intro G Q as S h hs
  obtain ⟨j, i, rfl, hW, hj, hi, hQ⟩ := oRR_ok h
  obtain ⟨p, q, a, t, s, -, -, hau, -, hsp, -, -, -, ha4, -, -, hs4⟩ := hW.2.2.2.2.2.2.1 i hi
  have hin : vp_in (S.1 2 2 i) (al 10 1) := by
    rw [hau]
    exact nI_vin (by omega) ha4
  have in0 : ¬ S.1 2 2 i < 0 := by
    rw [hau]
    exact nI_nn (by omega)
  have in4 : ¬ (4 : Int32) ≤ S.1 2 2 i := by
    rw [hau]
    exact lp_go (n := 4) (by omega) ha4
  have n4 : ∀ b, borneH S i j = b → S.1 2 5 i ≥ S.1 4 2 j → lastH S j i = if b = true then (if S.1 10 1 (S.1 2 2 i).toNatClampNeg < heavH S j then 5 else 0) else 4 := fun b hb h5 => by
    unfold lastH
    rw [if_neg (Int32.not_lt.mpr h5), hb]
  have tail : S.1 2 5 i ≥ S.1 4 2 j → borneH S i j = true → ∀ v, v = heavH S j → (v ≤ S.1 10 1 (S.1 2 2 i).toNatClampNeg → Q (Sum.inl (some (aI 0))) S) ∧ (¬ v ≤ S.1 10 1 (S.1 2 2 i).toNatClampNeg → Q (Sum.inl (some (aI 5))) S) := fun h5 hb v hv => by
    subst hv
    have e := n4 true hb h5
    rw [if_pos rfl] at e
    refine ⟨fun z => ?_, fun z => ?_⟩
    · rw [e, if_neg (Int32.not_lt.mpr z)] at hQ
      exact hQ
    · rw [e, if_pos (Int32.not_le.mp z)] at hQ
      exact hQ
  have bad : S.1 2 5 i ≥ S.1 4 2 j → borneH S i j = false → Q (Sum.inl (some (aI 4))) S := fun h5 hb => by
    have e := n4 false hb h5
    rw [if_neg (fun z => nomatch z)] at e
    rw [e] at hQ
    exact hQ
  refine hs [] 90 0 _ _ _ _ ?_
  refine ⟨fun h5 => ?_, fun h5 => ?_⟩
  · refine ⟨fun b1 => ⟨rfl, fun _ => ?_, fun z => absurd rfl z⟩, fun b1 => ⟨rfl, fun z => absurd z (by decide), fun _ => ?_⟩⟩
    · have hb : borneH S i j = true := by
        unfold borneH
        rw [decide_eq_true b1]
        rfl
      exact ⟨rfl, fun _ => ⟨fun q => absurd q in0, fun _ => ⟨fun q => absurd q in4, fun _ => ⟨hin, tail h5 hb _ rfl⟩⟩⟩, fun z => absurd z (by decide)⟩
    · have e1 : ∀ b, (decide (greatH S i j 0 0 ≤ S.1 2 8 i) && decide (greatH S i j 1 0 ≤ S.1 2 9 i)) = b → borneH S i j = b := fun b hb => by
        unfold borneH
        rw [decide_eq_false b1, Bool.false_or]
        exact hb
      refine ⟨rfl, rfl, hW, hi, hj, fun b2 => ⟨rfl, fun z => absurd rfl z, fun _ => bad h5 (e1 false ?_)⟩, fun b2 => ⟨rfl, rfl, hW, hi, hj, fun b3 => ⟨rfl, fun z => absurd rfl z, fun _ => bad h5 (e1 false ?_)⟩, fun b3 => ⟨rfl, fun _ => ⟨fun q => absurd q in0, fun _ => ⟨fun q => absurd q in4, fun _ => ⟨hin, tail h5 (e1 true ?_) _ rfl⟩⟩⟩, fun z => absurd z (by decide)⟩⟩⟩
      · rw [decide_eq_false (Int32.not_le.mpr b2)]
        rfl
      · rw [decide_eq_false (Int32.not_le.mpr b3), Bool.and_false]
      · rw [decide_eq_true (Int32.not_lt.mp b2), decide_eq_true (Int32.not_lt.mp b3)]
        rfl
  · have e : lastH S j i = 3 := if_pos (Int32.not_le.mp h5)
    rw [e] at hQ
    exact hQ
theorem ct_X6_lastingReason {l : Launch} (hl : l.stackTraces = false) (hNL : NewL l) : CT l yX6_lastingReason cX6_lastingReason 3 (some .int) 4 0 s_X6_lastingReason := CT_of hl hNL (by decide +kernel) (own := "HeavyHaul") rfl (ini := false) (fun q => nomatch q) chk_X6_lastingReason (cal_X6_lastingReason hl hNL) ar_X6_lastingReason vc_X6_lastingReason
theorem rem144 (t : Int32) : ¬ (144 : Int32) = 0 := by decide
def s_X6_leaveReason : SP := vS fun as S k => o3 0 as fun r d t => WfH S ∧ inN d (S.2.2 20) ∧ k (some (aI (leaveH S d.toNatClampNeg r t)))
def tb_X6_leaveReason : Tb := [(0, .aload_n 0, 1, x0), (1, .iload_n 2, 1, x0), (2, .invokevirtual 84, 3, xS 2 0 s_X6_roadOf0), (5, .astore 4, 2, x0), (7, .iload_n 3, 1, x0), (8, .aload 4, 2, x0), (10, .getfield 188, 3, xF 5 6 [275]), (13, .iadd, 1, x0), (14, .istore 5, 2, x0), (16, .aload_n 0, 1, x0), (17, .iload_n 1, 1, x0), (18, .aload 4, 2, x0), (20, .getfield 289, 3, xF 5 2 [267]), (23, .iload_n 3, 1, x0), (24, .iload 5, 2, x0), (26, .invokevirtual 295, 3, xS 5 0 s_X6_isPermitted), (29, .ifCond .ne 6, 3, xN 35), (32, .bipush 6, 2, xI (6)), (34, .ireturn, 1, x0), (35, .aload_n 0, 1, x0), (36, .aload 4, 2, x0), (38, .getfield 289, 3, xF 5 2 [267]), (41, .iload_n 3, 1, x0), (42, .iload 5, 2, x0), (44, .invokevirtual 299, 3, xS 4 0 s_X6_isEmbargoed), (47, .ifCond .eq 6, 3, xN 53), (50, .bipush 7, 2, xI (7)), (52, .ireturn, 1, x0), (53, .iload_n 3, 1, x0), (54, .aload 4, 2, x0), (56, .getfield 188, 3, xF 5 6 [275]), (59, .invokestatic 303, 3, xS 2 0 s_X6_isOfOneNight), (62, .ifCond .eq 7, 3, xN 69), (65, .iconst 0, 1, xI (0)), (66, .goto 5, 3, xN 71), (69, .bipush 8, 2, xI (8)), (71, .ireturn, 1, x0)]
theorem chk_X6_leaveReason : chkTb cX6_leaveReason "HeavyHaul" false tb_X6_leaveReason = true := by decide +kernel
theorem cal_X6_leaveReason {l : Launch} (hl : l.stackTraces = false) (hNL : NewL l) : CallsOK l "HeavyHaul" 4 tb_X6_leaveReason := callsOK_f ⟨⟨_, _, 2, 3, _, 7, (ct_X6_roadOf0 hl hNL), ⟨List.mem_of_getElem? (i := 515) (by decide +kernel), List.mem_of_getElem? (i := 26) (by decide +kernel), List.mem_of_getElem? (i := 512) (by decide +kernel), ⟨by decide +kernel, by decide +kernel⟩, by decide +kernel, by decide⟩, List.mem_of_getElem? (i := 514) (by decide +kernel), List.mem_of_getElem? (i := 7) (by decide +kernel), by decide, by decide, rc_X6_roadOf0⟩, ⟨_, _, 7, 3, _, 7, (ct_X6_isPermitted hl hNL), ⟨List.mem_of_getElem? (i := 665) (by decide +kernel), List.mem_of_getElem? (i := 26) (by decide +kernel), List.mem_of_getElem? (i := 662) (by decide +kernel), ⟨by decide +kernel, by decide +kernel⟩, by decide +kernel, by decide⟩, List.mem_of_getElem? (i := 664) (by decide +kernel), List.mem_of_getElem? (i := 15) (by decide +kernel), by decide, by decide, rc_X6_isPermitted⟩, ⟨_, _, 6, 3, _, 7, (ct_X6_isEmbargoed hl hNL), ⟨List.mem_of_getElem? (i := 669) (by decide +kernel), List.mem_of_getElem? (i := 26) (by decide +kernel), List.mem_of_getElem? (i := 666) (by decide +kernel), ⟨by decide +kernel, by decide +kernel⟩, by decide +kernel, by decide⟩, List.mem_of_getElem? (i := 668) (by decide +kernel), List.mem_of_getElem? (i := 16) (by decide +kernel), by decide, by decide, rc_X6_isEmbargoed⟩, ⟨_, _, 2, 0, _, (ct_X6_isOfOneNight hl hNL), ⟨List.mem_of_getElem? (i := 676) (by decide +kernel), List.mem_of_getElem? (i := 26) (by decide +kernel), List.mem_of_getElem? (i := 674) (by decide +kernel), ⟨by decide +kernel, by decide +kernel⟩, by decide +kernel, by decide⟩, List.mem_of_getElem? (i := 675) (by decide +kernel), by decide⟩, trivial⟩
theorem ar_X6_leaveReason : ∀ as S P, s_X6_leaveReason as S P → as.length ≤ 6 ∧ ∀ a ∈ as, catV a = 1 := fun as S P h => by
  obtain ⟨_, _, _, rfl, _⟩ := o3_ok h
  exact ar_all ⟨Nat.le_of_ble_eq_true rfl, rfl⟩
theorem rc_X6_leaveReason : ∀ as S P, s_X6_leaveReason as S P → ∃ k i r, as = aR k i :: r ∧ ci k = 7 ∧ (obK k = true ∨ k = 13) := fun as S P h => by
  obtain ⟨_, _, _, rfl, _⟩ := o3_ok h
  exact ⟨_, _, _, rfl, rfl, Or.inl rfl⟩
theorem vc_X6_leaveReason : ∀ (G : Gt) (Q : Out → Sto → Prop) (as : List AV) (S : Sto), s_X6_leaveReason as S Q → Seg tb_X6_leaveReason G Q 1 0 [] (0, fun _ => 0) → G 0 (argL as 6) [] S 0 := by
  intro G Q as S h hs
  obtain ⟨r, d, t, rfl, hW, hd, hQ⟩ := o3_ok h
  unfold leaveH at hQ
  refine hs [] 90 0 _ _ _ _ ?_
  refine ⟨rfl, rfl, hW, hd, rfl, rfl, hW, ?_⟩
  cases hp : anyN (permH S r (S.1 2 2 d.toNatClampNeg) t (t + S.1 2 6 d.toNatClampNeg)) (S.2.2 23) with
  | false =>
    rw [if_neg (by rw [hp]; decide)] at hQ
    exact ⟨fun z => absurd rfl z, fun _ => hQ⟩
  | true =>
    rw [if_pos hp] at hQ
    refine ⟨fun _ => ⟨rfl, rfl, hW, ?_⟩, fun z => absurd z (by decide)⟩
    cases he : anyN (embH S (S.1 2 2 d.toNatClampNeg) t (t + S.1 2 6 d.toNatClampNeg)) (S.2.2 24) with
    | true =>
      rw [if_pos he] at hQ
      exact ⟨fun z => absurd z (by decide), fun _ => hQ⟩
    | false =>
      rw [if_neg (by rw [he]; decide)] at hQ
      refine ⟨fun _ => ⟨rem144 t, fun z => ⟨rfl, fun _ => ?_, fun q => absurd rfl q⟩, fun z => ⟨rfl, fun q => absurd q (by decide), fun _ => ?_⟩⟩, fun z => absurd rfl z⟩
      · rw [if_neg (by unfold nightH; rw [decide_eq_false (Int32.not_le.mpr z)]; decide)] at hQ
        exact hQ
      · rw [if_pos (show nightH t (S.1 2 6 d.toNatClampNeg) = true from decide_eq_true (Int32.not_lt.mp z))] at hQ
        exact hQ
theorem ct_X6_leaveReason {l : Launch} (hl : l.stackTraces = false) (hNL : NewL l) : CT l yX6_leaveReason cX6_leaveReason 6 (some .int) 4 0 s_X6_leaveReason := CT_of hl hNL (by decide +kernel) (own := "HeavyHaul") rfl (ini := false) (fun q => nomatch q) chk_X6_leaveReason (cal_X6_leaveReason hl hNL) ar_X6_leaveReason vc_X6_leaveReason
def s_X6_reasonAgainst : SP := vS fun as S k => o3 0 as fun r d t => WfH S ∧ inN r (S.2.2 22) ∧ inN d (S.2.2 20) ∧ k (some (aI (reasonH S r d t)))
def tb_X6_reasonAgainst : Tb := [(0, .aload_n 0, 1, x0), (1, .iload_n 1, 1, x0), (2, .iload_n 2, 1, x0), (3, .iload_n 3, 1, x0), (4, .invokevirtual 254, 3, xS 4 0 s_X6_sizeReason), (7, .istore 4, 2, x0), (9, .iload 4, 2, x0), (11, .ifCond .eq 6, 3, xN 17), (14, .iload 4, 2, x0), (16, .ireturn, 1, x0), (17, .aload_n 0, 1, x0), (18, .aload_n 0, 1, x0), (19, .iload_n 1, 1, x0), (20, .invokevirtual 123, 3, xS 2 0 s_X6_rigOf0), (23, .aload_n 0, 1, x0), (24, .iload_n 2, 1, x0), (25, .invokevirtual 84, 3, xS 2 0 s_X6_roadOf0), (28, .invokevirtual 257, 3, xS 3 0 s_X6_lastingReason), (31, .istore 5, 2, x0), (33, .iload 5, 2, x0), (35, .ifCond .eq 8, 3, xN 43), (38, .iload 5, 2, x0), (40, .goto 10, 3, xN 50), (43, .aload_n 0, 1, x0), (44, .iload_n 1, 1, x0), (45, .iload_n 2, 1, x0), (46, .iload_n 3, 1, x0), (47, .invokevirtual 261, 3, xS 4 0 s_X6_leaveReason), (50, .ireturn, 1, x0)]
theorem chk_X6_reasonAgainst : chkTb cX6_reasonAgainst "HeavyHaul" false tb_X6_reasonAgainst = true := by decide +kernel
theorem cal_X6_reasonAgainst {l : Launch} (hl : l.stackTraces = false) (hNL : NewL l) : CallsOK l "HeavyHaul" 5 tb_X6_reasonAgainst := callsOK_f ⟨⟨_, _, 7, 4, _, 7, (ct_X6_sizeReason hl hNL), ⟨List.mem_of_getElem? (i := 621) (by decide +kernel), List.mem_of_getElem? (i := 26) (by decide +kernel), List.mem_of_getElem? (i := 618) (by decide +kernel), ⟨by decide +kernel, by decide +kernel⟩, by decide +kernel, by decide⟩, List.mem_of_getElem? (i := 620) (by decide +kernel), List.mem_of_getElem? (i := 10) (by decide +kernel), by decide, by decide, rc_X6_sizeReason⟩, ⟨_, _, 2, 3, _, 7, (ct_X6_rigOf0 hl hNL), ⟨List.mem_of_getElem? (i := 578) (by decide +kernel), List.mem_of_getElem? (i := 26) (by decide +kernel), List.mem_of_getElem? (i := 575) (by decide +kernel), ⟨by decide +kernel, by decide +kernel⟩, by decide +kernel, by decide⟩, List.mem_of_getElem? (i := 577) (by decide +kernel), List.mem_of_getElem? (i := 8) (by decide +kernel), by decide, by decide, rc_X6_rigOf0⟩, ⟨_, _, 2, 3, _, 7, (ct_X6_roadOf0 hl hNL), ⟨List.mem_of_getElem? (i := 515) (by decide +kernel), List.mem_of_getElem? (i := 26) (by decide +kernel), List.mem_of_getElem? (i := 512) (by decide +kernel), ⟨by decide +kernel, by decide +kernel⟩, by decide +kernel, by decide⟩, List.mem_of_getElem? (i := 514) (by decide +kernel), List.mem_of_getElem? (i := 7) (by decide +kernel), by decide, by decide, rc_X6_roadOf0⟩, ⟨_, _, 3, 4, _, 7, (ct_X6_lastingReason hl hNL), ⟨List.mem_of_getElem? (i := 634) (by decide +kernel), List.mem_of_getElem? (i := 26) (by decide +kernel), List.mem_of_getElem? (i := 631) (by decide +kernel), ⟨by decide +kernel, by decide +kernel⟩, by decide +kernel, by decide⟩, List.mem_of_getElem? (i := 633) (by decide +kernel), List.mem_of_getElem? (i := 12) (by decide +kernel), by decide, by decide, rc_X6_lastingReason⟩, ⟨_, _, 6, 4, _, 7, (ct_X6_leaveReason hl hNL), ⟨List.mem_of_getElem? (i := 661) (by decide +kernel), List.mem_of_getElem? (i := 26) (by decide +kernel), List.mem_of_getElem? (i := 658) (by decide +kernel), ⟨by decide +kernel, by decide +kernel⟩, by decide +kernel, by decide⟩, List.mem_of_getElem? (i := 660) (by decide +kernel), List.mem_of_getElem? (i := 14) (by decide +kernel), by decide, by decide, rc_X6_leaveReason⟩, trivial⟩
theorem ar_X6_reasonAgainst : ∀ as S P, s_X6_reasonAgainst as S P → as.length ≤ 6 ∧ ∀ a ∈ as, catV a = 1 := fun as S P h => by
  obtain ⟨_, _, _, rfl, _⟩ := o3_ok h
  exact ar_all ⟨Nat.le_of_ble_eq_true rfl, rfl⟩
theorem rc_X6_reasonAgainst : ∀ as S P, s_X6_reasonAgainst as S P → ∃ k i r, as = aR k i :: r ∧ ci k = 7 ∧ (obK k = true ∨ k = 13) := fun as S P h => by
  obtain ⟨_, _, _, rfl, _⟩ := o3_ok h
  exact ⟨_, _, _, rfl, rfl, Or.inl rfl⟩
theorem vc_X6_reasonAgainst : ∀ (G : Gt) (Q : Out → Sto → Prop) (as : List AV) (S : Sto), s_X6_reasonAgainst as S Q → Seg tb_X6_reasonAgainst G Q 1 0 [] (0, fun _ => 0) → G 0 (argL as 6) [] S 0 := by
  intro G Q as S h hs
  obtain ⟨r, d, t, rfl, hW, hr, hd, hQ⟩ := o3_ok h
  have hr2 := inN_lt hr (by have := hW.2.1.2.2.1; omega)
  have hd2 := inN_lt hd (by have := hW.2.1.1; omega)
  unfold reasonH at hQ
  refine hs [] 90 0 _ _ _ _ ?_
  refine ⟨rfl, rfl, hW, hr, hd, fun z1 => ⟨rfl, rfl, hW, hr, rfl, rfl, hW, hd, rfl, rfl, rfl, rfl, hW, hr2, hd2, fun z2 => ⟨rfl, rfl, hW, hd, ?_⟩, fun z2 => ?_⟩, fun z1 => ?_⟩
  · rw [if_pos z1, if_pos z2] at hQ
    exact hQ
  · rw [if_pos z1, if_neg z2] at hQ
    exact hQ
  · rw [if_neg z1] at hQ
    exact hQ
theorem ct_X6_reasonAgainst {l : Launch} (hl : l.stackTraces = false) (hNL : NewL l) : CT l yX6_reasonAgainst cX6_reasonAgainst 6 (some .int) 5 0 s_X6_reasonAgainst := CT_of hl hNL (by decide +kernel) (own := "HeavyHaul") rfl (ini := false) (fun q => nomatch q) chk_X6_reasonAgainst (cal_X6_reasonAgainst hl hNL) ar_X6_reasonAgainst vc_X6_reasonAgainst
def s_X6_isOpen : SP := vS fun as S k => o3 0 as fun r d t => WfH S ∧ inN r (S.2.2 22) ∧ inN d (S.2.2 20) ∧ k (some (aI (bV (openH S r d t))))
def tb_X6_isOpen : Tb := [(0, .iload_n 3, 1, x0), (1, .aload_n 0, 1, x0), (2, .iload_n 2, 1, x0), (3, .invokevirtual 84, 3, xS 2 0 s_X6_roadOf0), (6, .getfield 188, 3, xF 5 6 [275]), (9, .invokestatic 303, 3, xS 2 0 s_X6_isOfOneNight), (12, .ifCond .eq 27, 3, xN 39), (15, .aload_n 0, 1, x0), (16, .iload_n 1, 1, x0), (17, .iload_n 2, 1, x0), (18, .iload_n 3, 1, x0), (19, .invokevirtual 254, 3, xS 4 0 s_X6_sizeReason), (22, .ifCond .ne 17, 3, xN 39), (25, .aload_n 0, 1, x0), (26, .iload_n 1, 1, x0), (27, .iload_n 2, 1, x0), (28, .iload_n 3, 1, x0), (29, .invokevirtual 261, 3, xS 4 0 s_X6_leaveReason), (32, .ifCond .ne 7, 3, xN 39), (35, .iconst 1, 1, xI (1)), (36, .goto 4, 3, xN 40), (39, .iconst 0, 1, xI (0)), (40, .ireturn, 1, x0)]
theorem chk_X6_isOpen : chkTb cX6_isOpen "HeavyHaul" false tb_X6_isOpen = true := by decide +kernel
theorem cal_X6_isOpen {l : Launch} (hl : l.stackTraces = false) (hNL : NewL l) : CallsOK l "HeavyHaul" 5 tb_X6_isOpen := callsOK_f ⟨⟨_, _, 2, 3, _, 7, (ct_X6_roadOf0 hl hNL), ⟨List.mem_of_getElem? (i := 515) (by decide +kernel), List.mem_of_getElem? (i := 26) (by decide +kernel), List.mem_of_getElem? (i := 512) (by decide +kernel), ⟨by decide +kernel, by decide +kernel⟩, by decide +kernel, by decide⟩, List.mem_of_getElem? (i := 514) (by decide +kernel), List.mem_of_getElem? (i := 7) (by decide +kernel), by decide, by decide, rc_X6_roadOf0⟩, ⟨_, _, 2, 0, _, (ct_X6_isOfOneNight hl hNL), ⟨List.mem_of_getElem? (i := 676) (by decide +kernel), List.mem_of_getElem? (i := 26) (by decide +kernel), List.mem_of_getElem? (i := 674) (by decide +kernel), ⟨by decide +kernel, by decide +kernel⟩, by decide +kernel, by decide⟩, List.mem_of_getElem? (i := 675) (by decide +kernel), by decide⟩, ⟨_, _, 7, 4, _, 7, (ct_X6_sizeReason hl hNL), ⟨List.mem_of_getElem? (i := 621) (by decide +kernel), List.mem_of_getElem? (i := 26) (by decide +kernel), List.mem_of_getElem? (i := 618) (by decide +kernel), ⟨by decide +kernel, by decide +kernel⟩, by decide +kernel, by decide⟩, List.mem_of_getElem? (i := 620) (by decide +kernel), List.mem_of_getElem? (i := 10) (by decide +kernel), by decide, by decide, rc_X6_sizeReason⟩, ⟨_, _, 6, 4, _, 7, (ct_X6_leaveReason hl hNL), ⟨List.mem_of_getElem? (i := 661) (by decide +kernel), List.mem_of_getElem? (i := 26) (by decide +kernel), List.mem_of_getElem? (i := 658) (by decide +kernel), ⟨by decide +kernel, by decide +kernel⟩, by decide +kernel, by decide⟩, List.mem_of_getElem? (i := 660) (by decide +kernel), List.mem_of_getElem? (i := 14) (by decide +kernel), by decide, by decide, rc_X6_leaveReason⟩, trivial⟩
theorem ar_X6_isOpen : ∀ as S P, s_X6_isOpen as S P → as.length ≤ 4 ∧ ∀ a ∈ as, catV a = 1 := fun as S P h => by
  obtain ⟨_, _, _, rfl, _⟩ := o3_ok h
  exact ar_all ⟨Nat.le_of_ble_eq_true rfl, rfl⟩
theorem rc_X6_isOpen : ∀ as S P, s_X6_isOpen as S P → ∃ k i r, as = aR k i :: r ∧ ci k = 7 ∧ (obK k = true ∨ k = 13) := fun as S P h => by
  obtain ⟨_, _, _, rfl, _⟩ := o3_ok h
  exact ⟨_, _, _, rfl, rfl, Or.inl rfl⟩
theorem vc_X6_isOpen : ∀ (G : Gt) (Q : Out → Sto → Prop) (as : List AV) (S : Sto), s_X6_isOpen as S Q → Seg tb_X6_isOpen G Q 2 0 [] (0, fun _ => 0) → G 0 (argL as 4) [] S 0 := by
  intro G Q as S h hs
  obtain ⟨r, d, t, rfl, hW, hr, hd, hQ⟩ := o3_ok h
  have no : openH S r d t = false → (0 : Int32) &&& 1 = 0 ∧ Q (Sum.inl (some (aI 0))) S := fun e => by
    rw [e] at hQ
    exact ⟨rfl, hQ⟩
  refine hs [] 90 0 _ _ _ _ ?_
  refine ⟨rfl, rfl, hW, hd, rem144 t, fun z => ⟨rfl, fun _ => no ?_, fun q => absurd rfl q⟩, fun z => ⟨rfl, fun q => absurd q (by decide), fun _ => ⟨rfl, rfl, hW, hr, hd, fun z1 => no ?_, fun z1 => ⟨rfl, rfl, hW, hd, fun z2 => no ?_, fun z2 => ?_⟩⟩⟩⟩
  · unfold openH nightH
    rw [decide_eq_false (Int32.not_le.mpr z)]
    rfl
  · unfold openH
    rw [decide_eq_false z1, Bool.false_and, Bool.and_false]
  · unfold openH
    rw [decide_eq_false z2, Bool.and_false, Bool.and_false]
  · have e : openH S r d t = true := by
      unfold openH nightH
      rw [decide_eq_true (Int32.not_lt.mp z), decide_eq_true z1, decide_eq_true z2]
      rfl
    rw [e] at hQ
    exact ⟨rfl, hQ⟩
theorem ct_X6_isOpen {l : Launch} (hl : l.stackTraces = false) (hNL : NewL l) : CT l yX6_isOpen cX6_isOpen 4 (some .boolean) 5 0 s_X6_isOpen := CT_of hl hNL (by decide +kernel) (own := "HeavyHaul") rfl (ini := false) (fun q => nomatch q) chk_X6_isOpen (cal_X6_isOpen hl hNL) ar_X6_isOpen vc_X6_isOpen
end
section
/-! BITS; places with a bay, roads that fit -/
def bit (w : Int32) (p : Nat) : Bool := w.toBitVec.getLsbD p
theorem bit_or (a b : Int32) (p : Nat) : bit (a ||| b) p = (bit a p || bit b p) := by
  simp [bit]
theorem bit_and (a b : Int32) (p : Nat) : bit (a &&& b) p = (bit a p && bit b p) := by
  simp [bit]
theorem bit_0 (p : Nat) : bit 0 p = false := by
  simp [bit]
theorem bit_1 : ∀ p, p < 20 → ∀ q, q < 20 → bit ((1 : Int32) <<< (nI p &&& 31)) q = decide (q = p) := by decide +kernel
theorem sh_ok : ∀ p, p < 20 → (nI p &&& 31) = nI p ∧ (nI p).toBitVec.toNat = p := by decide +kernel
theorem sh_sm : ∀ p, p < 20 → ((nI p &&& 31).toBitVec.smod 32).toNat = p := by decide +kernel
theorem t_bit (w : Int32) (p : Nat) (hp : p < 20) : (w >>> (nI p &&& 31)) &&& 1 = 1 ↔ bit w p = true := by
  have h : ((nI p &&& 31).toBitVec.smod 32).toNat = p := sh_sm p hp
  rw [← Int32.toBitVec_inj, Int32.toBitVec_and, Int32.toBitVec_shiftRight]
  unfold BitVec.sshiftRight'
  rw [h]
  show w.toBitVec.sshiftRight p &&& 1#32 = 1#32 ↔ _
  rw [BitVec.and_one_eq_setWidth_ofBool_getLsbD, BitVec.getLsbD_sshiftRight]
  have h2 : (!decide (32 ≤ 0) && (if p + 0 < 32 then w.toBitVec.getLsbD (p + 0) else w.toBitVec.msb)) = bit w p := by
    rw [if_pos (by omega)]
    simp [bit]
  rw [h2]
  cases bit w p <;> decide
def mkW (f : Nat → Bool) : Nat → Int32
  | 0 => 0
  | n + 1 => if f n = true then mkW f n ||| (1 : Int32) <<< (nI n &&& 31) else mkW f n
theorem bit_mk (f : Nat → Bool) (n p : Nat) (hn : n ≤ 20) (hp : p < 20) : bit (mkW f n) p = (decide (p < n) && f p) := by
  induction n with
  | zero => exact bit_0 p
  | succ n ih =>
    unfold mkW
    by_cases hf : f n = true
    · rw [if_pos hf, bit_or, ih (by omega), bit_1 n (by omega) p hp]
      by_cases e : p = n
      · subst e
        simp [hf]
      · have : decide (p < n + 1) = decide (p < n) := by
          apply decide_eq_decide.mpr
          omega
        rw [this]
        simp [e]
    · rw [if_neg hf, ih (by omega)]
      by_cases e : p = n
      · subst e
        simp [hf]
      · have : decide (p < n + 1) = decide (p < n) := by
          apply decide_eq_decide.mpr
          omega
        rw [this]
def bayH (S : Sto) (p : Nat) : Bool := decide (S.1 11 0 p ≠ 0)
def s_X6_placesWithBay : SP := vS fun as S k => o0 0 as (k (some (aI (mkW (bayH S) 10))))
def tb_X6_placesWithBay : Tb := [(0, .iconst 0, 1, xI (0)), (1, .istore_n 1, 1, x0), (2, .iconst 0, 1, xI (0)), (3, .istore_n 2, 1, x0), (4, .iload_n 2, 1, x0), (5, .bipush 10, 2, xI (10)), (7, .if_icmp .ge 23, 3, xN 30), (10, .aload_n 0, 1, x0), (11, .iload_n 2, 1, x0), (12, .invokevirtual 334, 3, xS 2 0 s_X6_hasBay), (15, .ifCond .eq 9, 3, xN 24), (18, .iload_n 1, 1, x0), (19, .iconst 1, 1, xI (1)), (20, .iload_n 2, 1, x0), (21, .ishl, 1, x0), (22, .ior, 1, x0), (23, .istore_n 1, 1, x0), (24, .iinc 2 1, 3, xI (1)), (27, .goto (-23), 3, xN 4), (30, .iload_n 1, 1, x0), (31, .ireturn, 1, x0)]
theorem chk_X6_placesWithBay : chkTb cX6_placesWithBay "HeavyHaul" false tb_X6_placesWithBay = true := by decide +kernel
theorem cal_X6_placesWithBay {l : Launch} (hl : l.stackTraces = false) (hNL : NewL l) : CallsOK l "HeavyHaul" 1 tb_X6_placesWithBay := callsOK_f ⟨⟨_, _, 2, 0, _, 7, (ct_X6_hasBay hl hNL), ⟨List.mem_of_getElem? (i := 710) (by decide +kernel), List.mem_of_getElem? (i := 26) (by decide +kernel), List.mem_of_getElem? (i := 707) (by decide +kernel), ⟨by decide +kernel, by decide +kernel⟩, by decide +kernel, by decide⟩, List.mem_of_getElem? (i := 709) (by decide +kernel), List.mem_of_getElem? (i := 19) (by decide +kernel), by decide, by decide, rc_X6_hasBay⟩, trivial⟩
theorem ar_X6_placesWithBay : ∀ as S P, s_X6_placesWithBay as S P → as.length ≤ 3 ∧ ∀ a ∈ as, catV a = 1 := fun as S P h => by
  obtain ⟨rfl, _⟩ := o0_ok h
  exact ar_all ⟨Nat.le_of_ble_eq_true rfl, rfl⟩
theorem rc_X6_placesWithBay : ∀ as S P, s_X6_placesWithBay as S P → ∃ k i r, as = aR k i :: r ∧ ci k = 7 ∧ (obK k = true ∨ k = 13) := fun as S P h => by
  obtain ⟨rfl, _⟩ := o0_ok h
  exact ⟨_, _, _, rfl, rfl, Or.inl rfl⟩
theorem vc_X6_placesWithBay : ∀ (G : Gt) (Q : Out → Sto → Prop) (as : List AV) (S : Sto), s_X6_placesWithBay as S Q → Seg tb_X6_placesWithBay G Q 1 0 [] (0, fun _ => 0) → G 0 (argL as 3) [] S 0 := by
  intro G Q as S h hs
  obtain ⟨rfl, hQ⟩ := o0_ok h
  have loop : ∀ m k, k + m = 10 → G 4 [some (aR 0 0), some (aI (mkW (bayH S) k)), some (aI (nI k))] [] S 0 := by
    intro m
    induction m with
    | zero =>
      intro k hk
      obtain rfl : k = 10 := hk
      refine hs [4] 60 4 _ _ _ _ ?_
      exact ⟨fun _ => hQ, fun q => absurd (by decide) q⟩
    | succ m ih =>
      intro k hk
      refine hs [4] 60 4 _ _ _ _ ?_
      have h1 := ih (k + 1) (by omega)
      rw [← nI_s] at h1
      refine ⟨fun q => absurd q (lp_go (n := 10) (by omega) (by omega)), fun _ => ⟨fun q => absurd q (nI_nn (by omega)), fun _ => ⟨fun q => absurd q (lp_go (n := 10) (by omega) (by omega)), fun _ => ⟨nI_vin (by omega) (show k < 10 by omega), fun q => ⟨rfl, fun _ => ?_, fun z => absurd rfl z⟩, fun q => ⟨rfl, fun z => absurd z (by decide), fun _ => ?_⟩⟩⟩⟩⟩
      · have q2 : S.1 11 0 (nI k).toNatClampNeg = 0 := q
        rw [nI_cl (by omega)] at q2
        have e : mkW (bayH S) (k + 1) = mkW (bayH S) k := if_neg (by unfold bayH; rw [decide_eq_false (fun z => z q2)]; decide)
        rw [e] at h1
        exact h1
      · have q2 : S.1 11 0 (nI k).toNatClampNeg ≠ 0 := q
        rw [nI_cl (by omega)] at q2
        have e : mkW (bayH S) (k + 1) = mkW (bayH S) k ||| (1 : Int32) <<< (nI k &&& 31) := if_pos (decide_eq_true q2)
        rw [e] at h1
        exact h1
  exact hs [4] 60 0 _ _ _ _ (loop 10 0 rfl)
theorem ct_X6_placesWithBay {l : Launch} (hl : l.stackTraces = false) (hNL : NewL l) : CT l yX6_placesWithBay cX6_placesWithBay 3 (some .int) 1 0 s_X6_placesWithBay := CT_of hl hNL (by decide +kernel) (own := "HeavyHaul") rfl (ini := false) (fun q => nomatch q) chk_X6_placesWithBay (cal_X6_placesWithBay hl hNL) ar_X6_placesWithBay vc_X6_placesWithBay
def fitH (S : Sto) (j : Nat) (i : Nat) : Bool := decide (lastH S j i = 0)
def s_X6_roadsFitFor : SP := vS fun as S k => oR 0 4 as fun j => WfH S ∧ j < S.2.2 22 ∧ k (some (aI (mkW (fitH S j) (S.2.2 20))))
def tb_X6_roadsFitFor : Tb := [(0, .iconst 0, 1, xI (0)), (1, .istore_n 2, 1, x0), (2, .iconst 0, 1, xI (0)), (3, .istore_n 3, 1, x0), (4, .iload_n 3, 1, x0), (5, .aload_n 0, 1, x0), (6, .getfield 23, 3, xF 7 3 [100]), (9, .invokevirtual 68, 3, xS 1 0 s_Jx4a65c_size_8abf5), (12, .if_icmp .ge 34, 3, xN 46), (15, .aload_n 0, 1, x0), (16, .aload_n 1, 1, x0), (17, .aload_n 0, 1, x0), (18, .getfield 23, 3, xF 7 3 [100]), (21, .iload_n 3, 1, x0), (22, .invokevirtual 234, 3, xS 2 0 s_Jx4a65c_get_915e3), (25, .checkcast 75, 3, xF 5 0 [256]), (28, .invokevirtual 257, 3, xS 3 0 s_X6_lastingReason), (31, .ifCond .ne 9, 3, xN 40), (34, .iload_n 2, 1, x0), (35, .iconst 1, 1, xI (1)), (36, .iload_n 3, 1, x0), (37, .ishl, 1, x0), (38, .ior, 1, x0), (39, .istore_n 2, 1, x0), (40, .iinc 3 1, 3, xI (1)), (43, .goto (-39), 3, xN 4), (46, .iload_n 2, 1, x0), (47, .ireturn, 1, x0)]
theorem chk_X6_roadsFitFor : chkTb cX6_roadsFitFor "HeavyHaul" false tb_X6_roadsFitFor = true := by decide +kernel
theorem cal_X6_roadsFitFor {l : Launch} (hl : l.stackTraces = false) (hNL : NewL l) : CallsOK l "HeavyHaul" 5 tb_X6_roadsFitFor := callsOK_f ⟨⟨_, _, 1, 0, _, 0, (ct_Jx4a65c_size_8abf5 hl hNL), ⟨List.mem_of_getElem? (i := 236) (by decide +kernel), List.mem_of_getElem? (i := 29) (by decide +kernel), List.mem_of_getElem? (i := 233) (by decide +kernel), ⟨by decide +kernel, by decide +kernel⟩, by decide +kernel, by decide⟩, List.mem_of_getElem? (i := 234) (by decide +kernel), List.mem_of_getElem? (i := 235) (by decide +kernel), by decide, by decide, rc_Jx4a65c_size_8abf5⟩, ⟨_, _, 2, 2, _, 0, (ct_Jx4a65c_get_915e3 hl hNL), ⟨List.mem_of_getElem? (i := 519) (by decide +kernel), List.mem_of_getElem? (i := 29) (by decide +kernel), List.mem_of_getElem? (i := 516) (by decide +kernel), ⟨by decide +kernel, by decide +kernel⟩, by decide +kernel, by decide⟩, List.mem_of_getElem? (i := 517) (by decide +kernel), List.mem_of_getElem? (i := 518) (by decide +kernel), by decide, by decide, rc_Jx4a65c_get_915e3⟩, ⟨_, _, 3, 4, _, 7, (ct_X6_lastingReason hl hNL), ⟨List.mem_of_getElem? (i := 634) (by decide +kernel), List.mem_of_getElem? (i := 26) (by decide +kernel), List.mem_of_getElem? (i := 631) (by decide +kernel), ⟨by decide +kernel, by decide +kernel⟩, by decide +kernel, by decide⟩, List.mem_of_getElem? (i := 633) (by decide +kernel), List.mem_of_getElem? (i := 12) (by decide +kernel), by decide, by decide, rc_X6_lastingReason⟩, trivial⟩
theorem ar_X6_roadsFitFor : ∀ as S P, s_X6_roadsFitFor as S P → as.length ≤ 4 ∧ ∀ a ∈ as, catV a = 1 := fun as S P h => by
  obtain ⟨_, rfl, _⟩ := oR_ok h
  exact ar_all ⟨Nat.le_of_ble_eq_true rfl, rfl⟩
theorem rc_X6_roadsFitFor : ∀ as S P, s_X6_roadsFitFor as S P → ∃ k i r, as = aR k i :: r ∧ ci k = 7 ∧ (obK k = true ∨ k = 13) := fun as S P h => by
  obtain ⟨_, rfl, _⟩ := oR_ok h
  exact ⟨_, _, _, rfl, rfl, Or.inl rfl⟩
theorem vc_X6_roadsFitFor : ∀ (G : Gt) (Q : Out → Sto → Prop) (as : List AV) (S : Sto), s_X6_roadsFitFor as S Q → Seg tb_X6_roadsFitFor G Q 1 0 [] (0, fun _ => 0) → G 0 (argL as 4) [] S 0 := by
  intro G Q as S h hs
  obtain ⟨j, rfl, hW, hj, hQ⟩ := oR_ok h
  have w13 := hW.1
  have hn : S.2.2 20 ≤ 1000 := by have := hW.2.1.1; omega
  have loop : ∀ m k, k + m = S.2.2 20 → G 4 [some (aR 0 0), some (aR 4 j), some (aI (mkW (fitH S j) k)), some (aI (nI k))] [] S 0 := by
    intro m
    induction m with
    | zero =>
      intro k hk
      obtain rfl : k = S.2.2 20 := hk
      refine hs [4] 60 4 _ _ _ _ ?_
      exact ⟨rfl, by omega, fun _ => hQ, fun q => (lp_end q).elim⟩
    | succ m ih =>
      intro k hk
      have hk2 : k < S.2.2 20 := by omega
      refine hs [4] 60 4 _ _ _ _ ?_
      refine ⟨rfl, by omega, fun q => absurd q (lp_go hn hk2), fun _ => ⟨rfl, by omega, lp_nn hn hk2, lp_in hn hk2, ?_⟩⟩
      rw [lp_cl hn hk2]
      have h1 := ih (k + 1) (by omega)
      rw [← nI_s] at h1
      refine ⟨rfl, rfl, rfl, rfl, hW, hj, hk2, fun q => ?_, fun q => ?_⟩
      · have e : mkW (fitH S j) (k + 1) = mkW (fitH S j) k := if_neg (by unfold fitH; rw [decide_eq_false q]; decide)
        rw [e] at h1
        exact h1
      · have e : mkW (fitH S j) (k + 1) = mkW (fitH S j) k ||| (1 : Int32) <<< (nI k &&& 31) := if_pos (decide_eq_true q)
        rw [e] at h1
        exact h1
  exact hs [4] 60 0 _ _ _ _ (loop (S.2.2 20) 0 (by omega))
theorem ct_X6_roadsFitFor {l : Launch} (hl : l.stackTraces = false) (hNL : NewL l) : CT l yX6_roadsFitFor cX6_roadsFitFor 4 (some .int) 5 0 s_X6_roadsFitFor := CT_of hl hNL (by decide +kernel) (own := "HeavyHaul") rfl (ini := false) (fun q => nomatch q) chk_X6_roadsFitFor (cal_X6_roadsFitFor hl hNL) ar_X6_roadsFitFor vc_X6_roadsFitFor
end
section
/-! WHERE A RIG CAN BE -/
/-- the places for each ten, step by step -/
def tabG (bay : Nat → Bool) (on ot tn : Nat → Nat) (op : Nat → Nat → Bool) (nr fr : Nat) : Nat → Nat → Nat → Bool
  | 0, g, p => decide (g = 0) && decide (p = fr)
  | n + 1, g, p => (tabG bay on ot tn op nr fr n g p || (decide (g = n + 1) && (tabG bay on ot tn op nr fr n n p && bay p))) || anyN (fun i => ((tabG bay on ot tn op nr fr n n (on i) && decide (p = ot i)) || (tabG bay on ot tn op nr fr n n (ot i) && decide (p = on i))) && (op i n && decide (g = n + tn i))) nr
def fstF (f : Nat → Bool) (ten : Int32) : Nat → Nat → Int32
  | 0, _ => -1
  | m + 1, k => if f k = true then ten + nI k else fstF f ten m (k + 1)
/-- only the class's own marks change -/
def onlyR (S S' : Sto) : Prop := S'.2 = S.2 ∧ ∀ k f i, ¬ (k = 10 ∧ f = 2) → S'.1 k f i = S.1 k f i
theorem onlyR.rf {S : Sto} : onlyR S S := ⟨rfl, fun _ _ _ _ => rfl⟩
theorem onlyR.tr {S S1 S2 : Sto} (h : onlyR S S1) (h2 : onlyR S1 S2) : onlyR S S2 := ⟨h2.1.trans h.1, fun k f i q => (h2.2 k f i q).trans (h.2 k f i q)⟩
theorem onlyR.wr {S : Sto} {i : Nat} {v : Int32} : onlyR S (wrI S 10 2 i v) := ⟨rfl, fun k f j q => wrI_ne fun z => q ⟨z.1, z.2.1⟩⟩
theorem onlyR.k {S S' : Sto} (h : onlyR S S') (k : Nat) (hk : k ≠ 10) : S'.1 k = S.1 k := by
  funext f i
  exact h.2 k f i fun q => hk q.1
theorem onlyR.a {S S' : Sto} (h : onlyR S S') (f : Nat) (hk : f ≠ 2) : S'.1 10 f = S.1 10 f := by
  funext i
  exact h.2 10 f i fun q => hk q.2
theorem onlyR.wf {S S' : Sto} (h : onlyR S S') (hW : WfH S) : WfH S' := by
  unfold WfH RoF RiF at hW ⊢
  rw [h.1, h.k 2 (by decide), h.k 3 (by decide), h.k 4 (by decide), h.k 5 (by decide), h.k 6 (by decide)]
  exact hW
theorem onlyR.op {S S' : Sto} (h : onlyR S S') (r d t : Int32) : openH S' r d t = openH S r d t := by
  unfold openH sizeH leaveH gwH gainH permH embH
  rw [h.1, h.k 2 (by decide), h.k 3 (by decide), h.k 4 (by decide), h.k 5 (by decide), h.k 6 (by decide), h.k 7 (by decide), h.k 8 (by decide), h.k 9 (by decide)]
theorem onlyR.la {S S' : Sto} (h : onlyR S S') (j i : Nat) : lastH S' j i = lastH S j i := by
  unfold lastH borneH heavH greatH lastN sumH
  rw [h.k 2 (by decide), h.k 4 (by decide), h.a 1 (by decide)]
def onN (S : Sto) (i : Nat) : Nat := (S.1 2 0 i).toNatClampNeg
def otN (S : Sto) (i : Nat) : Nat := (S.1 2 1 i).toNatClampNeg
def tnN (S : Sto) (i : Nat) : Nat := (S.1 2 6 i).toNatClampNeg
theorem ro_N {S : Sto} (hW : WfH S) {i : Nat} (hi : i < S.2.2 20) : S.1 2 0 i = nI (onN S i) ∧ S.1 2 1 i = nI (otN S i) ∧ S.1 2 6 i = nI (tnN S i) ∧ onN S i < 10 ∧ otN S i < 10 ∧ onN S i ≠ otN S i ∧ 1 ≤ tnN S i ∧ tnN S i ≤ 9 := by
  obtain ⟨p, q, a, t, s, h1, h2, -, h4, -, h6, h7, h8, -, h9, h10, -⟩ := hW.2.2.2.2.2.2.1 i hi
  have e1 : onN S i = p := by unfold onN; rw [h1]; exact nI_cl (by omega)
  have e2 : otN S i = q := by unfold otN; rw [h2]; exact nI_cl (by omega)
  have e3 : tnN S i = t := by unfold tnN; rw [h4]; exact nI_cl (by omega)
  rw [e1, e2, e3]
  exact ⟨h1, h2, h4, h6, h7, h8, h9, h10⟩
/-- the marks of one drive's road -/
def beyN (S : Sto) (i : Nat) (hr : Nat → Bool) (p : Nat) : Bool := (hr (onN S i) && decide (p = otN S i)) || (hr (otN S i) && decide (p = onN S i))
def stpN (S : Sto) (rig fit first : Int32) (hr : Nat → Bool) (gone g p n : Nat) : Bool := anyN (fun i => beyN S i hr p && ((bit fit i && openH S rig (nI i) (first + nI gone)) && decide (g = gone + tnN S i))) n
def s_X6_driveOn : SP := fun as S Q => o5 0 as fun rig fit here first gone => WfH S ∧ inN rig (S.2.2 22) ∧ ∃ gn : Nat, gone = nI gn ∧ gn < 288 ∧
  ∀ S', onlyR S S' → (∀ g p, g < 288 → p < 10 → bit (S'.1 10 2 g) p = (bit (S.1 10 2 g) p || stpN S rig fit first (bit here) gn g p (S.2.2 20))) → Q (Sum.inl none) S'
/-- a road and places -/
def rI (as : List AV) (f : Nat → Int32 → Prop) : Prop := match as with
  | [Sum.inr (Sum.inr (k, i)), Sum.inl a] => k = 2 ∧ f i a
  | _ => False
theorem rI_ok {as : List AV} {f : Nat → Int32 → Prop} (h : rI as f) : ∃ i a, as = [aR 2 i, aI a] ∧ f i a := by
  unfold rI at h
  split at h
  · obtain ⟨rfl, h⟩ := h; exact ⟨_, _, rfl, h⟩
  · exact h.elim
def s_X6_placesBeyond : SP := vS fun as S k => rI as fun i here => WfH S ∧ i < S.2.2 20 ∧ ∀ b, (∀ p, p < 10 → bit b p = beyN S i (bit here) p) → k (some (aI b))
def tb_X6_placesBeyond : Tb := [(0, .iconst 0, 1, xI (0)), (1, .istore_n 2, 1, x0), (2, .iload_n 1, 1, x0), (3, .aload_n 0, 1, x0), (4, .getfield 344, 3, xF 5 0 [263]), (7, .ishr, 1, x0), (8, .iconst 1, 1, xI (1)), (9, .iand, 1, x0), (10, .iconst 1, 1, xI (1)), (11, .if_icmp .ne 12, 3, xN 23), (14, .iload_n 2, 1, x0), (15, .iconst 1, 1, xI (1)), (16, .aload_n 0, 1, x0), (17, .getfield 345, 3, xF 5 1 [265]), (20, .ishl, 1, x0), (21, .ior, 1, x0), (22, .istore_n 2, 1, x0), (23, .iload_n 1, 1, x0), (24, .aload_n 0, 1, x0), (25, .getfield 345, 3, xF 5 1 [265]), (28, .ishr, 1, x0), (29, .iconst 1, 1, xI (1)), (30, .iand, 1, x0), (31, .iconst 1, 1, xI (1)), (32, .if_icmp .ne 12, 3, xN 44), (35, .iload_n 2, 1, x0), (36, .iconst 1, 1, xI (1)), (37, .aload_n 0, 1, x0), (38, .getfield 344, 3, xF 5 0 [263]), (41, .ishl, 1, x0), (42, .ior, 1, x0), (43, .istore_n 2, 1, x0), (44, .iload_n 2, 1, x0), (45, .ireturn, 1, x0)]
theorem chk_X6_placesBeyond : chkTb cX6_placesBeyond "HeavyHaul" false tb_X6_placesBeyond = true := by decide +kernel
theorem cal_X6_placesBeyond {l : Launch} (hl : l.stackTraces = false) (hNL : NewL l) : CallsOK l "HeavyHaul" 0 tb_X6_placesBeyond := callsOK_f trivial
theorem ar_X6_placesBeyond : ∀ as S P, s_X6_placesBeyond as S P → as.length ≤ 3 ∧ ∀ a ∈ as, catV a = 1 := fun as S P h => by
  obtain ⟨_, _, rfl, _⟩ := rI_ok h
  exact ar_all ⟨Nat.le_of_ble_eq_true rfl, rfl⟩
theorem vc_X6_placesBeyond : ∀ (G : Gt) (Q : Out → Sto → Prop) (as : List AV) (S : Sto), s_X6_placesBeyond as S Q → Seg tb_X6_placesBeyond G Q 1 0 [] (0, fun _ => 0) → G 0 (argL as 3) [] S 0 := by
  intro G Q as S h hs
  obtain ⟨i, here, rfl, hW, hi, hQ⟩ := rI_ok h
  obtain ⟨h1, h2, -, h4, h5, h6, -⟩ := ro_N hW hi
  have t1 : (here >>> (S.1 2 0 i &&& 31)) &&& 1 = 1 ↔ bit here (onN S i) = true := by rw [h1]; exact t_bit here _ (by omega)
  have t2 : (here >>> (S.1 2 1 i &&& 31)) &&& 1 = 1 ↔ bit here (otN S i) = true := by rw [h2]; exact t_bit here _ (by omega)
  have b1 : ∀ p, p < 10 → bit ((1 : Int32) <<< (S.1 2 0 i &&& 31)) p = decide (p = onN S i) := fun p hp => by rw [h1]; exact bit_1 _ (by omega) p (by omega)
  have b2 : ∀ p, p < 10 → bit ((1 : Int32) <<< (S.1 2 1 i &&& 31)) p = decide (p = otN S i) := fun p hp => by rw [h2]; exact bit_1 _ (by omega) p (by omega)
  have key : ∀ b x y, bit here (onN S i) = x → bit here (otN S i) = y → (∀ p, p < 10 → bit b p = ((x && decide (p = otN S i)) || (y && decide (p = onN S i)))) → Q (Sum.inl (some (aI b))) S := fun b x y hx hy hb => hQ b fun p hp => by
    unfold beyN
    rw [hb p hp, hx, hy]
  have nf : ∀ {q : Nat}, ¬ bit here q = true → bit here q = false := fun {q} z => by
    cases hh : bit here q with
    | true => exact absurd hh z
    | false => rfl
  refine hs [] 60 0 _ _ _ _ ?_
  refine ⟨fun z1 => ⟨fun z2 => ?_, fun z2 => ?_⟩, fun z1 => ⟨fun z2 => ?_, fun z2 => ?_⟩⟩
  · exact key _ false false (nf fun q => z1 (t1.mpr q)) (nf fun q => z2 (t2.mpr q)) fun p hp => by rw [bit_0]; rfl
  · exact key _ false true (nf fun q => z1 (t1.mpr q)) (t2.mp z2) fun p hp => by rw [bit_or, bit_0, b1 p hp]; simp
  · exact key _ true false (t1.mp z1) (nf fun q => z2 (t2.mpr q)) fun p hp => by rw [bit_or, bit_0, b2 p hp]; simp
  · exact key _ true true (t1.mp z1) (t2.mp z2) fun p hp => by rw [bit_or, bit_or, bit_0, b1 p hp, b2 p hp]; simp
theorem ct_X6_placesBeyond {l : Launch} (hl : l.stackTraces = false) (hNL : NewL l) : CT l yX6_placesBeyond cX6_placesBeyond 3 (some .int) 0 0 s_X6_placesBeyond := CT_of hl hNL (by decide +kernel) (own := "HeavyHaul") rfl (ini := false) (fun q => nomatch q) chk_X6_placesBeyond (cal_X6_placesBeyond hl hNL) ar_X6_placesBeyond vc_X6_placesBeyond
def rchS (S : Sto) (g : Nat) (v : Int32) : Sto := if g < 288 then wrI S 10 2 g (S.1 10 2 g ||| v) else S
def s_X6_reach : SP := fun as S Q => o2 0 as fun gone v => ∃ g : Nat, gone = nI g ∧ g < 1000 ∧ Q (Sum.inl none) (rchS S g v)
def tb_X6_reach : Tb := [(0, .iload_n 1, 1, x0), (1, .ifCond .lt 20, 3, xN 21), (4, .iload_n 1, 1, x0), (5, .sipush 288, 3, xI (288)), (8, .if_icmp .ge 13, 3, xN 21), (11, .aload_n 0, 1, x0), (12, .getfield 39, 3, xF 7 8 [105]), (15, .iload_n 1, 1, x0), (16, .dup2, 1, x0), (17, .iaload, 1, x0), (18, .iload_n 2, 1, x0), (19, .ior, 1, x0), (20, .iastore, 1, x0), (21, .return_, 1, x0)]
theorem chk_X6_reach : chkTb cX6_reach "HeavyHaul" false tb_X6_reach = true := by decide +kernel
theorem cal_X6_reach {l : Launch} (hl : l.stackTraces = false) (hNL : NewL l) : CallsOK l "HeavyHaul" 0 tb_X6_reach := callsOK_f trivial
theorem ar_X6_reach : ∀ as S P, s_X6_reach as S P → as.length ≤ 3 ∧ ∀ a ∈ as, catV a = 1 := fun as S P h => by
  obtain ⟨_, _, rfl, _⟩ := o2_ok h
  exact ar_all ⟨Nat.le_of_ble_eq_true rfl, rfl⟩
theorem rc_X6_reach : ∀ as S P, s_X6_reach as S P → ∃ k i r, as = aR k i :: r ∧ ci k = 7 ∧ (obK k = true ∨ k = 13) := fun as S P h => by
  obtain ⟨_, _, rfl, _⟩ := o2_ok h
  exact ⟨_, _, _, rfl, rfl, Or.inl rfl⟩
theorem vc_X6_reach : ∀ (G : Gt) (Q : Out → Sto → Prop) (as : List AV) (S : Sto), s_X6_reach as S Q → Seg tb_X6_reach G Q 0 0 [] (0, fun _ => 0) → G 0 (argL as 3) [] S 0 := by
  intro G Q as S h hs
  obtain ⟨gone, v, rfl, g, rfl, hg, hQ⟩ := o2_ok h
  unfold rchS at hQ
  have e9 : (288 : Int32) = nI 288 := rfl
  refine hs [] 60 0 _ _ _ _ ?_
  refine ⟨fun q => absurd q (nI_nn (by omega)), fun _ => ⟨fun q => ?_, fun q => ?_⟩⟩
  · rw [e9] at q
    rw [if_neg (by have := (nI_le2 (by omega) (by omega)).mp q; omega)] at hQ
    exact hQ
  · rw [e9] at q
    have hl : g < 288 := Nat.not_le.mp fun z => q ((nI_le2 (by omega) (by omega)).mpr z)
    rw [if_pos hl] at hQ
    refine ⟨nI_vin (by omega) hl, nI_vin (by omega) hl, ?_⟩
    rw [nI_cl (by omega)]
    exact hQ
theorem ct_X6_reach {l : Launch} (hl : l.stackTraces = false) (hNL : NewL l) : CT l yX6_reach cX6_reach 3 none 0 0 s_X6_reach := CT_of hl hNL (by decide +kernel) (own := "HeavyHaul") rfl (ini := false) (fun q => nomatch q) chk_X6_reach (cal_X6_reach hl hNL) ar_X6_reach vc_X6_reach
theorem rch_only {S : Sto} {g : Nat} {v : Int32} : onlyR S (rchS S g v) := by
  unfold rchS
  split
  · exact onlyR.wr
  · exact onlyR.rf
theorem rch_bit {S : Sto} {g g' p : Nat} {v : Int32} (hg' : g' < 288) : bit ((rchS S g v).1 10 2 g') p = (bit (S.1 10 2 g') p || (decide (g' = g) && bit v p)) := by
  unfold rchS
  by_cases hg : g < 288
  · rw [if_pos hg, wrI_at]
    by_cases e : g' = g
    · subst e
      rw [if_pos ⟨rfl, rfl, rfl⟩, bit_or]
      simp
    · rw [if_neg fun q => e q.2.2]
      simp [e]
  · rw [if_neg hg]
    have : ¬ g' = g := by omega
    simp [this]
def tb_X6_driveOn : Tb := [(0, .iconst 0, 1, xI (0)), (1, .istore 6, 2, x0), (3, .iload 6, 2, x0), (5, .aload_n 0, 1, x0), (6, .getfield 23, 3, xF 7 3 [100]), (9, .invokevirtual 68, 3, xS 1 0 s_Jx4a65c_size_8abf5), (12, .if_icmp .ge 87, 3, xN 99), (15, .aload_n 0, 1, x0), (16, .getfield 23, 3, xF 7 3 [100]), (19, .iload 6, 2, x0), (21, .invokevirtual 234, 3, xS 2 0 s_Jx4a65c_get_915e3), (24, .checkcast 75, 3, xF 5 0 [256]), (27, .astore 7, 2, x0), (29, .aload 7, 2, x0), (31, .iload_n 3, 1, x0), (32, .invokestatic 337, 3, xS 2 0 s_X6_placesBeyond), (35, .istore 8, 2, x0), (37, .iload_n 2, 1, x0), (38, .iload 6, 2, x0), (40, .ishr, 1, x0), (41, .iconst 1, 1, xI (1)), (42, .iand, 1, x0), (43, .iconst 1, 1, xI (1)), (44, .if_icmp .ne 7, 3, xN 51), (47, .iconst 1, 1, xI (1)), (48, .goto 4, 3, xN 52), (51, .iconst 0, 1, xI (0)), (52, .istore 9, 2, x0), (54, .iload 8, 2, x0), (56, .ifCond .eq 37, 3, xN 93), (59, .iload 9, 2, x0), (61, .ifCond .eq 32, 3, xN 93), (64, .aload_n 0, 1, x0), (65, .iload_n 1, 1, x0), (66, .iload 6, 2, x0), (68, .iload 4, 2, x0), (70, .iload 5, 2, x0), (72, .iadd, 1, x0), (73, .invokevirtual 341, 3, xS 4 0 s_X6_isOpen), (76, .ifCond .eq 17, 3, xN 93), (79, .aload_n 0, 1, x0), (80, .iload 5, 2, x0), (82, .aload 7, 2, x0), (84, .getfield 188, 3, xF 5 6 [275]), (87, .iadd, 1, x0), (88, .iload 8, 2, x0), (90, .invokevirtual 204, 3, xS 3 0 s_X6_reach), (93, .iinc 6 1, 3, xI (1)), (96, .goto (-93), 3, xN 3), (99, .return_, 1, x0)]
theorem chk_X6_driveOn : chkTb cX6_driveOn "HeavyHaul" false tb_X6_driveOn = true := by decide +kernel
theorem cal_X6_driveOn {l : Launch} (hl : l.stackTraces = false) (hNL : NewL l) : CallsOK l "HeavyHaul" 6 tb_X6_driveOn := callsOK_f ⟨⟨_, _, 1, 0, _, 0, (ct_Jx4a65c_size_8abf5 hl hNL), ⟨List.mem_of_getElem? (i := 236) (by decide +kernel), List.mem_of_getElem? (i := 29) (by decide +kernel), List.mem_of_getElem? (i := 233) (by decide +kernel), ⟨by decide +kernel, by decide +kernel⟩, by decide +kernel, by decide⟩, List.mem_of_getElem? (i := 234) (by decide +kernel), List.mem_of_getElem? (i := 235) (by decide +kernel), by decide, by decide, rc_Jx4a65c_size_8abf5⟩, ⟨_, _, 2, 2, _, 0, (ct_Jx4a65c_get_915e3 hl hNL), ⟨List.mem_of_getElem? (i := 519) (by decide +kernel), List.mem_of_getElem? (i := 29) (by decide +kernel), List.mem_of_getElem? (i := 516) (by decide +kernel), ⟨by decide +kernel, by decide +kernel⟩, by decide +kernel, by decide⟩, List.mem_of_getElem? (i := 517) (by decide +kernel), List.mem_of_getElem? (i := 518) (by decide +kernel), by decide, by decide, rc_Jx4a65c_get_915e3⟩, ⟨_, _, 3, 0, _, (ct_X6_placesBeyond hl hNL), ⟨List.mem_of_getElem? (i := 756) (by decide +kernel), List.mem_of_getElem? (i := 26) (by decide +kernel), List.mem_of_getElem? (i := 754) (by decide +kernel), ⟨by decide +kernel, by decide +kernel⟩, by decide +kernel, by decide⟩, List.mem_of_getElem? (i := 755) (by decide +kernel), by decide⟩, ⟨_, _, 4, 5, _, 7, (ct_X6_isOpen hl hNL), ⟨List.mem_of_getElem? (i := 760) (by decide +kernel), List.mem_of_getElem? (i := 26) (by decide +kernel), List.mem_of_getElem? (i := 757) (by decide +kernel), ⟨by decide +kernel, by decide +kernel⟩, by decide +kernel, by decide⟩, List.mem_of_getElem? (i := 759) (by decide +kernel), List.mem_of_getElem? (i := 24) (by decide +kernel), by decide, by decide, rc_X6_isOpen⟩, ⟨_, _, 3, 0, _, 7, (ct_X6_reach hl hNL), ⟨List.mem_of_getElem? (i := 749) (by decide +kernel), List.mem_of_getElem? (i := 26) (by decide +kernel), List.mem_of_getElem? (i := 746) (by decide +kernel), ⟨by decide +kernel, by decide +kernel⟩, by decide +kernel, by decide⟩, List.mem_of_getElem? (i := 748) (by decide +kernel), List.mem_of_getElem? (i := 22) (by decide +kernel), by decide, by decide, rc_X6_reach⟩, trivial⟩
theorem ar_X6_driveOn : ∀ as S P, s_X6_driveOn as S P → as.length ≤ 10 ∧ ∀ a ∈ as, catV a = 1 := fun as S P h => by
  obtain ⟨_, _, _, _, _, rfl, _⟩ := o5_ok h
  exact ar_all ⟨Nat.le_of_ble_eq_true rfl, rfl⟩
theorem rc_X6_driveOn : ∀ as S P, s_X6_driveOn as S P → ∃ k i r, as = aR k i :: r ∧ ci k = 7 ∧ (obK k = true ∨ k = 13) := fun as S P h => by
  obtain ⟨_, _, _, _, _, rfl, _⟩ := o5_ok h
  exact ⟨_, _, _, rfl, rfl, Or.inl rfl⟩
theorem stpN_s {S : Sto} {rig fit first : Int32} {hr : Nat → Bool} {gone g p n : Nat} : stpN S rig fit first hr gone g p (n + 1) = (stpN S rig fit first hr gone g p n || (beyN S n hr p && ((bit fit n && openH S rig (nI n) (first + nI gone)) && decide (g = gone + tnN S n)))) := rfl
theorem vc_X6_driveOn : ∀ (G : Gt) (Q : Out → Sto → Prop) (as : List AV) (S : Sto), s_X6_driveOn as S Q → Seg tb_X6_driveOn G Q 0 0 [] (0, fun _ => 0) → G 0 (argL as 10) [] S 0 := by
  intro G Q as S h hs
  obtain ⟨rig, fit, here, first, gone, rfl, hW, hr, gn, rfl, hgn, hQ⟩ := o5_ok h
  have hn : S.2.2 20 ≤ 20 := hW.2.1.1
  have loop : ∀ m k, k + m = S.2.2 20 → ∀ Sk, onlyR S Sk → (∀ g p, g < 288 → p < 10 → bit (Sk.1 10 2 g) p = (bit (S.1 10 2 g) p || stpN S rig fit first (bit here) gn g p k)) → ∀ x y z, G 3 [some (aR 0 0), some (aI rig), some (aI fit), some (aI here), some (aI first), some (aI (nI gn)), some (aI (nI k)), x, y, z] [] Sk 0 := by
    intro m
    induction m with
    | zero =>
      intro k hk Sk hO hb x y z
      obtain rfl : k = S.2.2 20 := hk
      refine hs [3] 60 3 _ _ _ _ ?_
      have hWk := hO.wf hW
      have w13 := hWk.1
      have e : Sk.2.2 20 = S.2.2 20 := by rw [hO.1]
      refine ⟨rfl, by omega, fun _ => hQ Sk hO hb, fun q => ?_⟩
      have q' : ¬ nI (Sk.2.2 20) ≤ nI (S.2.2 20) := q
      rw [e] at q'
      exact (lp_end q').elim
    | succ m ih =>
      intro k hk Sk hO hb x y z
      have hWk := hO.wf hW
      have w13 := hWk.1
      have e : Sk.2.2 20 = S.2.2 20 := by rw [hO.1]
      have hkk : k < Sk.2.2 20 := by omega
      have hnk : Sk.2.2 20 ≤ 1000 := by omega
      have e22 : Sk.2.2 22 = S.2.2 22 := by rw [hO.1]
      have hrk : inN rig (Sk.2.2 22) := by rw [e22]; exact hr
      have hdk : inN (nI k) (Sk.2.2 20) := ⟨lp_nn hnk hkk, lp_in hnk hkk⟩
      have hbn : ∀ hr p, beyN Sk k hr p = beyN S k hr p := fun hr p => by unfold beyN onN otN; rw [hO.k 2 (by decide)]
      have htn : tnN Sk k = tnN S k := by unfold tnN; rw [hO.k 2 (by decide)]
      obtain ⟨-, -, ht, -, -, -, -, ht9⟩ := ro_N hWk hkk
      have skip : ∀ y' z', (∀ g p, g < 288 → p < 10 → (beyN S k (bit here) p && ((bit fit k && openH S rig (nI k) (first + nI gn)) && decide (g = gn + tnN S k))) = false) → G 3 [some (aR 0 0), some (aI rig), some (aI fit), some (aI here), some (aI first), some (aI (nI gn)), some (aI (nI k + 1)), some (aR 2 k), y', z'] [] Sk 0 := fun y' z' hf => by
        rw [nI_s]
        exact ih (k + 1) (by omega) Sk hO (fun g p hg hp => by rw [stpN_s, hf g p hg hp, Bool.or_false]; exact hb g p hg hp) _ _ _
      refine hs [3] 60 3 _ _ _ _ ?_
      refine ⟨rfl, by omega, fun q => absurd q (lp_go hnk hkk), fun _ => ⟨rfl, by omega, lp_nn hnk hkk, lp_in hnk hkk, ?_⟩⟩
      rw [lp_cl hnk hkk]
      refine ⟨rfl, hWk, hkk, fun b hbb => ?_⟩
      have hbb' : ∀ p, p < 10 → bit b p = beyN S k (bit here) p := fun p hp => (hbb p hp).trans (hbn _ _)
      have zb : b = 0 → ∀ g p, g < 288 → p < 10 → (beyN S k (bit here) p && ((bit fit k && openH S rig (nI k) (first + nI gn)) && decide (g = gn + tnN S k))) = false := fun z0 g p _ hp => by
        rw [← hbb' p hp, z0, bit_0, Bool.false_and]
      have tf : (fit >>> (nI k &&& 31)) &&& 1 = 1 ↔ bit fit k = true := t_bit fit k (by omega)
      refine ⟨fun z1 => ⟨fun z2 => skip _ _ (zb z2), fun z2 => ⟨fun _ => skip _ _ fun g p _ _ => ?_, fun q => absurd rfl q⟩⟩, fun z1 => ⟨fun z2 => skip _ _ (zb z2), fun z2 => ⟨fun q => absurd q (by decide), fun _ => ⟨rfl, rfl, hWk, hrk, hdk, ?_⟩⟩⟩⟩
      · have : bit fit k = false := by
          cases hh : bit fit k with
          | true => exact absurd (tf.mpr hh) z1
          | false => rfl
        rw [this, Bool.false_and, Bool.false_and, Bool.and_false]
      · cases ho : openH Sk rig (nI k) (first + nI gn) with
        | false =>
          refine ⟨fun _ => skip _ _ fun g p _ _ => ?_, fun q => absurd rfl q⟩
          rw [← hO.op, ho, Bool.and_false, Bool.false_and, Bool.and_false]
        | true =>
          refine ⟨fun q => absurd q (by decide), fun _ => ⟨rfl, rfl, gn + tnN Sk k, ?_, by omega, ?_⟩⟩
          · show nI gn + Sk.1 2 6 k = _
            rw [ht, nI_add]
          · have h1 := ih (k + 1) (by omega) (rchS Sk (gn + tnN Sk k) b) (hO.tr rch_only) (fun g p hg hp => by
              rw [rch_bit hg, hb g p hg hp, stpN_s, ← hO.op, ho, tf.mp z1, hbb' p hp, htn, Bool.true_and, Bool.true_and, Bool.or_assoc, Bool.and_comm (decide _)]) (some (aR 2 k)) (some (aI b)) (some (aI 1))
            rw [← nI_s] at h1
            exact h1
  exact hs [3] 60 0 _ _ _ _ (loop (S.2.2 20) 0 (by omega) S onlyR.rf (fun g p _ _ => by show _ = (_ || false); rw [Bool.or_false]) none none none)
theorem ct_X6_driveOn {l : Launch} (hl : l.stackTraces = false) (hNL : NewL l) : CT l yX6_driveOn cX6_driveOn 10 none 6 0 s_X6_driveOn := CT_of hl hNL (by decide +kernel) (own := "HeavyHaul") rfl (ini := false) (fun q => nomatch q) chk_X6_driveOn (cal_X6_driveOn hl hNL) ar_X6_driveOn vc_X6_driveOn
end
section
/-! THE EARLIEST ARRIVAL -/
theorem anyN_c {p q : Nat → Bool} {n : Nat} (h : ∀ i, i < n → p i = q i) : anyN p n = anyN q n := by
  induction n with
  | zero => rfl
  | succ n ih =>
    show (anyN p n || p n) = (anyN q n || q n)
    rw [ih (fun i hi => h i (by omega)), h n (by omega)]
def tabH (S : Sto) (rig fr ten : Int32) : Nat → Nat → Nat → Bool := tabG (bayH S) (onN S) (otN S) (tnN S) (fun i n => fitH S rig.toNatClampNeg i && openH S rig (nI i) (ten + nI n)) (S.2.2 20) fr.toNatClampNeg
def arrH (S : Sto) (rig fr to ten : Int32) : Int32 := fstF (fun g => tabH S rig fr ten g g to.toNatClampNeg) ten 288 0
def knA (S : Sto) (rig fr to : Int32) : Prop := inN rig (S.2.2 22) ∧ inN fr 10 ∧ inN to 10
def tenA (ten : Int32) : Prop := ¬ ten < 0 ∧ ¬ 9999 < ten
def s_X6_arrives : SP := fun as S Q => o4 0 as fun rig fr to ten => WfH S ∧ (¬ knA S rig fr to → Q (Sum.inr 0) S) ∧ (knA S rig fr to → ¬ tenA ten → Q (Sum.inr 1) S) ∧ (knA S rig fr to → tenA ten → ∀ S', onlyR S S' → Q (Sum.inl (some (aI (arrH S rig fr to ten)))) S')
def tb_X6_arrives : Tb := [(0, .iload_n 1, 1, x0), (1, .aload_n 0, 1, x0), (2, .getfield 30, 3, xF 7 5 [102]), (5, .invokevirtual 68, 3, xS 1 0 s_Jx4a65c_size_8abf5), (8, .invokestatic 53, 3, xS 2 1 s_X6_needNumber), (11, .iload_n 2, 1, x0), (12, .bipush 10, 2, xI (10)), (14, .invokestatic 53, 3, xS 2 1 s_X6_needNumber), (17, .iload_n 3, 1, x0), (18, .bipush 10, 2, xI (10)), (20, .invokestatic 53, 3, xS 2 1 s_X6_needNumber), (23, .iload 4, 2, x0), (25, .iconst 0, 1, xI (0)), (26, .sipush 9999, 3, xI (9999)), (29, .invokestatic 64, 3, xS 3 1 s_X6_needRange), (32, .aload_n 0, 1, x0), (33, .getfield 39, 3, xF 7 8 [105]), (36, .iconst 0, 1, xI (0)), (37, .invokestatic 47, 3, xS 2 0 s_J7_fill_53178), (40, .aload_n 0, 1, x0), (41, .getfield 39, 3, xF 7 8 [105]), (44, .iconst 0, 1, xI (0)), (45, .iconst 1, 1, xI (1)), (46, .iload_n 2, 1, x0), (47, .ishl, 1, x0), (48, .iastore, 1, x0), (49, .aload_n 0, 1, x0), (50, .aload_n 0, 1, x0), (51, .iload_n 1, 1, x0), (52, .invokevirtual 123, 3, xS 2 0 s_X6_rigOf0), (55, .invokevirtual 197, 3, xS 2 0 s_X6_roadsFitFor), (58, .istore 5, 2, x0), (60, .aload_n 0, 1, x0), (61, .invokevirtual 201, 3, xS 1 0 s_X6_placesWithBay), (64, .istore 6, 2, x0), (66, .iconst 0, 1, xI (0)), (67, .istore 7, 2, x0), (69, .iload 7, 2, x0), (71, .sipush 288, 3, xI (288)), (74, .if_icmp .ge 65, 3, xN 139), (77, .aload_n 0, 1, x0), (78, .getfield 39, 3, xF 7 8 [105]), (81, .iload 7, 2, x0), (83, .iaload, 1, x0), (84, .istore 8, 2, x0), (86, .iload 8, 2, x0), (88, .iload_n 3, 1, x0), (89, .ishr, 1, x0), (90, .iconst 1, 1, xI (1)), (91, .iand, 1, x0), (92, .iconst 1, 1, xI (1)), (93, .if_icmp .ne 9, 3, xN 102), (96, .iload 4, 2, x0), (98, .iload 7, 2, x0), (100, .iadd, 1, x0), (101, .ireturn, 1, x0), (102, .aload_n 0, 1, x0), (103, .iload 7, 2, x0), (105, .iconst 1, 1, xI (1)), (106, .iadd, 1, x0), (107, .iload 8, 2, x0), (109, .iload 6, 2, x0), (111, .iand, 1, x0), (112, .invokevirtual 204, 3, xS 3 0 s_X6_reach), (115, .iload 8, 2, x0), (117, .ifCond .eq 16, 3, xN 133), (120, .aload_n 0, 1, x0), (121, .iload_n 1, 1, x0), (122, .iload 5, 2, x0), (124, .iload 8, 2, x0), (126, .iload 4, 2, x0), (128, .iload 7, 2, x0), (130, .invokevirtual 207, 3, xS 6 0 s_X6_driveOn), (133, .iinc 7 1, 3, xI (1)), (136, .goto (-67), 3, xN 69), (139, .iconst (-1), 1, xI (-1)), (140, .ireturn, 1, x0)]
theorem chk_X6_arrives : chkTb cX6_arrives "HeavyHaul" false tb_X6_arrives = true := by decide +kernel
theorem cal_X6_arrives {l : Launch} (hl : l.stackTraces = false) (hNL : NewL l) : CallsOK l "HeavyHaul" 7 tb_X6_arrives := callsOK_f ⟨⟨_, _, 1, 0, _, 0, (ct_Jx4a65c_size_8abf5 hl hNL), ⟨List.mem_of_getElem? (i := 236) (by decide +kernel), List.mem_of_getElem? (i := 29) (by decide +kernel), List.mem_of_getElem? (i := 233) (by decide +kernel), ⟨by decide +kernel, by decide +kernel⟩, by decide +kernel, by decide⟩, List.mem_of_getElem? (i := 234) (by decide +kernel), List.mem_of_getElem? (i := 235) (by decide +kernel), by decide, by decide, rc_Jx4a65c_size_8abf5⟩, ⟨_, _, 2, 0, _, (ct_X6_needNumber hl hNL), ⟨List.mem_of_getElem? (i := 144) (by decide +kernel), List.mem_of_getElem? (i := 26) (by decide +kernel), List.mem_of_getElem? (i := 142) (by decide +kernel), ⟨by decide +kernel, by decide +kernel⟩, by decide +kernel, by decide⟩, List.mem_of_getElem? (i := 143) (by decide +kernel), by decide⟩, ⟨_, _, 2, 0, _, (ct_X6_needNumber hl hNL), ⟨List.mem_of_getElem? (i := 144) (by decide +kernel), List.mem_of_getElem? (i := 26) (by decide +kernel), List.mem_of_getElem? (i := 142) (by decide +kernel), ⟨by decide +kernel, by decide +kernel⟩, by decide +kernel, by decide⟩, List.mem_of_getElem? (i := 143) (by decide +kernel), by decide⟩, ⟨_, _, 2, 0, _, (ct_X6_needNumber hl hNL), ⟨List.mem_of_getElem? (i := 144) (by decide +kernel), List.mem_of_getElem? (i := 26) (by decide +kernel), List.mem_of_getElem? (i := 142) (by decide +kernel), ⟨by decide +kernel, by decide +kernel⟩, by decide +kernel, by decide⟩, List.mem_of_getElem? (i := 143) (by decide +kernel), by decide⟩, ⟨_, _, 3, 0, _, (ct_X6_needRange hl hNL), ⟨List.mem_of_getElem? (i := 231) (by decide +kernel), List.mem_of_getElem? (i := 26) (by decide +kernel), List.mem_of_getElem? (i := 229) (by decide +kernel), ⟨by decide +kernel, by decide +kernel⟩, by decide +kernel, by decide⟩, List.mem_of_getElem? (i := 230) (by decide +kernel), by decide⟩, ⟨_, _, 4, 0, _, (ct_J7_fill_53178 hl hNL), ⟨List.mem_of_getElem? (i := 96) (by decide +kernel), List.mem_of_getElem? (i := 30) (by decide +kernel), List.mem_of_getElem? (i := 94) (by decide +kernel), ⟨by decide +kernel, by decide +kernel⟩, by decide +kernel, by decide⟩, List.mem_of_getElem? (i := 95) (by decide +kernel), by decide⟩, ⟨_, _, 2, 3, _, 7, (ct_X6_rigOf0 hl hNL), ⟨List.mem_of_getElem? (i := 578) (by decide +kernel), List.mem_of_getElem? (i := 26) (by decide +kernel), List.mem_of_getElem? (i := 575) (by decide +kernel), ⟨by decide +kernel, by decide +kernel⟩, by decide +kernel, by decide⟩, List.mem_of_getElem? (i := 577) (by decide +kernel), List.mem_of_getElem? (i := 8) (by decide +kernel), by decide, by decide, rc_X6_rigOf0⟩, ⟨_, _, 4, 5, _, 7, (ct_X6_roadsFitFor hl hNL), ⟨List.mem_of_getElem? (i := 741) (by decide +kernel), List.mem_of_getElem? (i := 26) (by decide +kernel), List.mem_of_getElem? (i := 738) (by decide +kernel), ⟨by decide +kernel, by decide +kernel⟩, by decide +kernel, by decide⟩, List.mem_of_getElem? (i := 740) (by decide +kernel), List.mem_of_getElem? (i := 20) (by decide +kernel), by decide, by decide, rc_X6_roadsFitFor⟩, ⟨_, _, 3, 1, _, 7, (ct_X6_placesWithBay hl hNL), ⟨List.mem_of_getElem? (i := 745) (by decide +kernel), List.mem_of_getElem? (i := 26) (by decide +kernel), List.mem_of_getElem? (i := 742) (by decide +kernel), ⟨by decide +kernel, by decide +kernel⟩, by decide +kernel, by decide⟩, List.mem_of_getElem? (i := 744) (by decide +kernel), List.mem_of_getElem? (i := 21) (by decide +kernel), by decide, by decide, rc_X6_placesWithBay⟩, ⟨_, _, 3, 0, _, 7, (ct_X6_reach hl hNL), ⟨List.mem_of_getElem? (i := 749) (by decide +kernel), List.mem_of_getElem? (i := 26) (by decide +kernel), List.mem_of_getElem? (i := 746) (by decide +kernel), ⟨by decide +kernel, by decide +kernel⟩, by decide +kernel, by decide⟩, List.mem_of_getElem? (i := 748) (by decide +kernel), List.mem_of_getElem? (i := 22) (by decide +kernel), by decide, by decide, rc_X6_reach⟩, ⟨_, _, 10, 6, _, 7, (ct_X6_driveOn hl hNL), ⟨List.mem_of_getElem? (i := 753) (by decide +kernel), List.mem_of_getElem? (i := 26) (by decide +kernel), List.mem_of_getElem? (i := 750) (by decide +kernel), ⟨by decide +kernel, by decide +kernel⟩, by decide +kernel, by decide⟩, List.mem_of_getElem? (i := 752) (by decide +kernel), List.mem_of_getElem? (i := 23) (by decide +kernel), by decide, by decide, rc_X6_driveOn⟩, trivial⟩
theorem ar_X6_arrives : ∀ as S P, s_X6_arrives as S P → as.length ≤ 9 ∧ ∀ a ∈ as, catV a = 1 := fun as S P h => by
  obtain ⟨_, _, _, _, rfl, _⟩ := o4_ok h
  exact ar_all ⟨Nat.le_of_ble_eq_true rfl, rfl⟩
theorem rc_X6_arrives : ∀ as S P, s_X6_arrives as S P → ∃ k i r, as = aR k i :: r ∧ ci k = 7 ∧ (obK k = true ∨ k = 13) := fun as S P h => by
  obtain ⟨_, _, _, _, rfl, _⟩ := o4_ok h
  exact ⟨_, _, _, rfl, rfl, Or.inl rfl⟩
theorem fill_only {S : Sto} {v : Int32} {n : Nat} : onlyR S (fillS S 2 v n) := ⟨rfl, fun k f i q => if_neg fun z => q ⟨z.1, z.2.1⟩⟩
theorem vc_X6_arrives : ∀ (G : Gt) (Q : Out → Sto → Prop) (as : List AV) (S : Sto), s_X6_arrives as S Q → Seg tb_X6_arrives G Q 1 4 [] (0, fun _ => 0) → G 0 (argL as 9) [] S 0 := by
  intro G Q as S h hs
  obtain ⟨rig, fr, to, ten, rfl, hW, hQ0, hQ1, hQ⟩ := o4_ok h
  have w13 := hW.1
  have hn : S.2.2 20 ≤ 20 := hW.2.1.1
  -- the main part
  have main : knA S rig fr to → tenA ten → ∀ S0, onlyR S S0 → (∀ g p, g < 288 → p < 10 → bit (S0.1 10 2 g) p = tabH S rig fr ten 0 g p) → ∀ x, G 69 [some (aR 0 0), some (aI rig), some (aI fr), some (aI to), some (aI ten), some (aI (mkW (fitH S rig.toNatClampNeg) (S.2.2 20))), some (aI (mkW (bayH S) 10)), some (aI (nI 0)), x] [] S0 4 := by
    intro hk ht
    obtain ⟨hr, hf, hto⟩ := hk
    have hQ' := hQ ⟨hr, hf, hto⟩ ht
    have ht10 : to.toNatClampNeg < 10 := inN_lt hto (by omega)
    have eto : to = nI to.toNatClampNeg := by
      obtain ⟨q, hq, rfl⟩ := nI_of (Int32.not_lt.mpr hto.1)
      rw [nI_cl hq]
    have bfit : ∀ i, i < S.2.2 20 → bit (mkW (fitH S rig.toNatClampNeg) (S.2.2 20)) i = fitH S rig.toNatClampNeg i := fun i hi => by
      rw [bit_mk _ _ _ hn (by omega), decide_eq_true hi, Bool.true_and]
    have bbay : ∀ p, p < 10 → bit (mkW (bayH S) 10) p = bayH S p := fun p hp => by
      rw [bit_mk _ _ _ (by omega) (by omega), decide_eq_true hp, Bool.true_and]
    generalize mkW (fitH S rig.toNatClampNeg) (S.2.2 20) = fit at bfit
    generalize mkW (bayH S) 10 = bays at bbay
    have loop : ∀ m k, k + m = 288 → (∀ S', onlyR S S' → Q (Sum.inl (some (aI (fstF (fun g => tabH S rig fr ten g g to.toNatClampNeg) ten m k)))) S') → ∀ Sk, onlyR S Sk → (∀ g p, g < 288 → p < 10 → bit (Sk.1 10 2 g) p = tabH S rig fr ten k g p) →
        ∀ x, G 69 [some (aR 0 0), some (aI rig), some (aI fr), some (aI to), some (aI ten), some (aI fit), some (aI bays), some (aI (nI k)), x] [] Sk 4 := by
      intro m
      induction m with
      | zero =>
        intro k hk hq Sk hO hb x
        obtain rfl : k = 288 := hk
        refine hs [69] 60 69 _ _ _ _ ?_
        exact ⟨fun _ => hq Sk hO, fun q => absurd (by decide) q⟩
      | succ m ih =>
        intro k hk hq Sk hO hb x
        have hk2 : k < 288 := by omega
        have hWk := hO.wf hW
        have e22 : Sk.2.2 22 = S.2.2 22 := by rw [hO.1]
        have e20 : Sk.2.2 20 = S.2.2 20 := by rw [hO.1]
        refine hs [69] 60 69 _ _ _ _ ?_
        refine ⟨fun q => absurd q (lp_go (n := 288) (by omega) hk2), fun _ => ⟨nI_vin (by omega) hk2, ?_⟩⟩
        rw [nI_cl (by omega)]
        have hbk := fun p hp => hb k p hk2 hp
        generalize Sk.1 10 2 k = here at hbk
        have tt : (here >>> (to &&& 31)) &&& 1 = 1 ↔ tabH S rig fr ten k k to.toNatClampNeg = true := by
          rw [eto, t_bit here _ (by omega), ← eto, hbk _ ht10]
        refine ⟨fun z => ⟨rfl, rfl, k + 1, nI_s k, by omega, ?_⟩, fun z => ?_⟩
        · have hq' : ∀ S', onlyR S S' → Q (Sum.inl (some (aI (fstF (fun g => tabH S rig fr ten g g to.toNatClampNeg) ten m (k + 1))))) S' := fun S' hS' => by
            have h1 := hq S' hS'
            unfold fstF at h1
            rw [if_neg fun q => z (tt.mpr q)] at h1
            exact h1
          have hO1 : onlyR S (rchS Sk (k + 1) (here &&& bays)) := hO.tr rch_only
          have hb1 : ∀ g p, g < 288 → p < 10 → bit ((rchS Sk (k + 1) (here &&& bays)).1 10 2 g) p = (tabH S rig fr ten k g p || (decide (g = k + 1) && (tabH S rig fr ten k k p && bayH S p))) := fun g p hg hp => by
            rw [rch_bit hg, hb g p hg hp, bit_and, hbk p hp, bbay p hp]
          have hstep : ∀ g p, tabH S rig fr ten (k + 1) g p = ((tabH S rig fr ten k g p || (decide (g = k + 1) && (tabH S rig fr ten k k p && bayH S p))) || anyN (fun i => ((tabH S rig fr ten k k (onN S i) && decide (p = otN S i)) || (tabH S rig fr ten k k (otN S i) && decide (p = onN S i))) && ((fitH S rig.toNatClampNeg i && openH S rig (nI i) (ten + nI k)) && decide (g = k + tnN S i))) (S.2.2 20)) := fun g p => rfl
          have hgo := ih (k + 1) (by omega) hq'
          refine ⟨fun z0 => ?_, fun z0 => ?_⟩
          · have h1 := hgo (rchS Sk (k + 1) (here &&& bays)) hO1 (fun g p hg hp => by
              rw [hb1 g p hg hp, hstep, anyN_f (fun i hi => ?_), Bool.or_false]
              obtain ⟨-, -, -, r4, r5, -⟩ := ro_N hW hi
              rw [← hbk _ r4, ← hbk _ r5, z0, bit_0, bit_0, Bool.false_and, Bool.false_and, Bool.or_false, Bool.false_and]) (some (aI here))
            rw [← nI_s] at h1
            exact h1
          · refine ⟨rfl, rfl, hO1.wf hW, ?_, k, rfl, hk2, fun S2 hO2 hb2 => ?_⟩
            · have e9 : (rchS Sk (k + 1) (here &&& bays)).2.2 22 = S.2.2 22 := by rw [hO1.1]
              rw [e9]
              exact hr
            · have h1 := hgo S2 (hO1.tr hO2) (fun g p hg hp => by
                rw [hb2 g p hg hp, hb1 g p hg hp, hstep]
                congr 1
                have e8 : (rchS Sk (k + 1) (here &&& bays)).2.2 20 = S.2.2 20 := by rw [hO1.1]
                unfold stpN
                rw [e8]
                refine anyN_c fun i hi => ?_
                obtain ⟨-, -, -, r4, r5, -⟩ := ro_N hW hi
                have eo : ∀ i, onN (rchS Sk (k + 1) (here &&& bays)) i = onN S i := fun i => by unfold onN; rw [hO1.k 2 (by decide)]
                have et : ∀ i, otN (rchS Sk (k + 1) (here &&& bays)) i = otN S i := fun i => by unfold otN; rw [hO1.k 2 (by decide)]
                have en : ∀ i, tnN (rchS Sk (k + 1) (here &&& bays)) i = tnN S i := fun i => by unfold tnN; rw [hO1.k 2 (by decide)]
                unfold beyN
                rw [hO1.op, bfit i hi, eo, et, en, hbk _ r4, hbk _ r5]) (some (aI here))
              rw [← nI_s] at h1
              exact h1
        · have h1 := hq Sk hO
          unfold fstF at h1
          rw [if_pos (tt.mp z)] at h1
          exact h1
    intro S0 hO hb x
    exact loop 288 0 (by omega) hQ' S0 hO hb x
  have e0 : ¬ knA S rig fr to → Q (Sum.inr 0) S := hQ0
  refine hs [69] 120 0 _ _ _ _ ?_
  refine ⟨rfl, by omega, fun a1 => e0 fun z => absurd z.1.1 (Int32.not_le.mpr a1), fun a1 => ⟨fun a2 => ?_, fun a2 => e0 fun z => a2 z.1.2⟩⟩
  refine ⟨fun b1 => e0 fun z => absurd z.2.1.1 (Int32.not_le.mpr b1), fun b1 => ⟨fun b2 => ?_, fun b2 => e0 fun z => b2 z.2.1.2⟩⟩
  refine ⟨fun c1 => e0 fun z => absurd z.2.2.1 (Int32.not_le.mpr c1), fun c1 => ⟨fun c2 => ?_, fun c2 => e0 fun z => c2 z.2.2.2⟩⟩
  have hk : knA S rig fr to := ⟨⟨Int32.not_lt.mp a1, a2⟩, ⟨Int32.not_lt.mp b1, b2⟩, ⟨Int32.not_lt.mp c1, c2⟩⟩
  refine ⟨fun d1 => hQ1 hk fun z => z.1 d1, fun d1 => ⟨fun d2 => ?_, fun d2 => hQ1 hk fun z => d2 (Int32.not_lt.mp z.2)⟩⟩
  have ht : tenA ten := ⟨d1, Int32.not_lt.mpr d2⟩
  have hfr : fr.toNatClampNeg < 10 := inN_lt hk.2.1 (by omega)
  have efr : fr = nI fr.toNatClampNeg := by
    obtain ⟨q, hq, rfl⟩ := nI_of b1
    rw [nI_cl hq]
  have hj : rig.toNatClampNeg < S.2.2 22 := inN_lt hk.1 (by have := hW.2.1.2.2.1; omega)
  refine ⟨rfl, by omega, nI_vin (a := 0) (by omega) (by decide), ?_⟩
  have hO : onlyR S (wrI (fillS S 2 0 (al 10 2)) 10 2 (0 : Int32).toNatClampNeg ((1 : Int32) <<< (fr &&& 31))) := fill_only.tr onlyR.wr
  have hb : ∀ g p, g < 288 → p < 10 → bit ((wrI (fillS S 2 0 (al 10 2)) 10 2 (0 : Int32).toNatClampNeg ((1 : Int32) <<< (fr &&& 31))).1 10 2 g) p = tabH S rig fr ten 0 g p := fun g p hg hp => by
    rw [wrI_at]
    show _ = (decide (g = 0) && decide (p = fr.toNatClampNeg))
    have ez : (0 : Int32).toNatClampNeg = 0 := nI_cl (n := 0) (by omega)
    rw [ez]
    by_cases hg0 : g = 0
    · rw [if_pos ⟨rfl, rfl, hg0⟩, decide_eq_true hg0, Bool.true_and]
      have := bit_1 fr.toNatClampNeg (by omega) p (by omega)
      rw [← efr] at this
      exact this
    · rw [if_neg fun q => hg0 q.2.2, decide_eq_false hg0, Bool.false_and]
      have e : (fillS S 2 0 (al 10 2)).1 10 2 g = 0 := if_pos ⟨rfl, rfl, hg⟩
      rw [e, bit_0]
  have hm := main hk ht _ hO hb none
  generalize wrI (fillS S 2 0 (al 10 2)) 10 2 (0 : Int32).toNatClampNeg ((1 : Int32) <<< (fr &&& 31)) = S0 at hO hm ⊢
  have e22 : S0.2.2 22 = S.2.2 22 := by rw [hO.1]
  have e20 : S0.2.2 20 = S.2.2 20 := by rw [hO.1]
  have ef : fitH S0 rig.toNatClampNeg = fitH S rig.toNatClampNeg := by
    funext i
    unfold fitH
    rw [hO.la]
  have eb : bayH S0 = bayH S := by
    funext i
    unfold bayH
    rw [hO.k 11 (by decide)]
  rw [← ef, ← eb, ← e20] at hm
  exact ⟨rfl, rfl, hO.wf hW, by rw [e22]; exact hk.1, rfl, rfl, rfl, hO.wf hW, by rw [e22]; exact hj, rfl, rfl, hm⟩
theorem ct_X6_arrives {l : Launch} (hl : l.stackTraces = false) (hNL : NewL l) : CT l yX6_arrives cX6_arrives 9 (some .int) 7 4 s_X6_arrives := CT_of hl hNL (by decide +kernel) (own := "HeavyHaul") rfl (ini := false) (fun q => nomatch q) chk_X6_arrives (cal_X6_arrives hl hNL) ar_X6_arrives vc_X6_arrives
end
section
/-! TIME -/
def rdT (S : Sto) (i : Nat) : Int32 := if S.1 4 9 i = -1 then -1 else if S.1 0 9 0 + 1 < S.1 4 10 i then S.1 4 9 i else -1
def dayB (now : Int32) : Bool := decide (36 ≤ now - now / 144 * 144)
def brT (S : Sto) (i : Nat) : Int32 := if S.1 4 9 i = -1 ∧ dayB (S.1 0 9 0) = true ∧ S.1 11 0 (S.1 4 8 i).toNatClampNeg = 0 then S.1 4 11 i + 1 else S.1 4 11 i
def tenS (S : Sto) (n : Nat) : Sto := (fun k f i => if k = 0 ∧ f = 9 ∧ i = 0 then S.1 0 9 0 + 1 else if k = 4 ∧ f = 9 ∧ i < n then rdT S i else if k = 4 ∧ f = 11 ∧ i < n then brT S i else S.1 k f i, S.2)
theorem tenS_at {S : Sto} {n k f i : Nat} : (tenS S n).1 k f i = if k = 0 ∧ f = 9 ∧ i = 0 then S.1 0 9 0 + 1 else if k = 4 ∧ f = 9 ∧ i < n then rdT S i else if k = 4 ∧ f = 11 ∧ i < n then brT S i else S.1 k f i := rfl
theorem tenS_o {S : Sto} {n k f i : Nat} (h : ¬ (k = 0 ∧ f = 9) ∧ ¬ (k = 4 ∧ f = 9) ∧ ¬ (k = 4 ∧ f = 11)) : (tenS S n).1 k f i = S.1 k f i := by
  rw [tenS_at]
  rw [if_neg fun q => h.1 ⟨q.1, q.2.1⟩, if_neg fun q => h.2.1 ⟨q.1, q.2.1⟩, if_neg fun q => h.2.2 ⟨q.1, q.2.1⟩]
theorem tenS_now {S : Sto} {n : Nat} : (tenS S n).1 0 9 0 = S.1 0 9 0 + 1 := by rw [tenS_at, if_pos ⟨rfl, rfl, rfl⟩]
theorem tenS_rd {S : Sto} {n i : Nat} : (tenS S n).1 4 9 i = if i < n then rdT S i else S.1 4 9 i := by
  rw [tenS_at]
  rw [if_neg fun q => absurd q.1 (by decide)]
  by_cases h : i < n
  · rw [if_pos ⟨rfl, rfl, h⟩, if_pos h]
  · rw [if_neg fun q => h q.2.2, if_neg fun q => absurd q.2.1 (by decide), if_neg h]
theorem tenS_br {S : Sto} {n i : Nat} : (tenS S n).1 4 11 i = if i < n then brT S i else S.1 4 11 i := by
  rw [tenS_at]
  rw [if_neg fun q => absurd q.1 (by decide), if_neg fun q => absurd q.2.1 (by decide)]
  by_cases h : i < n
  · rw [if_pos ⟨rfl, rfl, h⟩, if_pos h]
  · rw [if_neg fun q => h q.2.2, if_neg h]
theorem tenS_wf {S : Sto} {n : Nat} (hW : WfH S) : WfH (tenS S n) := by
  have e : ∀ k f i, ¬ (k = 0 ∧ f = 9) ∧ ¬ (k = 4 ∧ f = 9) ∧ ¬ (k = 4 ∧ f = 11) → (tenS S n).1 k f i = S.1 k f i := fun k f i h => tenS_o h
  obtain ⟨h1, h2, h3, h4, h5, h6, h7, h8⟩ := hW
  refine ⟨h1, h2, h3, fun i hi => ?_, fun i hi => ?_, fun i hi => ?_, fun i hi => ?_, fun i hi => ?_⟩
  · rw [e 3 3 i (by decide)]; exact h4 i hi
  · rw [e 5 2 i (by decide)]; exact h5 i hi
  · rw [e 6 1 i (by decide)]; exact h6 i hi
  · unfold RoF
    rw [e 2 0 i (by decide), e 2 1 i (by decide), e 2 2 i (by decide), e 2 6 i (by decide), e 2 7 i (by decide)]
    exact h7 i hi
  · unfold RiF
    rw [e 4 0 i (by decide), e 4 1 i (by decide), e 4 8 i (by decide)]
    exact h8 i hi
theorem tenS_s {S S' : Sto} {n : Nat} (h2 : S'.2 = S.2) (hr : S'.1 4 9 n = rdT S n) (hb : S'.1 4 11 n = brT S n) (ho : ∀ k f i, ¬ (k = 4 ∧ f = 9 ∧ i = n) → ¬ (k = 4 ∧ f = 11 ∧ i = n) → S'.1 k f i = (tenS S n).1 k f i) : S' = tenS S (n + 1) := by
  refine sto_eq (fun k f i => ?_) h2
  by_cases h1 : k = 4 ∧ f = 9 ∧ i = n
  · obtain ⟨rfl, rfl, rfl⟩ := h1
    rw [hr, tenS_rd, if_pos (Nat.lt_succ_self _)]
  · by_cases h3 : k = 4 ∧ f = 11 ∧ i = n
    · obtain ⟨rfl, rfl, rfl⟩ := h3
      rw [hb, tenS_br, if_pos (Nat.lt_succ_self _)]
    · rw [ho k f i h1 h3]
      by_cases h9 : k = 4 ∧ f = 9
      · obtain ⟨rfl, rfl⟩ := h9
        rw [tenS_rd, tenS_rd]
        have : i ≠ n := fun q => h1 ⟨rfl, rfl, q⟩
        by_cases hi : i < n
        · rw [if_pos hi, if_pos (by omega)]
        · rw [if_neg hi, if_neg (by omega)]
      · by_cases h11 : k = 4 ∧ f = 11
        · obtain ⟨rfl, rfl⟩ := h11
          rw [tenS_br, tenS_br]
          have : i ≠ n := fun q => h3 ⟨rfl, rfl, q⟩
          by_cases hi : i < n
          · rw [if_pos hi, if_pos (by omega)]
          · rw [if_neg hi, if_neg (by omega)]
        · by_cases h0 : k = 0 ∧ f = 9
          · obtain ⟨rfl, rfl⟩ := h0
            by_cases hi : i = 0
            · subst hi
              rw [tenS_now, tenS_now]
            · rw [tenS_at, tenS_at]
              rw [if_neg fun q => hi q.2.2, if_neg fun q => absurd q.1 (by decide), if_neg fun q => absurd q.1 (by decide), if_neg fun q => hi q.2.2, if_neg fun q => absurd q.1 (by decide), if_neg fun q => absurd q.1 (by decide)]
          · rw [tenS_o ⟨h0, h9, h11⟩, tenS_o ⟨h0, h9, h11⟩]
def s_X6_letTenGoBy : SP := fun as S Q => o0 0 as (WfH S ∧ Q (Sum.inl none) (tenS S (S.2.2 22)))
def tb_X6_letTenGoBy : Tb := [(0, .aload_n 0, 1, x0), (1, .getfield 42, 3, xF 7 9 [106]), (4, .sipush 144, 3, xI (144)), (7, .irem, 1, x0), (8, .bipush 36, 2, xI (36)), (10, .if_icmp .lt 7, 3, xN 17), (13, .iconst 1, 1, xI (1)), (14, .goto 4, 3, xN 18), (17, .iconst 0, 1, xI (0)), (18, .istore_n 1, 1, x0), (19, .aload_n 0, 1, x0), (20, .dup, 1, x0), (21, .getfield 42, 3, xF 7 9 [106]), (24, .iconst 1, 1, xI (1)), (25, .iadd, 1, x0), (26, .putfield 42, 3, xF 7 9 [106]), (29, .iconst 0, 1, xI (0)), (30, .istore_n 2, 1, x0), (31, .iload_n 2, 1, x0), (32, .aload_n 0, 1, x0), (33, .getfield 30, 3, xF 7 5 [102]), (36, .invokevirtual 68, 3, xS 1 0 s_Jx4a65c_size_8abf5), (39, .if_icmp .ge 64, 3, xN 103), (42, .aload_n 0, 1, x0), (43, .getfield 30, 3, xF 7 5 [102]), (46, .iload_n 2, 1, x0), (47, .invokevirtual 234, 3, xS 2 0 s_Jx4a65c_get_915e3), (50, .checkcast 117, 3, xF 4 0 [365]), (53, .astore_n 3, 1, x0), (54, .aload_n 3, 1, x0), (55, .invokevirtual 128, 3, xS 1 0 s_X3_isDriving), (58, .ifCond .eq 14, 3, xN 72), (61, .aload_n 3, 1, x0), (62, .aload_n 0, 1, x0), (63, .getfield 42, 3, xF 7 9 [106]), (66, .invokevirtual 330, 3, xS 2 0 s_X3_standIfArrived), (69, .goto 28, 3, xN 97), (72, .iload_n 1, 1, x0), (73, .ifCond .eq 24, 3, xN 97), (76, .aload_n 0, 1, x0), (77, .aload_n 3, 1, x0), (78, .getfield 169, 3, xF 4 8 [385]), (81, .invokevirtual 334, 3, xS 2 0 s_X6_hasBay), (84, .ifCond .ne 13, 3, xN 97), (87, .aload_n 3, 1, x0), (88, .dup, 1, x0), (89, .getfield 214, 3, xF 4 11 [390]), (92, .iconst 1, 1, xI (1)), (93, .iadd, 1, x0), (94, .putfield 214, 3, xF 4 11 [390]), (97, .iinc 2 1, 3, xI (1)), (100, .goto (-69), 3, xN 31), (103, .return_, 1, x0)]
theorem chk_X6_letTenGoBy : chkTb cX6_letTenGoBy "HeavyHaul" false tb_X6_letTenGoBy = true := by decide +kernel
theorem cal_X6_letTenGoBy {l : Launch} (hl : l.stackTraces = false) (hNL : NewL l) : CallsOK l "HeavyHaul" 3 tb_X6_letTenGoBy := callsOK_f ⟨⟨_, _, 1, 0, _, 0, (ct_Jx4a65c_size_8abf5 hl hNL), ⟨List.mem_of_getElem? (i := 236) (by decide +kernel), List.mem_of_getElem? (i := 29) (by decide +kernel), List.mem_of_getElem? (i := 233) (by decide +kernel), ⟨by decide +kernel, by decide +kernel⟩, by decide +kernel, by decide⟩, List.mem_of_getElem? (i := 234) (by decide +kernel), List.mem_of_getElem? (i := 235) (by decide +kernel), by decide, by decide, rc_Jx4a65c_size_8abf5⟩, ⟨_, _, 2, 2, _, 0, (ct_Jx4a65c_get_915e3 hl hNL), ⟨List.mem_of_getElem? (i := 519) (by decide +kernel), List.mem_of_getElem? (i := 29) (by decide +kernel), List.mem_of_getElem? (i := 516) (by decide +kernel), ⟨by decide +kernel, by decide +kernel⟩, by decide +kernel, by decide⟩, List.mem_of_getElem? (i := 517) (by decide +kernel), List.mem_of_getElem? (i := 518) (by decide +kernel), by decide, by decide, rc_Jx4a65c_get_915e3⟩, ⟨_, _, 1, 0, _, 4, (ct_X3_isDriving hl hNL), ⟨List.mem_of_getElem? (i := 583) (by decide +kernel), List.mem_of_getElem? (i := 41) (by decide +kernel), List.mem_of_getElem? (i := 580) (by decide +kernel), ⟨by decide +kernel, by decide +kernel⟩, by decide +kernel, by decide⟩, List.mem_of_getElem? (i := 581) (by decide +kernel), List.mem_of_getElem? (i := 582) (by decide +kernel), by decide, by decide, rc_X3_isDriving⟩, ⟨_, _, 2, 0, _, 4, (ct_X3_standIfArrived hl hNL), ⟨List.mem_of_getElem? (i := 706) (by decide +kernel), List.mem_of_getElem? (i := 41) (by decide +kernel), List.mem_of_getElem? (i := 703) (by decide +kernel), ⟨by decide +kernel, by decide +kernel⟩, by decide +kernel, by decide⟩, List.mem_of_getElem? (i := 704) (by decide +kernel), List.mem_of_getElem? (i := 705) (by decide +kernel), by decide, by decide, rc_X3_standIfArrived⟩, ⟨_, _, 2, 0, _, 7, (ct_X6_hasBay hl hNL), ⟨List.mem_of_getElem? (i := 710) (by decide +kernel), List.mem_of_getElem? (i := 26) (by decide +kernel), List.mem_of_getElem? (i := 707) (by decide +kernel), ⟨by decide +kernel, by decide +kernel⟩, by decide +kernel, by decide⟩, List.mem_of_getElem? (i := 709) (by decide +kernel), List.mem_of_getElem? (i := 19) (by decide +kernel), by decide, by decide, rc_X6_hasBay⟩, trivial⟩
theorem ar_X6_letTenGoBy : ∀ as S P, s_X6_letTenGoBy as S P → as.length ≤ 4 ∧ ∀ a ∈ as, catV a = 1 := fun as S P h => by
  obtain ⟨rfl, _⟩ := o0_ok h
  exact ar_all ⟨Nat.le_of_ble_eq_true rfl, rfl⟩
theorem rc_X6_letTenGoBy : ∀ as S P, s_X6_letTenGoBy as S P → ∃ k i r, as = aR k i :: r ∧ ci k = 7 ∧ (obK k = true ∨ k = 13) := fun as S P h => by
  obtain ⟨rfl, _⟩ := o0_ok h
  exact ⟨_, _, _, rfl, rfl, Or.inl rfl⟩
theorem vc_X6_letTenGoBy : ∀ (G : Gt) (Q : Out → Sto → Prop) (as : List AV) (S : Sto), s_X6_letTenGoBy as S Q → Seg tb_X6_letTenGoBy G Q 0 0 [] (0, fun _ => 0) → G 0 (argL as 4) [] S 0 := by
  intro G Q as S h hs
  obtain ⟨rfl, hW, hQ⟩ := o0_ok h
  have w13 := hW.1
  have hn : S.2.2 22 ≤ 1000 := by have := hW.2.1.2.2.1; omega
  have loop : ∀ m k, k + m = S.2.2 22 → ∀ x, G 31 [some (aR 0 0), some (aI (bV (dayB (S.1 0 9 0)))), some (aI (nI k)), x] [] (tenS S k) 0 := by
    intro m
    induction m with
    | zero =>
      intro k hk x
      obtain rfl : k = S.2.2 22 := hk
      refine hs [31] 60 31 _ _ _ _ ?_
      exact ⟨rfl, by show 2 < S.2.2 13; omega, fun _ => hQ, fun q => (lp_end q).elim⟩
    | succ m ih =>
      intro k hk x
      have hk2 : k < S.2.2 22 := by omega
      obtain ⟨a, d, p, -, -, hp, -, -, -, -, hp10⟩ := hW.2.2.2.2.2.2.2 k hk2
      have r9 : (tenS S k).1 4 9 k = S.1 4 9 k := by rw [tenS_rd, if_neg (Nat.lt_irrefl _)]
      have r11 : (tenS S k).1 4 11 k = S.1 4 11 k := by rw [tenS_br, if_neg (Nat.lt_irrefl _)]
      have r8 : (tenS S k).1 4 8 k = S.1 4 8 k := tenS_o (by decide)
      have r10 : (tenS S k).1 4 10 k = S.1 4 10 k := tenS_o (by decide)
      have rb : ∀ i, (tenS S k).1 11 0 i = S.1 11 0 i := fun i => tenS_o ⟨fun q => absurd q.1 (by decide), fun q => absurd q.1 (by decide), fun q => absurd q.1 (by decide)⟩
      have key : ∀ S', S' = tenS S (k + 1) → G 31 [some (aR 0 0), some (aI (bV (dayB (S.1 0 9 0)))), some (aI (nI k + 1)), some (aR 4 k)] [] S' 0 := fun S' hS => by
        rw [hS, nI_s]
        exact ih (k + 1) (by omega) _
      refine hs [31] 60 31 _ _ _ _ ?_
      refine ⟨rfl, by show 2 < S.2.2 13; omega, fun q => absurd q (lp_go hn hk2), fun _ => ⟨rfl, by show 2 < S.2.2 13; omega, lp_nn hn hk2, lp_in hn hk2, ?_⟩⟩
      rw [lp_cl hn hk2]
      have sd : S.1 4 9 k = -1 → dayB (S.1 0 9 0) = true → S.1 11 0 (S.1 4 8 k).toNatClampNeg = 0 → wrI (tenS S k) 4 11 k ((tenS S k).1 4 11 k + 1) = tenS S (k + 1) := fun h1 h2 h3 => by
        refine tenS_s rfl ?_ ?_ fun k' f i q1 q2 => ?_
        · rw [wrI_ne fun q => absurd q.2.1 (by decide), r9, h1]
          exact (if_pos h1).symm
        · rw [wrI_at, if_pos ⟨rfl, rfl, rfl⟩, r11]
          exact (if_pos ⟨h1, h2, h3⟩).symm
        · exact wrI_ne q2
      have ss : S.1 4 9 k = -1 → ¬ (dayB (S.1 0 9 0) = true ∧ S.1 11 0 (S.1 4 8 k).toNatClampNeg = 0) → tenS S k = tenS S (k + 1) := fun h1 h2 => by
        refine tenS_s rfl ?_ ?_ fun k' f i q1 q2 => rfl
        · rw [r9, h1]
          exact (if_pos h1).symm
        · rw [r11]
          exact (if_neg fun q => h2 q.2).symm
      refine ⟨fun z1 => ⟨rfl, fun _ => ?_, fun q => absurd rfl q⟩, fun z1 => ⟨rfl, fun q => absurd q (by decide), fun _ => ⟨fun z2 => key _ ?_, fun z2 => key _ ?_⟩⟩⟩
      · have z1' : S.1 4 9 k = -1 := r9.symm.trans z1
        refine ⟨fun dd => key _ (ss z1' fun q => ?_), fun dd => ⟨fun ng => absurd ng ?_, fun _ => ⟨fun ge => absurd ge ?_, fun _ => ⟨?_, fun v => ⟨rfl, fun x => absurd rfl x, fun _ => key _ (sd z1' ?_ ?_)⟩, fun v => ⟨rfl, fun _ => key _ (ss z1' fun q => v ?_), fun x => absurd x (by decide)⟩⟩⟩⟩⟩
        · rw [q.1] at dd
          exact absurd dd (by decide)
        · show ¬ (tenS S k).1 4 8 k < 0
          rw [r8, hp]
          exact nI_nn (by omega)
        · show ¬ (10 : Int32) ≤ (tenS S k).1 4 8 k
          rw [r8, hp]
          exact lp_go (n := 10) (by omega) hp10
        · show vp_in ((tenS S k).1 4 8 k) 10
          rw [r8, hp]
          exact nI_vin (by omega) hp10
        · cases hh : dayB (S.1 0 9 0) with
          | true => rfl
          | false =>
            rw [hh] at dd
            exact absurd rfl dd
        · have v' : (tenS S k).1 11 0 ((tenS S k).1 4 8 k).toNatClampNeg = 0 := v
          rw [r8, rb] at v'
          exact v'
        · show (tenS S k).1 11 0 ((tenS S k).1 4 8 k).toNatClampNeg = 0
          rw [r8, rb]
          exact q.2
      · have z1' : ¬ S.1 4 9 k = -1 := fun q => z1 (r9.trans q)
        have z2' : S.1 0 9 0 + 1 < S.1 4 10 k := by
          have h9 : (tenS S k).1 0 9 0 < (tenS S k).1 4 10 k := z2
          rwa [tenS_now, r10] at h9
        refine tenS_s rfl ?_ ?_ fun k' f i q1 q2 => rfl
        · rw [r9]
          unfold rdT
          rw [if_neg z1', if_pos z2']
        · rw [r11]
          exact (if_neg fun q => z1' q.1).symm
      · have z1' : ¬ S.1 4 9 k = -1 := fun q => z1 (r9.trans q)
        have z2' : ¬ S.1 0 9 0 + 1 < S.1 4 10 k := fun q => z2 (by
          show (tenS S k).1 0 9 0 < (tenS S k).1 4 10 k
          rw [tenS_now, r10]
          exact q)
        refine tenS_s rfl ?_ ?_ fun k' f i q1 q2 => ?_
        · show (wrI (tenS S k) 4 9 k (-1)).1 4 9 k = _
          rw [wrI_at, if_pos ⟨rfl, rfl, rfl⟩]
          unfold rdT
          rw [if_neg z1', if_neg z2']
        · show (wrI (tenS S k) 4 9 k (-1)).1 4 11 k = _
          rw [wrI_ne fun q => absurd q.2.1 (by decide), r11]
          exact (if_neg fun q => z1' q.1).symm
        · exact wrI_ne q1
  have h0 : wrI S 0 9 0 (S.1 0 9 0 + 1) = tenS S 0 := by
    refine sto_eq (fun k f i => ?_) rfl
    rw [wrI_at, tenS_at]
    by_cases h : k = 0 ∧ f = 9 ∧ i = 0
    · rw [if_pos h, if_pos h]
    · rw [if_neg h, if_neg h, if_neg fun q => absurd q.2.2 (Nat.not_lt_zero _), if_neg fun q => absurd q.2.2 (Nat.not_lt_zero _)]
  have hl := loop (S.2.2 22) 0 (by omega) none
  rw [← h0] at hl
  refine hs [31] 60 0 _ _ _ _ ?_
  refine ⟨rem144 0, fun c => ?_, fun c => ?_⟩
  · have e : dayB (S.1 0 9 0) = false := decide_eq_false (Int32.not_le.mpr c)
    rw [e] at hl
    exact hl
  · have e : dayB (S.1 0 9 0) = true := decide_eq_true (Int32.not_lt.mp c)
    rw [e] at hl
    exact hl
theorem ct_X6_letTenGoBy {l : Launch} (hl : l.stackTraces = false) (hNL : NewL l) : CT l yX6_letTenGoBy cX6_letTenGoBy 4 none 3 0 s_X6_letTenGoBy := CT_of hl hNL (by decide +kernel) (own := "HeavyHaul") rfl (ini := false) (fun q => nomatch q) chk_X6_letTenGoBy (cal_X6_letTenGoBy hl hNL) ar_X6_letTenGoBy vc_X6_letTenGoBy
end
section
/-! THE CLASS's PUBLIC METHODS -/
def nm (v n : Int32) : Prop := ¬ v < 0 ∧ v < n
def rg (v a b : Int32) : Prop := ¬ v < a ∧ v ≤ b
theorem nm_in {v : Int32} {n : Nat} (h : nm v (nI n)) : inN v n := ⟨Int32.not_lt.mp h.1, h.2⟩
theorem nm_lt {v : Int32} {n : Nat} (h : nm v (nI n)) (hn : n ≤ 1000) : v.toNatClampNeg < n := inN_lt (nm_in h) hn
theorem nm_eq {v n : Int32} (h : ¬ v < 0) : v = nI v.toNatClampNeg := by
  obtain ⟨q, hq, rfl⟩ := nI_of h
  rw [nI_cl hq]
def s_X6_bay : SP := fun as S Q => o2 0 as fun p is => (is &&& 1 = is) ∧ (∀ i, S.1 11 0 i &&& 1 = S.1 11 0 i) ∧ (¬ nm p 10 → Q (Sum.inr 0) S) ∧ (nm p 10 → Q (Sum.inl (some (aI (S.1 11 0 p.toNatClampNeg)))) (wrI S 11 0 p.toNatClampNeg is))
def tb_X6_bay : Tb := [(0, .iload_n 1, 1, x0), (1, .bipush 10, 2, xI (10)), (3, .invokestatic 53, 3, xS 2 1 s_X6_needNumber), (6, .aload_n 0, 1, x0), (7, .getfield 9, 3, xF 7 0 [97]), (10, .iload_n 1, 1, x0), (11, .baload, 1, x0), (12, .istore_n 3, 1, x0), (13, .aload_n 0, 1, x0), (14, .getfield 9, 3, xF 7 0 [97]), (17, .iload_n 1, 1, x0), (18, .iload_n 2, 1, x0), (19, .bastore, 1, x0), (20, .iload_n 3, 1, x0), (21, .ireturn, 1, x0)]
theorem chk_X6_bay : chkTb cX6_bay "HeavyHaul" false tb_X6_bay = true := by decide +kernel
theorem cal_X6_bay {l : Launch} (hl : l.stackTraces = false) (hNL : NewL l) : CallsOK l "HeavyHaul" 1 tb_X6_bay := callsOK_f ⟨⟨_, _, 2, 0, _, (ct_X6_needNumber hl hNL), ⟨List.mem_of_getElem? (i := 144) (by decide +kernel), List.mem_of_getElem? (i := 26) (by decide +kernel), List.mem_of_getElem? (i := 142) (by decide +kernel), ⟨by decide +kernel, by decide +kernel⟩, by decide +kernel, by decide⟩, List.mem_of_getElem? (i := 143) (by decide +kernel), by decide⟩, trivial⟩
theorem ar_X6_bay : ∀ as S P, s_X6_bay as S P → as.length ≤ 4 ∧ ∀ a ∈ as, catV a = 1 := fun as S P h => by
  obtain ⟨_, _, rfl, _⟩ := o2_ok h
  exact ar_all ⟨Nat.le_of_ble_eq_true rfl, rfl⟩
theorem rc_X6_bay : ∀ as S P, s_X6_bay as S P → ∃ k i r, as = aR k i :: r ∧ ci k = 7 ∧ (obK k = true ∨ k = 13) := fun as S P h => by
  obtain ⟨_, _, rfl, _⟩ := o2_ok h
  exact ⟨_, _, _, rfl, rfl, Or.inl rfl⟩
theorem vc_X6_bay : ∀ (G : Gt) (Q : Out → Sto → Prop) (as : List AV) (S : Sto), s_X6_bay as S Q → Seg tb_X6_bay G Q 2 1 [] (0, fun _ => 0) → G 0 (argL as 4) [] S 0 := by
  intro G Q as S h hs
  obtain ⟨p, is, rfl, hb, hbb, h0, h1⟩ := o2_ok h
  refine hs [] 60 0 _ _ _ _ ?_
  refine ⟨fun q => h0 fun z => z.1 q, fun q => ⟨fun q' => ?_, fun q' => h0 fun z => q' z.2⟩⟩
  have hp : p.toNatClampNeg < 10 := nm_lt (n := 10) ⟨q, q'⟩ (by omega)
  have hv : vp_in p (al 11 0) := fun z => z.elim q fun z => absurd hp (Nat.not_lt.mpr z)
  have h2 := h1 ⟨q, q'⟩
  rw [← hb] at h2
  exact ⟨hv, hv, hbb _, h2⟩
theorem ct_X6_bay {l : Launch} (hl : l.stackTraces = false) (hNL : NewL l) : CT l yX6_bay cX6_bay 4 (some .boolean) 1 1 s_X6_bay := CT_of hl hNL (by decide +kernel) (own := "HeavyHaul") rfl (ini := false) (fun q => nomatch q) chk_X6_bay (cal_X6_bay hl hNL) ar_X6_bay vc_X6_bay
def brgS (S : Sto) (i : Nat) (a b c : Int32) : Sto := wrI (wrI (wrI S 2 7 i a) 2 8 i b) 2 9 i c
def s_X6_bridge : SP := fun as S Q => o4 0 as fun r a b c => WfH S ∧ (¬ nm r (nI (S.2.2 20)) → Q (Sum.inr 0) S) ∧ (nm r (nI (S.2.2 20)) → ¬ (rg a 1 40 ∧ rg b 1 999999 ∧ rg c 1 9999999) → Q (Sum.inr 1) S) ∧
  (nm r (nI (S.2.2 20)) → rg a 1 40 ∧ rg b 1 999999 ∧ rg c 1 9999999 → Q (Sum.inl (some (aI (if S.1 2 7 r.toNatClampNeg ≤ 0 then 0 else 1)))) (brgS S r.toNatClampNeg a b c))
def tb_X6_bridge : Tb := [(0, .aload_n 0, 1, x0), (1, .iload_n 1, 1, x0), (2, .invokevirtual 84, 3, xS 2 1 s_X6_roadOf), (5, .astore 5, 2, x0), (7, .iload_n 2, 1, x0), (8, .iconst 1, 1, xI (1)), (9, .bipush 40, 2, xI (40)), (11, .invokestatic 64, 3, xS 3 1 s_X6_needRange), (14, .iload_n 3, 1, x0), (15, .iconst 1, 1, xI (1)), (16, .ldc 88, 2, xC 0 0 999999 [530]), (18, .invokestatic 64, 3, xS 3 1 s_X6_needRange), (21, .iload 4, 2, x0), (23, .iconst 1, 1, xI (1)), (24, .ldc 89, 2, xC 0 0 9999999 [531]), (26, .invokestatic 64, 3, xS 3 1 s_X6_needRange), (29, .aload 5, 2, x0), (31, .invokevirtual 90, 3, xS 1 0 s_X4_hasBridge), (34, .istore 6, 2, x0), (36, .aload 5, 2, x0), (38, .iload_n 2, 1, x0), (39, .putfield 94, 3, xF 5 7 [277]), (42, .aload 5, 2, x0), (44, .iload_n 3, 1, x0), (45, .putfield 97, 3, xF 5 8 [278]), (48, .aload 5, 2, x0), (50, .iload 4, 2, x0), (52, .putfield 100, 3, xF 5 9 [279]), (55, .iload 6, 2, x0), (57, .ireturn, 1, x0)]
theorem chk_X6_bridge : chkTb cX6_bridge "HeavyHaul" false tb_X6_bridge = true := by decide +kernel
theorem cal_X6_bridge {l : Launch} (hl : l.stackTraces = false) (hNL : NewL l) : CallsOK l "HeavyHaul" 4 tb_X6_bridge := callsOK_f ⟨⟨_, _, 2, 3, _, 7, (ct_X6_roadOf hl hNL), ⟨List.mem_of_getElem? (i := 515) (by decide +kernel), List.mem_of_getElem? (i := 26) (by decide +kernel), List.mem_of_getElem? (i := 512) (by decide +kernel), ⟨by decide +kernel, by decide +kernel⟩, by decide +kernel, by decide⟩, List.mem_of_getElem? (i := 514) (by decide +kernel), List.mem_of_getElem? (i := 7) (by decide +kernel), by decide, by decide, rc_X6_roadOf⟩, ⟨_, _, 3, 0, _, (ct_X6_needRange hl hNL), ⟨List.mem_of_getElem? (i := 231) (by decide +kernel), List.mem_of_getElem? (i := 26) (by decide +kernel), List.mem_of_getElem? (i := 229) (by decide +kernel), ⟨by decide +kernel, by decide +kernel⟩, by decide +kernel, by decide⟩, List.mem_of_getElem? (i := 230) (by decide +kernel), by decide⟩, ⟨_, _, 3, 0, _, (ct_X6_needRange hl hNL), ⟨List.mem_of_getElem? (i := 231) (by decide +kernel), List.mem_of_getElem? (i := 26) (by decide +kernel), List.mem_of_getElem? (i := 229) (by decide +kernel), ⟨by decide +kernel, by decide +kernel⟩, by decide +kernel, by decide⟩, List.mem_of_getElem? (i := 230) (by decide +kernel), by decide⟩, ⟨_, _, 3, 0, _, (ct_X6_needRange hl hNL), ⟨List.mem_of_getElem? (i := 231) (by decide +kernel), List.mem_of_getElem? (i := 26) (by decide +kernel), List.mem_of_getElem? (i := 229) (by decide +kernel), ⟨by decide +kernel, by decide +kernel⟩, by decide +kernel, by decide⟩, List.mem_of_getElem? (i := 230) (by decide +kernel), by decide⟩, ⟨_, _, 1, 0, _, 5, (ct_X4_hasBridge hl hNL), ⟨List.mem_of_getElem? (i := 535) (by decide +kernel), List.mem_of_getElem? (i := 37) (by decide +kernel), List.mem_of_getElem? (i := 532) (by decide +kernel), ⟨by decide +kernel, by decide +kernel⟩, by decide +kernel, by decide⟩, List.mem_of_getElem? (i := 533) (by decide +kernel), List.mem_of_getElem? (i := 534) (by decide +kernel), by decide, by decide, rc_X4_hasBridge⟩, trivial⟩
theorem ar_X6_bridge : ∀ as S P, s_X6_bridge as S P → as.length ≤ 7 ∧ ∀ a ∈ as, catV a = 1 := fun as S P h => by
  obtain ⟨_, _, _, _, rfl, _⟩ := o4_ok h
  exact ar_all ⟨Nat.le_of_ble_eq_true rfl, rfl⟩
theorem rc_X6_bridge : ∀ as S P, s_X6_bridge as S P → ∃ k i r, as = aR k i :: r ∧ ci k = 7 ∧ (obK k = true ∨ k = 13) := fun as S P h => by
  obtain ⟨_, _, _, _, rfl, _⟩ := o4_ok h
  exact ⟨_, _, _, rfl, rfl, Or.inl rfl⟩
theorem vc_X6_bridge : ∀ (G : Gt) (Q : Out → Sto → Prop) (as : List AV) (S : Sto), s_X6_bridge as S Q → Seg tb_X6_bridge G Q 2 4 [] (0, fun _ => 0) → G 0 (argL as 7) [] S 0 := by
  intro G Q as S h hs
  obtain ⟨r, a, b, c, rfl, hW, h0, h1, h2⟩ := o4_ok h
  have w13 := hW.1
  refine hs [] 90 0 _ _ _ _ ?_
  refine ⟨rfl, by omega, fun q => h0 fun z => z.1 q, fun q => ⟨fun q' => ?_, fun q' => h0 fun z => q' z.2⟩⟩
  have hk : nm r (nI (S.2.2 20)) := ⟨q, q'⟩
  refine ⟨rfl, by omega, Int32.not_lt.mp q, q', ?_⟩
  refine ⟨fun a1 => h1 hk fun z => z.1.1 a1, fun a1 => ⟨fun a2 => ?_, fun a2 => h1 hk fun z => a2 z.1.2⟩⟩
  refine ⟨fun b1 => h1 hk fun z => z.2.1.1 b1, fun b1 => ⟨fun b2 => ?_, fun b2 => h1 hk fun z => b2 z.2.1.2⟩⟩
  refine ⟨fun c1 => h1 hk fun z => z.2.2.1 c1, fun c1 => ⟨fun c2 => ?_, fun c2 => h1 hk fun z => c2 z.2.2.2⟩⟩
  have h3 := h2 hk ⟨⟨a1, a2⟩, ⟨b1, b2⟩, ⟨c1, c2⟩⟩
  refine ⟨fun s1 => ⟨rfl, rfl, ?_⟩, fun s1 => ⟨rfl, rfl, ?_⟩⟩
  · have s1' : S.1 2 7 r.toNatClampNeg ≤ 0 := s1
    rw [if_pos s1'] at h3
    exact h3
  · have s1' : ¬ S.1 2 7 r.toNatClampNeg ≤ 0 := s1
    rw [if_neg s1'] at h3
    exact h3
theorem ct_X6_bridge {l : Launch} (hl : l.stackTraces = false) (hNL : NewL l) : CT l yX6_bridge cX6_bridge 7 (some .boolean) 4 4 s_X6_bridge := CT_of hl hNL (by decide +kernel) (own := "HeavyHaul") rfl (ini := false) (fun q => nomatch q) chk_X6_bridge (cal_X6_bridge hl hNL) ar_X6_bridge vc_X6_bridge
def s_X6_axle : SP := fun as S Q => o2 0 as fun r x => WfH S ∧ (¬ (nm r (nI (S.2.2 22)) ∧ nm x (S.1 4 0 r.toNatClampNeg)) → Q (Sum.inr 0) S) ∧ (nm r (nI (S.2.2 22)) ∧ nm x (S.1 4 0 r.toNatClampNeg) → Q (Sum.inl (some (aI (wtF (S.1 4 6 r.toNatClampNeg) (S.1 4 7 r.toNatClampNeg) (S.1 4 0 r.toNatClampNeg) x)))) S)
def tb_X6_axle : Tb := [(0, .aload_n 0, 1, x0), (1, .iload_n 1, 1, x0), (2, .invokevirtual 123, 3, xS 2 1 s_X6_rigOf), (5, .astore_n 3, 1, x0), (6, .iload_n 2, 1, x0), (7, .aload_n 3, 1, x0), (8, .getfield 142, 3, xF 4 0 [372]), (11, .invokestatic 53, 3, xS 2 1 s_X6_needNumber), (14, .aload_n 3, 1, x0), (15, .iload_n 2, 1, x0), (16, .invokevirtual 145, 3, xS 2 0 s_X3_weightOf), (19, .ireturn, 1, x0)]
theorem chk_X6_axle : chkTb cX6_axle "HeavyHaul" false tb_X6_axle = true := by decide +kernel
theorem cal_X6_axle {l : Launch} (hl : l.stackTraces = false) (hNL : NewL l) : CallsOK l "HeavyHaul" 4 tb_X6_axle := callsOK_f ⟨⟨_, _, 2, 3, _, 7, (ct_X6_rigOf hl hNL), ⟨List.mem_of_getElem? (i := 578) (by decide +kernel), List.mem_of_getElem? (i := 26) (by decide +kernel), List.mem_of_getElem? (i := 575) (by decide +kernel), ⟨by decide +kernel, by decide +kernel⟩, by decide +kernel, by decide⟩, List.mem_of_getElem? (i := 577) (by decide +kernel), List.mem_of_getElem? (i := 8) (by decide +kernel), by decide, by decide, rc_X6_rigOf⟩, ⟨_, _, 2, 0, _, (ct_X6_needNumber hl hNL), ⟨List.mem_of_getElem? (i := 144) (by decide +kernel), List.mem_of_getElem? (i := 26) (by decide +kernel), List.mem_of_getElem? (i := 142) (by decide +kernel), ⟨by decide +kernel, by decide +kernel⟩, by decide +kernel, by decide⟩, List.mem_of_getElem? (i := 143) (by decide +kernel), by decide⟩, ⟨_, _, 2, 0, _, 4, (ct_X3_weightOf hl hNL), ⟨List.mem_of_getElem? (i := 647) (by decide +kernel), List.mem_of_getElem? (i := 41) (by decide +kernel), List.mem_of_getElem? (i := 644) (by decide +kernel), ⟨by decide +kernel, by decide +kernel⟩, by decide +kernel, by decide⟩, List.mem_of_getElem? (i := 645) (by decide +kernel), List.mem_of_getElem? (i := 646) (by decide +kernel), by decide, by decide, rc_X3_weightOf⟩, trivial⟩
theorem ar_X6_axle : ∀ as S P, s_X6_axle as S P → as.length ≤ 4 ∧ ∀ a ∈ as, catV a = 1 := fun as S P h => by
  obtain ⟨_, _, rfl, _⟩ := o2_ok h
  exact ar_all ⟨Nat.le_of_ble_eq_true rfl, rfl⟩
theorem rc_X6_axle : ∀ as S P, s_X6_axle as S P → ∃ k i r, as = aR k i :: r ∧ ci k = 7 ∧ (obK k = true ∨ k = 13) := fun as S P h => by
  obtain ⟨_, _, rfl, _⟩ := o2_ok h
  exact ⟨_, _, _, rfl, rfl, Or.inl rfl⟩
theorem vc_X6_axle : ∀ (G : Gt) (Q : Out → Sto → Prop) (as : List AV) (S : Sto), s_X6_axle as S Q → Seg tb_X6_axle G Q 1 2 [] (0, fun _ => 0) → G 0 (argL as 4) [] S 0 := by
  intro G Q as S h hs
  obtain ⟨r, x, rfl, hW, h0, h1⟩ := o2_ok h
  have w13 := hW.1
  refine hs [] 90 0 _ _ _ _ ?_
  refine ⟨rfl, by omega, fun q => h0 fun z => z.1.1 q, fun q => ⟨fun q' => ?_, fun q' => h0 fun z => q' z.1.2⟩⟩
  refine ⟨rfl, by omega, Int32.not_lt.mp q, q', ?_⟩
  refine ⟨fun a1 => h0 fun z => z.2.1 a1, fun a1 => ⟨fun a2 => ?_, fun a2 => h0 fun z => a2 z.2.2⟩⟩
  have h2 := h1 ⟨⟨q, q'⟩, ⟨a1, a2⟩⟩
  unfold wtF at h2
  refine ⟨by decide, fun z => ?_, fun z => ?_⟩
  · have z' : S.1 4 0 r.toNatClampNeg / 2 ≤ x := z
    rw [if_pos z'] at h2
    exact h2
  · have z' : ¬ S.1 4 0 r.toNatClampNeg / 2 ≤ x := z
    rw [if_neg z'] at h2
    exact h2
theorem ct_X6_axle {l : Launch} (hl : l.stackTraces = false) (hNL : NewL l) : CT l yX6_axle cX6_axle 4 (some .int) 4 2 s_X6_axle := CT_of hl hNL (by decide +kernel) (own := "HeavyHaul") rfl (ini := false) (fun q => nomatch q) chk_X6_axle (cal_X6_axle hl hNL) ar_X6_axle vc_X6_axle
def knG (S : Sto) (d r : Int32) : Prop := nm d (nI (S.2.2 20)) ∧ nm r (nI (S.2.2 22))
def s_gre (b : Int32) : SP := fun as S Q => o3 0 as fun d r isM => WfH S ∧ (¬ knG S d r → Q (Sum.inr 0) S) ∧ (knG S d r → Q (Sum.inl (some (aI (greatH S d.toNatClampNeg r.toNatClampNeg isM b)))) S)
def s_X6_greatest : SP := s_gre 0
def tb_X6_greatest : Tb := [(0, .aload_n 0, 1, x0), (1, .iload_n 1, 1, x0), (2, .invokevirtual 84, 3, xS 2 1 s_X6_roadOf), (5, .aload_n 0, 1, x0), (6, .iload_n 2, 1, x0), (7, .invokevirtual 123, 3, xS 2 1 s_X6_rigOf), (10, .iload_n 3, 1, x0), (11, .iconst 0, 1, xI (0)), (12, .invokestatic 149, 3, xS 4 0 s_X6_greatestOver), (15, .ireturn, 1, x0)]
theorem chk_X6_greatest : chkTb cX6_greatest "HeavyHaul" false tb_X6_greatest = true := by decide +kernel
theorem cal_X6_greatest {l : Launch} (hl : l.stackTraces = false) (hNL : NewL l) : CallsOK l "HeavyHaul" 4 tb_X6_greatest := callsOK_f ⟨⟨_, _, 2, 3, _, 7, (ct_X6_roadOf hl hNL), ⟨List.mem_of_getElem? (i := 515) (by decide +kernel), List.mem_of_getElem? (i := 26) (by decide +kernel), List.mem_of_getElem? (i := 512) (by decide +kernel), ⟨by decide +kernel, by decide +kernel⟩, by decide +kernel, by decide⟩, List.mem_of_getElem? (i := 514) (by decide +kernel), List.mem_of_getElem? (i := 7) (by decide +kernel), by decide, by decide, rc_X6_roadOf⟩, ⟨_, _, 2, 3, _, 7, (ct_X6_rigOf hl hNL), ⟨List.mem_of_getElem? (i := 578) (by decide +kernel), List.mem_of_getElem? (i := 26) (by decide +kernel), List.mem_of_getElem? (i := 575) (by decide +kernel), ⟨by decide +kernel, by decide +kernel⟩, by decide +kernel, by decide⟩, List.mem_of_getElem? (i := 577) (by decide +kernel), List.mem_of_getElem? (i := 8) (by decide +kernel), by decide, by decide, rc_X6_rigOf⟩, ⟨_, _, 8, 2, _, (ct_X6_greatestOver hl hNL), ⟨List.mem_of_getElem? (i := 640) (by decide +kernel), List.mem_of_getElem? (i := 26) (by decide +kernel), List.mem_of_getElem? (i := 638) (by decide +kernel), ⟨by decide +kernel, by decide +kernel⟩, by decide +kernel, by decide⟩, List.mem_of_getElem? (i := 639) (by decide +kernel), by decide⟩, trivial⟩
theorem ar_X6_greatest : ∀ as S P, s_X6_greatest as S P → as.length ≤ 4 ∧ ∀ a ∈ as, catV a = 1 := fun as S P h => by
  obtain ⟨_, _, _, rfl, _⟩ := o3_ok h
  exact ar_all ⟨Nat.le_of_ble_eq_true rfl, rfl⟩
theorem rc_X6_greatest : ∀ as S P, s_X6_greatest as S P → ∃ k i r, as = aR k i :: r ∧ ci k = 7 ∧ (obK k = true ∨ k = 13) := fun as S P h => by
  obtain ⟨_, _, _, rfl, _⟩ := o3_ok h
  exact ⟨_, _, _, rfl, rfl, Or.inl rfl⟩
theorem vc_X6_greatest : ∀ (G : Gt) (Q : Out → Sto → Prop) (as : List AV) (S : Sto), s_X6_greatest as S Q → Seg tb_X6_greatest G Q 1 2 [] (0, fun _ => 0) → G 0 (argL as 4) [] S 0 := by
  intro G Q as S h hs
  obtain ⟨d, r, isM, rfl, hW, h0, h1⟩ := o3_ok h
  have w13 := hW.1
  refine hs [] 90 0 _ _ _ _ ?_
  refine ⟨rfl, by omega, fun q => h0 fun z => z.1.1 q, fun q => ⟨fun q' => ?_, fun q' => h0 fun z => q' z.1.2⟩⟩
  refine ⟨rfl, by omega, Int32.not_lt.mp q, q', ?_⟩
  refine ⟨rfl, by omega, fun a1 => h0 fun z => z.2.1 a1, fun a1 => ⟨fun a2 => ?_, fun a2 => h0 fun z => a2 z.2.2⟩⟩
  refine ⟨rfl, by omega, Int32.not_lt.mp a1, a2, ?_⟩
  exact ⟨rfl, rfl, hW, nm_lt ⟨q, q'⟩ (by have := hW.2.1.1; omega), nm_lt ⟨a1, a2⟩ (by have := hW.2.1.2.2.1; omega), h1 ⟨⟨q, q'⟩, ⟨a1, a2⟩⟩⟩
theorem ct_X6_greatest {l : Launch} (hl : l.stackTraces = false) (hNL : NewL l) : CT l yX6_greatest cX6_greatest 4 (some .int) 4 2 s_X6_greatest := CT_of hl hNL (by decide +kernel) (own := "HeavyHaul") rfl (ini := false) (fun q => nomatch q) chk_X6_greatest (cal_X6_greatest hl hNL) ar_X6_greatest vc_X6_greatest
def s_X6_greatestAnew : SP := s_gre 1
def tb_X6_greatestAnew : Tb := [(0, .aload_n 0, 1, x0), (1, .iload_n 1, 1, x0), (2, .invokevirtual 84, 3, xS 2 1 s_X6_roadOf), (5, .aload_n 0, 1, x0), (6, .iload_n 2, 1, x0), (7, .invokevirtual 123, 3, xS 2 1 s_X6_rigOf), (10, .iload_n 3, 1, x0), (11, .iconst 1, 1, xI (1)), (12, .invokestatic 149, 3, xS 4 0 s_X6_greatestOver), (15, .ireturn, 1, x0)]
theorem chk_X6_greatestAnew : chkTb cX6_greatestAnew "HeavyHaul" false tb_X6_greatestAnew = true := by decide +kernel
theorem cal_X6_greatestAnew {l : Launch} (hl : l.stackTraces = false) (hNL : NewL l) : CallsOK l "HeavyHaul" 4 tb_X6_greatestAnew := callsOK_f ⟨⟨_, _, 2, 3, _, 7, (ct_X6_roadOf hl hNL), ⟨List.mem_of_getElem? (i := 515) (by decide +kernel), List.mem_of_getElem? (i := 26) (by decide +kernel), List.mem_of_getElem? (i := 512) (by decide +kernel), ⟨by decide +kernel, by decide +kernel⟩, by decide +kernel, by decide⟩, List.mem_of_getElem? (i := 514) (by decide +kernel), List.mem_of_getElem? (i := 7) (by decide +kernel), by decide, by decide, rc_X6_roadOf⟩, ⟨_, _, 2, 3, _, 7, (ct_X6_rigOf hl hNL), ⟨List.mem_of_getElem? (i := 578) (by decide +kernel), List.mem_of_getElem? (i := 26) (by decide +kernel), List.mem_of_getElem? (i := 575) (by decide +kernel), ⟨by decide +kernel, by decide +kernel⟩, by decide +kernel, by decide⟩, List.mem_of_getElem? (i := 577) (by decide +kernel), List.mem_of_getElem? (i := 8) (by decide +kernel), by decide, by decide, rc_X6_rigOf⟩, ⟨_, _, 8, 2, _, (ct_X6_greatestOver hl hNL), ⟨List.mem_of_getElem? (i := 640) (by decide +kernel), List.mem_of_getElem? (i := 26) (by decide +kernel), List.mem_of_getElem? (i := 638) (by decide +kernel), ⟨by decide +kernel, by decide +kernel⟩, by decide +kernel, by decide⟩, List.mem_of_getElem? (i := 639) (by decide +kernel), by decide⟩, trivial⟩
theorem ar_X6_greatestAnew : ∀ as S P, s_X6_greatestAnew as S P → as.length ≤ 4 ∧ ∀ a ∈ as, catV a = 1 := fun as S P h => by
  obtain ⟨_, _, _, rfl, _⟩ := o3_ok h
  exact ar_all ⟨Nat.le_of_ble_eq_true rfl, rfl⟩
theorem rc_X6_greatestAnew : ∀ as S P, s_X6_greatestAnew as S P → ∃ k i r, as = aR k i :: r ∧ ci k = 7 ∧ (obK k = true ∨ k = 13) := fun as S P h => by
  obtain ⟨_, _, _, rfl, _⟩ := o3_ok h
  exact ⟨_, _, _, rfl, rfl, Or.inl rfl⟩
theorem vc_X6_greatestAnew : ∀ (G : Gt) (Q : Out → Sto → Prop) (as : List AV) (S : Sto), s_X6_greatestAnew as S Q → Seg tb_X6_greatestAnew G Q 1 2 [] (0, fun _ => 0) → G 0 (argL as 4) [] S 0 := by
  intro G Q as S h hs
  obtain ⟨d, r, isM, rfl, hW, h0, h1⟩ := o3_ok h
  have w13 := hW.1
  refine hs [] 90 0 _ _ _ _ ?_
  refine ⟨rfl, by omega, fun q => h0 fun z => z.1.1 q, fun q => ⟨fun q' => ?_, fun q' => h0 fun z => q' z.1.2⟩⟩
  refine ⟨rfl, by omega, Int32.not_lt.mp q, q', ?_⟩
  refine ⟨rfl, by omega, fun a1 => h0 fun z => z.2.1 a1, fun a1 => ⟨fun a2 => ?_, fun a2 => h0 fun z => a2 z.2.2⟩⟩
  refine ⟨rfl, by omega, Int32.not_lt.mp a1, a2, ?_⟩
  exact ⟨rfl, rfl, hW, nm_lt ⟨q, q'⟩ (by have := hW.2.1.1; omega), nm_lt ⟨a1, a2⟩ (by have := hW.2.1.2.2.1; omega), h1 ⟨⟨q, q'⟩, ⟨a1, a2⟩⟩⟩
theorem ct_X6_greatestAnew {l : Launch} (hl : l.stackTraces = false) (hNL : NewL l) : CT l yX6_greatestAnew cX6_greatestAnew 4 (some .int) 4 2 s_X6_greatestAnew := CT_of hl hNL (by decide +kernel) (own := "HeavyHaul") rfl (ini := false) (fun q => nomatch q) chk_X6_greatestAnew (cal_X6_greatestAnew hl hNL) ar_X6_greatestAnew vc_X6_greatestAnew
def s_X6_authority : SP := fun as S Q => o3 0 as fun a n x => (¬ nm a 4 → Q (Sum.inr 0) S) ∧ (nm a 4 → ¬ (rg n 0 999 ∧ rg x 1 99999) → Q (Sum.inr 1) S) ∧ (nm a 4 → rg n 0 999 ∧ rg x 1 99999 → Q (Sum.inl none) (wrI (wrI S 10 0 a.toNatClampNeg n) 10 1 a.toNatClampNeg x))
def tb_X6_authority : Tb := [(0, .iload_n 1, 1, x0), (1, .iconst 4, 1, xI (4)), (2, .invokestatic 53, 3, xS 2 1 s_X6_needNumber), (5, .iload_n 2, 1, x0), (6, .iconst 0, 1, xI (0)), (7, .sipush 999, 3, xI (999)), (10, .invokestatic 64, 3, xS 3 1 s_X6_needRange), (13, .iload_n 3, 1, x0), (14, .iconst 1, 1, xI (1)), (15, .ldc 46, 2, xC 0 0 99999 [93]), (17, .invokestatic 64, 3, xS 3 1 s_X6_needRange), (20, .aload_n 0, 1, x0), (21, .getfield 13, 3, xF 7 1 [98]), (24, .iload_n 1, 1, x0), (25, .iload_n 2, 1, x0), (26, .iastore, 1, x0), (27, .aload_n 0, 1, x0), (28, .getfield 17, 3, xF 7 2 [99]), (31, .iload_n 1, 1, x0), (32, .iload_n 3, 1, x0), (33, .iastore, 1, x0), (34, .return_, 1, x0)]
theorem chk_X6_authority : chkTb cX6_authority "HeavyHaul" false tb_X6_authority = true := by decide +kernel
theorem cal_X6_authority {l : Launch} (hl : l.stackTraces = false) (hNL : NewL l) : CallsOK l "HeavyHaul" 1 tb_X6_authority := callsOK_f ⟨⟨_, _, 2, 0, _, (ct_X6_needNumber hl hNL), ⟨List.mem_of_getElem? (i := 144) (by decide +kernel), List.mem_of_getElem? (i := 26) (by decide +kernel), List.mem_of_getElem? (i := 142) (by decide +kernel), ⟨by decide +kernel, by decide +kernel⟩, by decide +kernel, by decide⟩, List.mem_of_getElem? (i := 143) (by decide +kernel), by decide⟩, ⟨_, _, 3, 0, _, (ct_X6_needRange hl hNL), ⟨List.mem_of_getElem? (i := 231) (by decide +kernel), List.mem_of_getElem? (i := 26) (by decide +kernel), List.mem_of_getElem? (i := 229) (by decide +kernel), ⟨by decide +kernel, by decide +kernel⟩, by decide +kernel, by decide⟩, List.mem_of_getElem? (i := 230) (by decide +kernel), by decide⟩, ⟨_, _, 3, 0, _, (ct_X6_needRange hl hNL), ⟨List.mem_of_getElem? (i := 231) (by decide +kernel), List.mem_of_getElem? (i := 26) (by decide +kernel), List.mem_of_getElem? (i := 229) (by decide +kernel), ⟨by decide +kernel, by decide +kernel⟩, by decide +kernel, by decide⟩, List.mem_of_getElem? (i := 230) (by decide +kernel), by decide⟩, trivial⟩
theorem ar_X6_authority : ∀ as S P, s_X6_authority as S P → as.length ≤ 4 ∧ ∀ a ∈ as, catV a = 1 := fun as S P h => by
  obtain ⟨_, _, _, rfl, _⟩ := o3_ok h
  exact ar_all ⟨Nat.le_of_ble_eq_true rfl, rfl⟩
theorem rc_X6_authority : ∀ as S P, s_X6_authority as S P → ∃ k i r, as = aR k i :: r ∧ ci k = 7 ∧ (obK k = true ∨ k = 13) := fun as S P h => by
  obtain ⟨_, _, _, rfl, _⟩ := o3_ok h
  exact ⟨_, _, _, rfl, rfl, Or.inl rfl⟩
theorem vc_X6_authority : ∀ (G : Gt) (Q : Out → Sto → Prop) (as : List AV) (S : Sto), s_X6_authority as S Q → Seg tb_X6_authority G Q 0 3 [] (0, fun _ => 0) → G 0 (argL as 4) [] S 0 := by
  intro G Q as S h hs
  obtain ⟨a, n, x, rfl, h0, h1, h2⟩ := o3_ok h
  refine hs [] 90 0 _ _ _ _ ?_
  refine ⟨fun q => h0 fun z => z.1 q, fun q => ⟨fun q' => ?_, fun q' => h0 fun z => q' z.2⟩⟩
  have hk : nm a 4 := ⟨q, q'⟩
  have hp : a.toNatClampNeg < 4 := nm_lt (n := 4) hk (by omega)
  refine ⟨fun a1 => h1 hk fun z => z.1.1 a1, fun a1 => ⟨fun a2 => ?_, fun a2 => h1 hk fun z => a2 z.1.2⟩⟩
  refine ⟨fun b1 => h1 hk fun z => z.2.1 b1, fun b1 => ⟨fun b2 => ?_, fun b2 => h1 hk fun z => b2 z.2.2⟩⟩
  exact ⟨fun z => z.elim q fun z => absurd hp (Nat.not_lt.mpr z), fun z => z.elim q fun z => absurd hp (Nat.not_lt.mpr z), h2 hk ⟨⟨a1, a2⟩, ⟨b1, b2⟩⟩⟩
theorem ct_X6_authority {l : Launch} (hl : l.stackTraces = false) (hNL : NewL l) : CT l yX6_authority cX6_authority 4 none 1 3 s_X6_authority := CT_of hl hNL (by decide +kernel) (own := "HeavyHaul") rfl (ini := false) (fun q => nomatch q) chk_X6_authority (cal_X6_authority hl hNL) ar_X6_authority vc_X6_authority
def knY (S : Sto) (r d : Int32) : Prop := nm r (nI (S.2.2 22)) ∧ nm d (nI (S.2.2 20))
def s_X6_why : SP := fun as S Q => o3 0 as fun r d t => WfH S ∧ (¬ knY S r d → Q (Sum.inr 0) S) ∧ (knY S r d → ¬ rg t 0 9999 → Q (Sum.inr 1) S) ∧ (knY S r d → rg t 0 9999 → Q (Sum.inl (some (aI (reasonH S r d t)))) S)
def tb_X6_why : Tb := [(0, .iload_n 1, 1, x0), (1, .aload_n 0, 1, x0), (2, .getfield 30, 3, xF 7 5 [102]), (5, .invokevirtual 68, 3, xS 1 0 s_Jx4a65c_size_8abf5), (8, .invokestatic 53, 3, xS 2 1 s_X6_needNumber), (11, .iload_n 2, 1, x0), (12, .aload_n 0, 1, x0), (13, .getfield 23, 3, xF 7 3 [100]), (16, .invokevirtual 68, 3, xS 1 0 s_Jx4a65c_size_8abf5), (19, .invokestatic 53, 3, xS 2 1 s_X6_needNumber), (22, .iload_n 3, 1, x0), (23, .iconst 0, 1, xI (0)), (24, .sipush 9999, 3, xI (9999)), (27, .invokestatic 64, 3, xS 3 1 s_X6_needRange), (30, .aload_n 0, 1, x0), (31, .iload_n 1, 1, x0), (32, .iload_n 2, 1, x0), (33, .iload_n 3, 1, x0), (34, .invokevirtual 165, 3, xS 4 0 s_X6_reasonAgainst), (37, .ireturn, 1, x0)]
theorem chk_X6_why : chkTb cX6_why "HeavyHaul" false tb_X6_why = true := by decide +kernel
theorem cal_X6_why {l : Launch} (hl : l.stackTraces = false) (hNL : NewL l) : CallsOK l "HeavyHaul" 6 tb_X6_why := callsOK_f ⟨⟨_, _, 1, 0, _, 0, (ct_Jx4a65c_size_8abf5 hl hNL), ⟨List.mem_of_getElem? (i := 236) (by decide +kernel), List.mem_of_getElem? (i := 29) (by decide +kernel), List.mem_of_getElem? (i := 233) (by decide +kernel), ⟨by decide +kernel, by decide +kernel⟩, by decide +kernel, by decide⟩, List.mem_of_getElem? (i := 234) (by decide +kernel), List.mem_of_getElem? (i := 235) (by decide +kernel), by decide, by decide, rc_Jx4a65c_size_8abf5⟩, ⟨_, _, 2, 0, _, (ct_X6_needNumber hl hNL), ⟨List.mem_of_getElem? (i := 144) (by decide +kernel), List.mem_of_getElem? (i := 26) (by decide +kernel), List.mem_of_getElem? (i := 142) (by decide +kernel), ⟨by decide +kernel, by decide +kernel⟩, by decide +kernel, by decide⟩, List.mem_of_getElem? (i := 143) (by decide +kernel), by decide⟩, ⟨_, _, 1, 0, _, 0, (ct_Jx4a65c_size_8abf5 hl hNL), ⟨List.mem_of_getElem? (i := 236) (by decide +kernel), List.mem_of_getElem? (i := 29) (by decide +kernel), List.mem_of_getElem? (i := 233) (by decide +kernel), ⟨by decide +kernel, by decide +kernel⟩, by decide +kernel, by decide⟩, List.mem_of_getElem? (i := 234) (by decide +kernel), List.mem_of_getElem? (i := 235) (by decide +kernel), by decide, by decide, rc_Jx4a65c_size_8abf5⟩, ⟨_, _, 2, 0, _, (ct_X6_needNumber hl hNL), ⟨List.mem_of_getElem? (i := 144) (by decide +kernel), List.mem_of_getElem? (i := 26) (by decide +kernel), List.mem_of_getElem? (i := 142) (by decide +kernel), ⟨by decide +kernel, by decide +kernel⟩, by decide +kernel, by decide⟩, List.mem_of_getElem? (i := 143) (by decide +kernel), by decide⟩, ⟨_, _, 3, 0, _, (ct_X6_needRange hl hNL), ⟨List.mem_of_getElem? (i := 231) (by decide +kernel), List.mem_of_getElem? (i := 26) (by decide +kernel), List.mem_of_getElem? (i := 229) (by decide +kernel), ⟨by decide +kernel, by decide +kernel⟩, by decide +kernel, by decide⟩, List.mem_of_getElem? (i := 230) (by decide +kernel), by decide⟩, ⟨_, _, 6, 5, _, 7, (ct_X6_reasonAgainst hl hNL), ⟨List.mem_of_getElem? (i := 617) (by decide +kernel), List.mem_of_getElem? (i := 26) (by decide +kernel), List.mem_of_getElem? (i := 614) (by decide +kernel), ⟨by decide +kernel, by decide +kernel⟩, by decide +kernel, by decide⟩, List.mem_of_getElem? (i := 616) (by decide +kernel), List.mem_of_getElem? (i := 9) (by decide +kernel), by decide, by decide, rc_X6_reasonAgainst⟩, trivial⟩
theorem ar_X6_why : ∀ as S P, s_X6_why as S P → as.length ≤ 4 ∧ ∀ a ∈ as, catV a = 1 := fun as S P h => by
  obtain ⟨_, _, _, rfl, _⟩ := o3_ok h
  exact ar_all ⟨Nat.le_of_ble_eq_true rfl, rfl⟩
theorem rc_X6_why : ∀ as S P, s_X6_why as S P → ∃ k i r, as = aR k i :: r ∧ ci k = 7 ∧ (obK k = true ∨ k = 13) := fun as S P h => by
  obtain ⟨_, _, _, rfl, _⟩ := o3_ok h
  exact ⟨_, _, _, rfl, rfl, Or.inl rfl⟩
theorem vc_X6_why : ∀ (G : Gt) (Q : Out → Sto → Prop) (as : List AV) (S : Sto), s_X6_why as S Q → Seg tb_X6_why G Q 1 3 [] (0, fun _ => 0) → G 0 (argL as 4) [] S 0 := by
  intro G Q as S h hs
  obtain ⟨r, d, t, rfl, hW, h0, h1, h2⟩ := o3_ok h
  have w13 := hW.1
  refine hs [] 90 0 _ _ _ _ ?_
  refine ⟨rfl, by omega, fun q => h0 fun z => z.1.1 q, fun q => ⟨fun q' => ?_, fun q' => h0 fun z => q' z.1.2⟩⟩
  refine ⟨rfl, by omega, fun p => h0 fun z => z.2.1 p, fun p => ⟨fun p' => ?_, fun p' => h0 fun z => p' z.2.2⟩⟩
  have hk : knY S r d := ⟨⟨q, q'⟩, ⟨p, p'⟩⟩
  refine ⟨fun a1 => h1 hk fun z => z.1 a1, fun a1 => ⟨fun a2 => ?_, fun a2 => h1 hk fun z => a2 z.2⟩⟩
  exact ⟨rfl, rfl, hW, nm_in ⟨q, q'⟩, nm_in ⟨p, p'⟩, h2 hk ⟨a1, a2⟩⟩
theorem ct_X6_why {l : Launch} (hl : l.stackTraces = false) (hNL : NewL l) : CT l yX6_why cX6_why 4 (some .int) 6 3 s_X6_why := CT_of hl hNL (by decide +kernel) (own := "HeavyHaul") rfl (ini := false) (fun q => nomatch q) chk_X6_why (cal_X6_why hl hNL) ar_X6_why vc_X6_why
end
section
/-! THE CLASS's PUBLIC METHODS: rigs and time -/
def isH (S : Sto) (j : Nat) (w : Int32) : Int32 := if w = 0 then (if S.1 4 9 j = -1 then S.1 4 8 j else -1) else if w = 1 then S.1 4 9 j else if w = 2 then S.1 4 10 j else if w = 3 then S.1 4 11 j else S.1 4 12 j
def s_X6_rigIs : SP := fun as S Q => o2 0 as fun r w => WfH S ∧ (¬ nm r (nI (S.2.2 22)) → Q (Sum.inr 0) S) ∧ (nm r (nI (S.2.2 22)) → ¬ rg w 0 4 → Q (Sum.inr 1) S) ∧ (nm r (nI (S.2.2 22)) → rg w 0 4 → Q (Sum.inl (some (aI (isH S r.toNatClampNeg w)))) S)
def tb_X6_rigIs : Tb := [(0, .aload_n 0, 1, x0), (1, .iload_n 1, 1, x0), (2, .invokevirtual 123, 3, xS 2 1 s_X6_rigOf), (5, .astore_n 3, 1, x0), (6, .iload_n 2, 1, x0), (7, .iconst 0, 1, xI (0)), (8, .iconst 4, 1, xI (4)), (9, .invokestatic 64, 3, xS 3 1 s_X6_needRange), (12, .iload_n 2, 1, x0), (13, .tableswitch 62 0 3 #[31, 47, 52, 57], 31, xF 75 0 [44, 60, 65, 70]), (44, .aload_n 3, 1, x0), (45, .invokevirtual 128, 3, xS 1 0 s_X3_isDriving), (48, .ifCond .eq 7, 3, xN 55), (51, .iconst (-1), 1, xI (-1)), (52, .goto 7, 3, xN 59), (55, .aload_n 3, 1, x0), (56, .getfield 169, 3, xF 4 8 [385]), (59, .ireturn, 1, x0), (60, .aload_n 3, 1, x0), (61, .getfield 211, 3, xF 4 9 [387]), (64, .ireturn, 1, x0), (65, .aload_n 3, 1, x0), (66, .getfield 194, 3, xF 4 10 [389]), (69, .ireturn, 1, x0), (70, .aload_n 3, 1, x0), (71, .getfield 214, 3, xF 4 11 [390]), (74, .ireturn, 1, x0), (75, .aload_n 3, 1, x0), (76, .getfield 217, 3, xF 4 12 [392]), (79, .ireturn, 1, x0)]
theorem chk_X6_rigIs : chkTb cX6_rigIs "HeavyHaul" false tb_X6_rigIs = true := by decide +kernel
theorem cal_X6_rigIs {l : Launch} (hl : l.stackTraces = false) (hNL : NewL l) : CallsOK l "HeavyHaul" 4 tb_X6_rigIs := callsOK_f ⟨⟨_, _, 2, 3, _, 7, (ct_X6_rigOf hl hNL), ⟨List.mem_of_getElem? (i := 578) (by decide +kernel), List.mem_of_getElem? (i := 26) (by decide +kernel), List.mem_of_getElem? (i := 575) (by decide +kernel), ⟨by decide +kernel, by decide +kernel⟩, by decide +kernel, by decide⟩, List.mem_of_getElem? (i := 577) (by decide +kernel), List.mem_of_getElem? (i := 8) (by decide +kernel), by decide, by decide, rc_X6_rigOf⟩, ⟨_, _, 3, 0, _, (ct_X6_needRange hl hNL), ⟨List.mem_of_getElem? (i := 231) (by decide +kernel), List.mem_of_getElem? (i := 26) (by decide +kernel), List.mem_of_getElem? (i := 229) (by decide +kernel), ⟨by decide +kernel, by decide +kernel⟩, by decide +kernel, by decide⟩, List.mem_of_getElem? (i := 230) (by decide +kernel), by decide⟩, ⟨_, _, 1, 0, _, 4, (ct_X3_isDriving hl hNL), ⟨List.mem_of_getElem? (i := 583) (by decide +kernel), List.mem_of_getElem? (i := 41) (by decide +kernel), List.mem_of_getElem? (i := 580) (by decide +kernel), ⟨by decide +kernel, by decide +kernel⟩, by decide +kernel, by decide⟩, List.mem_of_getElem? (i := 581) (by decide +kernel), List.mem_of_getElem? (i := 582) (by decide +kernel), by decide, by decide, rc_X3_isDriving⟩, trivial⟩
theorem ar_X6_rigIs : ∀ as S P, s_X6_rigIs as S P → as.length ≤ 4 ∧ ∀ a ∈ as, catV a = 1 := fun as S P h => by
  obtain ⟨_, _, rfl, _⟩ := o2_ok h
  exact ar_all ⟨Nat.le_of_ble_eq_true rfl, rfl⟩
theorem rc_X6_rigIs : ∀ as S P, s_X6_rigIs as S P → ∃ k i r, as = aR k i :: r ∧ ci k = 7 ∧ (obK k = true ∨ k = 13) := fun as S P h => by
  obtain ⟨_, _, rfl, _⟩ := o2_ok h
  exact ⟨_, _, _, rfl, rfl, Or.inl rfl⟩
theorem ti_inj {x : Int32} {n : Int} (m : Int32) (hm : m.toInt = n) (h : x.toInt = n) : x = m := Int32.toInt_inj.mp (h.trans hm.symm)
theorem vc_X6_rigIs : ∀ (G : Gt) (Q : Out → Sto → Prop) (as : List AV) (S : Sto), s_X6_rigIs as S Q → Seg tb_X6_rigIs G Q 1 2 [] (0, fun _ => 0) → G 0 (argL as 4) [] S 0 := by
  intro G Q as S h hs
  obtain ⟨r, w, rfl, hW, h0, h1, h2⟩ := o2_ok h
  have w13 := hW.1
  refine hs [] 90 0 _ _ _ _ ?_
  refine ⟨rfl, by omega, fun q => h0 fun z => z.1 q, fun q => ⟨fun q' => ?_, fun q' => h0 fun z => q' z.2⟩⟩
  have hk : nm r (nI (S.2.2 22)) := ⟨q, q'⟩
  refine ⟨rfl, by omega, Int32.not_lt.mp q, q', ?_⟩
  refine ⟨fun a1 => h1 hk fun z => z.1 a1, fun a1 => ⟨fun a2 => ?_, fun a2 => h1 hk fun z => a2 z.2⟩⟩
  have h3 := h2 hk ⟨a1, a2⟩
  unfold isH at h3
  refine ⟨fun z => ?_, fun z => ?_, fun z => ?_, fun z => ?_, fun z => ?_, trivial⟩
  · have hw : ¬ w = 0 ∧ ¬ w = 1 ∧ ¬ w = 2 ∧ ¬ w = 3 := by
      refine ⟨?_, ?_, ?_, ?_⟩ <;> (rintro rfl; revert z; decide)
    rw [if_neg hw.1, if_neg hw.2.1, if_neg hw.2.2.1, if_neg hw.2.2.2] at h3
    exact h3
  · have hw : w = 0 := ti_inj 0 rfl z
    rw [if_pos hw] at h3
    refine ⟨fun y => ⟨rfl, fun _ => ?_, fun q => absurd rfl q⟩, fun y => ⟨rfl, fun q => absurd q (by decide), fun _ => ?_⟩⟩
    · have y' : S.1 4 9 r.toNatClampNeg = -1 := y
      rw [if_pos y'] at h3
      exact h3
    · have y' : ¬ S.1 4 9 r.toNatClampNeg = -1 := y
      rw [if_neg y'] at h3
      exact h3
  · have hw : w = 1 := ti_inj 1 rfl z
    subst hw
    exact h3
  · have hw : w = 2 := ti_inj 2 rfl z
    subst hw
    exact h3
  · have hw : w = 3 := ti_inj 3 rfl z
    subst hw
    exact h3
theorem ct_X6_rigIs {l : Launch} (hl : l.stackTraces = false) (hNL : NewL l) : CT l yX6_rigIs cX6_rigIs 4 (some .int) 4 2 s_X6_rigIs := CT_of hl hNL (by decide +kernel) (own := "HeavyHaul") rfl (ini := false) (fun q => nomatch q) chk_X6_rigIs (cal_X6_rigIs hl hNL) ar_X6_rigIs vc_X6_rigIs
def passS (S : Sto) : Nat → Sto
  | 0 => S
  | n + 1 => tenS (passS S n) ((passS S n).2.2 22)
theorem passS_wf {S : Sto} (hW : WfH S) (n : Nat) : WfH (passS S n) := by
  induction n with
  | zero => exact hW
  | succ n ih => exact tenS_wf ih
def s_X6_pass : SP := fun as S Q => o1 0 as fun t => WfH S ∧ (¬ rg t 1 144 → Q (Sum.inr 1) S) ∧ (rg t 1 144 → ¬ (S.1 0 9 0 + t ≤ 9999) → Q (Sum.inr 2) S) ∧ (rg t 1 144 → S.1 0 9 0 + t ≤ 9999 → Q (Sum.inl (some (aI ((passS S t.toNatClampNeg).1 0 9 0)))) (passS S t.toNatClampNeg))
def tb_X6_pass : Tb := [(0, .iload_n 1, 1, x0), (1, .iconst 1, 1, xI (1)), (2, .sipush 144, 3, xI (144)), (5, .invokestatic 64, 3, xS 3 1 s_X6_needRange), (8, .aload_n 0, 1, x0), (9, .getfield 42, 3, xF 7 9 [106]), (12, .iload_n 1, 1, x0), (13, .iadd, 1, x0), (14, .sipush 9999, 3, xI (9999)), (17, .if_icmp .le 13, 3, xN 30), (20, .new 131, 10, xF 52 0 [240, 36, 220, 135]), (30, .iconst 0, 1, xI (0)), (31, .istore_n 2, 1, x0), (32, .iload_n 2, 1, x0), (33, .iload_n 1, 1, x0), (34, .if_icmp .ge 13, 3, xN 47), (37, .aload_n 0, 1, x0), (38, .invokevirtual 222, 3, xS 1 0 s_X6_letTenGoBy), (41, .iinc 2 1, 3, xI (1)), (44, .goto (-12), 3, xN 32), (47, .aload_n 0, 1, x0), (48, .getfield 42, 3, xF 7 9 [106]), (51, .ireturn, 1, x0)]
theorem chk_X6_pass : chkTb cX6_pass "HeavyHaul" false tb_X6_pass = true := by decide +kernel
theorem cal_X6_pass {l : Launch} (hl : l.stackTraces = false) (hNL : NewL l) : CallsOK l "HeavyHaul" 4 tb_X6_pass := callsOK_f ⟨⟨_, _, 3, 0, _, (ct_X6_needRange hl hNL), ⟨List.mem_of_getElem? (i := 231) (by decide +kernel), List.mem_of_getElem? (i := 26) (by decide +kernel), List.mem_of_getElem? (i := 229) (by decide +kernel), ⟨by decide +kernel, by decide +kernel⟩, by decide +kernel, by decide⟩, List.mem_of_getElem? (i := 230) (by decide +kernel), by decide⟩, ⟨_, _, 4, 3, _, 7, (ct_X6_letTenGoBy hl hNL), ⟨List.mem_of_getElem? (i := 702) (by decide +kernel), List.mem_of_getElem? (i := 26) (by decide +kernel), List.mem_of_getElem? (i := 699) (by decide +kernel), ⟨by decide +kernel, by decide +kernel⟩, by decide +kernel, by decide⟩, List.mem_of_getElem? (i := 701) (by decide +kernel), List.mem_of_getElem? (i := 18) (by decide +kernel), by decide, by decide, rc_X6_letTenGoBy⟩, trivial⟩
theorem ar_X6_pass : ∀ as S P, s_X6_pass as S P → as.length ≤ 3 ∧ ∀ a ∈ as, catV a = 1 := fun as S P h => by
  obtain ⟨_, rfl, _⟩ := o1_ok h
  exact ar_all ⟨Nat.le_of_ble_eq_true rfl, rfl⟩
theorem rc_X6_pass : ∀ as S P, s_X6_pass as S P → ∃ k i r, as = aR k i :: r ∧ ci k = 7 ∧ (obK k = true ∨ k = 13) := fun as S P h => by
  obtain ⟨_, rfl, _⟩ := o1_ok h
  exact ⟨_, _, _, rfl, rfl, Or.inl rfl⟩
theorem vc_X6_pass : ∀ (G : Gt) (Q : Out → Sto → Prop) (as : List AV) (S : Sto), s_X6_pass as S Q → Seg tb_X6_pass G Q 1 2 [] (0, fun _ => 0) → G 0 (argL as 3) [] S 0 := by
  intro G Q as S h hs
  obtain ⟨t, rfl, hW, h0, h1, h2⟩ := o1_ok h
  refine hs [32] 90 0 _ _ _ _ ?_
  refine ⟨fun a1 => h0 fun z => z.1 a1, fun a1 => ⟨fun a2 => ?_, fun a2 => h0 fun z => a2 z.2⟩⟩
  have hk : rg t 1 144 := ⟨a1, a2⟩
  have htn : ¬ t < 0 := fun q => a1 (Int32.lt_trans q (by decide))
  have et : t = nI t.toNatClampNeg := nm_eq (n := 0) htn
  have ht9 : t.toNatClampNeg ≤ 144 := by
    have h9 : nI t.toNatClampNeg ≤ nI 144 := by rw [← et]; exact a2
    obtain ⟨q, hq, rfl⟩ := nI_of htn
    rw [nI_cl hq] at h9 ⊢
    exact (nI_le2 hq (by omega)).mp h9
  have loop : S.1 0 9 0 + t ≤ 9999 → ∀ m k, k + m = t.toNatClampNeg → G 32 [some (aR 0 0), some (aI t), some (aI (nI k))] [] (passS S k) 1 := by
    intro hle
    have h3 := h2 hk hle
    generalize hT : t.toNatClampNeg = T at *
    subst et
    intro m
    induction m with
    | zero =>
      intro k hkk
      obtain rfl : k = T := hkk
      refine hs [32] 60 32 _ _ _ _ ?_
      exact ⟨fun _ => h3, fun q => (lp_end q).elim⟩
    | succ m ih =>
      intro k hkk
      have h4 := ih (k + 1) (by omega)
      rw [← nI_s] at h4
      refine hs [32] 60 32 _ _ _ _ ?_
      exact ⟨fun q => absurd q (lp_go (n := T) (by omega) (by omega)), fun _ => ⟨rfl, rfl, passS_wf hW k, h4⟩⟩
  exact ⟨fun z => loop z _ 0 (Nat.zero_add _), fun z => h1 hk z⟩
theorem ct_X6_pass {l : Launch} (hl : l.stackTraces = false) (hNL : NewL l) : CT l yX6_pass cX6_pass 3 (some .int) 4 2 s_X6_pass := CT_of hl hNL (by decide +kernel) (own := "HeavyHaul") rfl (ini := false) (fun q => nomatch q) chk_X6_pass (cal_X6_pass hl hNL) ar_X6_pass vc_X6_pass
def levF (S : Sto) (j : Nat) (c : Int32) : Int32 := 2 * c - (S.1 4 0 j / 2 - 1) * S.1 4 1 j
def basF (S : Sto) (j : Nat) : Int32 := S.1 4 0 j * S.1 4 1 j
def shrF (S : Sto) (j : Nat) (x : Int32) : Int32 := (x + S.1 4 5 j / 2 + S.1 4 0 j / 2 - 1) / (S.1 4 0 j / 2)
def reaF (S : Sto) (j : Nat) (w c : Int32) : Int32 := w * levF S j c / basF S j
def takeS (S : Sto) (j : Nat) (w c : Int32) : Sto := wrI (wrI S 4 6 j (shrF S j (w - reaF S j w c))) 4 7 j (shrF S j (reaF S j w c))
def canT (S : Sto) (j : Nat) (w c : Int32) : Prop := w = 0 ∨ (¬ levF S j c < 0 ∧ levF S j c ≤ basF S j)
theorem half_ok : ∀ a, a ≤ 8 → 1 ≤ a → nI (2 * a) / 2 = nI a ∧ ¬ nI a ≤ 0 ∧ ¬ nI a = 0 := by decide +kernel
theorem base_ok : ∀ a, a ≤ 8 → ∀ d, d ≤ 5 → 1 ≤ a → 1 ≤ d → ¬ nI (2 * a) * nI d ≤ 0 ∧ ¬ nI (2 * a) * nI d = 0 := by decide +kernel
theorem rig_pos {S : Sto} {j : Nat} (h : RiF S j) : ¬ basF S j ≤ 0 ∧ ¬ basF S j = 0 ∧ ¬ S.1 4 0 j / 2 ≤ 0 ∧ ¬ S.1 4 0 j / 2 = 0 := by
  obtain ⟨a, d, p, ha, hd, -, a1, a8, d1, d5, -⟩ := h
  unfold basF
  rw [ha, hd, (half_ok a a8 a1).1]
  exact ⟨(base_ok a a8 d d5 a1 d1).1, (base_ok a a8 d d5 a1 d1).2, (half_ok a a8 a1).2⟩
theorem n2z : ¬ (2 : Int32) = 0 := by decide
def g2 (as : List AV) (f : Nat → Int32 → Int32 → Prop) : Prop := match as with
  | [Sum.inr (Sum.inr (k, i)), Sum.inl a, Sum.inl b] => k = 4 ∧ f i a b
  | _ => False
theorem g2_ok {as : List AV} {f : Nat → Int32 → Int32 → Prop} (h : g2 as f) : ∃ i a b, as = [aR 4 i, aI a, aI b] ∧ f i a b := by
  unfold g2 at h
  split at h
  · obtain ⟨rfl, h⟩ := h; exact ⟨_, _, _, rfl, h⟩
  · exact h.elim
def s_X3_take : SP := fun as S Q => g2 as fun j w c => RiF S j ∧ Q (Sum.inl none) (takeS S j w c)
def tb_X3_take : Tb := [(0, .aload_n 0, 1, x0), (1, .invokevirtual 43, 3, xS 1 0 s_X3_base), (4, .istore_n 3, 1, x0), (5, .iload_n 3, 1, x0), (6, .ifCond .le 15, 3, xN 21), (9, .iload_n 1, 1, x0), (10, .aload_n 0, 1, x0), (11, .iload_n 2, 1, x0), (12, .invokevirtual 39, 3, xS 2 0 s_X3_leverOf), (15, .imul, 1, x0), (16, .iload_n 3, 1, x0), (17, .idiv, 1, x0), (18, .goto 4, 3, xN 22), (21, .iconst 0, 1, xI (0)), (22, .istore 4, 2, x0), (24, .aload_n 0, 1, x0), (25, .aload_n 0, 1, x0), (26, .iload_n 1, 1, x0), (27, .iload 4, 2, x0), (29, .isub, 1, x0), (30, .invokevirtual 47, 3, xS 2 0 s_X3_share), (33, .putfield 50, 3, xF 4 6 [382]), (36, .aload_n 0, 1, x0), (37, .aload_n 0, 1, x0), (38, .iload 4, 2, x0), (40, .invokevirtual 47, 3, xS 2 0 s_X3_share), (43, .putfield 53, 3, xF 4 7 [383]), (46, .return_, 1, x0)]
theorem chk_X3_take : chkTb cX3_take "HeavyHaul$Rig" false tb_X3_take = true := by decide +kernel
theorem cal_X3_take {l : Launch} (hl : l.stackTraces = false) (hNL : NewL l) : CallsOK l "HeavyHaul$Rig" 1 tb_X3_take := callsOK_f ⟨⟨_, _, 1, 0, _, 4, (ct_X3_base hl hNL), ⟨List.mem_of_getElem? (i := 427) (by decide +kernel), List.mem_of_getElem? (i := 41) (by decide +kernel), List.mem_of_getElem? (i := 424) (by decide +kernel), ⟨by decide +kernel, by decide +kernel⟩, by decide +kernel, by decide⟩, List.mem_of_getElem? (i := 426) (by decide +kernel), List.mem_of_getElem? (i := 4) (by decide +kernel), by decide, by decide, rc_X3_base⟩, ⟨_, _, 2, 0, _, 4, (ct_X3_leverOf hl hNL), ⟨List.mem_of_getElem? (i := 431) (by decide +kernel), List.mem_of_getElem? (i := 41) (by decide +kernel), List.mem_of_getElem? (i := 428) (by decide +kernel), ⟨by decide +kernel, by decide +kernel⟩, by decide +kernel, by decide⟩, List.mem_of_getElem? (i := 430) (by decide +kernel), List.mem_of_getElem? (i := 5) (by decide +kernel), by decide, by decide, rc_X3_leverOf⟩, ⟨_, _, 4, 0, _, 4, (ct_X3_share hl hNL), ⟨List.mem_of_getElem? (i := 435) (by decide +kernel), List.mem_of_getElem? (i := 41) (by decide +kernel), List.mem_of_getElem? (i := 432) (by decide +kernel), ⟨by decide +kernel, by decide +kernel⟩, by decide +kernel, by decide⟩, List.mem_of_getElem? (i := 434) (by decide +kernel), List.mem_of_getElem? (i := 6) (by decide +kernel), by decide, by decide, rc_X3_share⟩, ⟨_, _, 4, 0, _, 4, (ct_X3_share hl hNL), ⟨List.mem_of_getElem? (i := 435) (by decide +kernel), List.mem_of_getElem? (i := 41) (by decide +kernel), List.mem_of_getElem? (i := 432) (by decide +kernel), ⟨by decide +kernel, by decide +kernel⟩, by decide +kernel, by decide⟩, List.mem_of_getElem? (i := 434) (by decide +kernel), List.mem_of_getElem? (i := 6) (by decide +kernel), by decide, by decide, rc_X3_share⟩, trivial⟩
theorem ar_X3_take : ∀ as S P, s_X3_take as S P → as.length ≤ 5 ∧ ∀ a ∈ as, catV a = 1 := fun as S P h => by
  obtain ⟨_, _, _, rfl, _⟩ := g2_ok h
  exact ar_all ⟨Nat.le_of_ble_eq_true rfl, rfl⟩
theorem rc_X3_take : ∀ as S P, s_X3_take as S P → ∃ k i r, as = aR k i :: r ∧ ci k = 4 ∧ (obK k = true ∨ k = 13) := fun as S P h => by
  obtain ⟨_, _, _, rfl, _⟩ := g2_ok h
  exact ⟨_, _, _, rfl, rfl, Or.inl rfl⟩
theorem vc_X3_take : ∀ (G : Gt) (Q : Out → Sto → Prop) (as : List AV) (S : Sto), s_X3_take as S Q → Seg tb_X3_take G Q 0 0 [] (0, fun _ => 0) → G 0 (argL as 5) [] S 0 := by
  intro G Q as S h hs
  obtain ⟨j, w, c, rfl, hR, hQ⟩ := g2_ok h
  obtain ⟨p1, p2, p3, p4⟩ := rig_pos hR
  refine hs [] 60 0 _ _ _ _ ?_
  exact ⟨fun x => absurd x p1, fun _ => ⟨n2z, p2, n2z, n2z, fun x => absurd x p3, fun _ => ⟨p4, n2z, n2z, fun x => absurd x p3, fun _ => ⟨p4, hQ⟩⟩⟩⟩
theorem ct_X3_take {l : Launch} (hl : l.stackTraces = false) (hNL : NewL l) : CT l yX3_take cX3_take 5 none 1 0 s_X3_take := CT_of hl hNL (by decide +kernel) (own := "HeavyHaul$Rig") rfl (ini := false) (fun q => nomatch q) chk_X3_take (cal_X3_take hl hNL) ar_X3_take vc_X3_take
def s_X6_load : SP := fun as S Q => o3 0 as fun r w c => WfH S ∧ (¬ nm r (nI (S.2.2 22)) → Q (Sum.inr 0) S) ∧ (nm r (nI (S.2.2 22)) → ¬ (rg w 0 200000 ∧ rg c 0 80) → Q (Sum.inr 1) S) ∧ (nm r (nI (S.2.2 22)) → rg w 0 200000 ∧ rg c 0 80 → ¬ (S.1 4 9 r.toNatClampNeg = -1 ∧ canT S r.toNatClampNeg w c) → Q (Sum.inr 2) S) ∧
  (nm r (nI (S.2.2 22)) → rg w 0 200000 ∧ rg c 0 80 → S.1 4 9 r.toNatClampNeg = -1 ∧ canT S r.toNatClampNeg w c → Q (Sum.inl none) (takeS S r.toNatClampNeg w c))
def tb_X6_load : Tb := [(0, .aload_n 0, 1, x0), (1, .iload_n 1, 1, x0), (2, .invokevirtual 123, 3, xS 2 1 s_X6_rigOf), (5, .astore 4, 2, x0), (7, .iload_n 2, 1, x0), (8, .iconst 0, 1, xI (0)), (9, .ldc 127, 2, xC 0 0 200000 [579]), (11, .invokestatic 64, 3, xS 3 1 s_X6_needRange), (14, .iload_n 3, 1, x0), (15, .iconst 0, 1, xI (0)), (16, .bipush 80, 2, xI (80)), (18, .invokestatic 64, 3, xS 3 1 s_X6_needRange), (21, .aload 4, 2, x0), (23, .invokevirtual 128, 3, xS 1 0 s_X3_isDriving), (26, .ifCond .eq 13, 3, xN 39), (29, .new 131, 10, xF 52 0 [240, 36, 133, 135]), (39, .aload 4, 2, x0), (41, .iload_n 2, 1, x0), (42, .iload_n 3, 1, x0), (43, .invokevirtual 136, 3, xS 3 0 s_X3_canTake), (46, .ifCond .ne 13, 3, xN 59), (49, .new 131, 10, xF 52 0 [240, 36, 140, 135]), (59, .aload 4, 2, x0), (61, .iload_n 2, 1, x0), (62, .iload_n 3, 1, x0), (63, .invokevirtual 120, 3, xS 3 0 s_X3_take), (66, .return_, 1, x0)]
theorem chk_X6_load : chkTb cX6_load "HeavyHaul" false tb_X6_load = true := by decide +kernel
theorem cal_X6_load {l : Launch} (hl : l.stackTraces = false) (hNL : NewL l) : CallsOK l "HeavyHaul" 4 tb_X6_load := callsOK_f ⟨⟨_, _, 2, 3, _, 7, (ct_X6_rigOf hl hNL), ⟨List.mem_of_getElem? (i := 578) (by decide +kernel), List.mem_of_getElem? (i := 26) (by decide +kernel), List.mem_of_getElem? (i := 575) (by decide +kernel), ⟨by decide +kernel, by decide +kernel⟩, by decide +kernel, by decide⟩, List.mem_of_getElem? (i := 577) (by decide +kernel), List.mem_of_getElem? (i := 8) (by decide +kernel), by decide, by decide, rc_X6_rigOf⟩, ⟨_, _, 3, 0, _, (ct_X6_needRange hl hNL), ⟨List.mem_of_getElem? (i := 231) (by decide +kernel), List.mem_of_getElem? (i := 26) (by decide +kernel), List.mem_of_getElem? (i := 229) (by decide +kernel), ⟨by decide +kernel, by decide +kernel⟩, by decide +kernel, by decide⟩, List.mem_of_getElem? (i := 230) (by decide +kernel), by decide⟩, ⟨_, _, 3, 0, _, (ct_X6_needRange hl hNL), ⟨List.mem_of_getElem? (i := 231) (by decide +kernel), List.mem_of_getElem? (i := 26) (by decide +kernel), List.mem_of_getElem? (i := 229) (by decide +kernel), ⟨by decide +kernel, by decide +kernel⟩, by decide +kernel, by decide⟩, List.mem_of_getElem? (i := 230) (by decide +kernel), by decide⟩, ⟨_, _, 1, 0, _, 4, (ct_X3_isDriving hl hNL), ⟨List.mem_of_getElem? (i := 583) (by decide +kernel), List.mem_of_getElem? (i := 41) (by decide +kernel), List.mem_of_getElem? (i := 580) (by decide +kernel), ⟨by decide +kernel, by decide +kernel⟩, by decide +kernel, by decide⟩, List.mem_of_getElem? (i := 581) (by decide +kernel), List.mem_of_getElem? (i := 582) (by decide +kernel), by decide, by decide, rc_X3_isDriving⟩, ⟨_, _, 3, 1, _, 4, (ct_X3_canTake hl hNL), ⟨List.mem_of_getElem? (i := 588) (by decide +kernel), List.mem_of_getElem? (i := 41) (by decide +kernel), List.mem_of_getElem? (i := 585) (by decide +kernel), ⟨by decide +kernel, by decide +kernel⟩, by decide +kernel, by decide⟩, List.mem_of_getElem? (i := 586) (by decide +kernel), List.mem_of_getElem? (i := 587) (by decide +kernel), by decide, by decide, rc_X3_canTake⟩, ⟨_, _, 5, 1, _, 4, (ct_X3_take hl hNL), ⟨List.mem_of_getElem? (i := 423) (by decide +kernel), List.mem_of_getElem? (i := 41) (by decide +kernel), List.mem_of_getElem? (i := 420) (by decide +kernel), ⟨by decide +kernel, by decide +kernel⟩, by decide +kernel, by decide⟩, List.mem_of_getElem? (i := 421) (by decide +kernel), List.mem_of_getElem? (i := 422) (by decide +kernel), by decide, by decide, rc_X3_take⟩, trivial⟩
theorem ar_X6_load : ∀ as S P, s_X6_load as S P → as.length ≤ 5 ∧ ∀ a ∈ as, catV a = 1 := fun as S P h => by
  obtain ⟨_, _, _, rfl, _⟩ := o3_ok h
  exact ar_all ⟨Nat.le_of_ble_eq_true rfl, rfl⟩
theorem rc_X6_load : ∀ as S P, s_X6_load as S P → ∃ k i r, as = aR k i :: r ∧ ci k = 7 ∧ (obK k = true ∨ k = 13) := fun as S P h => by
  obtain ⟨_, _, _, rfl, _⟩ := o3_ok h
  exact ⟨_, _, _, rfl, rfl, Or.inl rfl⟩
theorem vc_X6_load : ∀ (G : Gt) (Q : Out → Sto → Prop) (as : List AV) (S : Sto), s_X6_load as S Q → Seg tb_X6_load G Q 0 4 [] (0, fun _ => 0) → G 0 (argL as 5) [] S 0 := by
  intro G Q as S h hs
  obtain ⟨r, w, c, rfl, hW, h0, h1, h2, h3⟩ := o3_ok h
  have w13 := hW.1
  refine hs [] 90 0 _ _ _ _ ?_
  refine ⟨rfl, by omega, fun q => h0 fun z => z.1 q, fun q => ⟨fun q' => ?_, fun q' => h0 fun z => q' z.2⟩⟩
  have hk : nm r (nI (S.2.2 22)) := ⟨q, q'⟩
  refine ⟨rfl, by omega, Int32.not_lt.mp q, q', ?_⟩
  refine ⟨fun a1 => h1 hk fun z => z.1.1 a1, fun a1 => ⟨fun a2 => ?_, fun a2 => h1 hk fun z => a2 z.1.2⟩⟩
  refine ⟨fun b1 => h1 hk fun z => z.2.1 b1, fun b1 => ⟨fun b2 => ?_, fun b2 => h1 hk fun z => b2 z.2.2⟩⟩
  have hf : rg w 0 200000 ∧ rg c 0 80 := ⟨⟨a1, a2⟩, ⟨b1, b2⟩⟩
  have hj : r.toNatClampNeg < S.2.2 22 := nm_lt hk (by have := hW.2.1.2.2.1; omega)
  have hRi := hW.2.2.2.2.2.2.2 _ hj
  have bad := h2 hk hf
  refine ⟨fun y => ⟨rfl, fun _ => ?_, fun q => absurd rfl q⟩, fun y => ⟨rfl, fun q => absurd q (by decide), fun _ => bad fun z => y z.1⟩⟩
  have y' : S.1 4 9 r.toNatClampNeg = -1 := y
  have good : canT S r.toNatClampNeg w c → Q (Sum.inl none) (takeS S r.toNatClampNeg w c) := fun z => h3 hk hf ⟨y', z⟩
  refine ⟨fun w0 => ⟨rfl, fun _ => ?_, fun q => absurd q (by decide)⟩, fun w0 => ⟨n2z, fun l1 => ⟨rfl, fun q => absurd rfl q, fun _ => bad fun z => z.2.elim w0 fun x => x.1 l1⟩, fun l1 => ⟨n2z, fun l2 => ⟨rfl, fun q => absurd rfl q, fun _ => bad fun z => z.2.elim w0 fun x => absurd x.2 (Int32.not_le.mpr l2)⟩, fun l2 => ⟨rfl, fun _ => ?_, fun q => absurd q (by decide)⟩⟩⟩⟩
  · exact ⟨rfl, hRi, good (Or.inl w0)⟩
  · exact ⟨rfl, hRi, good (Or.inr ⟨l1, Int32.not_lt.mp l2⟩)⟩
theorem ct_X6_load {l : Launch} (hl : l.stackTraces = false) (hNL : NewL l) : CT l yX6_load cX6_load 5 none 4 4 s_X6_load := CT_of hl hNL (by decide +kernel) (own := "HeavyHaul") rfl (ini := false) (fun q => nomatch q) chk_X6_load (cal_X6_load hl hNL) ar_X6_load vc_X6_load
def endsB (S : Sto) (i : Nat) (p : Int32) : Prop := p = S.1 2 0 i ∨ p = S.1 2 1 i
def beyP (S : Sto) (i : Nat) (p : Int32) : Int32 := if p = S.1 2 0 i then S.1 2 1 i else S.1 2 0 i
def drvS (S : Sto) (j i : Nat) (d : Int32) : Sto := wrI (wrI (wrI (wrI S 4 9 j d) 4 8 j (beyP S i (S.1 4 8 j))) 4 10 j (S.1 0 9 0 + S.1 2 6 i)) 4 12 j (S.1 4 12 j + 1)
def canD (S : Sto) (r d : Int32) : Prop := S.1 4 9 r.toNatClampNeg = -1 ∧ endsB S d.toNatClampNeg (S.1 4 8 r.toNatClampNeg) ∧ reasonH S r d (S.1 0 9 0) = 0 ∧ (S.1 2 7 d.toNatClampNeg ≤ 0 ∨ anyN (onH S d) (S.2.2 22) = false)
def s_X6_drive : SP := fun as S Q => o2 0 as fun r d => WfH S ∧ (¬ knY S r d → Q (Sum.inr 0) S) ∧ (knY S r d → ¬ canD S r d → Q (Sum.inr 2) S) ∧ (knY S r d → canD S r d → Q (Sum.inl (some (aI ((drvS S r.toNatClampNeg d.toNatClampNeg d).1 4 10 r.toNatClampNeg)))) (drvS S r.toNatClampNeg d.toNatClampNeg d))
def tb_X6_drive : Tb := [(0, .aload_n 0, 1, x0), (1, .iload_n 1, 1, x0), (2, .invokevirtual 123, 3, xS 2 1 s_X6_rigOf), (5, .astore_n 3, 1, x0), (6, .aload_n 0, 1, x0), (7, .iload_n 2, 1, x0), (8, .invokevirtual 84, 3, xS 2 1 s_X6_roadOf), (11, .astore 4, 2, x0), (13, .aload_n 3, 1, x0), (14, .invokevirtual 128, 3, xS 1 0 s_X3_isDriving), (17, .ifCond .eq 13, 3, xN 30), (20, .new 131, 10, xF 52 0 [240, 36, 133, 135]), (30, .aload 4, 2, x0), (32, .aload_n 3, 1, x0), (33, .getfield 169, 3, xF 4 8 [385]), (36, .invokevirtual 172, 3, xS 2 0 s_X4_endsAt), (39, .ifCond .ne 13, 3, xN 52), (42, .new 131, 10, xF 52 0 [240, 36, 176, 135]), (52, .aload_n 0, 1, x0), (53, .iload_n 1, 1, x0), (54, .iload_n 2, 1, x0), (55, .aload_n 0, 1, x0), (56, .getfield 42, 3, xF 7 9 [106]), (59, .invokevirtual 165, 3, xS 4 0 s_X6_reasonAgainst), (62, .ifCond .eq 13, 3, xN 75), (65, .new 131, 10, xF 52 0 [240, 36, 178, 135]), (75, .aload 4, 2, x0), (77, .invokevirtual 90, 3, xS 1 0 s_X4_hasBridge), (80, .ifCond .eq 21, 3, xN 101), (83, .aload_n 0, 1, x0), (84, .iload_n 2, 1, x0), (85, .invokevirtual 180, 3, xS 2 0 s_X6_isAnyRigOn), (88, .ifCond .eq 13, 3, xN 101), (91, .new 131, 10, xF 52 0 [240, 36, 183, 135]), (101, .aload_n 3, 1, x0), (102, .iload_n 2, 1, x0), (103, .aload 4, 2, x0), (105, .aload_n 3, 1, x0), (106, .getfield 169, 3, xF 4 8 [385]), (109, .invokevirtual 185, 3, xS 2 0 s_X4_endBeyond), (112, .aload_n 0, 1, x0), (113, .getfield 42, 3, xF 7 9 [106]), (116, .aload 4, 2, x0), (118, .getfield 188, 3, xF 5 6 [275]), (121, .iadd, 1, x0), (122, .invokevirtual 191, 3, xS 4 0 s_X3_setOut), (125, .aload_n 3, 1, x0), (126, .getfield 194, 3, xF 4 10 [389]), (129, .ireturn, 1, x0)]
theorem chk_X6_drive : chkTb cX6_drive "HeavyHaul" false tb_X6_drive = true := by decide +kernel
theorem cal_X6_drive {l : Launch} (hl : l.stackTraces = false) (hNL : NewL l) : CallsOK l "HeavyHaul" 6 tb_X6_drive := callsOK_f ⟨⟨_, _, 2, 3, _, 7, (ct_X6_rigOf hl hNL), ⟨List.mem_of_getElem? (i := 578) (by decide +kernel), List.mem_of_getElem? (i := 26) (by decide +kernel), List.mem_of_getElem? (i := 575) (by decide +kernel), ⟨by decide +kernel, by decide +kernel⟩, by decide +kernel, by decide⟩, List.mem_of_getElem? (i := 577) (by decide +kernel), List.mem_of_getElem? (i := 8) (by decide +kernel), by decide, by decide, rc_X6_rigOf⟩, ⟨_, _, 2, 3, _, 7, (ct_X6_roadOf hl hNL), ⟨List.mem_of_getElem? (i := 515) (by decide +kernel), List.mem_of_getElem? (i := 26) (by decide +kernel), List.mem_of_getElem? (i := 512) (by decide +kernel), ⟨by decide +kernel, by decide +kernel⟩, by decide +kernel, by decide⟩, List.mem_of_getElem? (i := 514) (by decide +kernel), List.mem_of_getElem? (i := 7) (by decide +kernel), by decide, by decide, rc_X6_roadOf⟩, ⟨_, _, 1, 0, _, 4, (ct_X3_isDriving hl hNL), ⟨List.mem_of_getElem? (i := 583) (by decide +kernel), List.mem_of_getElem? (i := 41) (by decide +kernel), List.mem_of_getElem? (i := 580) (by decide +kernel), ⟨by decide +kernel, by decide +kernel⟩, by decide +kernel, by decide⟩, List.mem_of_getElem? (i := 581) (by decide +kernel), List.mem_of_getElem? (i := 582) (by decide +kernel), by decide, by decide, rc_X3_isDriving⟩, ⟨_, _, 2, 0, _, 5, (ct_X4_endsAt hl hNL), ⟨List.mem_of_getElem? (i := 612) (by decide +kernel), List.mem_of_getElem? (i := 37) (by decide +kernel), List.mem_of_getElem? (i := 609) (by decide +kernel), ⟨by decide +kernel, by decide +kernel⟩, by decide +kernel, by decide⟩, List.mem_of_getElem? (i := 610) (by decide +kernel), List.mem_of_getElem? (i := 611) (by decide +kernel), by decide, by decide, rc_X4_endsAt⟩, ⟨_, _, 6, 5, _, 7, (ct_X6_reasonAgainst hl hNL), ⟨List.mem_of_getElem? (i := 617) (by decide +kernel), List.mem_of_getElem? (i := 26) (by decide +kernel), List.mem_of_getElem? (i := 614) (by decide +kernel), ⟨by decide +kernel, by decide +kernel⟩, by decide +kernel, by decide⟩, List.mem_of_getElem? (i := 616) (by decide +kernel), List.mem_of_getElem? (i := 9) (by decide +kernel), by decide, by decide, rc_X6_reasonAgainst⟩, ⟨_, _, 1, 0, _, 5, (ct_X4_hasBridge hl hNL), ⟨List.mem_of_getElem? (i := 535) (by decide +kernel), List.mem_of_getElem? (i := 37) (by decide +kernel), List.mem_of_getElem? (i := 532) (by decide +kernel), ⟨by decide +kernel, by decide +kernel⟩, by decide +kernel, by decide⟩, List.mem_of_getElem? (i := 533) (by decide +kernel), List.mem_of_getElem? (i := 534) (by decide +kernel), by decide, by decide, rc_X4_hasBridge⟩, ⟨_, _, 3, 3, _, 7, (ct_X6_isAnyRigOn hl hNL), ⟨List.mem_of_getElem? (i := 681) (by decide +kernel), List.mem_of_getElem? (i := 26) (by decide +kernel), List.mem_of_getElem? (i := 678) (by decide +kernel), ⟨by decide +kernel, by decide +kernel⟩, by decide +kernel, by decide⟩, List.mem_of_getElem? (i := 680) (by decide +kernel), List.mem_of_getElem? (i := 17) (by decide +kernel), by decide, by decide, rc_X6_isAnyRigOn⟩, ⟨_, _, 2, 0, _, 5, (ct_X4_endBeyond hl hNL), ⟨List.mem_of_getElem? (i := 686) (by decide +kernel), List.mem_of_getElem? (i := 37) (by decide +kernel), List.mem_of_getElem? (i := 683) (by decide +kernel), ⟨by decide +kernel, by decide +kernel⟩, by decide +kernel, by decide⟩, List.mem_of_getElem? (i := 684) (by decide +kernel), List.mem_of_getElem? (i := 685) (by decide +kernel), by decide, by decide, rc_X4_endBeyond⟩, ⟨_, _, 4, 0, _, 4, (ct_X3_setOut hl hNL), ⟨List.mem_of_getElem? (i := 690) (by decide +kernel), List.mem_of_getElem? (i := 41) (by decide +kernel), List.mem_of_getElem? (i := 687) (by decide +kernel), ⟨by decide +kernel, by decide +kernel⟩, by decide +kernel, by decide⟩, List.mem_of_getElem? (i := 688) (by decide +kernel), List.mem_of_getElem? (i := 689) (by decide +kernel), by decide, by decide, rc_X3_setOut⟩, trivial⟩
theorem ar_X6_drive : ∀ as S P, s_X6_drive as S P → as.length ≤ 5 ∧ ∀ a ∈ as, catV a = 1 := fun as S P h => by
  obtain ⟨_, _, rfl, _⟩ := o2_ok h
  exact ar_all ⟨Nat.le_of_ble_eq_true rfl, rfl⟩
theorem rc_X6_drive : ∀ as S P, s_X6_drive as S P → ∃ k i r, as = aR k i :: r ∧ ci k = 7 ∧ (obK k = true ∨ k = 13) := fun as S P h => by
  obtain ⟨_, _, rfl, _⟩ := o2_ok h
  exact ⟨_, _, _, rfl, rfl, Or.inl rfl⟩
theorem vc_X6_drive : ∀ (G : Gt) (Q : Out → Sto → Prop) (as : List AV) (S : Sto), s_X6_drive as S Q → Seg tb_X6_drive G Q 1 3 [] (0, fun _ => 0) → G 0 (argL as 5) [] S 0 := by
  intro G Q as S h hs
  obtain ⟨r, d, rfl, hW, h0, h1, h2⟩ := o2_ok h
  have w13 := hW.1
  refine hs [] 120 0 _ _ _ _ ?_
  refine ⟨rfl, by omega, fun q => h0 fun z => z.1.1 q, fun q => ⟨fun q' => ?_, fun q' => h0 fun z => q' z.1.2⟩⟩
  refine ⟨rfl, by omega, Int32.not_lt.mp q, q', ?_⟩
  refine ⟨rfl, by omega, fun p => h0 fun z => z.2.1 p, fun p => ⟨fun p' => ?_, fun p' => h0 fun z => p' z.2.2⟩⟩
  refine ⟨rfl, by omega, Int32.not_lt.mp p, p', ?_⟩
  have hk : knY S r d := ⟨⟨q, q'⟩, ⟨p, p'⟩⟩
  have bad := h1 hk
  have good := h2 hk
  refine ⟨fun y => ⟨rfl, fun _ => ?_, fun x => absurd rfl x⟩, fun y => ⟨rfl, fun x => absurd x (by decide), fun _ => bad fun z => y z.1⟩⟩
  have y' : S.1 4 9 r.toNatClampNeg = -1 := y
  have fin : canD S r d → (¬ S.1 4 8 r.toNatClampNeg = S.1 2 0 d.toNatClampNeg → Q (Sum.inl (some (aI ((wrI (wrI (wrI (wrI S 4 9 r.toNatClampNeg d) 4 8 r.toNatClampNeg (S.1 2 0 d.toNatClampNeg)) 4 10 r.toNatClampNeg (S.1 0 9 0 + S.1 2 6 d.toNatClampNeg)) 4 12 r.toNatClampNeg (S.1 4 12 r.toNatClampNeg + 1)).1 4 10 r.toNatClampNeg)))) (wrI (wrI (wrI (wrI S 4 9 r.toNatClampNeg d) 4 8 r.toNatClampNeg (S.1 2 0 d.toNatClampNeg)) 4 10 r.toNatClampNeg (S.1 0 9 0 + S.1 2 6 d.toNatClampNeg)) 4 12 r.toNatClampNeg (S.1 4 12 r.toNatClampNeg + 1))) ∧
      (S.1 4 8 r.toNatClampNeg = S.1 2 0 d.toNatClampNeg → Q (Sum.inl (some (aI ((wrI (wrI (wrI (wrI S 4 9 r.toNatClampNeg d) 4 8 r.toNatClampNeg (S.1 2 1 d.toNatClampNeg)) 4 10 r.toNatClampNeg (S.1 0 9 0 + S.1 2 6 d.toNatClampNeg)) 4 12 r.toNatClampNeg (S.1 4 12 r.toNatClampNeg + 1)).1 4 10 r.toNatClampNeg)))) (wrI (wrI (wrI (wrI S 4 9 r.toNatClampNeg d) 4 8 r.toNatClampNeg (S.1 2 1 d.toNatClampNeg)) 4 10 r.toNatClampNeg (S.1 0 9 0 + S.1 2 6 d.toNatClampNeg)) 4 12 r.toNatClampNeg (S.1 4 12 r.toNatClampNeg + 1))) := fun z => by
    have g := good z
    unfold drvS beyP at g
    refine ⟨fun e => ?_, fun e => ?_⟩
    · rw [if_neg e] at g
      exact g
    · rw [if_pos e] at g
      exact g
  have rest : endsB S d.toNatClampNeg (S.1 4 8 r.toNatClampNeg) → (reasonH S r d (S.1 0 9 0) = 0 → (S.1 2 7 d.toNatClampNeg ≤ 0 ∨ anyN (onH S d) (S.2.2 22) = false) → canD S r d) := fun e z1 z2 => ⟨y', e, z1, z2⟩
  have br : endsB S d.toNatClampNeg (S.1 4 8 r.toNatClampNeg) → s_X6_isAnyRigOn [aR 0 0, aI d] S (fun _ _ => True) := fun _ => ⟨rfl, rfl, hW, trivial⟩
  have hn : inN r (S.2.2 22) := nm_in ⟨q, q'⟩
  have hd : inN d (S.2.2 20) := nm_in ⟨p, p'⟩
  refine ⟨fun e1 => ⟨rfl, fun _ => ⟨rfl, rfl, hW, hn, hd, fun z1 => ⟨fun s1 => ⟨rfl, fun _ => ?_, fun x => absurd rfl x⟩, fun s1 => ⟨rfl, fun x => absurd x (by decide), fun _ => ⟨rfl, rfl, hW, fun o1 => ?_, fun o1 => bad fun z => ?_⟩⟩⟩, fun z1 => bad fun z => z1 z.2.2.1⟩, fun x => absurd x (by decide)⟩, fun e1 => ⟨fun e2 => ⟨rfl, fun x => absurd rfl x, fun _ => bad fun z => z.2.1.elim e1 e2⟩, fun e2 => ⟨rfl, fun _ => ⟨rfl, rfl, hW, hn, hd, fun z1 => ⟨fun s1 => ⟨rfl, fun _ => ?_, fun x => absurd rfl x⟩, fun s1 => ⟨rfl, fun x => absurd x (by decide), fun _ => ⟨rfl, rfl, hW, fun o1 => ?_, fun o1 => bad fun z => ?_⟩⟩⟩, fun z1 => bad fun z => z1 z.2.2.1⟩, fun x => absurd x (by decide)⟩⟩⟩
  · exact fin (rest (Or.inl e1) z1 (Or.inl s1))
  · refine fin (rest (Or.inl e1) z1 (Or.inr ?_))
    cases hh : anyN (onH S d) (S.2.2 22) with
    | false => rfl
    | true =>
      rw [hh] at o1
      exact absurd o1 (by decide)
  · rcases z.2.2.2 with w | w
    · exact s1 w
    · rw [w] at o1
      exact o1 rfl
  · exact fin (rest (Or.inr e2) z1 (Or.inl s1))
  · refine fin (rest (Or.inr e2) z1 (Or.inr ?_))
    cases hh : anyN (onH S d) (S.2.2 22) with
    | false => rfl
    | true =>
      rw [hh] at o1
      exact absurd o1 (by decide)
  · rcases z.2.2.2 with w | w
    · exact s1 w
    · rw [w] at o1
      exact o1 rfl
theorem ct_X6_drive {l : Launch} (hl : l.stackTraces = false) (hNL : NewL l) : CT l yX6_drive cX6_drive 5 (some .int) 6 3 s_X6_drive := CT_of hl hNL (by decide +kernel) (own := "HeavyHaul") rfl (ini := false) (fun q => nomatch q) chk_X6_drive (cal_X6_drive hl hNL) ar_X6_drive vc_X6_drive
end
section
/-! THE CLASS's PUBLIC METHODS: what makes objects -/
def o7 (kd : Nat) (as : List AV) (f : Int32 → Int32 → Int32 → Int32 → Int32 → Int32 → Int32 → Prop) : Prop := match as with
  | [Sum.inr (Sum.inr (k, i)), Sum.inl a, Sum.inl b, Sum.inl c, Sum.inl d, Sum.inl e, Sum.inl x, Sum.inl y] => k = kd ∧ i = 0 ∧ f a b c d e x y
  | _ => False
theorem o7_ok {kd : Nat} {as : List AV} {f : Int32 → Int32 → Int32 → Int32 → Int32 → Int32 → Int32 → Prop} (h : o7 kd as f) : ∃ a b c d e x y, as = [aR kd 0, aI a, aI b, aI c, aI d, aI e, aI x, aI y] ∧ f a b c d e x y := by
  unfold o7 at h
  split at h
  · obtain ⟨rfl, rfl, h⟩ := h; exact ⟨_, _, _, _, _, _, _, rfl, h⟩
  · exact h.elim
def knR (a b c : Int32) : Prop := nm a 10 ∧ nm b 10 ∧ nm c 4
def fitR (a b d e x y : Int32) : Prop := ¬ a = b ∧ rg d 20 99 ∧ rg e 20 99 ∧ rg x 5 99 ∧ rg y 1 9
def newR (S : Sto) (a b c d e x y : Int32) : Sto := sAdd (wrI (wrI (wrI (wrI (wrI (wrI (wrI (mkO S 2) 2 0 (S.2.2 2) a) 2 1 (S.2.2 2) b) 2 2 (S.2.2 2) c) 2 3 (S.2.2 2) d) 2 4 (S.2.2 2) e) 2 5 (S.2.2 2) x) 2 6 (S.2.2 2) y) 0
def s_X6_road : SP := fun as S Q => o7 0 as fun a b c d e x y => WfH S ∧ (¬ knR a b c → Q (Sum.inr 0) S) ∧ (knR a b c → ¬ fitR a b d e x y → Q (Sum.inr 1) S) ∧ (knR a b c → fitR a b d e x y → ¬ nI (S.2.2 20) < 20 → Q (Sum.inr 2) S) ∧ (knR a b c → fitR a b d e x y → nI (S.2.2 20) < 20 → Q (Sum.inl (some (aI (nI ((newR S a b c d e x y).2.2 20) - 1)))) (newR S a b c d e x y))
def tb_X6_road : Tb := [(0, .iload_n 1, 1, x0), (1, .bipush 10, 2, xI (10)), (3, .invokestatic 53, 3, xS 2 1 s_X6_needNumber), (6, .iload_n 2, 1, x0), (7, .bipush 10, 2, xI (10)), (9, .invokestatic 53, 3, xS 2 1 s_X6_needNumber), (12, .iload_n 3, 1, x0), (13, .iconst 4, 1, xI (4)), (14, .invokestatic 53, 3, xS 2 1 s_X6_needNumber), (17, .iload_n 1, 1, x0), (18, .iload_n 2, 1, x0), (19, .if_icmp .ne 13, 3, xN 32), (22, .new 57, 10, xF 51 0 [213, 35, 59, 61]), (32, .iload 4, 2, x0), (34, .bipush 20, 2, xI (20)), (36, .bipush 99, 2, xI (99)), (38, .invokestatic 64, 3, xS 3 1 s_X6_needRange), (41, .iload 5, 2, x0), (43, .bipush 20, 2, xI (20)), (45, .bipush 99, 2, xI (99)), (47, .invokestatic 64, 3, xS 3 1 s_X6_needRange), (50, .iload 6, 2, x0), (52, .iconst 5, 1, xI (5)), (53, .bipush 99, 2, xI (99)), (55, .invokestatic 64, 3, xS 3 1 s_X6_needRange), (58, .iload 7, 2, x0), (60, .iconst 1, 1, xI (1)), (61, .bipush 9, 2, xI (9)), (63, .invokestatic 64, 3, xS 3 1 s_X6_needRange), (66, .aload_n 0, 1, x0), (67, .getfield 23, 3, xF 7 3 [100]), (70, .invokevirtual 68, 3, xS 1 0 s_Jx4a65c_size_8abf5), (73, .bipush 20, 2, xI (20)), (75, .invokestatic 72, 3, xS 2 1 s_X6_needRoom), (78, .aload_n 0, 1, x0), (79, .getfield 23, 3, xF 7 3 [100]), (82, .new 75, 3, xF 2 0 [256, 257, 37]), (85, .dup, 1, x0), (86, .iload_n 1, 1, x0), (87, .iload_n 2, 1, x0), (88, .iload_n 3, 1, x0), (89, .iload 4, 2, x0), (91, .iload 5, 2, x0), (93, .iload 6, 2, x0), (95, .iload 7, 2, x0), (97, .invokespecial 77, 3, xS 8 0 s_X4_init), (100, .invokevirtual 80, 3, xS 2 1 s_Jx4a65c_add_9ea2d), (103, .pop, 1, x0), (104, .aload_n 0, 1, x0), (105, .getfield 23, 3, xF 7 3 [100]), (108, .invokevirtual 68, 3, xS 1 0 s_Jx4a65c_size_8abf5), (111, .iconst 1, 1, xI (1)), (112, .isub, 1, x0), (113, .ireturn, 1, x0)]
theorem chk_X6_road : chkTb cX6_road "HeavyHaul" false tb_X6_road = true := by decide +kernel
theorem cal_X6_road {l : Launch} (hl : l.stackTraces = false) (hNL : NewL l) : CallsOK l "HeavyHaul" 6 tb_X6_road := callsOK_f ⟨⟨_, _, 2, 0, _, (ct_X6_needNumber hl hNL), ⟨List.mem_of_getElem? (i := 144) (by decide +kernel), List.mem_of_getElem? (i := 26) (by decide +kernel), List.mem_of_getElem? (i := 142) (by decide +kernel), ⟨by decide +kernel, by decide +kernel⟩, by decide +kernel, by decide⟩, List.mem_of_getElem? (i := 143) (by decide +kernel), by decide⟩, ⟨_, _, 2, 0, _, (ct_X6_needNumber hl hNL), ⟨List.mem_of_getElem? (i := 144) (by decide +kernel), List.mem_of_getElem? (i := 26) (by decide +kernel), List.mem_of_getElem? (i := 142) (by decide +kernel), ⟨by decide +kernel, by decide +kernel⟩, by decide +kernel, by decide⟩, List.mem_of_getElem? (i := 143) (by decide +kernel), by decide⟩, ⟨_, _, 2, 0, _, (ct_X6_needNumber hl hNL), ⟨List.mem_of_getElem? (i := 144) (by decide +kernel), List.mem_of_getElem? (i := 26) (by decide +kernel), List.mem_of_getElem? (i := 142) (by decide +kernel), ⟨by decide +kernel, by decide +kernel⟩, by decide +kernel, by decide⟩, List.mem_of_getElem? (i := 143) (by decide +kernel), by decide⟩, ⟨_, _, 3, 0, _, (ct_X6_needRange hl hNL), ⟨List.mem_of_getElem? (i := 231) (by decide +kernel), List.mem_of_getElem? (i := 26) (by decide +kernel), List.mem_of_getElem? (i := 229) (by decide +kernel), ⟨by decide +kernel, by decide +kernel⟩, by decide +kernel, by decide⟩, List.mem_of_getElem? (i := 230) (by decide +kernel), by decide⟩, ⟨_, _, 3, 0, _, (ct_X6_needRange hl hNL), ⟨List.mem_of_getElem? (i := 231) (by decide +kernel), List.mem_of_getElem? (i := 26) (by decide +kernel), List.mem_of_getElem? (i := 229) (by decide +kernel), ⟨by decide +kernel, by decide +kernel⟩, by decide +kernel, by decide⟩, List.mem_of_getElem? (i := 230) (by decide +kernel), by decide⟩, ⟨_, _, 3, 0, _, (ct_X6_needRange hl hNL), ⟨List.mem_of_getElem? (i := 231) (by decide +kernel), List.mem_of_getElem? (i := 26) (by decide +kernel), List.mem_of_getElem? (i := 229) (by decide +kernel), ⟨by decide +kernel, by decide +kernel⟩, by decide +kernel, by decide⟩, List.mem_of_getElem? (i := 230) (by decide +kernel), by decide⟩, ⟨_, _, 3, 0, _, (ct_X6_needRange hl hNL), ⟨List.mem_of_getElem? (i := 231) (by decide +kernel), List.mem_of_getElem? (i := 26) (by decide +kernel), List.mem_of_getElem? (i := 229) (by decide +kernel), ⟨by decide +kernel, by decide +kernel⟩, by decide +kernel, by decide⟩, List.mem_of_getElem? (i := 230) (by decide +kernel), by decide⟩, ⟨_, _, 1, 0, _, 0, (ct_Jx4a65c_size_8abf5 hl hNL), ⟨List.mem_of_getElem? (i := 236) (by decide +kernel), List.mem_of_getElem? (i := 29) (by decide +kernel), List.mem_of_getElem? (i := 233) (by decide +kernel), ⟨by decide +kernel, by decide +kernel⟩, by decide +kernel, by decide⟩, List.mem_of_getElem? (i := 234) (by decide +kernel), List.mem_of_getElem? (i := 235) (by decide +kernel), by decide, by decide, rc_Jx4a65c_size_8abf5⟩, ⟨_, _, 2, 0, _, (ct_X6_needRoom hl hNL), ⟨List.mem_of_getElem? (i := 239) (by decide +kernel), List.mem_of_getElem? (i := 26) (by decide +kernel), List.mem_of_getElem? (i := 237) (by decide +kernel), ⟨by decide +kernel, by decide +kernel⟩, by decide +kernel, by decide⟩, List.mem_of_getElem? (i := 238) (by decide +kernel), by decide⟩, ⟨_, _, 8, 0, (ct_X4_init hl hNL), ⟨List.mem_of_getElem? (i := 260) (by decide +kernel), List.mem_of_getElem? (i := 37) (by decide +kernel), List.mem_of_getElem? (i := 258) (by decide +kernel), ⟨by decide +kernel, by decide +kernel⟩, by decide +kernel, by decide⟩, List.mem_of_getElem? (i := 259) (by decide +kernel), rfl, by decide, by decide, ri_X4_init⟩, ⟨_, _, 2, 5, _, 0, (ct_Jx4a65c_add_9ea2d hl hNL), ⟨List.mem_of_getElem? (i := 304) (by decide +kernel), List.mem_of_getElem? (i := 29) (by decide +kernel), List.mem_of_getElem? (i := 301) (by decide +kernel), ⟨by decide +kernel, by decide +kernel⟩, by decide +kernel, by decide⟩, List.mem_of_getElem? (i := 302) (by decide +kernel), List.mem_of_getElem? (i := 303) (by decide +kernel), by decide, by decide, rc_Jx4a65c_add_9ea2d⟩, ⟨_, _, 1, 0, _, 0, (ct_Jx4a65c_size_8abf5 hl hNL), ⟨List.mem_of_getElem? (i := 236) (by decide +kernel), List.mem_of_getElem? (i := 29) (by decide +kernel), List.mem_of_getElem? (i := 233) (by decide +kernel), ⟨by decide +kernel, by decide +kernel⟩, by decide +kernel, by decide⟩, List.mem_of_getElem? (i := 234) (by decide +kernel), List.mem_of_getElem? (i := 235) (by decide +kernel), by decide, by decide, rc_Jx4a65c_size_8abf5⟩, trivial⟩
theorem ar_X6_road : ∀ as S P, s_X6_road as S P → as.length ≤ 8 ∧ ∀ a ∈ as, catV a = 1 := fun as S P h => by
  obtain ⟨_, _, _, _, _, _, _, rfl, _⟩ := o7_ok h
  exact ar_all ⟨Nat.le_of_ble_eq_true rfl, rfl⟩
theorem rc_X6_road : ∀ as S P, s_X6_road as S P → ∃ k i r, as = aR k i :: r ∧ ci k = 7 ∧ (obK k = true ∨ k = 13) := fun as S P h => by
  obtain ⟨_, _, _, _, _, _, _, rfl, _⟩ := o7_ok h
  exact ⟨_, _, _, rfl, rfl, Or.inl rfl⟩
theorem vc_X6_road : ∀ (G : Gt) (Q : Out → Sto → Prop) (as : List AV) (S : Sto), s_X6_road as S Q → Seg tb_X6_road G Q 1 10 [] (0, fun _ => 0) → G 0 (argL as 8) [] S 0 := by
  intro G Q as S h hs
  obtain ⟨a, b, c, d, e, x, y, rfl, hW, h0, h1, h2, h3⟩ := o7_ok h
  have w13 := hW.1
  have w20 := hW.2.1.1
  have w2 := hW.2.2.1.1
  refine hs [] 150 0 _ _ _ _ ?_
  refine ⟨fun q => h0 fun z => z.1.1 q, fun q => ⟨fun q' => ?_, fun q' => h0 fun z => q' z.1.2⟩⟩
  refine ⟨fun p => h0 fun z => z.2.1.1 p, fun p => ⟨fun p' => ?_, fun p' => h0 fun z => p' z.2.1.2⟩⟩
  refine ⟨fun o => h0 fun z => z.2.2.1 o, fun o => ⟨fun o' => ?_, fun o' => h0 fun z => o' z.2.2.2⟩⟩
  have hk : knR a b c := ⟨⟨q, q'⟩, ⟨p, p'⟩, ⟨o, o'⟩⟩
  have bad := h1 hk
  refine ⟨fun n1 => ?_, fun n1 => bad fun z => z.1 n1⟩
  refine ⟨fun a1 => bad fun z => z.2.1.1 a1, fun a1 => ⟨fun a2 => ?_, fun a2 => bad fun z => a2 z.2.1.2⟩⟩
  refine ⟨fun b1 => bad fun z => z.2.2.1.1 b1, fun b1 => ⟨fun b2 => ?_, fun b2 => bad fun z => b2 z.2.2.1.2⟩⟩
  refine ⟨fun c1 => bad fun z => z.2.2.2.1.1 c1, fun c1 => ⟨fun c2 => ?_, fun c2 => bad fun z => c2 z.2.2.2.1.2⟩⟩
  refine ⟨fun d1 => bad fun z => z.2.2.2.2.1 d1, fun d1 => ⟨fun d2 => ?_, fun d2 => bad fun z => d2 z.2.2.2.2.2⟩⟩
  have hf : fitR a b d e x y := ⟨n1, ⟨a1, a2⟩, ⟨b1, b2⟩, ⟨c1, c2⟩, ⟨d1, d2⟩⟩
  refine ⟨rfl, by omega, fun r => ?_, fun r => h2 hk hf r⟩
  have h4 := h3 hk hf r
  refine ⟨rfl, by show 0 < S.2.2 13; omega, rfl, w2, by show S.2.2 20 < 60; omega, by show S.2.2 20 < S.2.2 2 + 1; omega, ?_⟩
  exact ⟨rfl, by show 0 < S.2.2 13; omega, h4⟩
theorem ct_X6_road {l : Launch} (hl : l.stackTraces = false) (hNL : NewL l) : CT l yX6_road cX6_road 8 (some .int) 6 10 s_X6_road := CT_of hl hNL (by decide +kernel) (own := "HeavyHaul") rfl (ini := false) (fun q => nomatch q) chk_X6_road (cal_X6_road hl hNL) ar_X6_road vc_X6_road
def knW (S : Sto) (r : Int32) : Prop := nm r (nI (S.2.2 20))
def perF (f t : Int32) : Prop := rg f 0 9999 ∧ rg t (f + 1) 9999
def fitW (w x f t : Int32) : Prop := rg w 0 50 ∧ rg x 0 50 ∧ perF f t
def newW (S : Sto) (r w x f t : Int32) : Sto := sAdd (wrI (wrI (wrI (wrI (wrI (wrI (mkO (mkO S 3) 7) 7 0 (S.2.2 7) f) 7 1 (S.2.2 7) t) 3 0 (S.2.2 3) r) 3 1 (S.2.2 3) w) 3 2 (S.2.2 3) x) 3 3 (S.2.2 3) 1) 1
def s_X6_work : SP := fun as S Q => o5 0 as fun r w x f t => WfH S ∧ (¬ knW S r → Q (Sum.inr 0) S) ∧ (knW S r → ¬ fitW w x f t → Q (Sum.inr 1) S) ∧ (knW S r → fitW w x f t → ¬ nI (S.2.2 21) < 30 → Q (Sum.inr 2) S) ∧ (knW S r → fitW w x f t → nI (S.2.2 21) < 30 → Q (Sum.inl (some (aI (nI ((newW S r w x f t).2.2 21))))) (newW S r w x f t))
def tb_X6_work : Tb := [(0, .iload_n 1, 1, x0), (1, .aload_n 0, 1, x0), (2, .getfield 23, 3, xF 7 3 [100]), (5, .invokevirtual 68, 3, xS 1 0 s_Jx4a65c_size_8abf5), (8, .invokestatic 53, 3, xS 2 1 s_X6_needNumber), (11, .iload_n 2, 1, x0), (12, .iconst 0, 1, xI (0)), (13, .bipush 50, 2, xI (50)), (15, .invokestatic 64, 3, xS 3 1 s_X6_needRange), (18, .iload_n 3, 1, x0), (19, .iconst 0, 1, xI (0)), (20, .bipush 50, 2, xI (50)), (22, .invokestatic 64, 3, xS 3 1 s_X6_needRange), (25, .iload 4, 2, x0), (27, .iload 5, 2, x0), (29, .invokestatic 103, 3, xS 2 2 s_X6_needPeriod), (32, .aload_n 0, 1, x0), (33, .getfield 27, 3, xF 7 4 [101]), (36, .invokevirtual 68, 3, xS 1 0 s_Jx4a65c_size_8abf5), (39, .bipush 30, 2, xI (30)), (41, .invokestatic 72, 3, xS 2 1 s_X6_needRoom), (44, .aload_n 0, 1, x0), (45, .getfield 27, 3, xF 7 4 [101]), (48, .new 106, 3, xF 3 0 [545, 546, 47]), (51, .dup, 1, x0), (52, .iload_n 1, 1, x0), (53, .iload_n 2, 1, x0), (54, .iload_n 3, 1, x0), (55, .new 108, 3, xF 7 0 [449, 450, 43]), (58, .dup, 1, x0), (59, .iload 4, 2, x0), (61, .iload 5, 2, x0), (63, .invokespecial 110, 3, xS 3 0 s_X1_init), (66, .invokespecial 112, 3, xS 5 0 s_X5_init), (69, .invokevirtual 80, 3, xS 2 1 s_Jx4a65c_add_9ea2d), (72, .pop, 1, x0), (73, .aload_n 0, 1, x0), (74, .getfield 27, 3, xF 7 4 [101]), (77, .invokevirtual 68, 3, xS 1 0 s_Jx4a65c_size_8abf5), (80, .ireturn, 1, x0)]
theorem chk_X6_work : chkTb cX6_work "HeavyHaul" false tb_X6_work = true := by decide +kernel
theorem cal_X6_work {l : Launch} (hl : l.stackTraces = false) (hNL : NewL l) : CallsOK l "HeavyHaul" 6 tb_X6_work := callsOK_f ⟨⟨_, _, 1, 0, _, 0, (ct_Jx4a65c_size_8abf5 hl hNL), ⟨List.mem_of_getElem? (i := 236) (by decide +kernel), List.mem_of_getElem? (i := 29) (by decide +kernel), List.mem_of_getElem? (i := 233) (by decide +kernel), ⟨by decide +kernel, by decide +kernel⟩, by decide +kernel, by decide⟩, List.mem_of_getElem? (i := 234) (by decide +kernel), List.mem_of_getElem? (i := 235) (by decide +kernel), by decide, by decide, rc_Jx4a65c_size_8abf5⟩, ⟨_, _, 2, 0, _, (ct_X6_needNumber hl hNL), ⟨List.mem_of_getElem? (i := 144) (by decide +kernel), List.mem_of_getElem? (i := 26) (by decide +kernel), List.mem_of_getElem? (i := 142) (by decide +kernel), ⟨by decide +kernel, by decide +kernel⟩, by decide +kernel, by decide⟩, List.mem_of_getElem? (i := 143) (by decide +kernel), by decide⟩, ⟨_, _, 3, 0, _, (ct_X6_needRange hl hNL), ⟨List.mem_of_getElem? (i := 231) (by decide +kernel), List.mem_of_getElem? (i := 26) (by decide +kernel), List.mem_of_getElem? (i := 229) (by decide +kernel), ⟨by decide +kernel, by decide +kernel⟩, by decide +kernel, by decide⟩, List.mem_of_getElem? (i := 230) (by decide +kernel), by decide⟩, ⟨_, _, 3, 0, _, (ct_X6_needRange hl hNL), ⟨List.mem_of_getElem? (i := 231) (by decide +kernel), List.mem_of_getElem? (i := 26) (by decide +kernel), List.mem_of_getElem? (i := 229) (by decide +kernel), ⟨by decide +kernel, by decide +kernel⟩, by decide +kernel, by decide⟩, List.mem_of_getElem? (i := 230) (by decide +kernel), by decide⟩, ⟨_, _, 2, 1, _, (ct_X6_needPeriod hl hNL), ⟨List.mem_of_getElem? (i := 446) (by decide +kernel), List.mem_of_getElem? (i := 26) (by decide +kernel), List.mem_of_getElem? (i := 444) (by decide +kernel), ⟨by decide +kernel, by decide +kernel⟩, by decide +kernel, by decide⟩, List.mem_of_getElem? (i := 445) (by decide +kernel), by decide⟩, ⟨_, _, 1, 0, _, 0, (ct_Jx4a65c_size_8abf5 hl hNL), ⟨List.mem_of_getElem? (i := 236) (by decide +kernel), List.mem_of_getElem? (i := 29) (by decide +kernel), List.mem_of_getElem? (i := 233) (by decide +kernel), ⟨by decide +kernel, by decide +kernel⟩, by decide +kernel, by decide⟩, List.mem_of_getElem? (i := 234) (by decide +kernel), List.mem_of_getElem? (i := 235) (by decide +kernel), by decide, by decide, rc_Jx4a65c_size_8abf5⟩, ⟨_, _, 2, 0, _, (ct_X6_needRoom hl hNL), ⟨List.mem_of_getElem? (i := 239) (by decide +kernel), List.mem_of_getElem? (i := 26) (by decide +kernel), List.mem_of_getElem? (i := 237) (by decide +kernel), ⟨by decide +kernel, by decide +kernel⟩, by decide +kernel, by decide⟩, List.mem_of_getElem? (i := 238) (by decide +kernel), by decide⟩, ⟨_, _, 3, 0, (ct_X1_init hl hNL), ⟨List.mem_of_getElem? (i := 453) (by decide +kernel), List.mem_of_getElem? (i := 43) (by decide +kernel), List.mem_of_getElem? (i := 451) (by decide +kernel), ⟨by decide +kernel, by decide +kernel⟩, by decide +kernel, by decide⟩, List.mem_of_getElem? (i := 452) (by decide +kernel), rfl, by decide, by decide, ri_X1_init⟩, ⟨_, _, 5, 0, (ct_X5_init hl hNL), ⟨List.mem_of_getElem? (i := 549) (by decide +kernel), List.mem_of_getElem? (i := 47) (by decide +kernel), List.mem_of_getElem? (i := 547) (by decide +kernel), ⟨by decide +kernel, by decide +kernel⟩, by decide +kernel, by decide⟩, List.mem_of_getElem? (i := 548) (by decide +kernel), rfl, by decide, by decide, ri_X5_init⟩, ⟨_, _, 2, 5, _, 0, (ct_Jx4a65c_add_9ea2d hl hNL), ⟨List.mem_of_getElem? (i := 304) (by decide +kernel), List.mem_of_getElem? (i := 29) (by decide +kernel), List.mem_of_getElem? (i := 301) (by decide +kernel), ⟨by decide +kernel, by decide +kernel⟩, by decide +kernel, by decide⟩, List.mem_of_getElem? (i := 302) (by decide +kernel), List.mem_of_getElem? (i := 303) (by decide +kernel), by decide, by decide, rc_Jx4a65c_add_9ea2d⟩, ⟨_, _, 1, 0, _, 0, (ct_Jx4a65c_size_8abf5 hl hNL), ⟨List.mem_of_getElem? (i := 236) (by decide +kernel), List.mem_of_getElem? (i := 29) (by decide +kernel), List.mem_of_getElem? (i := 233) (by decide +kernel), ⟨by decide +kernel, by decide +kernel⟩, by decide +kernel, by decide⟩, List.mem_of_getElem? (i := 234) (by decide +kernel), List.mem_of_getElem? (i := 235) (by decide +kernel), by decide, by decide, rc_Jx4a65c_size_8abf5⟩, trivial⟩
theorem ar_X6_work : ∀ as S P, s_X6_work as S P → as.length ≤ 6 ∧ ∀ a ∈ as, catV a = 1 := fun as S P h => by
  obtain ⟨_, _, _, _, _, rfl, _⟩ := o5_ok h
  exact ar_all ⟨Nat.le_of_ble_eq_true rfl, rfl⟩
theorem rc_X6_work : ∀ as S P, s_X6_work as S P → ∃ k i r, as = aR k i :: r ∧ ci k = 7 ∧ (obK k = true ∨ k = 13) := fun as S P h => by
  obtain ⟨_, _, _, _, _, rfl, _⟩ := o5_ok h
  exact ⟨_, _, _, rfl, rfl, Or.inl rfl⟩
theorem vc_X6_work : ∀ (G : Gt) (Q : Out → Sto → Prop) (as : List AV) (S : Sto), s_X6_work as S Q → Seg tb_X6_work G Q 1 10 [] (0, fun _ => 0) → G 0 (argL as 6) [] S 0 := by
  intro G Q as S h hs
  obtain ⟨r, w, x, f, t, rfl, hW, h0, h1, h2, h3⟩ := o5_ok h
  have w13 := hW.1
  have w21 := hW.2.1.2.1
  have w3 := hW.2.2.1.2.1
  have w7 := hW.2.2.1.2.2.2.2.2.1
  refine hs [] 150 0 _ _ _ _ ?_
  refine ⟨rfl, by omega, fun q => h0 fun z => z.1 q, fun q => ⟨fun q' => ?_, fun q' => h0 fun z => q' z.2⟩⟩
  have hk : knW S r := ⟨q, q'⟩
  have bad := h1 hk
  refine ⟨fun a1 => bad fun z => z.1.1 a1, fun a1 => ⟨fun a2 => ?_, fun a2 => bad fun z => a2 z.1.2⟩⟩
  refine ⟨fun b1 => bad fun z => z.2.1.1 b1, fun b1 => ⟨fun b2 => ?_, fun b2 => bad fun z => b2 z.2.1.2⟩⟩
  refine ⟨fun c1 => bad fun z => z.2.2.1.1 c1, fun c1 => ⟨fun c2 => ?_, fun c2 => bad fun z => c2 z.2.2.1.2⟩⟩
  refine ⟨fun d1 => bad fun z => z.2.2.2.1 d1, fun d1 => ⟨fun d2 => ?_, fun d2 => bad fun z => d2 z.2.2.2.2⟩⟩
  have hf : fitW w x f t := ⟨⟨a1, a2⟩, ⟨b1, b2⟩, ⟨c1, c2⟩, ⟨d1, d2⟩⟩
  refine ⟨rfl, by omega, fun r => ?_, fun r => h2 hk hf r⟩
  have h4 := h3 hk hf r
  refine ⟨show S.2.2 7 = S.2.2 3 by omega, rfl, by show 1 < S.2.2 13; omega, rfl, w3, by show S.2.2 21 < 60; omega, by show S.2.2 21 < S.2.2 3 + 1; omega, ?_⟩
  exact ⟨rfl, by show 1 < S.2.2 13; omega, h4⟩
theorem ct_X6_work {l : Launch} (hl : l.stackTraces = false) (hNL : NewL l) : CT l yX6_work cX6_work 6 (some .int) 6 10 s_X6_work := CT_of hl hNL (by decide +kernel) (own := "HeavyHaul") rfl (ini := false) (fun q => nomatch q) chk_X6_work (cal_X6_work hl hNL) ar_X6_work vc_X6_work
def knP (S : Sto) (r a : Int32) : Prop := nm r (nI (S.2.2 22)) ∧ nm a 4
def canP (S : Sto) (a f : Int32) : Prop := S.1 0 9 0 + S.1 10 0 a.toNatClampNeg ≤ f ∧ nI (S.2.2 23) < 40
def newP (S : Sto) (r a f t : Int32) : Sto := sAdd (wrI (wrI (wrI (wrI (wrI (mkO (mkO S 5) 8) 8 0 (S.2.2 8) f) 8 1 (S.2.2 8) t) 5 0 (S.2.2 5) r) 5 1 (S.2.2 5) a) 5 2 (S.2.2 5) 1) 3
def s_X6_permit : SP := fun as S Q => o4 0 as fun r a f t => WfH S ∧ (¬ knP S r a → Q (Sum.inr 0) S) ∧ (knP S r a → ¬ perF f t → Q (Sum.inr 1) S) ∧ (knP S r a → perF f t → ¬ canP S a f → Q (Sum.inr 2) S) ∧ (knP S r a → perF f t → canP S a f → Q (Sum.inl (some (aI (nI ((newP S r a f t).2.2 23))))) (newP S r a f t))
def tb_X6_permit : Tb := [(0, .iload_n 1, 1, x0), (1, .aload_n 0, 1, x0), (2, .getfield 30, 3, xF 7 5 [102]), (5, .invokevirtual 68, 3, xS 1 0 s_Jx4a65c_size_8abf5), (8, .invokestatic 53, 3, xS 2 1 s_X6_needNumber), (11, .iload_n 2, 1, x0), (12, .iconst 4, 1, xI (4)), (13, .invokestatic 53, 3, xS 2 1 s_X6_needNumber), (16, .iload_n 3, 1, x0), (17, .iload 4, 2, x0), (19, .invokestatic 103, 3, xS 2 2 s_X6_needPeriod), (22, .iload_n 3, 1, x0), (23, .aload_n 0, 1, x0), (24, .getfield 42, 3, xF 7 9 [106]), (27, .aload_n 0, 1, x0), (28, .getfield 13, 3, xF 7 1 [98]), (31, .iload_n 2, 1, x0), (32, .iaload, 1, x0), (33, .iadd, 1, x0), (34, .if_icmp .ge 13, 3, xN 47), (37, .new 131, 10, xF 52 0 [240, 36, 153, 135]), (47, .aload_n 0, 1, x0), (48, .getfield 33, 3, xF 7 6 [103]), (51, .invokevirtual 68, 3, xS 1 0 s_Jx4a65c_size_8abf5), (54, .bipush 40, 2, xI (40)), (56, .invokestatic 72, 3, xS 2 1 s_X6_needRoom), (59, .aload_n 0, 1, x0), (60, .getfield 33, 3, xF 7 6 [103]), (63, .new 155, 3, xF 5 0 [480, 481, 44]), (66, .dup, 1, x0), (67, .iload_n 1, 1, x0), (68, .iload_n 2, 1, x0), (69, .new 108, 3, xF 8 0 [449, 450, 43]), (72, .dup, 1, x0), (73, .iload_n 3, 1, x0), (74, .iload 4, 2, x0), (76, .invokespecial 110, 3, xS 3 0 s_X1_init), (79, .invokespecial 157, 3, xS 4 0 s_X2_init), (82, .invokevirtual 80, 3, xS 2 1 s_Jx4a65c_add_9ea2d), (85, .pop, 1, x0), (86, .aload_n 0, 1, x0), (87, .getfield 33, 3, xF 7 6 [103]), (90, .invokevirtual 68, 3, xS 1 0 s_Jx4a65c_size_8abf5), (93, .ireturn, 1, x0)]
theorem chk_X6_permit : chkTb cX6_permit "HeavyHaul" false tb_X6_permit = true := by decide +kernel
theorem cal_X6_permit {l : Launch} (hl : l.stackTraces = false) (hNL : NewL l) : CallsOK l "HeavyHaul" 6 tb_X6_permit := callsOK_f ⟨⟨_, _, 1, 0, _, 0, (ct_Jx4a65c_size_8abf5 hl hNL), ⟨List.mem_of_getElem? (i := 236) (by decide +kernel), List.mem_of_getElem? (i := 29) (by decide +kernel), List.mem_of_getElem? (i := 233) (by decide +kernel), ⟨by decide +kernel, by decide +kernel⟩, by decide +kernel, by decide⟩, List.mem_of_getElem? (i := 234) (by decide +kernel), List.mem_of_getElem? (i := 235) (by decide +kernel), by decide, by decide, rc_Jx4a65c_size_8abf5⟩, ⟨_, _, 2, 0, _, (ct_X6_needNumber hl hNL), ⟨List.mem_of_getElem? (i := 144) (by decide +kernel), List.mem_of_getElem? (i := 26) (by decide +kernel), List.mem_of_getElem? (i := 142) (by decide +kernel), ⟨by decide +kernel, by decide +kernel⟩, by decide +kernel, by decide⟩, List.mem_of_getElem? (i := 143) (by decide +kernel), by decide⟩, ⟨_, _, 2, 0, _, (ct_X6_needNumber hl hNL), ⟨List.mem_of_getElem? (i := 144) (by decide +kernel), List.mem_of_getElem? (i := 26) (by decide +kernel), List.mem_of_getElem? (i := 142) (by decide +kernel), ⟨by decide +kernel, by decide +kernel⟩, by decide +kernel, by decide⟩, List.mem_of_getElem? (i := 143) (by decide +kernel), by decide⟩, ⟨_, _, 2, 1, _, (ct_X6_needPeriod hl hNL), ⟨List.mem_of_getElem? (i := 446) (by decide +kernel), List.mem_of_getElem? (i := 26) (by decide +kernel), List.mem_of_getElem? (i := 444) (by decide +kernel), ⟨by decide +kernel, by decide +kernel⟩, by decide +kernel, by decide⟩, List.mem_of_getElem? (i := 445) (by decide +kernel), by decide⟩, ⟨_, _, 1, 0, _, 0, (ct_Jx4a65c_size_8abf5 hl hNL), ⟨List.mem_of_getElem? (i := 236) (by decide +kernel), List.mem_of_getElem? (i := 29) (by decide +kernel), List.mem_of_getElem? (i := 233) (by decide +kernel), ⟨by decide +kernel, by decide +kernel⟩, by decide +kernel, by decide⟩, List.mem_of_getElem? (i := 234) (by decide +kernel), List.mem_of_getElem? (i := 235) (by decide +kernel), by decide, by decide, rc_Jx4a65c_size_8abf5⟩, ⟨_, _, 2, 0, _, (ct_X6_needRoom hl hNL), ⟨List.mem_of_getElem? (i := 239) (by decide +kernel), List.mem_of_getElem? (i := 26) (by decide +kernel), List.mem_of_getElem? (i := 237) (by decide +kernel), ⟨by decide +kernel, by decide +kernel⟩, by decide +kernel, by decide⟩, List.mem_of_getElem? (i := 238) (by decide +kernel), by decide⟩, ⟨_, _, 3, 0, (ct_X1_init hl hNL), ⟨List.mem_of_getElem? (i := 453) (by decide +kernel), List.mem_of_getElem? (i := 43) (by decide +kernel), List.mem_of_getElem? (i := 451) (by decide +kernel), ⟨by decide +kernel, by decide +kernel⟩, by decide +kernel, by decide⟩, List.mem_of_getElem? (i := 452) (by decide +kernel), rfl, by decide, by decide, ri_X1_init⟩, ⟨_, _, 4, 0, (ct_X2_init hl hNL), ⟨List.mem_of_getElem? (i := 484) (by decide +kernel), List.mem_of_getElem? (i := 44) (by decide +kernel), List.mem_of_getElem? (i := 482) (by decide +kernel), ⟨by decide +kernel, by decide +kernel⟩, by decide +kernel, by decide⟩, List.mem_of_getElem? (i := 483) (by decide +kernel), rfl, by decide, by decide, ri_X2_init⟩, ⟨_, _, 2, 5, _, 0, (ct_Jx4a65c_add_9ea2d hl hNL), ⟨List.mem_of_getElem? (i := 304) (by decide +kernel), List.mem_of_getElem? (i := 29) (by decide +kernel), List.mem_of_getElem? (i := 301) (by decide +kernel), ⟨by decide +kernel, by decide +kernel⟩, by decide +kernel, by decide⟩, List.mem_of_getElem? (i := 302) (by decide +kernel), List.mem_of_getElem? (i := 303) (by decide +kernel), by decide, by decide, rc_Jx4a65c_add_9ea2d⟩, ⟨_, _, 1, 0, _, 0, (ct_Jx4a65c_size_8abf5 hl hNL), ⟨List.mem_of_getElem? (i := 236) (by decide +kernel), List.mem_of_getElem? (i := 29) (by decide +kernel), List.mem_of_getElem? (i := 233) (by decide +kernel), ⟨by decide +kernel, by decide +kernel⟩, by decide +kernel, by decide⟩, List.mem_of_getElem? (i := 234) (by decide +kernel), List.mem_of_getElem? (i := 235) (by decide +kernel), by decide, by decide, rc_Jx4a65c_size_8abf5⟩, trivial⟩
theorem ar_X6_permit : ∀ as S P, s_X6_permit as S P → as.length ≤ 5 ∧ ∀ a ∈ as, catV a = 1 := fun as S P h => by
  obtain ⟨_, _, _, _, rfl, _⟩ := o4_ok h
  exact ar_all ⟨Nat.le_of_ble_eq_true rfl, rfl⟩
theorem rc_X6_permit : ∀ as S P, s_X6_permit as S P → ∃ k i r, as = aR k i :: r ∧ ci k = 7 ∧ (obK k = true ∨ k = 13) := fun as S P h => by
  obtain ⟨_, _, _, _, rfl, _⟩ := o4_ok h
  exact ⟨_, _, _, rfl, rfl, Or.inl rfl⟩
theorem vc_X6_permit : ∀ (G : Gt) (Q : Out → Sto → Prop) (as : List AV) (S : Sto), s_X6_permit as S Q → Seg tb_X6_permit G Q 1 10 [] (0, fun _ => 0) → G 0 (argL as 5) [] S 0 := by
  intro G Q as S h hs
  obtain ⟨r, a, f, t, rfl, hW, h0, h1, h2, h3⟩ := o4_ok h
  have w13 := hW.1
  have w23 := hW.2.1.2.2.2.1
  have w5 := hW.2.2.1.2.2.2.1
  have w8 := hW.2.2.1.2.2.2.2.2.2.1
  refine hs [] 150 0 _ _ _ _ ?_
  refine ⟨rfl, by omega, fun q => h0 fun z => z.1.1 q, fun q => ⟨fun q' => ?_, fun q' => h0 fun z => q' z.1.2⟩⟩
  refine ⟨fun p => h0 fun z => z.2.1 p, fun p => ⟨fun p' => ?_, fun p' => h0 fun z => p' z.2.2⟩⟩
  have hk : knP S r a := ⟨⟨q, q'⟩, ⟨p, p'⟩⟩
  have bad := h1 hk
  refine ⟨fun c1 => bad fun z => z.1.1 c1, fun c1 => ⟨fun c2 => ?_, fun c2 => bad fun z => c2 z.1.2⟩⟩
  refine ⟨fun d1 => bad fun z => z.2.1 d1, fun d1 => ⟨fun d2 => ?_, fun d2 => bad fun z => d2 z.2.2⟩⟩
  have hf : perF f t := ⟨⟨c1, c2⟩, ⟨d1, d2⟩⟩
  have hp : a.toNatClampNeg < 4 := nm_lt (n := 4) ⟨p, p'⟩ (by omega)
  refine ⟨fun z => z.elim p fun z => absurd hp (Nat.not_lt.mpr z), fun e => ⟨rfl, by omega, fun r => ?_, fun r => h2 hk hf fun z => r z.2⟩, fun e => h2 hk hf fun z => e z.1⟩
  have h4 := h3 hk hf ⟨e, r⟩
  refine ⟨show S.2.2 8 = S.2.2 5 by omega, rfl, by show 3 < S.2.2 13; omega, rfl, w5, by show S.2.2 23 < 60; omega, by show S.2.2 23 < S.2.2 5 + 1; omega, ?_⟩
  exact ⟨rfl, by show 3 < S.2.2 13; omega, h4⟩
theorem ct_X6_permit {l : Launch} (hl : l.stackTraces = false) (hNL : NewL l) : CT l yX6_permit cX6_permit 5 (some .int) 6 10 s_X6_permit := CT_of hl hNL (by decide +kernel) (own := "HeavyHaul") rfl (ini := false) (fun q => nomatch q) chk_X6_permit (cal_X6_permit hl hNL) ar_X6_permit vc_X6_permit
def newE (S : Sto) (a f t : Int32) : Sto := sAdd (wrI (wrI (wrI (wrI (mkO (mkO S 6) 9) 9 0 (S.2.2 9) f) 9 1 (S.2.2 9) t) 6 0 (S.2.2 6) a) 6 1 (S.2.2 6) 1) 4
def s_X6_embargo : SP := fun as S Q => o3 0 as fun a f t => WfH S ∧ (¬ nm a 4 → Q (Sum.inr 0) S) ∧ (nm a 4 → ¬ perF f t → Q (Sum.inr 1) S) ∧ (nm a 4 → perF f t → ¬ nI (S.2.2 24) < 20 → Q (Sum.inr 2) S) ∧ (nm a 4 → perF f t → nI (S.2.2 24) < 20 → Q (Sum.inl (some (aI (nI ((newE S a f t).2.2 24))))) (newE S a f t))
def tb_X6_embargo : Tb := [(0, .iload_n 1, 1, x0), (1, .iconst 4, 1, xI (4)), (2, .invokestatic 53, 3, xS 2 1 s_X6_needNumber), (5, .iload_n 2, 1, x0), (6, .iload_n 3, 1, x0), (7, .invokestatic 103, 3, xS 2 2 s_X6_needPeriod), (10, .aload_n 0, 1, x0), (11, .getfield 36, 3, xF 7 7 [104]), (14, .invokevirtual 68, 3, xS 1 0 s_Jx4a65c_size_8abf5), (17, .bipush 20, 2, xI (20)), (19, .invokestatic 72, 3, xS 2 1 s_X6_needRoom), (22, .aload_n 0, 1, x0), (23, .getfield 36, 3, xF 7 7 [104]), (26, .new 160, 3, xF 6 0 [447, 448, 42]), (29, .dup, 1, x0), (30, .iload_n 1, 1, x0), (31, .new 108, 3, xF 9 0 [449, 450, 43]), (34, .dup, 1, x0), (35, .iload_n 2, 1, x0), (36, .iload_n 3, 1, x0), (37, .invokespecial 110, 3, xS 3 0 s_X1_init), (40, .invokespecial 162, 3, xS 3 0 s_X0_init), (43, .invokevirtual 80, 3, xS 2 1 s_Jx4a65c_add_9ea2d), (46, .pop, 1, x0), (47, .aload_n 0, 1, x0), (48, .getfield 36, 3, xF 7 7 [104]), (51, .invokevirtual 68, 3, xS 1 0 s_Jx4a65c_size_8abf5), (54, .ireturn, 1, x0)]
theorem chk_X6_embargo : chkTb cX6_embargo "HeavyHaul" false tb_X6_embargo = true := by decide +kernel
theorem cal_X6_embargo {l : Launch} (hl : l.stackTraces = false) (hNL : NewL l) : CallsOK l "HeavyHaul" 6 tb_X6_embargo := callsOK_f ⟨⟨_, _, 2, 0, _, (ct_X6_needNumber hl hNL), ⟨List.mem_of_getElem? (i := 144) (by decide +kernel), List.mem_of_getElem? (i := 26) (by decide +kernel), List.mem_of_getElem? (i := 142) (by decide +kernel), ⟨by decide +kernel, by decide +kernel⟩, by decide +kernel, by decide⟩, List.mem_of_getElem? (i := 143) (by decide +kernel), by decide⟩, ⟨_, _, 2, 1, _, (ct_X6_needPeriod hl hNL), ⟨List.mem_of_getElem? (i := 446) (by decide +kernel), List.mem_of_getElem? (i := 26) (by decide +kernel), List.mem_of_getElem? (i := 444) (by decide +kernel), ⟨by decide +kernel, by decide +kernel⟩, by decide +kernel, by decide⟩, List.mem_of_getElem? (i := 445) (by decide +kernel), by decide⟩, ⟨_, _, 1, 0, _, 0, (ct_Jx4a65c_size_8abf5 hl hNL), ⟨List.mem_of_getElem? (i := 236) (by decide +kernel), List.mem_of_getElem? (i := 29) (by decide +kernel), List.mem_of_getElem? (i := 233) (by decide +kernel), ⟨by decide +kernel, by decide +kernel⟩, by decide +kernel, by decide⟩, List.mem_of_getElem? (i := 234) (by decide +kernel), List.mem_of_getElem? (i := 235) (by decide +kernel), by decide, by decide, rc_Jx4a65c_size_8abf5⟩, ⟨_, _, 2, 0, _, (ct_X6_needRoom hl hNL), ⟨List.mem_of_getElem? (i := 239) (by decide +kernel), List.mem_of_getElem? (i := 26) (by decide +kernel), List.mem_of_getElem? (i := 237) (by decide +kernel), ⟨by decide +kernel, by decide +kernel⟩, by decide +kernel, by decide⟩, List.mem_of_getElem? (i := 238) (by decide +kernel), by decide⟩, ⟨_, _, 3, 0, (ct_X1_init hl hNL), ⟨List.mem_of_getElem? (i := 453) (by decide +kernel), List.mem_of_getElem? (i := 43) (by decide +kernel), List.mem_of_getElem? (i := 451) (by decide +kernel), ⟨by decide +kernel, by decide +kernel⟩, by decide +kernel, by decide⟩, List.mem_of_getElem? (i := 452) (by decide +kernel), rfl, by decide, by decide, ri_X1_init⟩, ⟨_, _, 3, 0, (ct_X0_init hl hNL), ⟨List.mem_of_getElem? (i := 464) (by decide +kernel), List.mem_of_getElem? (i := 42) (by decide +kernel), List.mem_of_getElem? (i := 462) (by decide +kernel), ⟨by decide +kernel, by decide +kernel⟩, by decide +kernel, by decide⟩, List.mem_of_getElem? (i := 463) (by decide +kernel), rfl, by decide, by decide, ri_X0_init⟩, ⟨_, _, 2, 5, _, 0, (ct_Jx4a65c_add_9ea2d hl hNL), ⟨List.mem_of_getElem? (i := 304) (by decide +kernel), List.mem_of_getElem? (i := 29) (by decide +kernel), List.mem_of_getElem? (i := 301) (by decide +kernel), ⟨by decide +kernel, by decide +kernel⟩, by decide +kernel, by decide⟩, List.mem_of_getElem? (i := 302) (by decide +kernel), List.mem_of_getElem? (i := 303) (by decide +kernel), by decide, by decide, rc_Jx4a65c_add_9ea2d⟩, ⟨_, _, 1, 0, _, 0, (ct_Jx4a65c_size_8abf5 hl hNL), ⟨List.mem_of_getElem? (i := 236) (by decide +kernel), List.mem_of_getElem? (i := 29) (by decide +kernel), List.mem_of_getElem? (i := 233) (by decide +kernel), ⟨by decide +kernel, by decide +kernel⟩, by decide +kernel, by decide⟩, List.mem_of_getElem? (i := 234) (by decide +kernel), List.mem_of_getElem? (i := 235) (by decide +kernel), by decide, by decide, rc_Jx4a65c_size_8abf5⟩, trivial⟩
theorem ar_X6_embargo : ∀ as S P, s_X6_embargo as S P → as.length ≤ 4 ∧ ∀ a ∈ as, catV a = 1 := fun as S P h => by
  obtain ⟨_, _, _, rfl, _⟩ := o3_ok h
  exact ar_all ⟨Nat.le_of_ble_eq_true rfl, rfl⟩
theorem rc_X6_embargo : ∀ as S P, s_X6_embargo as S P → ∃ k i r, as = aR k i :: r ∧ ci k = 7 ∧ (obK k = true ∨ k = 13) := fun as S P h => by
  obtain ⟨_, _, _, rfl, _⟩ := o3_ok h
  exact ⟨_, _, _, rfl, rfl, Or.inl rfl⟩
theorem vc_X6_embargo : ∀ (G : Gt) (Q : Out → Sto → Prop) (as : List AV) (S : Sto), s_X6_embargo as S Q → Seg tb_X6_embargo G Q 1 10 [] (0, fun _ => 0) → G 0 (argL as 4) [] S 0 := by
  intro G Q as S h hs
  obtain ⟨a, f, t, rfl, hW, h0, h1, h2, h3⟩ := o3_ok h
  have w13 := hW.1
  have w24 := hW.2.1.2.2.2.2
  have w6 := hW.2.2.1.2.2.2.2.1
  have w9 := hW.2.2.1.2.2.2.2.2.2.2
  refine hs [] 150 0 _ _ _ _ ?_
  refine ⟨fun p => h0 fun z => z.1 p, fun p => ⟨fun p' => ?_, fun p' => h0 fun z => p' z.2⟩⟩
  have hk : nm a 4 := ⟨p, p'⟩
  have bad := h1 hk
  refine ⟨fun c1 => bad fun z => z.1.1 c1, fun c1 => ⟨fun c2 => ?_, fun c2 => bad fun z => c2 z.1.2⟩⟩
  refine ⟨fun d1 => bad fun z => z.2.1 d1, fun d1 => ⟨fun d2 => ?_, fun d2 => bad fun z => d2 z.2.2⟩⟩
  have hf : perF f t := ⟨⟨c1, c2⟩, ⟨d1, d2⟩⟩
  refine ⟨rfl, by omega, fun r => ?_, fun r => h2 hk hf r⟩
  have h4 := h3 hk hf r
  refine ⟨show S.2.2 9 = S.2.2 6 by omega, rfl, by show 4 < S.2.2 13; omega, rfl, w6, by show S.2.2 24 < 60; omega, by show S.2.2 24 < S.2.2 6 + 1; omega, ?_⟩
  exact ⟨rfl, by show 4 < S.2.2 13; omega, h4⟩
theorem ct_X6_embargo {l : Launch} (hl : l.stackTraces = false) (hNL : NewL l) : CT l yX6_embargo cX6_embargo 4 (some .int) 6 10 s_X6_embargo := CT_of hl hNL (by decide +kernel) (own := "HeavyHaul") rfl (ini := false) (fun q => nomatch q) chk_X6_embargo (cal_X6_embargo hl hNL) ar_X6_embargo vc_X6_embargo
end
section
/-! THE CLASS's PUBLIC METHODS: a new rig -/
def evn (a : Int32) : Prop := a - a / 2 * 2 = 0
def fitG (a b c d e x : Int32) : Prop := rg a 2 16 ∧ evn a ∧ rg b 1 5 ∧ rg c 5 99 ∧ rg d 20 99 ∧ rg e 20 99 ∧ rg x 0 99999
def rawG (S : Sto) (p a b c d e x : Int32) : Sto := wrI (wrI (wrI (wrI (wrI (wrI (wrI (wrI (wrI (mkO S 4) 4 9 (S.2.2 4) (-1)) 4 10 (S.2.2 4) (-1)) 4 8 (S.2.2 4) p) 4 0 (S.2.2 4) a) 4 1 (S.2.2 4) b) 4 2 (S.2.2 4) c) 4 3 (S.2.2 4) d) 4 4 (S.2.2 4) e) 4 5 (S.2.2 4) x
def newG (S : Sto) (p a b c d e x : Int32) : Sto := sAdd (takeS (rawG S p a b c d e x) (S.2.2 4) 0 0) 2
theorem rawG_at {S : Sto} {p a b c d e x : Int32} {k f i : Nat} : (rawG S p a b c d e x).1 k f i = if k = 4 ∧ i = S.2.2 4 then (if f = 9 ∨ f = 10 then -1 else if f = 8 then p else if f = 0 then a else if f = 1 then b else if f = 2 then c else if f = 3 then d else if f = 4 then e else if f = 5 then x else 0) else S.1 k f i := by
  unfold rawG
  simp only [wrI_at]
  by_cases h : k = 4 ∧ i = S.2.2 4
  · obtain ⟨rfl, rfl⟩ := h
    have hr : ∀ A B : Int32, (if (4 : Nat) = 4 ∧ S.2.2 4 = S.2.2 4 then A else B) = A := fun A B => if_pos ⟨rfl, rfl⟩
    rw [hr]
    simp only [true_and, and_true]
    by_cases h5 : f = 5
    · subst h5; simp
    · by_cases h4 : f = 4
      · subst h4; simp
      · by_cases h3 : f = 3
        · subst h3; simp
        · by_cases h2 : f = 2
          · subst h2; simp
          · by_cases h1 : f = 1
            · subst h1; simp
            · by_cases h0 : f = 0
              · subst h0; simp
              · by_cases h8 : f = 8
                · subst h8; simp
                · by_cases h10 : f = 10
                  · subst h10; simp
                  · by_cases h9 : f = 9
                    · subst h9; simp
                    · simp [h5, h4, h3, h2, h1, h0, h8, h10, h9, mkO_new]
  · have hn : ∀ f', ¬ (k = 4 ∧ f = f' ∧ i = S.2.2 4) := fun f' z => h ⟨z.1, z.2.2⟩
    rw [if_neg h]
    simp only [if_neg (hn _)]
    exact mkO_ne h
theorem evn_ok : ∀ m, m ≤ 16 → nI m - nI m / 2 * 2 = 0 → m = 2 * (m / 2) := by decide +kernel
theorem rg_nI {v : Int32} {a b : Nat} (h : rg v (nI a) (nI b)) (hb : b < 2 ^ 31) (ha : a < 2 ^ 31) : ∃ n, v = nI n ∧ a ≤ n ∧ n ≤ b := by
  have h1 : nI a ≤ v := Int32.not_lt.mp h.1
  have h0 : ¬ v < 0 := fun z => absurd (Int32.lt_of_le_of_lt h1 z) (nI_nn ha)
  obtain ⟨q, hq, rfl⟩ := nI_of h0
  exact ⟨q, rfl, (nI_le2 ha hq).mp h1, (nI_le2 hq hb).mp h.2⟩
theorem rawG_ri {S : Sto} {p a b c d e x : Int32} (hp : nm p 10) (ha : rg a 2 16) (hv : evn a) (hb : rg b 1 5) : RiF (rawG S p a b c d e x) (S.2.2 4) := by
  obtain ⟨m, rfl, m1, m2⟩ := rg_nI (a := 2) (b := 16) ha (by omega) (by omega)
  obtain ⟨n, rfl, n1, n2⟩ := rg_nI (a := 1) (b := 5) hb (by omega) (by omega)
  obtain ⟨q, hq, rfl⟩ := nI_of hp.1
  have q10 : q < 10 := (nI_lt2 (b := 10) hq (by omega)).mp hp.2
  have hm := evn_ok m m2 hv
  refine ⟨m / 2, n, q, ?_, ?_, ?_, by omega, by omega, n1, n2, q10⟩
  · rw [rawG_at, if_pos ⟨rfl, rfl⟩, ← hm]
    rfl
  · rw [rawG_at, if_pos ⟨rfl, rfl⟩]
    rfl
  · rw [rawG_at, if_pos ⟨rfl, rfl⟩]
    rfl
def s_X6_rig : SP := fun as S Q => o7 0 as fun p a b c d e x => WfH S ∧ (¬ nm p 10 → Q (Sum.inr 0) S) ∧ (nm p 10 → ¬ fitG a b c d e x → Q (Sum.inr 1) S) ∧ (nm p 10 → fitG a b c d e x → ¬ nI (S.2.2 22) < 6 → Q (Sum.inr 2) S) ∧ (nm p 10 → fitG a b c d e x → nI (S.2.2 22) < 6 → Q (Sum.inl (some (aI (nI ((newG S p a b c d e x).2.2 22) - 1)))) (newG S p a b c d e x))
def tb_X6_rig : Tb := [(0, .iload_n 1, 1, x0), (1, .bipush 10, 2, xI (10)), (3, .invokestatic 53, 3, xS 2 1 s_X6_needNumber), (6, .iload_n 2, 1, x0), (7, .iconst 2, 1, xI (2)), (8, .bipush 16, 2, xI (16)), (10, .invokestatic 64, 3, xS 3 1 s_X6_needRange), (13, .iload_n 2, 1, x0), (14, .iconst 2, 1, xI (2)), (15, .irem, 1, x0), (16, .ifCond .eq 13, 3, xN 29), (19, .new 57, 10, xF 51 0 [213, 35, 115, 61]), (29, .iload_n 3, 1, x0), (30, .iconst 1, 1, xI (1)), (31, .iconst 5, 1, xI (5)), (32, .invokestatic 64, 3, xS 3 1 s_X6_needRange), (35, .iload 4, 2, x0), (37, .iconst 5, 1, xI (5)), (38, .bipush 99, 2, xI (99)), (40, .invokestatic 64, 3, xS 3 1 s_X6_needRange), (43, .iload 5, 2, x0), (45, .bipush 20, 2, xI (20)), (47, .bipush 99, 2, xI (99)), (49, .invokestatic 64, 3, xS 3 1 s_X6_needRange), (52, .iload 6, 2, x0), (54, .bipush 20, 2, xI (20)), (56, .bipush 99, 2, xI (99)), (58, .invokestatic 64, 3, xS 3 1 s_X6_needRange), (61, .iload 7, 2, x0), (63, .iconst 0, 1, xI (0)), (64, .ldc 46, 2, xC 0 0 99999 [93]), (66, .invokestatic 64, 3, xS 3 1 s_X6_needRange), (69, .aload_n 0, 1, x0), (70, .getfield 30, 3, xF 7 5 [102]), (73, .invokevirtual 68, 3, xS 1 0 s_Jx4a65c_size_8abf5), (76, .bipush 6, 2, xI (6)), (78, .invokestatic 72, 3, xS 2 1 s_X6_needRoom), (81, .new 117, 3, xF 4 0 [365, 366, 41]), (84, .dup, 1, x0), (85, .iload_n 1, 1, x0), (86, .iload_n 2, 1, x0), (87, .iload_n 3, 1, x0), (88, .iload 4, 2, x0), (90, .iload 5, 2, x0), (92, .iload 6, 2, x0), (94, .iload 7, 2, x0), (96, .invokespecial 119, 3, xS 8 0 s_X3_init), (99, .astore 8, 2, x0), (101, .aload 8, 2, x0), (103, .iconst 0, 1, xI (0)), (104, .iconst 0, 1, xI (0)), (105, .invokevirtual 120, 3, xS 3 0 s_X3_take), (108, .aload_n 0, 1, x0), (109, .getfield 30, 3, xF 7 5 [102]), (112, .aload 8, 2, x0), (114, .invokevirtual 80, 3, xS 2 1 s_Jx4a65c_add_9ea2d), (117, .pop, 1, x0), (118, .aload_n 0, 1, x0), (119, .getfield 30, 3, xF 7 5 [102]), (122, .invokevirtual 68, 3, xS 1 0 s_Jx4a65c_size_8abf5), (125, .iconst 1, 1, xI (1)), (126, .isub, 1, x0), (127, .ireturn, 1, x0)]
theorem chk_X6_rig : chkTb cX6_rig "HeavyHaul" false tb_X6_rig = true := by decide +kernel
theorem cal_X6_rig {l : Launch} (hl : l.stackTraces = false) (hNL : NewL l) : CallsOK l "HeavyHaul" 6 tb_X6_rig := callsOK_f ⟨⟨_, _, 2, 0, _, (ct_X6_needNumber hl hNL), ⟨List.mem_of_getElem? (i := 144) (by decide +kernel), List.mem_of_getElem? (i := 26) (by decide +kernel), List.mem_of_getElem? (i := 142) (by decide +kernel), ⟨by decide +kernel, by decide +kernel⟩, by decide +kernel, by decide⟩, List.mem_of_getElem? (i := 143) (by decide +kernel), by decide⟩, ⟨_, _, 3, 0, _, (ct_X6_needRange hl hNL), ⟨List.mem_of_getElem? (i := 231) (by decide +kernel), List.mem_of_getElem? (i := 26) (by decide +kernel), List.mem_of_getElem? (i := 229) (by decide +kernel), ⟨by decide +kernel, by decide +kernel⟩, by decide +kernel, by decide⟩, List.mem_of_getElem? (i := 230) (by decide +kernel), by decide⟩, ⟨_, _, 3, 0, _, (ct_X6_needRange hl hNL), ⟨List.mem_of_getElem? (i := 231) (by decide +kernel), List.mem_of_getElem? (i := 26) (by decide +kernel), List.mem_of_getElem? (i := 229) (by decide +kernel), ⟨by decide +kernel, by decide +kernel⟩, by decide +kernel, by decide⟩, List.mem_of_getElem? (i := 230) (by decide +kernel), by decide⟩, ⟨_, _, 3, 0, _, (ct_X6_needRange hl hNL), ⟨List.mem_of_getElem? (i := 231) (by decide +kernel), List.mem_of_getElem? (i := 26) (by decide +kernel), List.mem_of_getElem? (i := 229) (by decide +kernel), ⟨by decide +kernel, by decide +kernel⟩, by decide +kernel, by decide⟩, List.mem_of_getElem? (i := 230) (by decide +kernel), by decide⟩, ⟨_, _, 3, 0, _, (ct_X6_needRange hl hNL), ⟨List.mem_of_getElem? (i := 231) (by decide +kernel), List.mem_of_getElem? (i := 26) (by decide +kernel), List.mem_of_getElem? (i := 229) (by decide +kernel), ⟨by decide +kernel, by decide +kernel⟩, by decide +kernel, by decide⟩, List.mem_of_getElem? (i := 230) (by decide +kernel), by decide⟩, ⟨_, _, 3, 0, _, (ct_X6_needRange hl hNL), ⟨List.mem_of_getElem? (i := 231) (by decide +kernel), List.mem_of_getElem? (i := 26) (by decide +kernel), List.mem_of_getElem? (i := 229) (by decide +kernel), ⟨by decide +kernel, by decide +kernel⟩, by decide +kernel, by decide⟩, List.mem_of_getElem? (i := 230) (by decide +kernel), by decide⟩, ⟨_, _, 3, 0, _, (ct_X6_needRange hl hNL), ⟨List.mem_of_getElem? (i := 231) (by decide +kernel), List.mem_of_getElem? (i := 26) (by decide +kernel), List.mem_of_getElem? (i := 229) (by decide +kernel), ⟨by decide +kernel, by decide +kernel⟩, by decide +kernel, by decide⟩, List.mem_of_getElem? (i := 230) (by decide +kernel), by decide⟩, ⟨_, _, 1, 0, _, 0, (ct_Jx4a65c_size_8abf5 hl hNL), ⟨List.mem_of_getElem? (i := 236) (by decide +kernel), List.mem_of_getElem? (i := 29) (by decide +kernel), List.mem_of_getElem? (i := 233) (by decide +kernel), ⟨by decide +kernel, by decide +kernel⟩, by decide +kernel, by decide⟩, List.mem_of_getElem? (i := 234) (by decide +kernel), List.mem_of_getElem? (i := 235) (by decide +kernel), by decide, by decide, rc_Jx4a65c_size_8abf5⟩, ⟨_, _, 2, 0, _, (ct_X6_needRoom hl hNL), ⟨List.mem_of_getElem? (i := 239) (by decide +kernel), List.mem_of_getElem? (i := 26) (by decide +kernel), List.mem_of_getElem? (i := 237) (by decide +kernel), ⟨by decide +kernel, by decide +kernel⟩, by decide +kernel, by decide⟩, List.mem_of_getElem? (i := 238) (by decide +kernel), by decide⟩, ⟨_, _, 8, 0, (ct_X3_init hl hNL), ⟨List.mem_of_getElem? (i := 369) (by decide +kernel), List.mem_of_getElem? (i := 41) (by decide +kernel), List.mem_of_getElem? (i := 367) (by decide +kernel), ⟨by decide +kernel, by decide +kernel⟩, by decide +kernel, by decide⟩, List.mem_of_getElem? (i := 368) (by decide +kernel), rfl, by decide, by decide, ri_X3_init⟩, ⟨_, _, 5, 1, _, 4, (ct_X3_take hl hNL), ⟨List.mem_of_getElem? (i := 423) (by decide +kernel), List.mem_of_getElem? (i := 41) (by decide +kernel), List.mem_of_getElem? (i := 420) (by decide +kernel), ⟨by decide +kernel, by decide +kernel⟩, by decide +kernel, by decide⟩, List.mem_of_getElem? (i := 421) (by decide +kernel), List.mem_of_getElem? (i := 422) (by decide +kernel), by decide, by decide, rc_X3_take⟩, ⟨_, _, 2, 5, _, 0, (ct_Jx4a65c_add_9ea2d hl hNL), ⟨List.mem_of_getElem? (i := 304) (by decide +kernel), List.mem_of_getElem? (i := 29) (by decide +kernel), List.mem_of_getElem? (i := 301) (by decide +kernel), ⟨by decide +kernel, by decide +kernel⟩, by decide +kernel, by decide⟩, List.mem_of_getElem? (i := 302) (by decide +kernel), List.mem_of_getElem? (i := 303) (by decide +kernel), by decide, by decide, rc_Jx4a65c_add_9ea2d⟩, ⟨_, _, 1, 0, _, 0, (ct_Jx4a65c_size_8abf5 hl hNL), ⟨List.mem_of_getElem? (i := 236) (by decide +kernel), List.mem_of_getElem? (i := 29) (by decide +kernel), List.mem_of_getElem? (i := 233) (by decide +kernel), ⟨by decide +kernel, by decide +kernel⟩, by decide +kernel, by decide⟩, List.mem_of_getElem? (i := 234) (by decide +kernel), List.mem_of_getElem? (i := 235) (by decide +kernel), by decide, by decide, rc_Jx4a65c_size_8abf5⟩, trivial⟩
theorem ar_X6_rig : ∀ as S P, s_X6_rig as S P → as.length ≤ 9 ∧ ∀ a ∈ as, catV a = 1 := fun as S P h => by
  obtain ⟨_, _, _, _, _, _, _, rfl, _⟩ := o7_ok h
  exact ar_all ⟨Nat.le_of_ble_eq_true rfl, rfl⟩
theorem rc_X6_rig : ∀ as S P, s_X6_rig as S P → ∃ k i r, as = aR k i :: r ∧ ci k = 7 ∧ (obK k = true ∨ k = 13) := fun as S P h => by
  obtain ⟨_, _, _, _, _, _, _, rfl, _⟩ := o7_ok h
  exact ⟨_, _, _, rfl, rfl, Or.inl rfl⟩
set_option maxRecDepth 8000 in
theorem vc_X6_rig : ∀ (G : Gt) (Q : Out → Sto → Prop) (as : List AV) (S : Sto), s_X6_rig as S Q → Seg tb_X6_rig G Q 1 12 [] (0, fun _ => 0) → G 0 (argL as 9) [] S 0 := by
  intro G Q as S h hs
  obtain ⟨p, a, b, c, d, e, x, rfl, hW, h0, h1, h2, h3⟩ := o7_ok h
  have w13 := hW.1
  have w22 := hW.2.1.2.2.1
  have w4 := hW.2.2.1.2.2.1
  refine hs [] 150 0 _ _ _ _ ?_
  refine ⟨fun q => h0 fun z => z.1 q, fun q => ⟨fun q' => ?_, fun q' => h0 fun z => q' z.2⟩⟩
  have hk : nm p 10 := ⟨q, q'⟩
  have bad := h1 hk
  refine ⟨fun a1 => bad fun z => z.1.1 a1, fun a1 => ⟨fun a2 => ?_, fun a2 => bad fun z => a2 z.1.2⟩⟩
  refine ⟨n2z, fun v => ?_, fun v => bad fun z => v z.2.1⟩
  refine ⟨fun b1 => bad fun z => z.2.2.1.1 b1, fun b1 => ⟨fun b2 => ?_, fun b2 => bad fun z => b2 z.2.2.1.2⟩⟩
  refine ⟨fun c1 => bad fun z => z.2.2.2.1.1 c1, fun c1 => ⟨fun c2 => ?_, fun c2 => bad fun z => c2 z.2.2.2.1.2⟩⟩
  refine ⟨fun d1 => bad fun z => z.2.2.2.2.1.1 d1, fun d1 => ⟨fun d2 => ?_, fun d2 => bad fun z => d2 z.2.2.2.2.1.2⟩⟩
  refine ⟨fun e1 => bad fun z => z.2.2.2.2.2.1.1 e1, fun e1 => ⟨fun e2 => ?_, fun e2 => bad fun z => e2 z.2.2.2.2.2.1.2⟩⟩
  refine ⟨fun f1 => bad fun z => z.2.2.2.2.2.2.1 f1, fun f1 => ⟨fun f2 => ?_, fun f2 => bad fun z => f2 z.2.2.2.2.2.2.2⟩⟩
  have hf : fitG a b c d e x := ⟨⟨a1, a2⟩, v, ⟨b1, b2⟩, ⟨c1, c2⟩, ⟨d1, d2⟩, ⟨e1, e2⟩, ⟨f1, f2⟩⟩
  refine ⟨rfl, by omega, fun r => ?_, fun r => h2 hk hf r⟩
  have h4 := h3 hk hf r
  refine ⟨rfl, rawG_ri (S := S) (c := c) (d := d) (e := e) (x := x) hk ⟨a1, a2⟩ v ⟨b1, b2⟩, ?_⟩
  refine ⟨rfl, by show 2 < S.2.2 13; omega, rfl, w4, by show S.2.2 22 < 60; omega, by show S.2.2 22 < S.2.2 4 + 1; omega, ?_⟩
  exact ⟨rfl, by show 2 < S.2.2 13; omega, h4⟩
theorem ct_X6_rig {l : Launch} (hl : l.stackTraces = false) (hNL : NewL l) : CT l yX6_rig cX6_rig 9 (some .int) 6 12 s_X6_rig := CT_of hl hNL (by decide +kernel) (own := "HeavyHaul") rfl (ini := false) (fun q => nomatch q) chk_X6_rig (cal_X6_rig hl hNL) ar_X6_rig vc_X6_rig
end
section
/-! THE CLASS AND THE LAW's OWN ROWS, column by column -/
/-- roads of the law: array 3; rigs: 5; works: 4; permits: 6; embargoes: 7; authorities: 8; the rest: 9 -/
def RoL (S : Sto) (n : Nat) : Prop := ∀ i, i < n → (∀ f, f < 10 → S.1 10 3 (10 * i + f) = S.1 2 f i) ∧ onN S i < 5 ∧ otN S i < 5
def gmF : Nat → Nat
  | 0 => 8
  | 1 => 0
  | 2 => 1
  | 3 => 2
  | 4 => 3
  | 5 => 4
  | 6 => 5
  | f => f
def LoF (S : Sto) (i : Nat) (L C : Int32) : Prop := (∃ l c o : Nat, L = nI l ∧ C = nI c ∧ S.1 4 5 i = nI o ∧ l ≤ 200000 ∧ c ≤ 80 ∧ o ≤ 99999) ∧ canT S i L C ∧ S.1 4 6 i = shrF S i (L - reaF S i L C) ∧ S.1 4 7 i = shrF S i (reaF S i L C)
def DrF (S : Sto) (T i : Nat) : Prop := (∃ p : Nat, S.1 4 8 i = nI p ∧ p < 5) ∧ (S.1 4 9 i = -1 ∨ ∃ d q : Nat, S.1 4 9 i = nI d ∧ d < 6 ∧ S.1 4 10 i = nI q ∧ T < q ∧ q < 20000)
def RiL (S : Sto) (n T : Nat) : Prop := ∀ i, i < n → (∀ f, f < 13 → f ≠ 7 → f ≠ 8 → S.1 10 5 (14 * i + f) = S.1 4 (gmF f) i) ∧ LoF S i (S.1 10 5 (14 * i + 7)) (S.1 10 5 (14 * i + 8)) ∧ DrF S T i
def WoL (S : Sto) : Prop := ∀ i, i < S.2.2 21 → S.1 10 4 (5 * i) = S.1 3 0 i ∧ S.1 10 4 (5 * i + 1) = S.1 3 1 i ∧ S.1 10 4 (5 * i + 2) = S.1 3 2 i ∧ S.1 10 4 (5 * i + 3) = S.1 7 0 i ∧ S.1 10 4 (5 * i + 4) = S.1 7 1 i
def PeL (S : Sto) : Prop := ∀ i, i < S.2.2 23 → S.1 10 6 (4 * i) = S.1 5 0 i ∧ S.1 10 6 (4 * i + 1) = S.1 5 1 i ∧ S.1 10 6 (4 * i + 2) = S.1 8 0 i ∧ S.1 10 6 (4 * i + 3) = S.1 8 1 i
def EmL (S : Sto) : Prop := ∀ i, i < S.2.2 24 → S.1 10 7 (3 * i) = S.1 6 0 i ∧ S.1 10 7 (3 * i + 1) = S.1 9 0 i ∧ S.1 10 7 (3 * i + 2) = S.1 9 1 i ∧ S.1 9 0 i < S.1 9 1 i
def AuL (S : Sto) : Prop := ∀ i, i < 4 → S.1 10 8 i = S.1 10 0 i ∧ S.1 10 8 (4 + i) = S.1 10 1 i ∧ ∃ x : Nat, S.1 10 0 i = nI x ∧ x ≤ 39
def MmL (T : Nat) (S : Sto) : Prop := S.1 10 9 0 = nI T ∧ S.1 0 9 0 = nI T ∧ S.1 10 9 2 = nI (S.2.2 21) ∧ S.1 10 9 3 = nI (S.2.2 23) ∧ S.1 10 9 4 = nI (S.2.2 24)
def BaL (S : Sto) : Prop := (∀ p, p < 5 → bit (S.1 10 9 1) p = bayH S p) ∧ ∀ i, S.1 11 0 i &&& 1 = S.1 11 0 i
def LawI (T : Nat) (S : Sto) : Prop :=
  WfH S ∧ (S.2.2 20 = 6 ∧ S.2.2 22 = 2 ∧ S.2.2 21 ≤ 6 ∧ S.2.2 23 ≤ 12 ∧ S.2.2 24 ≤ 3) ∧ RoL S 6 ∧ RiL S 2 T ∧ WoL S ∧ PeL S ∧ EmL S ∧ AuL S ∧ MmL T S ∧ BaL S
section LI
variable {T : Nat} {S : Sto}
theorem LawI.wf (h : LawI T S) : WfH S := h.1
theorem LawI.n (h : LawI T S) : S.2.2 20 = 6 ∧ S.2.2 22 = 2 ∧ S.2.2 21 ≤ 6 ∧ S.2.2 23 ≤ 12 ∧ S.2.2 24 ≤ 3 := h.2.1
theorem LawI.ro (h : LawI T S) : RoL S 6 := h.2.2.1
theorem LawI.ri (h : LawI T S) : RiL S 2 T := h.2.2.2.1
theorem LawI.wo (h : LawI T S) : WoL S := h.2.2.2.2.1
theorem LawI.pe (h : LawI T S) : PeL S := h.2.2.2.2.2.1
theorem LawI.em (h : LawI T S) : EmL S := h.2.2.2.2.2.2.1
theorem LawI.au (h : LawI T S) : AuL S := h.2.2.2.2.2.2.2.1
theorem LawI.mm (h : LawI T S) : MmL T S := h.2.2.2.2.2.2.2.2.1
theorem LawI.ba (h : LawI T S) : BaL S := h.2.2.2.2.2.2.2.2.2
theorem ix_1 (a k : Nat) (h : a * k < 2 ^ 31) : (nI a * nI k).toNatClampNeg = a * k := by
  rw [nI_mul]
  exact nI_cl h
theorem ix_2 (a k c : Nat) (h : a * k + c < 2 ^ 31) : (nI a * nI k + nI c).toNatClampNeg = a * k + c := by
  rw [nI_mul, nI_add]
  exact nI_cl h
theorem iv_1 {a k n : Nat} (hn : n ≤ 3000) (h : a * k < n) : vp_in (nI a * nI k) n := by
  rw [nI_mul]
  exact nI_vin (by omega) h
theorem iv_2 {a k c n : Nat} (hn : n ≤ 3000) (h : a * k + c < n) : vp_in (nI a * nI k + nI c) n := by
  rw [nI_mul, nI_add]
  exact nI_vin (by omega) h
/-- rows of roads -/
theorem aA0 {i : Nat} (h : LawI T S) (hi : i < 6) : S.1 10 3 (nI 10 * nI i).toNatClampNeg = S.1 2 0 i := by
  rw [ix_1 10 i (by omega)]
  exact (h.ro i hi).1 0 (by decide)
theorem aA {i : Nat} (h : LawI T S) (hi : i < 6) (f : Nat) (hf : f < 10) : S.1 10 3 (nI 10 * nI i + nI f).toNatClampNeg = S.1 2 f i := by
  rw [ix_2 10 i f (by omega)]
  exact (h.ro i hi).1 f hf
theorem vA0 {i : Nat} (_ : LawI T S) (hi : i < 6) : vp_in (nI 10 * nI i) 60 := iv_1 (by omega) (by omega)
theorem vA {i : Nat} (_ : LawI T S) (hi : i < 6) (f : Nat) (hf : f < 10) : vp_in (nI 10 * nI i + nI f) 60 := iv_2 (by omega) (by omega)
/-- rows of rigs -/
theorem aG0 {i : Nat} (h : LawI T S) (hi : i < 2) : S.1 10 5 (nI 14 * nI i).toNatClampNeg = S.1 4 8 i := by
  rw [ix_1 14 i (by omega)]
  exact (h.ri i hi).1 0 (by decide) (by decide) (by decide)
def gvF (S : Sto) (i f : Nat) : Int32 := if f = 7 ∨ f = 8 then S.1 10 5 (14 * i + f) else S.1 4 (gmF f) i
theorem aG {i : Nat} (h : LawI T S) (hi : i < 2) (f : Nat) (hf : f < 13) : S.1 10 5 (nI 14 * nI i + nI f).toNatClampNeg = gvF S i f := by
  rw [ix_2 14 i f (by omega)]
  unfold gvF
  by_cases h7 : f = 7 ∨ f = 8
  · rw [if_pos h7]
  · rw [if_neg h7]
    exact (h.ri i hi).1 f hf (fun q => h7 (Or.inl q)) (fun q => h7 (Or.inr q))
theorem vG0 {i : Nat} (_ : LawI T S) (hi : i < 2) : vp_in (nI 14 * nI i) 28 := iv_1 (by omega) (by omega)
theorem vG {i : Nat} (_ : LawI T S) (hi : i < 2) (f : Nat) (hf : f < 13) : vp_in (nI 14 * nI i + nI f) 28 := iv_2 (by omega) (by omega)
/-- rows of works -/
theorem aW0 {i : Nat} (h : LawI T S) (hi : i < S.2.2 21) : S.1 10 4 (nI 5 * nI i).toNatClampNeg = S.1 3 0 i := by
  have := h.n.2.2.1
  rw [ix_1 5 i (by omega)]
  exact (h.wo i hi).1
def wvF (S : Sto) (i : Nat) : Nat → Int32
  | 0 => S.1 3 0 i
  | 1 => S.1 3 1 i
  | 2 => S.1 3 2 i
  | 3 => S.1 7 0 i
  | _ => S.1 7 1 i
theorem aW {i : Nat} (h : LawI T S) (hi : i < S.2.2 21) (f : Nat) (hf : f < 5) : S.1 10 4 (nI 5 * nI i + nI f).toNatClampNeg = wvF S i f := by
  have := h.n.2.2.1
  rw [ix_2 5 i f (by omega)]
  obtain ⟨h0, h1, h2, h3, h4⟩ := h.wo i hi
  have h5 : f = 0 ∨ f = 1 ∨ f = 2 ∨ f = 3 ∨ f = 4 := by omega
  rcases h5 with rfl | rfl | rfl | rfl | rfl
  · exact h0
  · exact h1
  · exact h2
  · exact h3
  · exact h4
theorem vW0 {i : Nat} (h : LawI T S) (hi : i < S.2.2 21) : vp_in (nI 5 * nI i) 30 := by
  have := h.n.2.2.1
  exact iv_1 (by omega) (by omega)
theorem vW {i : Nat} (h : LawI T S) (hi : i < S.2.2 21) (f : Nat) (hf : f < 5) : vp_in (nI 5 * nI i + nI f) 30 := by
  have := h.n.2.2.1
  exact iv_2 (by omega) (by omega)
/-- rows of permits -/
theorem aP0 {i : Nat} (h : LawI T S) (hi : i < S.2.2 23) : S.1 10 6 (nI 4 * nI i).toNatClampNeg = S.1 5 0 i := by
  have := h.n.2.2.2.1
  rw [ix_1 4 i (by omega)]
  exact (h.pe i hi).1
def pvF (S : Sto) (i : Nat) : Nat → Int32
  | 0 => S.1 5 0 i
  | 1 => S.1 5 1 i
  | 2 => S.1 8 0 i
  | _ => S.1 8 1 i
theorem aP {i : Nat} (h : LawI T S) (hi : i < S.2.2 23) (f : Nat) (hf : f < 4) : S.1 10 6 (nI 4 * nI i + nI f).toNatClampNeg = pvF S i f := by
  have := h.n.2.2.2.1
  rw [ix_2 4 i f (by omega)]
  obtain ⟨h0, h1, h2, h3⟩ := h.pe i hi
  have h5 : f = 0 ∨ f = 1 ∨ f = 2 ∨ f = 3 := by omega
  rcases h5 with rfl | rfl | rfl | rfl
  · exact h0
  · exact h1
  · exact h2
  · exact h3
theorem vP0 {i : Nat} (h : LawI T S) (hi : i < S.2.2 23) : vp_in (nI 4 * nI i) 48 := by
  have := h.n.2.2.2.1
  exact iv_1 (by omega) (by omega)
theorem vP {i : Nat} (h : LawI T S) (hi : i < S.2.2 23) (f : Nat) (hf : f < 4) : vp_in (nI 4 * nI i + nI f) 48 := by
  have := h.n.2.2.2.1
  exact iv_2 (by omega) (by omega)
/-- rows of embargoes -/
theorem aE0 {i : Nat} (h : LawI T S) (hi : i < S.2.2 24) : S.1 10 7 (nI 3 * nI i).toNatClampNeg = S.1 6 0 i := by
  have := h.n.2.2.2.2
  rw [ix_1 3 i (by omega)]
  exact (h.em i hi).1
def evF (S : Sto) (i : Nat) : Nat → Int32
  | 0 => S.1 6 0 i
  | 1 => S.1 9 0 i
  | _ => S.1 9 1 i
theorem aE {i : Nat} (h : LawI T S) (hi : i < S.2.2 24) (f : Nat) (hf : f < 3) : S.1 10 7 (nI 3 * nI i + nI f).toNatClampNeg = evF S i f := by
  have := h.n.2.2.2.2
  rw [ix_2 3 i f (by omega)]
  obtain ⟨h0, h1, h2, -⟩ := h.em i hi
  have h5 : f = 0 ∨ f = 1 ∨ f = 2 := by omega
  rcases h5 with rfl | rfl | rfl
  · exact h0
  · exact h1
  · exact h2
theorem vE0 {i : Nat} (h : LawI T S) (hi : i < S.2.2 24) : vp_in (nI 3 * nI i) 9 := by
  have := h.n.2.2.2.2
  exact iv_1 (by omega) (by omega)
theorem vE {i : Nat} (h : LawI T S) (hi : i < S.2.2 24) (f : Nat) (hf : f < 3) : vp_in (nI 3 * nI i + nI f) 9 := by
  have := h.n.2.2.2.2
  exact iv_2 (by omega) (by omega)
/-- the same but for the class's marks and arrays of longs -/
def sameL (S S' : Sto) : Prop := (∀ k, k ≠ 12 → S'.2.2 k = S.2.2 k) ∧ ∀ k f i, ¬ (k = 10 ∧ f = 2) → S'.1 k f i = S.1 k f i
theorem sameL.rf : sameL S S := ⟨fun _ _ => rfl, fun _ _ _ _ => rfl⟩
theorem sameL.tr {S1 S2 : Sto} (h : sameL S S1) (h2 : sameL S1 S2) : sameL S S2 := ⟨fun k q => (h2.1 k q).trans (h.1 k q), fun k f i q => (h2.2 k f i q).trans (h.2 k f i q)⟩
theorem sameL.of {S' : Sto} (h : onlyR S S') : sameL S S' := ⟨fun k _ => by rw [h.1], h.2⟩
theorem sameL.k {S' : Sto} (h : sameL S S') (k : Nat) (hk : k ≠ 10) : S'.1 k = S.1 k := by
  funext f i
  exact h.2 k f i fun q => hk q.1
theorem sameL.a {S' : Sto} (h : sameL S S') (f : Nat) (hk : f ≠ 2) : S'.1 10 f = S.1 10 f := by
  funext i
  exact h.2 10 f i fun q => hk q.2
theorem sameL.wf {S' : Sto} (h : sameL S S') (hW : WfH S) : WfH S' := by
  unfold WfH RoF RiF at hW ⊢
  rw [h.1 13 (by decide), h.1 20 (by decide), h.1 21 (by decide), h.1 22 (by decide), h.1 23 (by decide), h.1 24 (by decide), h.1 2 (by decide), h.1 3 (by decide), h.1 4 (by decide), h.1 5 (by decide), h.1 6 (by decide), h.1 7 (by decide), h.1 8 (by decide), h.1 9 (by decide), h.k 2 (by decide), h.k 3 (by decide), h.k 4 (by decide), h.k 5 (by decide), h.k 6 (by decide)]
  exact hW
theorem sameL.inv {S' : Sto} (h : sameL S S') (hI : LawI T S) : LawI T S' := by
  refine ⟨h.wf hI.1, ?_⟩
  have h9 := hI.2
  unfold RoL RiL WoL PeL EmL AuL MmL BaL LoF DrF canT shrF reaF levF basF onN otN bayH at h9 ⊢
  rw [h.1 20 (by decide), h.1 21 (by decide), h.1 22 (by decide), h.1 23 (by decide), h.1 24 (by decide), h.k 0 (by decide), h.k 2 (by decide), h.k 3 (by decide), h.k 4 (by decide), h.k 5 (by decide), h.k 6 (by decide), h.k 7 (by decide), h.k 8 (by decide), h.k 9 (by decide), h.k 11 (by decide), h.a 0 (by decide), h.a 1 (by decide), h.a 3 (by decide), h.a 4 (by decide), h.a 5 (by decide), h.a 6 (by decide), h.a 7 (by decide), h.a 8 (by decide), h.a 9 (by decide)]
  exact h9
theorem sameL.rea {S' : Sto} (h : sameL S S') (r d t : Int32) : reasonH S' r d t = reasonH S r d t := by
  unfold reasonH sizeH leaveH gwH gainH permH embH lastH borneH heavH greatH lastN sumH
  rw [h.1 21 (by decide), h.1 23 (by decide), h.1 24 (by decide), h.k 2 (by decide), h.k 3 (by decide), h.k 4 (by decide), h.k 5 (by decide), h.k 6 (by decide), h.k 7 (by decide), h.k 8 (by decide), h.k 9 (by decide), h.a 1 (by decide)]
theorem sameL.bor {S' : Sto} (h : sameL S S') (i j : Nat) : borneH S' i j = borneH S i j := by
  unfold borneH greatH lastN sumH
  rw [h.k 2 (by decide), h.k 4 (by decide)]
end LI
/-- a contract of a method that reads the script -/
theorem CT_ofS {l : Launch} {y : MethodName} {cc : ByteArray} {maxL rk u : Nat} {ret : Option FieldType} {sp : SP} {own : String} {tb : Tb} {ini : Bool} (hl : l.stackTraces = false) (hNL : NewL l) (hy : plainName y.cls = true) (hcls : y.cls = own) (hini : ini = true → y.name = "<init>")
    (hchk : chkTb cc own ini tb = true) (hcalls : CallsOK l own rk tb) (hargs : ∀ as S P, sp as S P → as.length ≤ maxL ∧ ∀ a ∈ as, catV a = 1)
    (vc : ∀ (N : Nat) (xs : Nat → Int32) (_ : N ≤ 260) (G : Gt) (Q : Out → Sto → Prop) (as : List AV) (S : Sto), sp as S Q → Seg tb G Q (rtOf ret) u [] (N + 1, xs) → G 0 (argL as maxL) [] S 0) : CT l y cc maxL ret rk u sp := by
  intro g α h S as P hsp
  obtain ⟨hlen, hcat⟩ := hargs as S P hsp
  refine vx_ofW (cc := cc) (maxL := maxL) (ret := ret) hy rfl ?_
  intro p e s m args below meth c s₁ B hml hout hv
  obtain ⟨rfl, hW, hLv⟩ := hv
  have C := cx_of hl hcls hini B hml hW
  have hf : Fin p l e (headSpec [Cond.code y cc maxL ret] (rmx rk u)).room s m (as.map (conc α)).toArray below meth c (vx_MQ below (QC g α S P) (XC g α S P) (as.map (conc α)).toArray s u (120 * u) (AB g)) g α S maxL 0 0 u cc own P (rtOf ret) [] :=
    ⟨fun r S' u' α' h' H locs pc ls hq hu hR hE hlo hS hra => fin_ret C B.returns hq hu hR hE hlo hS hra,
     fun x S' u' α' h' H locs pc ls rest q ce hq hu hR hE hS _ hce hcv hcl => fin_out C (fun z hz => (hout z hz).elim) hq hu hR hE hS hce hcv hcl,
     fun x t u' H locs pc ls rest q ce hh => (nomatch hh),
     fun x pc i len xl S' u' α' h' H locs ls rest hc hq hu hR hE hS hsz hct => fin_throw C hout hc hq hu hR hE hS hsz hct,
     fun pc i len xl S' u' α' h' H locs ls rest hc h5 h0 hu hR hS hsz hct kk => hNL p e _ s m _ below meth c _ g cc own maxL rk 0 0 u ini pc i len xl S' u' α' h' H locs ls rest C hc h5 h0 hu hR hS hsz hct kk⟩
  obtain ⟨-, -, -, -, -, -, -, x1, N, xs, x2, x3⟩ := hW.2.2.2.1
  have h14 : α 14 0 = scA g := hW.1.2.2.2.2.2
  have hsc : 0 < (N + 1, xs).1 → ScrOK s g α (N + 1, xs) := fun _ => by
    refine ⟨?_, ?_, ?_⟩
    · rw [h14]
      exact x3
    · rw [h14]
      exact Nat.lt_of_lt_of_le x1 hW.2.2.2.2
    · rw [h14]
      exact x1
  exact start_of hW.1 hLv hlen hcat (vc N xs x2 _ P as S hsp (seg_sound C hf hsc hchk hcalls))
end
section
/-! THE LAW's OWN NUMBERS: any, within their bound -/
def fr2 (as : List AV) (f : Int32 → Int32 → Prop) : Prop := match as with
  | [Sum.inr (Sum.inr (k, i)), Sum.inl a, Sum.inl b] => k = 14 ∧ i = 0 ∧ f a b
  | _ => False
theorem fr2_ok {as : List AV} {f : Int32 → Int32 → Prop} (h : fr2 as f) : ∃ a b, as = [aR 14 0, aI a, aI b] ∧ f a b := by
  unfold fr2 at h
  split at h
  · obtain ⟨rfl, rfl, h⟩ := h; exact ⟨_, _, rfl, h⟩
  · exact h.elim
def s_L_from : SP := vS fun as _ k => fr2 as fun a b => ∃ q n : Nat, a = nI q ∧ q < 1000 ∧ b = nI n ∧ 0 < n ∧ n < 2 ^ 31 ∧ ∀ r : Nat, r < n → k (some (aI (nI r)))
def tb_L_from : Tb := [(0, .aload_n 0, 1, x0), (1, .arraylength, 1, x0), (2, .ifCond .ne 14, 3, xN 16), (5, .sipush 557, 3, xI (557)), (8, .iload_n 1, 1, x0), (9, .imul, 1, x0), (10, .bipush 71, 2, xI (71)), (12, .iadd, 1, x0), (13, .goto 14, 3, xN 27), (16, .aload_n 0, 1, x0), (17, .iload_n 1, 1, x0), (18, .aload_n 0, 1, x0), (19, .arraylength, 1, x0), (20, .irem, 1, x0), (21, .iaload, 1, x0), (22, .ldc 7, 2, xC 0 0 611953 [135]), (24, .iload_n 1, 1, x0), (25, .imul, 1, x0), (26, .ixor, 1, x0), (27, .istore_n 3, 1, x0), (28, .iload_n 3, 1, x0), (29, .ldc 8, 2, xC 0 0 2147483647 [136]), (31, .iand, 1, x0), (32, .iload_n 2, 1, x0), (33, .irem, 1, x0), (34, .ireturn, 1, x0)]
theorem chk_L_from : chkTb cL_from "HeavyHaulLaw" false tb_L_from = true := by decide +kernel
theorem cal_L_from {l : Launch} (hl : l.stackTraces = false) (hNL : NewL l) : CallsOK l "HeavyHaulLaw" 0 tb_L_from := callsOK_f trivial
theorem ar_L_from : ∀ as S P, s_L_from as S P → as.length ≤ 4 ∧ ∀ a ∈ as, catV a = 1 := fun as S P h => by
  obtain ⟨_, _, rfl, _⟩ := fr2_ok h
  exact ar_all ⟨Nat.le_of_ble_eq_true rfl, rfl⟩
theorem vc_L_from : ∀ (N : Nat) (xs : Nat → Int32) (_ : N ≤ 260) (G : Gt) (Q : Out → Sto → Prop) (as : List AV) (S : Sto), s_L_from as S Q → Seg tb_L_from G Q 1 0 [] (N + 1, xs) → G 0 (argL as 4) [] S 0 := by
  intro N xs hN G Q as S h hs
  obtain ⟨a, b, rfl, q, n, rfl, hq, rfl, h0, hn, hQ⟩ := fr2_ok h
  have hn0 : ¬ nI n = 0 := nI_ne0 h0 hn
  have fin : ∀ v : Int32, ¬ nI n = 0 ∧ Q (Sum.inl (some (aI ((v &&& 2147483647) - (v &&& 2147483647) / nI n * nI n)))) S := fun v => by
    obtain ⟨m, hm, e⟩ := pk_andE v (m := 2147483647) 31 (by decide)
    rw [e, pk_rem hm h0 hn]
    exact ⟨hn0, hQ _ (Nat.mod_lt m h0)⟩
  refine hs [] 60 0 _ _ _ _ ?_
  refine ⟨fun z => ?_, fun z => fin _⟩
  have hN0 : 0 < N := by
    rcases Nat.eq_zero_or_pos N with e | e
    · subst e
      exact absurd rfl z
    · exact e
  refine ⟨nI_ne0 hN0 (by omega), ?_⟩
  have er : nI q - nI q / nI N * nI N = nI (q % N) := pk_rem (by omega) hN0 (by omega)
  have hv : vp_in (nI q - nI q / nI N * nI N) N := by
    rw [er]
    exact nI_vin (by have := Nat.mod_lt q hN0; omega) (Nat.mod_lt q hN0)
  exact ⟨hv, fin _⟩
theorem ct_L_from {l : Launch} (hl : l.stackTraces = false) (hNL : NewL l) : CT l yL_from cL_from 4 (some .int) 0 0 s_L_from := CT_ofS hl hNL (by decide +kernel) (own := "HeavyHaulLaw") rfl (ini := false) (fun q => nomatch q) chk_L_from (cal_L_from hl hNL) ar_L_from vc_L_from
end
section
/-! WHAT AN AXLE BEARS, by the law -/
theorem lN_div {a b : Nat} (ha : a < 2 ^ 31) (h0 : 0 < b) (hb : b < 2 ^ 31) : lN a / lN b = lN (a / b) := by
  refine Int64.toInt_inj.mp ?_
  have h1 : a / b ≤ a := Nat.div_le_self a b
  rw [Jvm.Kit.i64_div (by rw [lN_toInt ha]; omega), lN_toInt ha, lN_toInt hb, lN_toInt (by omega)]
  rfl
theorem num32 {x o h : Nat} (hx : x ≤ 300000) (ho : o ≤ 99999) (h1 : 1 ≤ h) (h8 : h ≤ 8) : (nI x + nI o / 2 + nI h - 1) / nI h = nI ((x + o / 2 + h - 1) / h) := by
  have e2 : (2 : Int32) = nI 2 := rfl
  have e1 : (1 : Int32) = nI 1 := rfl
  have h3 : o / 2 ≤ o := Nat.div_le_self o 2
  rw [e2, e1, pk_div (by omega) (by omega) (by omega), nI_add, nI_add, nI_sub (by omega), pk_div (by omega) (by omega) (by omega)]
def brH (S : Sto) (j : Nat) (rear : Int32) : Int32 := if rear = 0 then S.1 4 6 j else S.1 4 7 j
theorem Q_eq {Q : Out → Sto → Prop} {S : Sto} {x y : Int32} (h : x = y) (hq : Q (Sum.inl (some (aI y))) S) : Q (Sum.inl (some (aI x))) S := by
  rw [h]
  exact hq
/-- the rows of rigs, a rig, a truth -/
def gj (as : List AV) (f : Int32 → Int32 → Prop) : Prop := match as with
  | [Sum.inr (Sum.inr (k, i)), Sum.inl a, Sum.inl b] => k = 10 ∧ i = 5 ∧ f a b
  | _ => False
theorem gj_ok {as : List AV} {f : Int32 → Int32 → Prop} (h : gj as f) : ∃ a b, as = [aR 10 5, aI a, aI b] ∧ f a b := by
  unfold gj at h
  split at h
  · obtain ⟨rfl, rfl, h⟩ := h; exact ⟨_, _, rfl, h⟩
  · exact h.elim
theorem ceil_0 {b a : Nat} (ha : 0 < a) (h : b % a = 0) : (b + a - 1) / a = b / a := by
  have h1 := Nat.div_add_mod b a
  rw [h, Nat.add_zero] at h1
  have h2 : b + a - 1 = a * (b / a) + (a - 1) := by omega
  have h3 : (a - 1) / a = 0 := Nat.div_eq_of_lt (by omega)
  rw [h2, Nat.mul_add_div ha, h3, Nat.add_zero]
theorem ceil_1 {b a : Nat} (ha : 0 < a) (h : ¬ b % a = 0) : (b + a - 1) / a = b / a + 1 := by
  have h1 := Nat.div_add_mod b a
  have h3 := Nat.mod_lt b ha
  have h2 : b + a - 1 = a * (b / a + 1) + (b % a - 1) := by rw [Nat.mul_add]; omega
  have h4 : (b % a - 1) / a = 0 := Nat.div_eq_of_lt (by omega)
  rw [h2, Nat.mul_add_div ha, h4, Nat.add_zero]
def s_L_axle : SP := vS fun as S k => gj as fun r re => ∃ (T j : Nat), LawI T S ∧ r = nI j ∧ j < 2 ∧ k (some (aI (brH S j re)))
def tb_L_axle : Tb := [(0, .bipush 14, 2, xI (14)), (2, .iload_n 1, 1, x0), (3, .imul, 1, x0), (4, .istore_n 3, 1, x0), (5, .aload_n 0, 1, x0), (6, .iload_n 3, 1, x0), (7, .iconst 1, 1, xI (1)), (8, .iadd, 1, x0), (9, .iaload, 1, x0), (10, .iconst 2, 1, xI (2)), (11, .idiv, 1, x0), (12, .istore 4, 2, x0), (14, .iconst 2, 1, xI (2)), (15, .aload_n 0, 1, x0), (16, .iload_n 3, 1, x0), (17, .bipush 8, 2, xI (8)), (19, .iadd, 1, x0), (20, .iaload, 1, x0), (21, .imul, 1, x0), (22, .iload 4, 2, x0), (24, .iconst 1, 1, xI (1)), (25, .isub, 1, x0), (26, .aload_n 0, 1, x0), (27, .iload_n 3, 1, x0), (28, .iconst 2, 1, xI (2)), (29, .iadd, 1, x0), (30, .iaload, 1, x0), (31, .imul, 1, x0), (32, .isub, 1, x0), (33, .istore 5, 2, x0), (35, .aload_n 0, 1, x0), (36, .iload_n 3, 1, x0), (37, .bipush 7, 2, xI (7)), (39, .iadd, 1, x0), (40, .iaload, 1, x0), (41, .i2l, 1, x0), (42, .iload 5, 2, x0), (44, .i2l, 1, x0), (45, .lmul, 1, x0), (46, .iconst 2, 1, xI (2)), (47, .iload 4, 2, x0), (49, .imul, 1, x0), (50, .aload_n 0, 1, x0), (51, .iload_n 3, 1, x0), (52, .iconst 2, 1, xI (2)), (53, .iadd, 1, x0), (54, .iaload, 1, x0), (55, .imul, 1, x0), (56, .i2l, 1, x0), (57, .ldiv, 1, x0), (58, .lstore 6, 2, x0), (60, .iload_n 2, 1, x0), (61, .ifCond .eq 8, 3, xN 69), (64, .lload 6, 2, x0), (66, .goto 13, 3, xN 79), (69, .aload_n 0, 1, x0), (70, .iload_n 3, 1, x0), (71, .bipush 7, 2, xI (7)), (73, .iadd, 1, x0), (74, .iaload, 1, x0), (75, .i2l, 1, x0), (76, .lload 6, 2, x0), (78, .lsub, 1, x0), (79, .aload_n 0, 1, x0), (80, .iload_n 3, 1, x0), (81, .bipush 6, 2, xI (6)), (83, .iadd, 1, x0), (84, .iaload, 1, x0), (85, .iconst 2, 1, xI (2)), (86, .idiv, 1, x0), (87, .i2l, 1, x0), (88, .ladd, 1, x0), (89, .lstore 8, 2, x0), (91, .lload 8, 2, x0), (93, .iload 4, 2, x0), (95, .i2l, 1, x0), (96, .ldiv, 1, x0), (97, .l2i, 1, x0), (98, .lload 8, 2, x0), (100, .iload 4, 2, x0), (102, .i2l, 1, x0), (103, .lrem, 1, x0), (104, .lconst 0, 1, x0), (105, .lcmp, 1, x0), (106, .ifCond .le 7, 3, xN 113), (109, .iconst 1, 1, xI (1)), (110, .goto 4, 3, xN 114), (113, .iconst 0, 1, xI (0)), (114, .iadd, 1, x0), (115, .ireturn, 1, x0)]
theorem chk_L_axle : chkTb cL_axle "HeavyHaulLaw" false tb_L_axle = true := by decide +kernel
theorem cal_L_axle {l : Launch} (hl : l.stackTraces = false) (hNL : NewL l) : CallsOK l "HeavyHaulLaw" 0 tb_L_axle := callsOK_f trivial
theorem ar_L_axle : ∀ as S P, s_L_axle as S P → as.length ≤ 10 ∧ ∀ a ∈ as, catV a = 1 := fun as S P h => by
  obtain ⟨_, _, rfl, _⟩ := gj_ok h
  exact ar_all ⟨Nat.le_of_ble_eq_true rfl, rfl⟩
set_option maxRecDepth 8000 in
theorem vc_L_axle : ∀ (G : Gt) (Q : Out → Sto → Prop) (as : List AV) (S : Sto), s_L_axle as S Q → Seg tb_L_axle G Q 1 0 [] (0, fun _ => 0) → G 0 (argL as 10) [] S 0 := by
  intro G Q as S h hs
  obtain ⟨r, re, rfl, T, j, hI, rfl, hj, hQ⟩ := gj_ok h
  have vg1 : vp_in ((14 : Int32) * nI j + 1) 28 := vG hI hj 1 (by decide)
  have g1 : S.1 10 5 ((14 : Int32) * nI j + 1).toNatClampNeg = S.1 4 0 j := aG hI hj 1 (by decide)
  have vg2 : vp_in ((14 : Int32) * nI j + 2) 28 := vG hI hj 2 (by decide)
  have g2 : S.1 10 5 ((14 : Int32) * nI j + 2).toNatClampNeg = S.1 4 1 j := aG hI hj 2 (by decide)
  have vg6 : vp_in ((14 : Int32) * nI j + 6) 28 := vG hI hj 6 (by decide)
  have g6 : S.1 10 5 ((14 : Int32) * nI j + 6).toNatClampNeg = S.1 4 5 j := aG hI hj 6 (by decide)
  have vg7 : vp_in ((14 : Int32) * nI j + 7) 28 := vG hI hj 7 (by decide)
  have g7 : S.1 10 5 ((14 : Int32) * nI j + 7).toNatClampNeg = S.1 10 5 (14 * j + 7) := aG hI hj 7 (by decide)
  have vg8 : vp_in ((14 : Int32) * nI j + 8) 28 := vG hI hj 8 (by decide)
  have g8 : S.1 10 5 ((14 : Int32) * nI j + 8).toNatClampNeg = S.1 10 5 (14 * j + 8) := aG hI hj 8 (by decide)
  obtain ⟨-, hL, -⟩ := hI.ri j hj
  obtain ⟨⟨l, c, o, eL, eC, eo, l2, c8, o9⟩, hcan, e6, e7⟩ := hL
  obtain ⟨a, d, p, ea, ed, -, a1, a8, d1, d5, -⟩ := hI.wf.2.2.2.2.2.2.2 j (by rw [hI.n.2.1]; exact hj)
  obtain ⟨ha1, ha2, ha3⟩ := half_ok a a8 a1
  have hb3 : 2 * a * d ≤ 80 := by have := Nat.mul_le_mul (Nat.mul_le_mul (Nat.le_refl 2) a8) d5; omega
  have hb4 : 0 < 2 * a * d := Nat.mul_pos (by omega) (by omega)
  have hbas : basF S j = nI (2 * a * d) := by unfold basF; rw [ea, ed, nI_mul]
  have e2 : (2 : Int32) = nI 2 := rfl
  have ebas : (2 : Int32) * (S.1 4 0 j / 2) * S.1 4 1 j = nI (2 * a * d) := by rw [ea, ha1, ed, e2, nI_mul, nI_mul]
  have z64 : ¬ ((2 : Int32) * (S.1 4 0 j / 2) * S.1 4 1 j).toInt64 = 0 := by
    rw [ebas, nI_l (by omega)]
    intro z
    have := (lN_eq (by omega) (by omega)).mp (show lN (2 * a * d) = lN 0 from z)
    omega
  have h64 : ¬ (S.1 4 0 j / 2).toInt64 = 0 := by
    rw [ea, ha1, nI_l (by omega)]
    intro z
    have := (lN_eq (by omega) (by omega)).mp (show lN a = lN 0 from z)
    omega
  -- what lies on the rear half
  have back : ∃ q : Nat, q ≤ l ∧ (S.1 10 5 (14 * j + 7)).toInt64 * ((2 : Int32) * S.1 10 5 (14 * j + 8) - (S.1 4 0 j / 2 - 1) * S.1 4 1 j).toInt64 / ((2 : Int32) * (S.1 4 0 j / 2) * S.1 4 1 j).toInt64 = lN q ∧ reaF S j (S.1 10 5 (14 * j + 7)) (S.1 10 5 (14 * j + 8)) = nI q := by
    rcases hcan with h0 | ⟨v0, v1⟩
    · have hl : l = 0 := (nI_eq (by omega) (by omega)).mp (eL.symm.trans h0)
      subst hl
      refine ⟨0, Nat.le_refl 0, ?_, ?_⟩
      · have z : ∀ x : Int64, lN 0 * x = lN 0 := fun x => Int64.zero_mul
        rw [eL, ebas, nI_l (by omega), nI_l (by omega), z, lN_div (by omega) hb4 (by omega), Nat.zero_div]
      · unfold reaF
        rw [h0, Int32.zero_mul, Int32.zero_div]
        rfl
    · have e : (2 : Int32) * S.1 10 5 (14 * j + 8) - (S.1 4 0 j / 2 - 1) * S.1 4 1 j = levF S j (S.1 10 5 (14 * j + 8)) := rfl
      obtain ⟨v, hv2, ev⟩ := nI_of v0
      rw [ev, hbas] at v1
      have hvb : v ≤ 2 * a * d := (nI_le2 hv2 (by omega)).mp v1
      have hlv : l * v ≤ 200000 * 80 := Nat.mul_le_mul l2 (by omega)
      refine ⟨l * v / (2 * a * d), Nat.div_le_of_le_mul (by rw [Nat.mul_comm]; exact Nat.mul_le_mul hvb (Nat.le_refl l)), ?_, ?_⟩
      · rw [e, ev, ebas, eL, nI_l (by omega), nI_l (by omega), nI_l (by omega), lN_mul, lN_div (by omega) hb4 (by omega)]
      · unfold reaF
        rw [hbas, ev, eL, nI_mul, pk_div (by omega) hb4 (by omega)]
  obtain ⟨q, hq, e64, e32⟩ := back
  have eo2 : nI o / 2 = nI (o / 2) := pk_div (d := 2) (by omega) (by omega) (by omega)
  have oo : o / 2 ≤ o := Nat.div_le_self o 2
  -- the share of x
  have sh : ∀ (x : Nat) (w : Int64), x ≤ 200000 → w = lN x → ∀ y : Int32, y = shrF S j (nI x) → Q (Sum.inl (some (aI y))) S →
      (¬ (S.1 4 0 j / 2).toInt64 = 0 ∧ ¬ (S.1 4 0 j / 2).toInt64 = 0 ∧ (lg_cmp ((w + (S.1 4 5 j / 2).toInt64) - (w + (S.1 4 5 j / 2).toInt64) / (S.1 4 0 j / 2).toInt64 * (S.1 4 0 j / 2).toInt64) 0 ≤ 0 → Q (Sum.inl (some (aI (((w + (S.1 4 5 j / 2).toInt64) / (S.1 4 0 j / 2).toInt64).toInt32 + 0)))) S) ∧
       (¬ lg_cmp ((w + (S.1 4 5 j / 2).toInt64) - (w + (S.1 4 5 j / 2).toInt64) / (S.1 4 0 j / 2).toInt64 * (S.1 4 0 j / 2).toInt64) 0 ≤ 0 → Q (Sum.inl (some (aI (((w + (S.1 4 5 j / 2).toInt64) / (S.1 4 0 j / 2).toInt64).toInt32 + 1)))) S)) := fun x w hx hw y hy hqy => by
    refine ⟨h64, h64, ?_⟩
    subst hw
    have ew : lN x + (S.1 4 5 j / 2).toInt64 = lN (x + o / 2) := by rw [eo, eo2, nI_l (by omega), lN_add]
    have eh : (S.1 4 0 j / 2).toInt64 = lN a := by rw [ea, ha1, nI_l (by omega)]
    have hdm := Nat.div_add_mod (x + o / 2) a
    have hml := Nat.mod_lt (x + o / 2) a1
    have hdl := Nat.div_le_self (x + o / 2) a
    have er : lN (x + o / 2) - lN (x + o / 2) / lN a * lN a = lN ((x + o / 2) % a) := by
      rw [lN_div (by omega) a1 (by omega), lN_mul, Nat.mul_comm, lN_sub (by omega)]
      congr 1
      omega
    have ey : y = nI ((x + o / 2 + a - 1) / a) := by
      rw [hy]
      unfold shrF
      rw [eo, ea, ha1]
      exact num32 (by omega) o9 a1 a8
    have ez : (0 : Int64) = lN 0 := rfl
    rw [ew, eh, er, lN_div (by omega) a1 (by omega), lN_i, lg_cmp_le, ez, lN_le (by omega) (by omega)]
    refine ⟨fun z => Q_eq ?_ hqy, fun z => Q_eq ?_ hqy⟩
    · rw [ey, ceil_0 a1 (by omega), Int32.add_zero]
    · rw [ey, ceil_1 a1 (by omega), nI_s]
  unfold brH at hQ
  refine hs [] 120 0 _ _ _ _ ?_
  refine ⟨vg1, n2z, vg8, vg2, vg7, vg2, ?_⟩
  rw [g1, g2, g7, g8]
  refine ⟨z64, fun re0 => ⟨vg7, vg6, n2z, ?_⟩, fun re0 => ⟨vg6, n2z, ?_⟩⟩
  · rw [if_pos re0, e6] at hQ
    rw [g6, g7, e64]
    refine sh (l - q) _ (by omega) ?_ _ ?_ hQ
    · rw [eL, nI_l (by omega), lN_sub hq]
    · rw [e32, eL, nI_sub hq]
  · rw [if_neg re0, e7] at hQ
    rw [g6, e64]
    refine sh q _ (by omega) rfl _ ?_ hQ
    rw [e32]
theorem ct_L_axle {l : Launch} (hl : l.stackTraces = false) (hNL : NewL l) : CT l yL_axle cL_axle 10 (some .int) 0 0 s_L_axle := CT_of hl hNL (by decide +kernel) (own := "HeavyHaulLaw") rfl (ini := false) (fun q => nomatch q) chk_L_axle (cal_L_axle hl hNL) ar_L_axle vc_L_axle
end
section
/-! BACKWARD IS FORWARD, mirrored: sums and maxima -/
def sg (f : Nat → Int32) : Nat → Int32
  | 0 => 0
  | n + 1 => sg f n + f n
theorem sg_c {f g : Nat → Int32} {n : Nat} (h : ∀ i, i < n → f i = g i) : sg f n = sg g n := by
  induction n with
  | zero => rfl
  | succ n ih =>
    show sg f n + f n = sg g n + g n
    rw [ih (fun i hi => h i (by omega)), h n (by omega)]
theorem sg_front (f : Nat → Int32) (n : Nat) : sg f (n + 1) = f 0 + sg (fun k => f (k + 1)) n := by
  induction n with
  | zero =>
    show (0 : Int32) + f 0 = f 0 + 0
    rw [Int32.zero_add, Int32.add_zero]
  | succ n ih =>
    show sg f (n + 1) + f (n + 1) = f 0 + (sg (fun k => f (k + 1)) n + f (n + 1))
    rw [ih, Int32.add_assoc]
theorem sg_rev (f : Nat → Int32) (n : Nat) : sg (fun k => f (n - 1 - k)) n = sg f n := by
  induction n generalizing f with
  | zero => rfl
  | succ n ih =>
    rw [sg_front]
    show f (n + 1 - 1 - 0) + sg (fun k => f (n + 1 - 1 - (k + 1))) n = sg f n + f n
    have e : sg (fun k => f (n + 1 - 1 - (k + 1))) n = sg (fun k => f (n - 1 - k)) n := sg_c fun i hi => by
      show f _ = f _
      congr 1
      omega
    rw [e, ih, Int32.add_comm]
    rfl
theorem topF_le (f : Nat → Int32) (n i : Nat) (hi : i < n) : f i ≤ topF f n := by
  induction n with
  | zero => omega
  | succ n ih =>
    show f i ≤ if topF f n < f n then f n else topF f n
    by_cases h : topF f n < f n
    · rw [if_pos h]
      by_cases e : i = n
      · rw [e]; exact Int32.le_refl _
      · exact Int32.le_of_lt (Int32.lt_of_le_of_lt (ih (by omega)) h)
    · rw [if_neg h]
      by_cases e : i = n
      · rw [e]; exact Int32.not_lt.mp h
      · exact ih (by omega)
theorem topF_is (f : Nat → Int32) (n : Nat) : 0 ≤ topF f n ∧ (topF f n = 0 ∨ ∃ i, i < n ∧ topF f n = f i) := by
  induction n with
  | zero => exact ⟨Int32.le_refl _, Or.inl rfl⟩
  | succ n ih =>
    have e : topF f (n + 1) = if topF f n < f n then f n else topF f n := rfl
    rw [e]
    by_cases h : topF f n < f n
    · rw [if_pos h]
      exact ⟨Int32.le_of_lt (Int32.lt_of_le_of_lt ih.1 h), Or.inr ⟨n, by omega, rfl⟩⟩
    · rw [if_neg h]
      refine ⟨ih.1, ih.2.imp id fun ⟨i, hi, he⟩ => ⟨i, by omega, he⟩⟩
theorem topF_sub {f g : Nat → Int32} {n : Nat} (h : ∀ i, i < n → ∃ j, j < n ∧ f i = g j) : topF f n ≤ topF g n := by
  rcases (topF_is f n).2 with e | ⟨i, hi, e⟩
  · rw [e]; exact (topF_is g n).1
  · obtain ⟨j, hj, e2⟩ := h i hi
    rw [e, e2]
    exact topF_le g n j hj
theorem topF_mir {f g : Nat → Int32} {L : Nat} (h : ∀ i, i ≤ L → f i = g (L - i)) : topF f (L + 1) = topF g (L + 1) := by
  refine Int32.le_antisymm (topF_sub fun i hi => ⟨L - i, by omega, h i (by omega)⟩) (topF_sub fun i hi => ⟨L - i, by omega, ?_⟩)
  rw [h (L - i) (by omega)]
  congr 1
  omega
end
section
/-! BACKWARD IS FORWARD: one step -/
theorem sub_int {x y : Int32} {a b : Int} (hx : x.toInt = a) (hy : y.toInt = b) (h1 : -1000 ≤ a - b) (h2 : a - b ≤ 1000) : (x - y).toInt = a - b := by
  rw [Int32.toInt_sub, hx, hy]
  exact Int.bmod_eq_of_le (by omega) (by omega)
theorem pos_int {n k d : Nat} (hn : n ≤ 300) (h : k * d ≤ 300) : (posF (nI n) (nI d) k).toInt = (n : Int) - ((k * d : Nat) : Int) := by
  unfold posF
  rw [nI_mul]
  exact sub_int (nI_toInt (by omega)) (nI_toInt (by omega)) (by omega) (by omega)
theorem val_sym {w p p' sp isM : Int32} {s q : Int} (hs : sp.toInt = s) (hp : p.toInt = q) (hp' : p'.toInt = s - q) (h0 : 0 ≤ q) (h1 : q ≤ s) (h2 : s ≤ 100) : valF w p sp isM = valF w p' sp isM := by
  have e1 : (sp - p).toInt = s - q := sub_int hs hp (by omega) (by omega)
  have e2 : (sp - p').toInt = s - (s - q) := sub_int hs hp' (by omega) (by omega)
  have f1 : sp - p = p' := Int32.toInt_inj.mp (by rw [e1, hp'])
  have f2 : sp - p' = p := Int32.toInt_inj.mp (by rw [e2, hp]; omega)
  have e : (if sp - p < p then sp - p else p) = (if sp - p' < p' then sp - p' else p') := by
    rw [f1, f2]
    by_cases h : p' < p
    · rw [if_pos h]
      by_cases h' : p < p'
      · exact absurd h' (Int32.not_lt.mpr (Int32.le_of_lt h))
      · rw [if_neg h']
    · rw [if_neg h]
      by_cases h' : p < p'
      · rw [if_pos h']
      · rw [if_neg h']
        exact Int32.le_antisymm (Int32.not_lt.mp h) (Int32.not_lt.mp h')
  unfold valF
  rw [e]
def tm (fr re ax ap sp st isM isB : Int32) (k : Nat) : Int32 := if posF st ap k < 0 ∨ sp < posF st ap k then 0 else valF (wtF fr re ax (if isB = 0 then nI k else ax - 1 - nI k)) (posF st ap k) sp isM
theorem sumF_sg {fr re ax ap sp st isM isB : Int32} (n : Nat) : sumF fr re ax ap sp st isM isB n = sg (tm fr re ax ap sp st isM isB) n := by
  induction n with
  | zero => rfl
  | succ n ih =>
    show (if _ then sumF fr re ax ap sp st isM isB n else sumF fr re ax ap sp st isM isB n + _) = sg (tm fr re ax ap sp st isM isB) n + tm fr re ax ap sp st isM isB n
    rw [← ih]
    unfold tm
    by_cases h : posF st ap n < 0 ∨ sp < posF st ap n
    · rw [if_pos h, if_pos h, Int32.add_zero]
    · rw [if_neg h, if_neg h]
theorem tm_mir {fr re isM : Int32} {a d s n k : Nat} (a8 : a ≤ 8) (d5 : d ≤ 5) (s4 : s ≤ 40) (hn : n ≤ s + (2 * a - 1) * d) (hk : k < 2 * a) : tm fr re (nI (2 * a)) (nI d) (nI s) (nI n) isM 1 k = tm fr re (nI (2 * a)) (nI d) (nI s) (nI (s + (2 * a - 1) * d - n)) isM 0 (2 * a - 1 - k) := by
  have hb : (2 * a - 1) * d ≤ 15 * 5 := Nat.mul_le_mul (by omega) d5
  have hs : (2 * a - 1 - k) * d + k * d = (2 * a - 1) * d := by
    rw [← Nat.add_mul]
    congr 1
    omega
  have p1 := pos_int (n := n) (k := k) (d := d) (by omega) (by omega)
  have p2 := pos_int (n := s + (2 * a - 1) * d - n) (k := 2 * a - 1 - k) (d := d) (by omega) (by omega)
  have hsp : (nI s).toInt = (s : Int) := nI_toInt (by omega)
  have e1 : (1 : Int32) = nI 1 := rfl
  have hidx : nI (2 * a) - 1 - nI k = nI (2 * a - 1 - k) := by rw [e1, nI_sub (by omega), nI_sub (by omega)]
  have p3 : (posF (nI (s + (2 * a - 1) * d - n)) (nI d) (2 * a - 1 - k)).toInt = (s : Int) - ((n : Int) - ((k * d : Nat) : Int)) := by
    rw [p2]
    omega
  unfold tm
  rw [if_neg (show ¬ (1 : Int32) = 0 by decide), if_pos (show (0 : Int32) = 0 from rfl), hidx]
  have z0 : (0 : Int32).toInt = 0 := rfl
  have hiff : (posF (nI n) (nI d) k < 0 ∨ nI s < posF (nI n) (nI d) k) ↔ (posF (nI (s + (2 * a - 1) * d - n)) (nI d) (2 * a - 1 - k) < 0 ∨ nI s < posF (nI (s + (2 * a - 1) * d - n)) (nI d) (2 * a - 1 - k)) := by
    rw [Int32.lt_iff_toInt_lt, Int32.lt_iff_toInt_lt, Int32.lt_iff_toInt_lt, Int32.lt_iff_toInt_lt, p1, p3, hsp, z0]
    omega
  by_cases h : posF (nI n) (nI d) k < 0 ∨ nI s < posF (nI n) (nI d) k
  · rw [if_pos h, if_pos (hiff.mp h)]
  · rw [if_neg h, if_neg fun z => h (hiff.mpr z)]
    have h' := h
    rw [Int32.lt_iff_toInt_lt, Int32.lt_iff_toInt_lt, p1, hsp, z0] at h'
    exact val_sym hsp p1 p3 (by omega) (by omega) (by omega)
theorem greatH_mir {S : Sto} (hW : WfH S) {i j : Nat} (hi : i < S.2.2 20) (hj : j < S.2.2 22) (isM : Int32) : greatH S i j isM 1 = greatH S i j isM 0 := by
  obtain ⟨p, q, au, t, s, -, -, -, -, h1, -, -, -, -, -, -, h2⟩ := hW.2.2.2.2.2.2.1 i hi
  obtain ⟨a, d, r, k1, k2, -, k3, k4, k5, k6, -⟩ := hW.2.2.2.2.2.2.2 j hj
  have hb : (2 * a - 1) * d ≤ 15 * 5 := Nat.mul_le_mul (by omega) k6
  have eL : lastN S i j = s + (2 * a - 1) * d := by
    have e1 : (1 : Int32) = nI 1 := rfl
    unfold lastN
    rw [h1, k1, k2, e1, nI_sub (by omega), nI_mul, nI_add]
    exact nI_cl (by omega)
  unfold greatH
  by_cases h : S.1 2 7 i ≤ 0
  · rw [if_pos h, if_pos h]
  · rw [if_neg h, if_neg h, eL]
    refine topF_mir fun n hn => ?_
    unfold sumH
    have hA : (nI (2 * a)).toNatClampNeg = 2 * a := nI_cl (by omega)
    rw [h1, k1, k2, hA, sumF_sg, sumF_sg, ← sg_rev (tm _ _ _ _ _ (nI (s + (2 * a - 1) * d - n)) _ _)]
    exact sg_c fun k hk => tm_mir k4 k6 h2 hn hk
end
section
/-! THE GREATEST ON A BRIDGE, by the law: from the last step to the first -/
def ag (as : List AV) (f : Int32 → Int32 → Int32 → Prop) : Prop := match as with
  | [Sum.inr (Sum.inr (k, i)), Sum.inr (Sum.inr (k2, i2)), Sum.inl a, Sum.inl b, Sum.inl c] => k = 10 ∧ i = 3 ∧ k2 = 10 ∧ i2 = 5 ∧ f a b c
  | _ => False
theorem ag_ok {as : List AV} {f : Int32 → Int32 → Int32 → Prop} (h : ag as f) : ∃ a b c, as = [aR 10 3, aR 10 5, aI a, aI b, aI c] ∧ f a b c := by
  unfold ag at h
  split at h
  · obtain ⟨rfl, rfl, rfl, rfl, h⟩ := h; exact ⟨_, _, _, rfl, h⟩
  · exact h.elim
def ag2 (as : List AV) (f : Int32 → Int32 → Prop) : Prop := match as with
  | [Sum.inr (Sum.inr (k, i)), Sum.inr (Sum.inr (k2, i2)), Sum.inl a, Sum.inl b] => k = 10 ∧ i = 3 ∧ k2 = 10 ∧ i2 = 5 ∧ f a b
  | _ => False
theorem ag2_ok {as : List AV} {f : Int32 → Int32 → Prop} (h : ag2 as f) : ∃ a b, as = [aR 10 3, aR 10 5, aI a, aI b] ∧ f a b := by
  unfold ag2 at h
  split at h
  · obtain ⟨rfl, rfl, rfl, rfl, h⟩ := h; exact ⟨_, _, rfl, h⟩
  · exact h.elim
def ag1 (as : List AV) (f : Int32 → Prop) : Prop := match as with
  | [Sum.inr (Sum.inr (k, i)), Sum.inr (Sum.inr (k2, i2)), Sum.inl a] => k = 10 ∧ i = 3 ∧ k2 = 10 ∧ i2 = 5 ∧ f a
  | _ => False
theorem ag1_ok {as : List AV} {f : Int32 → Prop} (h : ag1 as f) : ∃ a, as = [aR 10 3, aR 10 5, aI a] ∧ f a := by
  unfold ag1 at h
  split at h
  · obtain ⟨rfl, rfl, rfl, rfl, h⟩ := h; exact ⟨_, rfl, h⟩
  · exact h.elim
/-- the greatest of the last n of L + 1 -/
def topR (f : Nat → Int32) (L : Nat) : Nat → Int32
  | 0 => 0
  | n + 1 => if f (L - n) < topR f L n then topR f L n else f (L - n)
theorem topR_le (f : Nat → Int32) (L n i : Nat) (hi : L < n + i) (hL : i ≤ L) : f i ≤ topR f L n := by
  induction n with
  | zero => omega
  | succ n ih =>
    show f i ≤ if f (L - n) < topR f L n then topR f L n else f (L - n)
    by_cases e : i = L - n
    · rw [e]
      by_cases h : f (L - n) < topR f L n
      · rw [if_pos h]; exact Int32.le_of_lt h
      · rw [if_neg h]; exact Int32.le_refl _
    · have := ih (by omega)
      by_cases h : f (L - n) < topR f L n
      · rw [if_pos h]; exact this
      · rw [if_neg h]; exact Int32.le_trans this (Int32.not_lt.mp h)
theorem topR_is (f : Nat → Int32) (L n : Nat) (hn : n ≤ L + 1) : 0 ≤ topR f L n ∧ (topR f L n = 0 ∨ ∃ i, i ≤ L ∧ topR f L n = f i) := by
  induction n with
  | zero => exact ⟨Int32.le_refl _, Or.inl rfl⟩
  | succ n ih =>
    have e : topR f L (n + 1) = if f (L - n) < topR f L n then topR f L n else f (L - n) := rfl
    rw [e]
    by_cases h : f (L - n) < topR f L n
    · rw [if_pos h]
      exact ih (by omega)
    · rw [if_neg h]
      exact ⟨Int32.le_trans (ih (by omega)).1 (Int32.not_lt.mp h), Or.inr ⟨L - n, by omega, rfl⟩⟩
theorem topR_eq (f : Nat → Int32) (L : Nat) : topR f L (L + 1) = topF f (L + 1) := by
  refine Int32.le_antisymm ?_ ?_
  · rcases (topR_is f L (L + 1) (Nat.le_refl _)).2 with e | ⟨i, hi, e⟩
    · rw [e]; exact (topF_is f (L + 1)).1
    · rw [e]; exact topF_le f (L + 1) i (by omega)
  · rcases (topF_is f (L + 1)).2 with e | ⟨i, hi, e⟩
    · rw [e]; exact (topR_is f L (L + 1) (Nat.le_refl _)).1
    · rw [e]; exact topR_le f L (L + 1) i (by omega) (by omega)
theorem half_lt {q s : Nat} (hq : q ≤ s) (hs : s ≤ 100) : ((2 : Int32) * nI q < nI s ↔ 2 * q < s) ∧ (if nI s - nI q < nI q then nI s - nI q else nI q) = (if 2 * q < s then nI q else nI s - nI q) := by
  have e2 : (2 : Int32) = nI 2 := rfl
  refine ⟨by rw [e2, nI_mul]; exact nI_lt2 (by omega) (by omega), ?_⟩
  rw [nI_sub hq]
  by_cases h : s - q < q
  · rw [if_pos ((nI_lt2 (by omega) (by omega)).mpr h), if_neg (by omega)]
  · rw [if_neg fun z => h ((nI_lt2 (by omega) (by omega)).mp z)]
    by_cases h2 : 2 * q < s
    · rw [if_pos h2]
    · rw [if_neg h2]
      have : q = s - q := by omega
      rw [← this]
def s_L_greatest : SP := vS fun as S k => ag as fun d r isM => ∃ (T i j : Nat), LawI T S ∧ d = nI i ∧ i < 6 ∧ r = nI j ∧ j < 2 ∧ ¬ S.1 2 7 i ≤ 0 ∧ k (some (aI (greatH S i j isM 0)))
def tb_L_greatest : Tb := [(0, .aload_n 0, 1, x0), (1, .bipush 10, 2, xI (10)), (3, .iload_n 2, 1, x0), (4, .imul, 1, x0), (5, .bipush 7, 2, xI (7)), (7, .iadd, 1, x0), (8, .iaload, 1, x0), (9, .istore 5, 2, x0), (11, .aload_n 1, 1, x0), (12, .bipush 14, 2, xI (14)), (14, .iload_n 3, 1, x0), (15, .imul, 1, x0), (16, .iconst 1, 1, xI (1)), (17, .iadd, 1, x0), (18, .iaload, 1, x0), (19, .istore 6, 2, x0), (21, .aload_n 1, 1, x0), (22, .bipush 14, 2, xI (14)), (24, .iload_n 3, 1, x0), (25, .imul, 1, x0), (26, .iconst 2, 1, xI (2)), (27, .iadd, 1, x0), (28, .iaload, 1, x0), (29, .istore 7, 2, x0), (31, .iconst 0, 1, xI (0)), (32, .istore 8, 2, x0), (34, .iload 5, 2, x0), (36, .istore 9, 2, x0), (38, .iload 9, 2, x0), (40, .iload 6, 2, x0), (42, .iconst 1, 1, xI (1)), (43, .isub, 1, x0), (44, .ineg, 1, x0), (45, .iload 7, 2, x0), (47, .imul, 1, x0), (48, .if_icmp .lt 132, 3, xN 180), (51, .iconst 0, 1, xI (0)), (52, .istore 10, 2, x0), (54, .iconst 0, 1, xI (0)), (55, .istore 11, 2, x0), (57, .iload 11, 2, x0), (59, .iload 6, 2, x0), (61, .if_icmp .ge 97, 3, xN 158), (64, .iload 9, 2, x0), (66, .iload 6, 2, x0), (68, .iconst 1, 1, xI (1)), (69, .isub, 1, x0), (70, .iload 11, 2, x0), (72, .isub, 1, x0), (73, .iload 7, 2, x0), (75, .imul, 1, x0), (76, .iadd, 1, x0), (77, .istore 12, 2, x0), (79, .aload_n 1, 1, x0), (80, .iload_n 3, 1, x0), (81, .iconst 2, 1, xI (2)), (82, .iload 11, 2, x0), (84, .imul, 1, x0), (85, .iload 6, 2, x0), (87, .if_icmp .lt 7, 3, xN 94), (90, .iconst 1, 1, xI (1)), (91, .goto 4, 3, xN 95), (94, .iconst 0, 1, xI (0)), (95, .invokestatic 9, 3, xS 3 0 s_L_axle), (98, .istore 13, 2, x0), (100, .iload 12, 2, x0), (102, .ifCond .lt 50, 3, xN 152), (105, .iload 12, 2, x0), (107, .iload 5, 2, x0), (109, .if_icmp .gt 43, 3, xN 152), (112, .iload 10, 2, x0), (114, .iload 4, 2, x0), (116, .ifCond .ne 8, 3, xN 124), (119, .iload 13, 2, x0), (121, .goto 28, 3, xN 149), (124, .iconst 2, 1, xI (2)), (125, .iload 12, 2, x0), (127, .imul, 1, x0), (128, .iload 5, 2, x0), (130, .if_icmp .ge 11, 3, xN 141), (133, .iload 13, 2, x0), (135, .iload 12, 2, x0), (137, .imul, 1, x0), (138, .goto 11, 3, xN 149), (141, .iload 13, 2, x0), (143, .iload 5, 2, x0), (145, .iload 12, 2, x0), (147, .isub, 1, x0), (148, .imul, 1, x0), (149, .iadd, 1, x0), (150, .istore 10, 2, x0), (152, .iinc 11 1, 3, xI (1)), (155, .goto (-98), 3, xN 57), (158, .iload 8, 2, x0), (160, .iload 10, 2, x0), (162, .if_icmp .le 8, 3, xN 170), (165, .iload 8, 2, x0), (167, .goto 5, 3, xN 172), (170, .iload 10, 2, x0), (172, .istore 8, 2, x0), (174, .iinc 9 (-1), 3, xI (-1)), (177, .goto (-139), 3, xN 38), (180, .iload 8, 2, x0), (182, .ireturn, 1, x0)]
theorem chk_L_greatest : chkTb cL_greatest "HeavyHaulLaw" false tb_L_greatest = true := by decide +kernel
theorem cal_L_greatest {l : Launch} (hl : l.stackTraces = false) (hNL : NewL l) : CallsOK l "HeavyHaulLaw" 1 tb_L_greatest := callsOK_f ⟨⟨_, _, 10, 0, _, (ct_L_axle hl hNL), ⟨List.mem_of_getElem? (i := 601) (by decide +kernel), List.mem_of_getElem? (i := 25) (by decide +kernel), List.mem_of_getElem? (i := 599) (by decide +kernel), ⟨by decide +kernel, by decide +kernel⟩, by decide +kernel, by decide⟩, List.mem_of_getElem? (i := 600) (by decide +kernel), by decide⟩, trivial⟩
theorem ar_L_greatest : ∀ as S P, s_L_greatest as S P → as.length ≤ 14 ∧ ∀ a ∈ as, catV a = 1 := fun as S P h => by
  obtain ⟨_, _, _, rfl, _⟩ := ag_ok h
  exact ar_all ⟨Nat.le_of_ble_eq_true rfl, rfl⟩
set_option maxRecDepth 8000 in
theorem vc_L_greatest : ∀ (G : Gt) (Q : Out → Sto → Prop) (as : List AV) (S : Sto), s_L_greatest as S Q → Seg tb_L_greatest G Q 1 0 [] (0, fun _ => 0) → G 0 (argL as 14) [] S 0 := by
  intro G Q as S h hs
  obtain ⟨d, r, isM, rfl, T, i, j, hI, rfl, hi, rfl, hj, hsp, hQ⟩ := ag_ok h
  have va7 : vp_in ((10 : Int32) * nI i + 7) 60 := vA hI hi 7 (by decide)
  have a7 : S.1 10 3 ((10 : Int32) * nI i + 7).toNatClampNeg = S.1 2 7 i := aA hI hi 7 (by decide)
  have vg1 : vp_in ((14 : Int32) * nI j + 1) 28 := vG hI hj 1 (by decide)
  have g1 : S.1 10 5 ((14 : Int32) * nI j + 1).toNatClampNeg = S.1 4 0 j := aG hI hj 1 (by decide)
  have vg2 : vp_in ((14 : Int32) * nI j + 2) 28 := vG hI hj 2 (by decide)
  have g2 : S.1 10 5 ((14 : Int32) * nI j + 2).toNatClampNeg = S.1 4 1 j := aG hI hj 2 (by decide)
  have hi2 : i < S.2.2 20 := by rw [hI.n.1]; exact hi
  have hj2 : j < S.2.2 22 := by rw [hI.n.2.1]; exact hj
  obtain ⟨p, q, au, t, s, -, -, -, -, h1, -, -, -, -, -, -, s4⟩ := hI.wf.2.2.2.2.2.2.1 i hi2
  obtain ⟨a, ap, p', k1, k2, -, k3, k4, k5, k6, -⟩ := hI.wf.2.2.2.2.2.2.2 j hj2
  have hb : (2 * a - 1) * ap ≤ 15 * 5 := Nat.mul_le_mul (by omega) k6
  have eL : lastN S i j = s + (2 * a - 1) * ap := by
    have e1 : (1 : Int32) = nI 1 := rfl
    unfold lastN
    rw [h1, k1, k2, e1, nI_sub (by omega), nI_mul, nI_add]
    exact nI_cl (by omega)
  unfold greatH at hQ
  rw [if_neg hsp, eL] at hQ
  obtain ⟨f, hf⟩ : ∃ f : Nat → Int32, f = fun n => sumH S (S.1 2 7 i) j (nI n) isM 0 := ⟨_, rfl⟩
  rw [← hf, ← topR_eq] at hQ
  have hA : (nI (2 * a)).toNatClampNeg = 2 * a := nI_cl (by omega)
  have hfn : ∀ n, f n = sumF (S.1 4 6 j) (S.1 4 7 j) (nI (2 * a)) (nI ap) (nI s) (nI n) isM 0 (2 * a) := fun n => by
    rw [hf]
    show sumH S (S.1 2 7 i) j (nI n) isM 0 = _
    unfold sumH
    rw [k1, k2, hA, h1]
  rw [h1] at a7
  rw [k1] at g1
  rw [k2] at g2
  generalize hL : s + (2 * a - 1) * ap = L at hQ
  have e1 : (1 : Int32) = nI 1 := rfl
  -- places
  have e0 : nI (2 * a) - 1 = nI (2 * a - 1) := by rw [e1, nI_sub (by omega)]
  have tl : ∀ n, n ≤ L + 1 → (nI L - (nI ((2 * a - 1) * ap) + nI n)).toInt = (s : Int) - (n : Int) := fun n hn => by
    rw [nI_add, sub_int (a := (L : Int)) (b := (((2 * a - 1) * ap + n : Nat) : Int)) (nI_toInt (by omega)) (nI_toInt (by omega)) (by omega) (by omega)]
    omega
  have eT : ∀ n, n ≤ L + 1 → ∀ x : Int32, x.toInt = (s : Int) - (n : Int) → ∀ k, k < 2 * a → x + (nI (2 * a) - 1 - nI k) * nI ap = posF (nI (L - n)) (nI ap) k ∨ n = L + 1 := fun n hn x hx k hk => by
    by_cases hn1 : n = L + 1
    · exact Or.inr hn1
    · left
      apply Int32.toInt_inj.mp
      have hm : (2 * a - 1 - k) * ap + k * ap = (2 * a - 1) * ap := by
        rw [← Nat.add_mul]
        congr 1
        omega
      have hk2 : k * ap ≤ 15 * 5 := Nat.mul_le_mul (by omega) k6
      rw [pos_int (by omega) (by omega), e0, nI_sub (by omega), nI_mul]
      rw [Int32.toInt_add, hx, nI_toInt (by omega)]
      rw [Int.bmod_eq_of_le (by omega) (by omega)]
      omega
  have wt : ∀ k, k < 2 * a → ((2 : Int32) * nI k < nI (2 * a) ↔ ¬ nI (2 * a) / 2 ≤ nI k) := fun k hk => by
    have e2 : (2 : Int32) = nI 2 := rfl
    rw [(half_ok a k4 k3).1, e2, nI_mul, nI_lt2 (by omega) (by omega), nI_le2 (by omega) (by omega)]
    omega
  have outer : ∀ m n, n + m = L + 1 → ∀ x : Int32, x.toInt = (s : Int) - (n : Int) → ∀ x10 x11 x12 x13, G 38 [some (aR 10 3), some (aR 10 5), some (aI (nI i)), some (aI (nI j)), some (aI isM), some (aI (nI s)), some (aI (nI (2 * a))), some (aI (nI ap)), some (aI (topR f L n)), some (aI x), x10, x11, x12, x13] [] S 0 := by
    have cmp : ∀ n, n ≤ L + 1 → ∀ x : Int32, x.toInt = (s : Int) - (n : Int) → (x < -(nI (2 * a) - 1) * nI ap ↔ n = L + 1) := fun n hn x hx => by
      have hneg : (-(nI (2 * a) - 1) * nI ap).toInt = -(((2 * a - 1) * ap : Nat) : Int) := by
        rw [e0, Int32.neg_mul, nI_mul, Int32.toInt_neg, nI_toInt (by omega)]
        exact Int.bmod_eq_of_le (by omega) (by omega)
      rw [Int32.lt_iff_toInt_lt, hx, hneg]
      omega
    intro m
    induction m with
    | zero =>
      intro n hn x hx x10 x11 x12 x13
      obtain rfl : n = L + 1 := hn
      refine hs [38, 57] 120 38 _ _ _ _ ?_
      exact ⟨fun _ => hQ, fun z => absurd ((cmp _ (Nat.le_refl _) x hx).mpr rfl) z⟩
    | succ m ih =>
      intro n hn x hx x10 x11 x12 x13
      have inner : ∀ m2 k, k + m2 = 2 * a → ∀ y12 y13, G 57 [some (aR 10 3), some (aR 10 5), some (aI (nI i)), some (aI (nI j)), some (aI isM), some (aI (nI s)), some (aI (nI (2 * a))), some (aI (nI ap)), some (aI (topR f L n)), some (aI x), some (aI (sumF (S.1 4 6 j) (S.1 4 7 j) (nI (2 * a)) (nI ap) (nI s) (nI (L - n)) isM 0 k)), some (aI (nI k)), y12, y13] [] S 0 := by
        intro m2
        induction m2 with
        | zero =>
          intro k hk y12 y13
          obtain rfl : k = 2 * a := hk
          have hx1 : (x + (-1)).toInt = (s : Int) - ((n + 1 : Nat) : Int) := by
            rw [Int32.toInt_add, hx, show ((-1 : Int32)).toInt = -1 from rfl, Int.bmod_eq_of_le (by omega) (by omega)]
            omega
          have h2 := ih (n + 1) (by omega) (x + (-1)) hx1 (some (aI (f (L - n)))) (some (aI (nI (2 * a)))) y12 y13
          have ht : topR f L (n + 1) = if f (L - n) < topR f L n then topR f L n else f (L - n) := rfl
          rw [ht] at h2
          rw [← hfn (L - n)]
          refine hs [38, 57] 120 57 _ _ _ _ ?_
          refine ⟨fun _ => ⟨fun z => ?_, fun z => ?_⟩, fun z => (lp_end z).elim⟩
          · rw [if_neg (Int32.not_lt.mpr z)] at h2
            exact h2
          · rw [if_pos (Int32.not_le.mp z)] at h2
            exact h2
        | succ m2 ih2 =>
          intro k hk y12 y13
          have hk2 : k < 2 * a := by omega
          have key : ∀ v z13, v = sumF (S.1 4 6 j) (S.1 4 7 j) (nI (2 * a)) (nI ap) (nI s) (nI (L - n)) isM 0 (k + 1) → G 57 [some (aR 10 3), some (aR 10 5), some (aI (nI i)), some (aI (nI j)), some (aI isM), some (aI (nI s)), some (aI (nI (2 * a))), some (aI (nI ap)), some (aI (topR f L n)), some (aI x), some (aI v), some (aI (nI k + 1)), some (aI (posF (nI (L - n)) (nI ap) k)), z13] [] S 0 := fun v z13 hv9 => by
            rw [hv9, nI_s]
            exact ih2 (k + 1) (by omega) _ z13
          have ep := (eT n (by omega) x hx k hk2).resolve_right (by omega)
          -- the value of one axle
          have out : (posF (nI (L - n)) (nI ap) k < 0 ∨ nI s < posF (nI (L - n)) (nI ap) k) → sumF (S.1 4 6 j) (S.1 4 7 j) (nI (2 * a)) (nI ap) (nI s) (nI (L - n)) isM 0 k = sumF (S.1 4 6 j) (S.1 4 7 j) (nI (2 * a)) (nI ap) (nI s) (nI (L - n)) isM 0 (k + 1) := fun z => (if_pos z).symm
          have inn : ¬ (posF (nI (L - n)) (nI ap) k < 0 ∨ nI s < posF (nI (L - n)) (nI ap) k) → ∀ w, w = wtF (S.1 4 6 j) (S.1 4 7 j) (nI (2 * a)) (nI k) → ∀ v, v = valF w (posF (nI (L - n)) (nI ap) k) (nI s) isM → sumF (S.1 4 6 j) (S.1 4 7 j) (nI (2 * a)) (nI ap) (nI s) (nI (L - n)) isM 0 k + v = sumF (S.1 4 6 j) (S.1 4 7 j) (nI (2 * a)) (nI ap) (nI s) (nI (L - n)) isM 0 (k + 1) := fun z w hw v hv => by
            subst hv
            subst hw
            exact (if_neg z).symm
          have rest : ∀ w, w = wtF (S.1 4 6 j) (S.1 4 7 j) (nI (2 * a)) (nI k) → G 100 [some (aR 10 3), some (aR 10 5), some (aI (nI i)), some (aI (nI j)), some (aI isM), some (aI (nI s)), some (aI (nI (2 * a))), some (aI (nI ap)), some (aI (topR f L n)), some (aI x), some (aI (sumF (S.1 4 6 j) (S.1 4 7 j) (nI (2 * a)) (nI ap) (nI s) (nI (L - n)) isM 0 k)), some (aI (nI k)), some (aI (posF (nI (L - n)) (nI ap) k)), some (aI w)] [] S 0 := fun w hw => by
            refine hs [38, 57] 120 100 _ _ _ _ ?_
            refine ⟨fun t1 => key _ _ (out (Or.inl t1)), fun t1 => ⟨fun t2 => key _ _ (out (Or.inr t2)), fun t2 => ?_⟩⟩
            have hin : ¬ (posF (nI (L - n)) (nI ap) k < 0 ∨ nI s < posF (nI (L - n)) (nI ap) k) := fun z => z.elim t1 t2
            obtain ⟨q, hq, eq⟩ := nI_of t1
            have hqs : q ≤ s := by
              rw [eq] at t2
              exact (nI_le2 hq (by omega)).mp (Int32.not_lt.mp t2)
            obtain ⟨hh1, hh2⟩ := half_lt hqs (by omega)
            refine ⟨fun m0 => ⟨fun c1 => ?_, fun c1 => ?_⟩, fun m0 => ?_⟩
            · refine key _ _ (inn hin w hw _ ?_)
              unfold valF
              rw [if_neg m0, eq, hh2]
              rw [eq] at c1
              rw [if_neg fun z => absurd (hh1.mpr z) (Int32.not_lt.mpr c1)]
            · refine key _ _ (inn hin w hw _ ?_)
              unfold valF
              rw [if_neg m0, eq, hh2]
              rw [eq] at c1
              rw [if_pos (hh1.mp (Int32.not_le.mp c1))]
            · refine key _ _ (inn hin w hw _ ?_)
              unfold valF
              rw [if_pos m0]
          refine hs [38, 57, 100] 120 57 _ _ _ _ ?_
          refine ⟨fun z => absurd z (lp_go (by omega) hk2), fun _ => ⟨fun c1 => ⟨rfl, rfl, T, j, hI, rfl, hj, ?_⟩, fun c1 => ⟨rfl, rfl, T, j, hI, rfl, hj, ?_⟩⟩⟩
          · have r1 := rest (brH S j 0) (by
              unfold brH wtF
              rw [if_pos rfl, if_neg ((wt k hk2).mp c1)])
            rw [← ep] at r1
            exact r1
          · have r1 := rest (brH S j 1) (by
              unfold brH wtF
              have : nI (2 * a) / 2 ≤ nI k := by
                by_cases z : nI (2 * a) / 2 ≤ nI k
                · exact z
                · exact absurd ((wt k hk2).mpr z) c1
              rw [if_neg (by decide), if_pos this])
            rw [← ep] at r1
            exact r1
      refine hs [38, 57] 120 38 _ _ _ _ ?_
      exact ⟨fun z => absurd ((cmp n (by omega) x hx).mp z) (by omega), fun _ => inner (2 * a) 0 (by omega) x12 x13⟩
  refine hs [38] 120 0 _ _ _ _ ?_
  refine ⟨va7, vg1, vg2, ?_⟩
  rw [a7, g1, g2]
  exact outer (L + 1) 0 (by omega) (nI s) (by rw [nI_toInt (by omega)]; omega) none none none none
theorem ct_L_greatest {l : Launch} (hl : l.stackTraces = false) (hNL : NewL l) : CT l yL_greatest cL_greatest 14 (some .int) 1 0 s_L_greatest := CT_of hl hNL (by decide +kernel) (own := "HeavyHaulLaw") rfl (ini := false) (fun q => nomatch q) chk_L_greatest (cal_L_greatest hl hNL) ar_L_greatest vc_L_greatest
end
section
/-! WHETHER A BRIDGE BEARS A RIG, by the law -/
theorem bV_1 : ∀ b : Bool, bV b &&& 1 = bV b := by decide
theorem sp_0 {S : Sto} {i : Nat} (h : RoF S i) : S.1 2 7 i = 0 ↔ S.1 2 7 i ≤ 0 := by
  obtain ⟨p, q, a, t, s, -, -, -, -, hs, -, -, -, -, -, -, hs4⟩ := h
  rw [hs]
  constructor
  · intro z
    rw [z]
    exact Int32.le_refl _
  · intro z
    have := (nI_le2 (b := 0) (by omega) (by omega)).mp z
    obtain rfl : s = 0 := by omega
    rfl
theorem LawI.i20 {T : Nat} {S : Sto} (h : LawI T S) {i : Nat} (hi : i < 6) : i < S.2.2 20 := by rw [h.n.1]; exact hi
theorem LawI.i22 {T : Nat} {S : Sto} (h : LawI T S) {j : Nat} (hj : j < 2) : j < S.2.2 22 := by rw [h.n.2.1]; exact hj
def s_L_isBorne : SP := vS fun as S k => ag2 as fun d r => ∃ (T i j : Nat), LawI T S ∧ d = nI i ∧ i < 6 ∧ r = nI j ∧ j < 2 ∧ k (some (aI (bV (borneH S i j))))
def tb_L_isBorne : Tb := [(0, .aload_n 0, 1, x0), (1, .bipush 10, 2, xI (10)), (3, .iload_n 2, 1, x0), (4, .imul, 1, x0), (5, .bipush 7, 2, xI (7)), (7, .iadd, 1, x0), (8, .iaload, 1, x0), (9, .ifCond .eq 43, 3, xN 52), (12, .aload_n 0, 1, x0), (13, .aload_n 1, 1, x0), (14, .iload_n 2, 1, x0), (15, .iload_n 3, 1, x0), (16, .iconst 0, 1, xI (0)), (17, .invokestatic 15, 3, xS 5 0 s_L_greatest), (20, .aload_n 0, 1, x0), (21, .bipush 10, 2, xI (10)), (23, .iload_n 2, 1, x0), (24, .imul, 1, x0), (25, .bipush 8, 2, xI (8)), (27, .iadd, 1, x0), (28, .iaload, 1, x0), (29, .if_icmp .gt 27, 3, xN 56), (32, .aload_n 0, 1, x0), (33, .aload_n 1, 1, x0), (34, .iload_n 2, 1, x0), (35, .iload_n 3, 1, x0), (36, .iconst 1, 1, xI (1)), (37, .invokestatic 15, 3, xS 5 0 s_L_greatest), (40, .aload_n 0, 1, x0), (41, .bipush 10, 2, xI (10)), (43, .iload_n 2, 1, x0), (44, .imul, 1, x0), (45, .bipush 9, 2, xI (9)), (47, .iadd, 1, x0), (48, .iaload, 1, x0), (49, .if_icmp .gt 7, 3, xN 56), (52, .iconst 1, 1, xI (1)), (53, .goto 4, 3, xN 57), (56, .iconst 0, 1, xI (0)), (57, .ireturn, 1, x0)]
theorem chk_L_isBorne : chkTb cL_isBorne "HeavyHaulLaw" false tb_L_isBorne = true := by decide +kernel
theorem cal_L_isBorne {l : Launch} (hl : l.stackTraces = false) (hNL : NewL l) : CallsOK l "HeavyHaulLaw" 2 tb_L_isBorne := callsOK_f ⟨⟨_, _, 14, 1, _, (ct_L_greatest hl hNL), ⟨List.mem_of_getElem? (i := 598) (by decide +kernel), List.mem_of_getElem? (i := 25) (by decide +kernel), List.mem_of_getElem? (i := 596) (by decide +kernel), ⟨by decide +kernel, by decide +kernel⟩, by decide +kernel, by decide⟩, List.mem_of_getElem? (i := 597) (by decide +kernel), by decide⟩, ⟨_, _, 14, 1, _, (ct_L_greatest hl hNL), ⟨List.mem_of_getElem? (i := 598) (by decide +kernel), List.mem_of_getElem? (i := 25) (by decide +kernel), List.mem_of_getElem? (i := 596) (by decide +kernel), ⟨by decide +kernel, by decide +kernel⟩, by decide +kernel, by decide⟩, List.mem_of_getElem? (i := 597) (by decide +kernel), by decide⟩, trivial⟩
theorem ar_L_isBorne : ∀ as S P, s_L_isBorne as S P → as.length ≤ 4 ∧ ∀ a ∈ as, catV a = 1 := fun as S P h => by
  obtain ⟨_, _, rfl, _⟩ := ag2_ok h
  exact ar_all ⟨Nat.le_of_ble_eq_true rfl, rfl⟩
theorem vc_L_isBorne : ∀ (G : Gt) (Q : Out → Sto → Prop) (as : List AV) (S : Sto), s_L_isBorne as S Q → Seg tb_L_isBorne G Q 2 0 [] (0, fun _ => 0) → G 0 (argL as 4) [] S 0 := by
  intro G Q as S h hs
  obtain ⟨d, r, rfl, T, i, j, hI, rfl, hi, rfl, hj, hQ⟩ := ag2_ok h
  have va7 : vp_in ((10 : Int32) * nI i + 7) 60 := vA hI hi 7 (by decide)
  have a7 : S.1 10 3 ((10 : Int32) * nI i + 7).toNatClampNeg = S.1 2 7 i := aA hI hi 7 (by decide)
  have va8 : vp_in ((10 : Int32) * nI i + 8) 60 := vA hI hi 8 (by decide)
  have a8 : S.1 10 3 ((10 : Int32) * nI i + 8).toNatClampNeg = S.1 2 8 i := aA hI hi 8 (by decide)
  have va9 : vp_in ((10 : Int32) * nI i + 9) 60 := vA hI hi 9 (by decide)
  have a9 : S.1 10 3 ((10 : Int32) * nI i + 9).toNatClampNeg = S.1 2 9 i := aA hI hi 9 (by decide)
  have h0 := sp_0 (hI.wf.2.2.2.2.2.2.1 i (hI.i20 hi))
  have yes : borneH S i j = true → (1 : Int32) &&& 1 = 1 ∧ Q (Sum.inl (some (aI 1))) S := fun z => by
    rw [z] at hQ
    exact ⟨rfl, hQ⟩
  have no : borneH S i j = false → (0 : Int32) &&& 1 = 0 ∧ Q (Sum.inl (some (aI 0))) S := fun z => by
    rw [z] at hQ
    exact ⟨rfl, hQ⟩
  refine hs [] 90 0 _ _ _ _ ?_
  refine ⟨va7, ?_⟩
  rw [a7]
  refine ⟨fun z => yes ?_, fun z => ?_⟩
  · unfold borneH
    rw [decide_eq_true (h0.mp z)]
    rfl
  · have hz : ¬ S.1 2 7 i ≤ 0 := fun y => z (h0.mpr y)
    have e1 : ∀ b, (decide (greatH S i j 0 0 ≤ S.1 2 8 i) && decide (greatH S i j 1 0 ≤ S.1 2 9 i)) = b → borneH S i j = b := fun b hb => by
      unfold borneH
      rw [decide_eq_false hz, Bool.false_or]
      exact hb
    refine ⟨rfl, rfl, rfl, rfl, T, i, j, hI, rfl, hi, rfl, hj, hz, va8, ?_⟩
    rw [a8]
    refine ⟨fun y => no (e1 false ?_), fun y => ⟨rfl, rfl, rfl, rfl, T, i, j, hI, rfl, hi, rfl, hj, hz, va9, ?_⟩⟩
    · rw [decide_eq_false (Int32.not_le.mpr y)]
      rfl
    · rw [a9]
      refine ⟨fun x => no (e1 false ?_), fun x => yes (e1 true ?_)⟩
      · rw [decide_eq_false (Int32.not_le.mpr x), Bool.and_false]
      · rw [decide_eq_true (Int32.not_lt.mp y), decide_eq_true (Int32.not_lt.mp x)]
        rfl
theorem ct_L_isBorne {l : Launch} (hl : l.stackTraces = false) (hNL : NewL l) : CT l yL_isBorne cL_isBorne 4 (some .boolean) 2 0 s_L_isBorne := CT_of hl hNL (by decide +kernel) (own := "HeavyHaulLaw") rfl (ini := false) (fun q => nomatch q) chk_L_isBorne (cal_L_isBorne hl hNL) ar_L_isBorne vc_L_isBorne
def brnN (S : Sto) (j : Nat) (i : Nat) : Bool := borneH S i j
def s_L_borne : SP := vS fun as S k => ag1 as fun r => ∃ (T j : Nat), LawI T S ∧ r = nI j ∧ j < 2 ∧ k (some (aI (mkW (brnN S j) 6)))
def tb_L_borne : Tb := [(0, .iconst 0, 1, xI (0)), (1, .istore_n 3, 1, x0), (2, .iconst 0, 1, xI (0)), (3, .istore 4, 2, x0), (5, .iload 4, 2, x0), (7, .bipush 6, 2, xI (6)), (9, .if_icmp .ge 31, 3, xN 40), (12, .iload_n 3, 1, x0), (13, .aload_n 0, 1, x0), (14, .aload_n 1, 1, x0), (15, .iload 4, 2, x0), (17, .iload_n 2, 1, x0), (18, .invokestatic 27, 3, xS 4 0 s_L_isBorne), (21, .ifCond .eq 10, 3, xN 31), (24, .iconst 1, 1, xI (1)), (25, .iload 4, 2, x0), (27, .ishl, 1, x0), (28, .goto 4, 3, xN 32), (31, .iconst 0, 1, xI (0)), (32, .ior, 1, x0), (33, .istore_n 3, 1, x0), (34, .iinc 4 1, 3, xI (1)), (37, .goto (-32), 3, xN 5), (40, .iload_n 3, 1, x0), (41, .ireturn, 1, x0)]
theorem chk_L_borne : chkTb cL_borne "HeavyHaulLaw" false tb_L_borne = true := by decide +kernel
theorem cal_L_borne {l : Launch} (hl : l.stackTraces = false) (hNL : NewL l) : CallsOK l "HeavyHaulLaw" 3 tb_L_borne := callsOK_f ⟨⟨_, _, 4, 2, _, (ct_L_isBorne hl hNL), ⟨List.mem_of_getElem? (i := 595) (by decide +kernel), List.mem_of_getElem? (i := 25) (by decide +kernel), List.mem_of_getElem? (i := 593) (by decide +kernel), ⟨by decide +kernel, by decide +kernel⟩, by decide +kernel, by decide⟩, List.mem_of_getElem? (i := 594) (by decide +kernel), by decide⟩, trivial⟩
theorem ar_L_borne : ∀ as S P, s_L_borne as S P → as.length ≤ 5 ∧ ∀ a ∈ as, catV a = 1 := fun as S P h => by
  obtain ⟨_, rfl, _⟩ := ag1_ok h
  exact ar_all ⟨Nat.le_of_ble_eq_true rfl, rfl⟩
theorem vc_L_borne : ∀ (G : Gt) (Q : Out → Sto → Prop) (as : List AV) (S : Sto), s_L_borne as S Q → Seg tb_L_borne G Q 1 0 [] (0, fun _ => 0) → G 0 (argL as 5) [] S 0 := by
  intro G Q as S h hs
  obtain ⟨r, rfl, T, j, hI, rfl, hj, hQ⟩ := ag1_ok h
  have loop : ∀ m k, k + m = 6 → G 5 [some (aR 10 3), some (aR 10 5), some (aI (nI j)), some (aI (mkW (brnN S j) k)), some (aI (nI k))] [] S 0 := by
    intro m
    induction m with
    | zero =>
      intro k hk
      obtain rfl : k = 6 := hk
      refine hs [5] 60 5 _ _ _ _ ?_
      exact ⟨fun _ => hQ, fun q => absurd (by decide) q⟩
    | succ m ih =>
      intro k hk
      have h1 := ih (k + 1) (by omega)
      rw [← nI_s] at h1
      refine hs [5] 60 5 _ _ _ _ ?_
      refine ⟨fun q => absurd q (lp_go (n := 6) (by omega) (by omega)), fun _ => ⟨rfl, rfl, rfl, rfl, T, k, j, hI, rfl, by omega, rfl, hj, ?_⟩⟩
      cases hb : borneH S k j with
      | false =>
        have e : mkW (brnN S j) (k + 1) = mkW (brnN S j) k ||| 0 := by
          rw [Int32.or_zero]
          exact if_neg (by unfold brnN; rw [hb]; decide)
        rw [e] at h1
        exact ⟨fun _ => h1, fun z => absurd rfl z⟩
      | true =>
        have e : mkW (brnN S j) (k + 1) = mkW (brnN S j) k ||| (1 : Int32) <<< (nI k &&& 31) := if_pos hb
        rw [e] at h1
        exact ⟨fun z => absurd z (by decide), fun _ => h1⟩
  exact hs [5] 60 0 _ _ _ _ (loop 6 0 rfl)
theorem ct_L_borne {l : Launch} (hl : l.stackTraces = false) (hNL : NewL l) : CT l yL_borne cL_borne 5 (some .int) 3 0 s_L_borne := CT_of hl hNL (by decide +kernel) (own := "HeavyHaulLaw") rfl (ini := false) (fun q => nomatch q) chk_L_borne (cal_L_borne hl hNL) ar_L_borne vc_L_borne
end
section
/-! WHY NOT, by the law -/
def wy (as : List AV) (f : Int32 → Int32 → Int32 → Int32 → Prop) : Prop := match as with
  | [Sum.inr (Sum.inr (k0, i0)), Sum.inr (Sum.inr (k1, i1)), Sum.inr (Sum.inr (k2, i2)), Sum.inr (Sum.inr (k3, i3)), Sum.inr (Sum.inr (k4, i4)), Sum.inr (Sum.inr (k5, i5)), Sum.inr (Sum.inr (k6, i6)), Sum.inl a, Sum.inl b, Sum.inl c, Sum.inl d] =>
    (k0 = 10 ∧ i0 = 3) ∧ (k1 = 10 ∧ i1 = 4) ∧ (k2 = 10 ∧ i2 = 5) ∧ (k3 = 10 ∧ i3 = 6) ∧ (k4 = 10 ∧ i4 = 7) ∧ (k5 = 10 ∧ i5 = 8) ∧ (k6 = 10 ∧ i6 = 9) ∧ f a b c d
  | _ => False
theorem wy_ok {as : List AV} {f : Int32 → Int32 → Int32 → Int32 → Prop} (h : wy as f) : ∃ a b c d, as = [aR 10 3, aR 10 4, aR 10 5, aR 10 6, aR 10 7, aR 10 8, aR 10 9, aI a, aI b, aI c, aI d] ∧ f a b c d := by
  unfold wy at h
  split at h
  · obtain ⟨⟨rfl, rfl⟩, ⟨rfl, rfl⟩, ⟨rfl, rfl⟩, ⟨rfl, rfl⟩, ⟨rfl, rfl⟩, ⟨rfl, rfl⟩, ⟨rfl, rfl⟩, h⟩ := h; exact ⟨_, _, _, _, rfl, h⟩
  · exact h.elim
def s_L_why : SP := vS fun as S k => wy as fun r d t b => ∃ (T i j n : Nat), LawI T S ∧ r = nI j ∧ j < 2 ∧ d = nI i ∧ i < 6 ∧ t = nI n ∧ n < 20000 ∧ b = bV (borneH S i j) ∧ k (some (aI (reasonH S (nI j) (nI i) t)))
def tb_L_why : Tb := [(0, .bipush 10, 2, xI (10)), (2, .iload 8, 2, x0), (4, .imul, 1, x0), (5, .istore 11, 2, x0), (7, .iload 9, 2, x0), (9, .aload_n 0, 1, x0), (10, .iload 11, 2, x0), (12, .bipush 6, 2, xI (6)), (14, .iadd, 1, x0), (15, .iaload, 1, x0), (16, .iadd, 1, x0), (17, .istore 12, 2, x0), (19, .iconst 0, 1, xI (0)), (20, .istore 13, 2, x0), (22, .iconst 0, 1, xI (0)), (23, .istore 14, 2, x0), (25, .iconst 0, 1, xI (0)), (26, .istore 15, 2, x0), (28, .iload 15, 2, x0), (30, .aload 6, 2, x0), (32, .iconst 2, 1, xI (2)), (33, .iaload, 1, x0), (34, .if_icmp .ge 102, 3, xN 136), (37, .aload_n 1, 1, x0), (38, .iconst 5, 1, xI (5)), (39, .iload 15, 2, x0), (41, .imul, 1, x0), (42, .iaload, 1, x0), (43, .iload 8, 2, x0), (45, .if_icmp .ne 85, 3, xN 130), (48, .aload_n 1, 1, x0), (49, .iconst 5, 1, xI (5)), (50, .iload 15, 2, x0), (52, .imul, 1, x0), (53, .iconst 3, 1, xI (3)), (54, .iadd, 1, x0), (55, .iaload, 1, x0), (56, .iload 9, 2, x0), (58, .if_icmp .gt 72, 3, xN 130), (61, .aload_n 1, 1, x0), (62, .iconst 5, 1, xI (5)), (63, .iload 15, 2, x0), (65, .imul, 1, x0), (66, .iconst 4, 1, xI (4)), (67, .iadd, 1, x0), (68, .iaload, 1, x0), (69, .iload 12, 2, x0), (71, .if_icmp .lt 59, 3, xN 130), (74, .iload 13, 2, x0), (76, .aload_n 1, 1, x0), (77, .iconst 5, 1, xI (5)), (78, .iload 15, 2, x0), (80, .imul, 1, x0), (81, .iconst 1, 1, xI (1)), (82, .iadd, 1, x0), (83, .iaload, 1, x0), (84, .if_icmp .ge 14, 3, xN 98), (87, .aload_n 1, 1, x0), (88, .iconst 5, 1, xI (5)), (89, .iload 15, 2, x0), (91, .imul, 1, x0), (92, .iconst 1, 1, xI (1)), (93, .iadd, 1, x0), (94, .iaload, 1, x0), (95, .goto 5, 3, xN 100), (98, .iload 13, 2, x0), (100, .istore 13, 2, x0), (102, .iload 14, 2, x0), (104, .aload_n 1, 1, x0), (105, .iconst 5, 1, xI (5)), (106, .iload 15, 2, x0), (108, .imul, 1, x0), (109, .iconst 2, 1, xI (2)), (110, .iadd, 1, x0), (111, .iaload, 1, x0), (112, .if_icmp .ge 14, 3, xN 126), (115, .aload_n 1, 1, x0), (116, .iconst 5, 1, xI (5)), (117, .iload 15, 2, x0), (119, .imul, 1, x0), (120, .iconst 2, 1, xI (2)), (121, .iadd, 1, x0), (122, .iaload, 1, x0), (123, .goto 5, 3, xN 128), (126, .iload 14, 2, x0), (128, .istore 14, 2, x0), (130, .iinc 15 1, 3, xI (1)), (133, .goto (-105), 3, xN 28), (136, .iconst 0, 1, xI (0)), (137, .istore 15, 2, x0), (139, .iconst 0, 1, xI (0)), (140, .istore 16, 2, x0), (142, .iload 16, 2, x0), (144, .aload 6, 2, x0), (146, .iconst 3, 1, xI (3)), (147, .iaload, 1, x0), (148, .if_icmp .ge 75, 3, xN 223), (151, .iload 15, 2, x0), (153, .ifCond .ne 57, 3, xN 210), (156, .aload_n 3, 1, x0), (157, .iconst 4, 1, xI (4)), (158, .iload 16, 2, x0), (160, .imul, 1, x0), (161, .iaload, 1, x0), (162, .iload 7, 2, x0), (164, .if_icmp .ne 50, 3, xN 214), (167, .aload_n 3, 1, x0), (168, .iconst 4, 1, xI (4)), (169, .iload 16, 2, x0), (171, .imul, 1, x0), (172, .iconst 1, 1, xI (1)), (173, .iadd, 1, x0), (174, .iaload, 1, x0), (175, .aload_n 0, 1, x0), (176, .iload 11, 2, x0), (178, .iconst 2, 1, xI (2)), (179, .iadd, 1, x0), (180, .iaload, 1, x0), (181, .if_icmp .ne 33, 3, xN 214), (184, .aload_n 3, 1, x0), (185, .iconst 4, 1, xI (4)), (186, .iload 16, 2, x0), (188, .imul, 1, x0), (189, .iconst 2, 1, xI (2)), (190, .iadd, 1, x0), (191, .iaload, 1, x0), (192, .iload 9, 2, x0), (194, .if_icmp .gt 20, 3, xN 214), (197, .aload_n 3, 1, x0), (198, .iconst 4, 1, xI (4)), (199, .iload 16, 2, x0), (201, .imul, 1, x0), (202, .iconst 3, 1, xI (3)), (203, .iadd, 1, x0), (204, .iaload, 1, x0), (205, .iload 12, 2, x0), (207, .if_icmp .lt 7, 3, xN 214), (210, .iconst 1, 1, xI (1)), (211, .goto 4, 3, xN 215), (214, .iconst 0, 1, xI (0)), (215, .istore 15, 2, x0), (217, .iinc 16 1, 3, xI (1)), (220, .goto (-78), 3, xN 142), (223, .iconst 0, 1, xI (0)), (224, .istore 16, 2, x0), (226, .iconst 0, 1, xI (0)), (227, .istore 17, 2, x0), (229, .iload 17, 2, x0), (231, .aload 6, 2, x0), (233, .iconst 4, 1, xI (4)), (234, .iaload, 1, x0), (235, .if_icmp .ge 82, 3, xN 317), (238, .iload 9, 2, x0), (240, .istore 18, 2, x0), (242, .iload 18, 2, x0), (244, .iload 12, 2, x0), (246, .if_icmp .ge 65, 3, xN 311), (249, .iload 16, 2, x0), (251, .ifCond .ne 47, 3, xN 298), (254, .aload 4, 2, x0), (256, .iconst 3, 1, xI (3)), (257, .iload 17, 2, x0), (259, .imul, 1, x0), (260, .iaload, 1, x0), (261, .aload_n 0, 1, x0), (262, .iload 11, 2, x0), (264, .iconst 2, 1, xI (2)), (265, .iadd, 1, x0), (266, .iaload, 1, x0), (267, .if_icmp .ne 35, 3, xN 302), (270, .aload 4, 2, x0), (272, .iconst 3, 1, xI (3)), (273, .iload 17, 2, x0), (275, .imul, 1, x0), (276, .iconst 1, 1, xI (1)), (277, .iadd, 1, x0), (278, .iaload, 1, x0), (279, .iload 18, 2, x0), (281, .if_icmp .gt 21, 3, xN 302), (284, .iload 18, 2, x0), (286, .aload 4, 2, x0), (288, .iconst 3, 1, xI (3)), (289, .iload 17, 2, x0), (291, .imul, 1, x0), (292, .iconst 2, 1, xI (2)), (293, .iadd, 1, x0), (294, .iaload, 1, x0), (295, .if_icmp .ge 7, 3, xN 302), (298, .iconst 1, 1, xI (1)), (299, .goto 4, 3, xN 303), (302, .iconst 0, 1, xI (0)), (303, .istore 16, 2, x0), (305, .iinc 18 1, 3, xI (1)), (308, .goto (-66), 3, xN 242), (311, .iinc 17 1, 3, xI (1)), (314, .goto (-85), 3, xN 229), (317, .aload_n 2, 1, x0), (318, .iload 7, 2, x0), (320, .iconst 0, 1, xI (0)), (321, .invokestatic 9, 3, xS 3 0 s_L_axle), (324, .aload_n 2, 1, x0), (325, .iload 7, 2, x0), (327, .iconst 1, 1, xI (1)), (328, .invokestatic 9, 3, xS 3 0 s_L_axle), (331, .if_icmp .le 13, 3, xN 344), (334, .aload_n 2, 1, x0), (335, .iload 7, 2, x0), (337, .iconst 0, 1, xI (0)), (338, .invokestatic 9, 3, xS 3 0 s_L_axle), (341, .goto 10, 3, xN 351), (344, .aload_n 2, 1, x0), (345, .iload 7, 2, x0), (347, .iconst 1, 1, xI (1)), (348, .invokestatic 9, 3, xS 3 0 s_L_axle), (351, .istore 17, 2, x0), (353, .iconst 1, 1, xI (1)), (354, .istore 18, 2, x0), (356, .iload 9, 2, x0), (358, .istore 19, 2, x0), (360, .iload 19, 2, x0), (362, .iload 12, 2, x0), (364, .if_icmp .ge 47, 3, xN 411), (367, .iload 18, 2, x0), (369, .ifCond .eq 33, 3, xN 402), (372, .iload 19, 2, x0), (374, .sipush 144, 3, xI (144)), (377, .irem, 1, x0), (378, .bipush 36, 2, xI (36)), (380, .if_icmp .ge 22, 3, xN 402), (383, .iload 19, 2, x0), (385, .sipush 144, 3, xI (144)), (388, .idiv, 1, x0), (389, .iload 9, 2, x0), (391, .sipush 144, 3, xI (144)), (394, .idiv, 1, x0), (395, .if_icmp .ne 7, 3, xN 402), (398, .iconst 1, 1, xI (1)), (399, .goto 4, 3, xN 403), (402, .iconst 0, 1, xI (0)), (403, .istore 18, 2, x0), (405, .iinc 19 1, 3, xI (1)), (408, .goto (-48), 3, xN 360), (411, .aload_n 2, 1, x0), (412, .bipush 14, 2, xI (14)), (414, .iload 7, 2, x0), (416, .imul, 1, x0), (417, .iconst 4, 1, xI (4)), (418, .iadd, 1, x0), (419, .iaload, 1, x0), (420, .aload_n 0, 1, x0), (421, .iload 11, 2, x0), (423, .iconst 3, 1, xI (3)), (424, .iadd, 1, x0), (425, .iaload, 1, x0), (426, .iload 13, 2, x0), (428, .iadd, 1, x0), (429, .if_icmp .le 7, 3, xN 436), (432, .iconst 1, 1, xI (1)), (433, .goto 110, 3, xN 543), (436, .aload_n 2, 1, x0), (437, .bipush 14, 2, xI (14)), (439, .iload 7, 2, x0), (441, .imul, 1, x0), (442, .iconst 5, 1, xI (5)), (443, .iadd, 1, x0), (444, .iaload, 1, x0), (445, .aload_n 0, 1, x0), (446, .iload 11, 2, x0), (448, .iconst 4, 1, xI (4)), (449, .iadd, 1, x0), (450, .iaload, 1, x0), (451, .iload 14, 2, x0), (453, .iadd, 1, x0), (454, .if_icmp .le 7, 3, xN 461), (457, .iconst 2, 1, xI (2)), (458, .goto 85, 3, xN 543), (461, .aload_n 2, 1, x0), (462, .bipush 14, 2, xI (14)), (464, .iload 7, 2, x0), (466, .imul, 1, x0), (467, .iconst 3, 1, xI (3)), (468, .iadd, 1, x0), (469, .iaload, 1, x0), (470, .aload_n 0, 1, x0), (471, .iload 11, 2, x0), (473, .iconst 5, 1, xI (5)), (474, .iadd, 1, x0), (475, .iaload, 1, x0), (476, .if_icmp .le 7, 3, xN 483), (479, .iconst 3, 1, xI (3)), (480, .goto 63, 3, xN 543), (483, .iload 10, 2, x0), (485, .ifCond .ne 7, 3, xN 492), (488, .iconst 4, 1, xI (4)), (489, .goto 54, 3, xN 543), (492, .iload 17, 2, x0), (494, .aload 5, 2, x0), (496, .iconst 4, 1, xI (4)), (497, .aload_n 0, 1, x0), (498, .iload 11, 2, x0), (500, .iconst 2, 1, xI (2)), (501, .iadd, 1, x0), (502, .iaload, 1, x0), (503, .iadd, 1, x0), (504, .iaload, 1, x0), (505, .if_icmp .le 7, 3, xN 512), (508, .iconst 5, 1, xI (5)), (509, .goto 34, 3, xN 543), (512, .iload 15, 2, x0), (514, .ifCond .ne 8, 3, xN 522), (517, .bipush 6, 2, xI (6)), (519, .goto 24, 3, xN 543), (522, .iload 16, 2, x0), (524, .ifCond .eq 8, 3, xN 532), (527, .bipush 7, 2, xI (7)), (529, .goto 14, 3, xN 543), (532, .iload 18, 2, x0), (534, .ifCond .eq 7, 3, xN 541), (537, .iconst 0, 1, xI (0)), (538, .goto 5, 3, xN 543), (541, .bipush 8, 2, xI (8)), (543, .ireturn, 1, x0)]
theorem chk_L_why : chkTb cL_why "HeavyHaulLaw" false tb_L_why = true := by decide +kernel
theorem cal_L_why {l : Launch} (hl : l.stackTraces = false) (hNL : NewL l) : CallsOK l "HeavyHaulLaw" 1 tb_L_why := callsOK_f ⟨⟨_, _, 10, 0, _, (ct_L_axle hl hNL), ⟨List.mem_of_getElem? (i := 601) (by decide +kernel), List.mem_of_getElem? (i := 25) (by decide +kernel), List.mem_of_getElem? (i := 599) (by decide +kernel), ⟨by decide +kernel, by decide +kernel⟩, by decide +kernel, by decide⟩, List.mem_of_getElem? (i := 600) (by decide +kernel), by decide⟩, ⟨_, _, 10, 0, _, (ct_L_axle hl hNL), ⟨List.mem_of_getElem? (i := 601) (by decide +kernel), List.mem_of_getElem? (i := 25) (by decide +kernel), List.mem_of_getElem? (i := 599) (by decide +kernel), ⟨by decide +kernel, by decide +kernel⟩, by decide +kernel, by decide⟩, List.mem_of_getElem? (i := 600) (by decide +kernel), by decide⟩, ⟨_, _, 10, 0, _, (ct_L_axle hl hNL), ⟨List.mem_of_getElem? (i := 601) (by decide +kernel), List.mem_of_getElem? (i := 25) (by decide +kernel), List.mem_of_getElem? (i := 599) (by decide +kernel), ⟨by decide +kernel, by decide +kernel⟩, by decide +kernel, by decide⟩, List.mem_of_getElem? (i := 600) (by decide +kernel), by decide⟩, ⟨_, _, 10, 0, _, (ct_L_axle hl hNL), ⟨List.mem_of_getElem? (i := 601) (by decide +kernel), List.mem_of_getElem? (i := 25) (by decide +kernel), List.mem_of_getElem? (i := 599) (by decide +kernel), ⟨by decide +kernel, by decide +kernel⟩, by decide +kernel, by decide⟩, List.mem_of_getElem? (i := 600) (by decide +kernel), by decide⟩, trivial⟩
theorem ar_L_why : ∀ as S P, s_L_why as S P → as.length ≤ 20 ∧ ∀ a ∈ as, catV a = 1 := fun as S P h => by
  obtain ⟨_, _, _, _, rfl, _⟩ := wy_ok h
  exact ar_all ⟨Nat.le_of_ble_eq_true rfl, rfl⟩
/-- a truth that holds at each ten of a stretch -/
def allN (p : Nat → Bool) : Nat → Bool
  | 0 => true
  | n + 1 => allN p n && p n
theorem allN_t {p : Nat → Bool} {n : Nat} (h : ∀ i, i < n → p i = true) : allN p n = true := by
  induction n with
  | zero => rfl
  | succ n ih =>
    show (allN p n && p n) = true
    rw [ih (fun i hi => h i (by omega)), h n (by omega)]
    rfl
theorem allN_f {p : Nat → Bool} {n j : Nat} (hj : j < n) (h : p j = false) : allN p n = false := by
  induction n with
  | zero => omega
  | succ n ih =>
    show (allN p n && p n) = false
    by_cases e : j = n
    · rw [← e, h, Bool.and_false]
    · rw [ih (by omega), Bool.false_and]
theorem night_all {n t : Nat} (ht : 1 ≤ t) (t9 : t ≤ 9) (hn : n < 20000) : allN (fun q => decide ((n + q) % 144 < 36) && decide ((n + q) / 144 = n / 144)) t = nightH (nI n) (nI t) := by
  have e : nI n - nI n / 144 * 144 = nI (n % 144) := pk_rem (d := 144) (by omega) (by omega) (by omega)
  have h3 : nightH (nI n) (nI t) = decide (n % 144 + t ≤ 36) := by
    unfold nightH
    rw [e, nI_add]
    exact decide_eq_decide.mpr (nI_le2 (b := 36) (by omega) (by omega))
  rw [h3]
  by_cases h : n % 144 + t ≤ 36
  · rw [decide_eq_true h]
    refine allN_t fun i hi => ?_
    rw [decide_eq_true (show (n + i) % 144 < 36 by omega), decide_eq_true (show (n + i) / 144 = n / 144 by omega)]
    rfl
  · rw [decide_eq_false h]
    by_cases h2 : n % 144 < 36
    · refine allN_f (j := 36 - n % 144) (by omega) ?_
      rw [decide_eq_false (show ¬ (n + (36 - n % 144)) % 144 < 36 by omega)]
      rfl
    · refine allN_f (j := 0) (by omega) ?_
      rw [decide_eq_false (show ¬ (n + 0) % 144 < 36 by omega)]
      rfl
/-- an embargo at some ten of a stretch -/
theorem emb_any {S : Sto} {au : Int32} {n t k : Nat} (hn : n < 20000) (ht : t ≤ 9) : anyN (fun q => decide (S.1 6 0 k = au ∧ S.1 9 0 k ≤ nI (n + q) ∧ nI (n + q) < S.1 9 1 k)) t = (embH S au (nI n) (nI (n + t)) k && anyN (fun q => decide (S.1 9 0 k ≤ nI (n + q) ∧ nI (n + q) < S.1 9 1 k)) t) := by
  by_cases h0 : S.1 6 0 k = au
  · cases hb : anyN (fun q => decide (S.1 9 0 k ≤ nI (n + q) ∧ nI (n + q) < S.1 9 1 k)) t with
    | false =>
      rw [Bool.and_false, ← hb]
      refine anyN_c fun i _ => decide_eq_decide.mpr ⟨fun z => z.2, fun z => ⟨h0, z⟩⟩
    | true =>
      have h1 : anyN (fun q => decide (S.1 6 0 k = au ∧ S.1 9 0 k ≤ nI (n + q) ∧ nI (n + q) < S.1 9 1 k)) t = true := by
        rw [← hb]
        exact anyN_c fun i _ => decide_eq_decide.mpr ⟨fun z => z.2, fun z => ⟨h0, z⟩⟩
      obtain ⟨q, hq, h2⟩ : ∃ q, q < t ∧ (S.1 9 0 k ≤ nI (n + q) ∧ nI (n + q) < S.1 9 1 k) := by
        refine Classical.byContradiction fun z => ?_
        have := anyN_f (p := fun q => decide (S.1 9 0 k ≤ nI (n + q) ∧ nI (n + q) < S.1 9 1 k)) (n := t) fun i hi => decide_eq_false fun y => z ⟨i, hi, y⟩
        rw [hb] at this
        cases this
      rw [h1, Bool.and_true]
      refine (decide_eq_true ⟨h0, Int32.lt_of_le_of_lt h2.1 ((nI_lt2 (by omega) (by omega)).mpr (by omega)), Int32.lt_of_le_of_lt ((nI_le2 (by omega) (by omega)).mpr (by omega)) h2.2⟩).symm
  · have h1 : embH S au (nI n) (nI (n + t)) k = false := decide_eq_false fun z => h0 z.1
    rw [h1, Bool.false_and]
    exact anyN_f fun i _ => decide_eq_false fun z => h0 z.1
theorem emb_ten {S : Sto} {au : Int32} {n t k : Nat} (hn : n < 20000) (ht : 1 ≤ t) (t9 : t ≤ 9) (hp : S.1 9 0 k < S.1 9 1 k) : anyN (fun q => decide (S.1 6 0 k = au ∧ S.1 9 0 k ≤ nI (n + q) ∧ nI (n + q) < S.1 9 1 k)) t = embH S au (nI n) (nI (n + t)) k := by
  rw [emb_any hn t9]
  cases he : embH S au (nI n) (nI (n + t)) k with
  | false => rfl
  | true =>
    have h1 : S.1 6 0 k = au ∧ S.1 9 0 k < nI (n + t) ∧ nI n < S.1 9 1 k := of_decide_eq_true he
    rw [Bool.true_and]
    obtain ⟨-, h2, h3⟩ := h1
    rw [Int32.lt_iff_toInt_lt, nI_toInt (by omega)] at h2 h3
    rw [Int32.lt_iff_toInt_lt] at hp
    by_cases hx : (S.1 9 0 k).toInt ≤ n
    · refine anyN_t (j := 0) (by omega) (decide_eq_true ?_)
      rw [Int32.le_iff_toInt_le, Int32.lt_iff_toInt_lt, nI_toInt (by omega)]
      omega
    · refine anyN_t (j := (S.1 9 0 k).toInt.toNat - n) (by omega) (decide_eq_true ?_)
      rw [Int32.le_iff_toInt_le, Int32.lt_iff_toInt_lt, nI_toInt (by omega)]
      omega
end
section
/-! WHY NOT, by the law: the walk -/
set_option maxRecDepth 8000 in
theorem vc_L_why : ∀ (G : Gt) (Q : Out → Sto → Prop) (as : List AV) (S : Sto), s_L_why as S Q → Seg tb_L_why G Q 1 0 [] (0, fun _ => 0) → G 0 (argL as 20) [] S 0 := by
  intro G Q as S h hs
  obtain ⟨r, d, t0, b, rfl, T, i, j, n, hI, rfl, hj, rfl, hi, rfl, hn, rfl, hQ⟩ := wy_ok h
  have va2 : vp_in ((10 : Int32) * nI i + 2) 60 := vA hI hi 2 (by decide)
  have a2 : S.1 10 3 ((10 : Int32) * nI i + 2).toNatClampNeg = S.1 2 2 i := aA hI hi 2 (by decide)
  have va3 : vp_in ((10 : Int32) * nI i + 3) 60 := vA hI hi 3 (by decide)
  have a3 : S.1 10 3 ((10 : Int32) * nI i + 3).toNatClampNeg = S.1 2 3 i := aA hI hi 3 (by decide)
  have va4 : vp_in ((10 : Int32) * nI i + 4) 60 := vA hI hi 4 (by decide)
  have a4 : S.1 10 3 ((10 : Int32) * nI i + 4).toNatClampNeg = S.1 2 4 i := aA hI hi 4 (by decide)
  have va5 : vp_in ((10 : Int32) * nI i + 5) 60 := vA hI hi 5 (by decide)
  have a5 : S.1 10 3 ((10 : Int32) * nI i + 5).toNatClampNeg = S.1 2 5 i := aA hI hi 5 (by decide)
  have va6 : vp_in ((10 : Int32) * nI i + 6) 60 := vA hI hi 6 (by decide)
  have a6 : S.1 10 3 ((10 : Int32) * nI i + 6).toNatClampNeg = S.1 2 6 i := aA hI hi 6 (by decide)
  have vg3 : vp_in ((14 : Int32) * nI j + 3) 28 := vG hI hj 3 (by decide)
  have g3 : S.1 10 5 ((14 : Int32) * nI j + 3).toNatClampNeg = S.1 4 2 j := aG hI hj 3 (by decide)
  have vg4 : vp_in ((14 : Int32) * nI j + 4) 28 := vG hI hj 4 (by decide)
  have g4 : S.1 10 5 ((14 : Int32) * nI j + 4).toNatClampNeg = S.1 4 3 j := aG hI hj 4 (by decide)
  have vg5 : vp_in ((14 : Int32) * nI j + 5) 28 := vG hI hj 5 (by decide)
  have g5 : S.1 10 5 ((14 : Int32) * nI j + 5).toNatClampNeg = S.1 4 4 j := aG hI hj 5 (by decide)
  obtain ⟨p, q, au, t, s, -, -, eau, et, -, -, -, -, au4, t1, t9, -⟩ := hI.wf.2.2.2.2.2.2.1 i (hI.i20 hi)
  have hn21 := hI.n.2.2.1
  have hn23 := hI.n.2.2.2.1
  have hn24 := hI.n.2.2.2.2
  obtain ⟨-, -, m2, m3, m4⟩ := hI.mm
  have vm2 : vp_in (2 : Int32) 5 := nI_vin (a := 2) (by omega) (by decide)
  have vm3 : vp_in (3 : Int32) 5 := nI_vin (a := 3) (by omega) (by decide)
  have vm4 : vp_in (4 : Int32) 5 := nI_vin (a := 4) (by omega) (by decide)
  have em2 : S.1 10 9 (2 : Int32).toNatClampNeg = nI (S.2.2 21) := m2
  have em3 : S.1 10 9 (3 : Int32).toNatClampNeg = nI (S.2.2 23) := m3
  have em4 : S.1 10 9 (4 : Int32).toNatClampNeg = nI (S.2.2 24) := m4
  have eov : nI n + S.1 2 6 i = nI (n + t) := by rw [et, nI_add]
  -- the end
  obtain ⟨pm, hpm⟩ : ∃ pm, pm = anyN (permH S (nI j) (S.1 2 2 i) (nI n) (nI (n + t))) (S.2.2 23) := ⟨_, rfl⟩
  obtain ⟨em, hem⟩ : ∃ em, em = anyN (embH S (S.1 2 2 i) (nI n) (nI (n + t))) (S.2.2 24) := ⟨_, rfl⟩
  obtain ⟨gw, hgw⟩ : ∃ gw, gw = gainH S (nI i) 0 (nI n) (nI (n + t)) (S.2.2 21) := ⟨_, rfl⟩
  obtain ⟨gh, hgh⟩ : ∃ gh, gh = gainH S (nI i) 1 (nI n) (nI (n + t)) (S.2.2 21) := ⟨_, rfl⟩
  have hlast : ∀ x15 x16 x17 x18 x19, x15 = some (aI (bV pm)) → x16 = some (aI (bV em)) → x17 = some (aI (heavH S j)) → x18 = some (aI (bV (nightH (nI n) (nI t)))) → G 411 [some (aR 10 3), some (aR 10 4), some (aR 10 5), some (aR 10 6), some (aR 10 7), some (aR 10 8), some (aR 10 9), some (aI (nI j)), some (aI (nI i)), some (aI (nI n)), some (aI (bV (borneH S i j))), some (aI ((10 : Int32) * nI i)), some (aI (nI (n + t))), some (aI gw), some (aI gh), x15, x16, x17, x18, x19] [] S 0 := by
    intro x15 x16 x17 x18 x19 e15 e16 e17 e18
    subst e15 e16 e17 e18
    have hR : reasonH S (nI j) (nI i) (nI n) = if S.1 2 3 i + gw < S.1 4 3 j then 1 else if S.1 2 4 i + gh < S.1 4 4 j then 2 else if S.1 2 5 i < S.1 4 2 j then 3 else if borneH S i j = true then (if S.1 10 1 au < heavH S j then 5 else if pm = true then (if em = true then 7 else if nightH (nI n) (nI t) = true then 0 else 8) else 6) else 4 := by
      unfold reasonH
      rw [nI_cl (show j < 2 ^ 31 by omega), nI_cl (show i < 2 ^ 31 by omega)]
      unfold sizeH gwH
      rw [eov, ← hgw, ← hgh]
      by_cases c1 : S.1 2 3 i + gw < S.1 4 3 j
      · rw [if_pos c1, if_pos c1, if_neg (by decide)]
      · rw [if_neg c1, if_neg c1]
        by_cases c2 : S.1 2 4 i + gh < S.1 4 4 j
        · rw [if_pos c2, if_pos c2, if_neg (by decide)]
        · rw [if_neg c2, if_neg c2, if_pos rfl]
          unfold lastH
          rw [eau, nI_cl (show au < 2 ^ 31 by omega)]
          by_cases c3 : S.1 2 5 i < S.1 4 2 j
          · rw [if_pos c3, if_pos c3, if_neg (by decide)]
          · rw [if_neg c3, if_neg c3]
            by_cases c4 : borneH S i j = true
            · rw [if_pos c4, if_pos c4]
              by_cases c5 : S.1 10 1 au < heavH S j
              · rw [if_pos c5, if_pos c5, if_neg (by decide)]
              · rw [if_neg c5, if_neg c5, if_pos rfl]
                unfold leaveH
                rw [eov, ← hpm, ← hem, et]
            · rw [if_neg c4, if_neg c4, if_neg (by decide)]
    rw [hR] at hQ
    have v4 : vp_in ((4 : Int32) + S.1 2 2 i) 8 := by
      rw [eau]
      show vp_in (nI 4 + nI au) 8
      rw [nI_add]
      exact nI_vin (by omega) (by omega)
    have e4 : S.1 10 8 ((4 : Int32) + S.1 2 2 i).toNatClampNeg = S.1 10 1 au := by
      rw [eau]
      show S.1 10 8 (nI 4 + nI au).toNatClampNeg = _
      rw [nI_add, nI_cl (by omega)]
      exact (hI.au au au4).2.1
    refine hs [] 120 411 _ _ _ _ ?_
    refine ⟨vg4, va3, ?_⟩
    rw [g4, a3]
    refine ⟨fun c1 => ⟨vg5, va4, ?_⟩, fun c1 => ?_⟩
    · rw [if_neg (Int32.not_lt.mpr c1)] at hQ
      rw [g5, a4]
      refine ⟨fun c2 => ⟨vg3, va5, ?_⟩, fun c2 => ?_⟩
      · rw [if_neg (Int32.not_lt.mpr c2)] at hQ
        rw [g3, a5]
        refine ⟨fun c3 => ⟨fun c4 => ⟨va2, ?_⟩, fun c4 => ?_⟩, fun c3 => ?_⟩
        · rw [if_neg (Int32.not_lt.mpr c3)] at hQ
          have c4' : borneH S i j = true := by
            cases hb : borneH S i j with
            | true => rfl
            | false =>
              rw [hb] at c4
              exact absurd rfl c4
          rw [if_pos c4'] at hQ
          rw [a2]
          refine ⟨v4, ?_⟩
          rw [e4]
          refine ⟨fun c5 => ?_, fun c5 => ?_⟩
          · rw [if_neg (Int32.not_lt.mpr c5)] at hQ
            cases pm with
            | false =>
              rw [if_neg (by decide)] at hQ
              exact ⟨fun z => absurd rfl z, fun _ => hQ⟩
            | true =>
              rw [if_pos rfl] at hQ
              refine ⟨fun _ => ?_, fun z => absurd z (by decide)⟩
              cases em with
              | true =>
                rw [if_pos rfl] at hQ
                exact ⟨fun z => absurd z (by decide), fun _ => hQ⟩
              | false =>
                rw [if_neg (by decide)] at hQ
                refine ⟨fun _ => ?_, fun z => absurd rfl z⟩
                cases hng : nightH (nI n) (nI t) with
                | true =>
                  rw [hng, if_pos rfl] at hQ
                  exact ⟨fun z => absurd z (by decide), fun _ => hQ⟩
                | false =>
                  rw [hng, if_neg (by decide)] at hQ
                  exact ⟨fun _ => hQ, fun z => absurd rfl z⟩
          · rw [if_pos (Int32.not_le.mp c5)] at hQ
            exact hQ
        · rw [if_neg (Int32.not_lt.mpr c3)] at hQ
          have c4' : ¬ borneH S i j = true := fun z => by
            rw [z] at c4
            exact absurd c4 (by decide)
          rw [if_neg c4'] at hQ
          exact hQ
        · rw [if_pos (Int32.not_le.mp c3)] at hQ
          exact hQ
      · rw [if_pos (Int32.not_le.mp c2)] at hQ
        exact hQ
    · rw [if_pos (Int32.not_le.mp c1)] at hQ
      exact hQ
  -- the night
  have eq144 : ∀ a, a < 2 ^ 31 → nI a - nI a / 144 * 144 = nI (a % 144) := fun a ha => pk_rem (d := 144) ha (by omega) (by omega)
  have ed144 : ∀ a, a < 2 ^ 31 → nI a / 144 = nI (a / 144) := fun a ha => pk_div (d := 144) ha (by omega) (by omega)
  have g360 : ∀ m q, q + m = t → ∀ x19, x19 = some (aI (nI (n + q))) → G 360 [some (aR 10 3), some (aR 10 4), some (aR 10 5), some (aR 10 6), some (aR 10 7), some (aR 10 8), some (aR 10 9), some (aI (nI j)), some (aI (nI i)), some (aI (nI n)), some (aI (bV (borneH S i j))), some (aI ((10 : Int32) * nI i)), some (aI (nI (n + t))), some (aI gw), some (aI gh), some (aI (bV pm)), some (aI (bV em)), some (aI (heavH S j)), some (aI (bV (allN (fun q => decide ((n + q) % 144 < 36) && decide ((n + q) / 144 = n / 144)) q))), x19] [] S 0 := by
    intro m
    induction m with
    | zero =>
      intro q hq x19 e19
      obtain rfl : q = t := hq
      subst e19
      rw [night_all t1 t9 hn]
      refine hs [360, 411] 120 360 _ _ _ _ ?_
      exact ⟨fun _ => hlast _ _ _ _ _ rfl rfl rfl rfl, fun z => (lp_end z).elim⟩
    | succ m ih =>
      intro q hq x19 e19
      subst e19
      have hb := ih (q + 1) (by omega) (some (aI (nI (n + q) + 1))) (by rw [nI_s]; rfl)
      have hs1 : allN (fun q => decide ((n + q) % 144 < 36) && decide ((n + q) / 144 = n / 144)) (q + 1) = (allN (fun q => decide ((n + q) % 144 < 36) && decide ((n + q) / 144 = n / 144)) q && (decide ((n + q) % 144 < 36) && decide ((n + q) / 144 = n / 144))) := rfl
      rw [hs1] at hb
      refine hs [360, 411] 120 360 _ _ _ _ ?_
      refine ⟨fun z => absurd ((nI_le2 (by omega) (by omega)).mp z) (by omega), fun _ => ?_⟩
      cases ha : allN (fun q => decide ((n + q) % 144 < 36) && decide ((n + q) / 144 = n / 144)) q with
      | false =>
        rw [ha, Bool.false_and] at hb
        exact ⟨fun _ => hb, fun z => absurd rfl z⟩
      | true =>
        rw [ha, Bool.true_and] at hb
        refine ⟨fun z => absurd z (by decide), fun _ => ⟨rem144 0, ?_⟩⟩
        rw [eq144 (n + q) (by omega)]
        refine ⟨fun z => ?_, fun z => ⟨rem144 0, rem144 0, ?_⟩⟩
        · have z' := (nI_le2 (a := 36) (by omega) (by omega)).mp z
          rw [decide_eq_false (show ¬ (n + q) % 144 < 36 by omega), Bool.false_and] at hb
          exact hb
        · have z' : (n + q) % 144 < 36 := Nat.not_le.mp fun y => z ((nI_le2 (a := 36) (by omega) (by omega)).mpr y)
          rw [decide_eq_true z', Bool.true_and] at hb
          rw [ed144 (n + q) (by omega), ed144 n (by omega)]
          refine ⟨fun y => ?_, fun y => ?_⟩
          · rw [decide_eq_false fun w => y (by rw [w])] at hb
            exact hb
          · rw [decide_eq_true ((nI_eq (by omega) (by omega)).mp y)] at hb
            exact hb
  -- the axles
  have g317 : ∀ x17 x18, G 317 [some (aR 10 3), some (aR 10 4), some (aR 10 5), some (aR 10 6), some (aR 10 7), some (aR 10 8), some (aR 10 9), some (aI (nI j)), some (aI (nI i)), some (aI (nI n)), some (aI (bV (borneH S i j))), some (aI ((10 : Int32) * nI i)), some (aI (nI (n + t))), some (aI gw), some (aI gh), some (aI (bV pm)), some (aI (bV em)), x17, x18, none] [] S 0 := by
    intro x17 x18
    have g351 : G 351 [some (aR 10 3), some (aR 10 4), some (aR 10 5), some (aR 10 6), some (aR 10 7), some (aR 10 8), some (aR 10 9), some (aI (nI j)), some (aI (nI i)), some (aI (nI n)), some (aI (bV (borneH S i j))), some (aI ((10 : Int32) * nI i)), some (aI (nI (n + t))), some (aI gw), some (aI gh), some (aI (bV pm)), some (aI (bV em)), x17, x18, none] [aI (heavH S j)] S 0 := by
      refine hs [360] 120 351 _ _ _ _ ?_
      exact g360 t 0 (by omega) _ rfl
    refine hs [351] 120 317 _ _ _ _ ?_
    refine ⟨rfl, rfl, T, j, hI, rfl, hj, rfl, rfl, T, j, hI, rfl, hj, fun z => ⟨rfl, rfl, T, j, hI, rfl, hj, ?_⟩, fun z => ⟨rfl, rfl, T, j, hI, rfl, hj, ?_⟩⟩
    · have z' : S.1 4 6 j ≤ S.1 4 7 j := z
      have e : heavH S j = S.1 4 7 j := by
        unfold heavH
        by_cases y : S.1 4 6 j < S.1 4 7 j
        · rw [if_pos y]
        · rw [if_neg y]
          exact Int32.le_antisymm z' (Int32.not_lt.mp y)
      rw [e] at g351
      exact g351
    · have z' : ¬ S.1 4 6 j ≤ S.1 4 7 j := z
      have e : heavH S j = S.1 4 6 j := if_neg fun y => z' (Int32.le_of_lt y)
      rw [e] at g351
      exact g351
  -- the embargoes
  have g229 : ∀ m k, k + m = S.2.2 24 → ∀ x18, G 229 [some (aR 10 3), some (aR 10 4), some (aR 10 5), some (aR 10 6), some (aR 10 7), some (aR 10 8), some (aR 10 9), some (aI (nI j)), some (aI (nI i)), some (aI (nI n)), some (aI (bV (borneH S i j))), some (aI ((10 : Int32) * nI i)), some (aI (nI (n + t))), some (aI gw), some (aI gh), some (aI (bV pm)), some (aI (bV (anyN (embH S (S.1 2 2 i) (nI n) (nI (n + t))) k))), some (aI (nI k)), x18, none] [] S 0 := by
    intro m
    induction m with
    | zero =>
      intro k hk x18
      obtain rfl : k = S.2.2 24 := hk
      rw [← hem]
      refine hs [229, 317] 120 229 _ _ _ _ ?_
      refine ⟨vm4, ?_⟩
      rw [em4]
      exact ⟨fun _ => g317 _ _, fun z => (lp_end z).elim⟩
    | succ m ih =>
      intro k hk x18
      have hk2 : k < S.2.2 24 := by omega
      have ve0 : vp_in ((3 : Int32) * nI k) 9 := vE0 hI hk2
      have e0 : S.1 10 7 ((3 : Int32) * nI k).toNatClampNeg = S.1 6 0 k := aE0 hI hk2
      have ve1 : vp_in ((3 : Int32) * nI k + 1) 9 := vE hI hk2 1 (by decide)
      have e1 : S.1 10 7 ((3 : Int32) * nI k + 1).toNatClampNeg = S.1 9 0 k := aE hI hk2 1 (by decide)
      have ve2 : vp_in ((3 : Int32) * nI k + 2) 9 := vE hI hk2 2 (by decide)
      have e2 : S.1 10 7 ((3 : Int32) * nI k + 2).toNatClampNeg = S.1 9 1 k := aE hI hk2 2 (by decide)
      have hpos : S.1 9 0 k < S.1 9 1 k := (hI.em k hk2).2.2.2
      have g242 : ∀ m2 q, q + m2 = t → ∀ y18, y18 = some (aI (nI (n + q))) → G 242 [some (aR 10 3), some (aR 10 4), some (aR 10 5), some (aR 10 6), some (aR 10 7), some (aR 10 8), some (aR 10 9), some (aI (nI j)), some (aI (nI i)), some (aI (nI n)), some (aI (bV (borneH S i j))), some (aI ((10 : Int32) * nI i)), some (aI (nI (n + t))), some (aI gw), some (aI gh), some (aI (bV pm)), some (aI (bV (anyN (embH S (S.1 2 2 i) (nI n) (nI (n + t))) k || anyN (fun q => decide (S.1 6 0 k = S.1 2 2 i ∧ S.1 9 0 k ≤ nI (n + q) ∧ nI (n + q) < S.1 9 1 k)) q))), some (aI (nI k)), y18, none] [] S 0 := by
        intro m2
        induction m2 with
        | zero =>
          intro q hq y18 e18
          obtain rfl : q = t := hq
          subst e18
          rw [emb_ten hn t1 t9 hpos]
          have h1 := ih (k + 1) (by omega) (some (aI (nI (n + q))))
          rw [← nI_s] at h1
          refine hs [229, 242] 120 242 _ _ _ _ ?_
          exact ⟨fun _ => h1, fun z => (lp_end z).elim⟩
        | succ m2 ih2 =>
          intro q hq y18 e18
          subst e18
          have h1 := ih2 (q + 1) (by omega) (some (aI (nI (n + q) + 1))) (by rw [nI_s]; rfl)
          have hs1 : anyN (fun q => decide (S.1 6 0 k = S.1 2 2 i ∧ S.1 9 0 k ≤ nI (n + q) ∧ nI (n + q) < S.1 9 1 k)) (q + 1) = (anyN (fun q => decide (S.1 6 0 k = S.1 2 2 i ∧ S.1 9 0 k ≤ nI (n + q) ∧ nI (n + q) < S.1 9 1 k)) q || decide (S.1 6 0 k = S.1 2 2 i ∧ S.1 9 0 k ≤ nI (n + q) ∧ nI (n + q) < S.1 9 1 k)) := rfl
          rw [hs1, ← Bool.or_assoc] at h1
          refine hs [229, 242] 120 242 _ _ _ _ ?_
          refine ⟨fun z => absurd ((nI_le2 (by omega) (by omega)).mp z) (by omega), fun _ => ?_⟩
          cases ha : (anyN (embH S (S.1 2 2 i) (nI n) (nI (n + t))) k || anyN (fun q => decide (S.1 6 0 k = S.1 2 2 i ∧ S.1 9 0 k ≤ nI (n + q) ∧ nI (n + q) < S.1 9 1 k)) q) with
          | true =>
            rw [ha, Bool.true_or] at h1
            exact ⟨fun _ => h1, fun z => absurd z (by decide)⟩
          | false =>
            rw [ha, Bool.false_or] at h1
            have no : ¬ (S.1 6 0 k = S.1 2 2 i ∧ S.1 9 0 k ≤ nI (n + q) ∧ nI (n + q) < S.1 9 1 k) → G 242 [some (aR 10 3), some (aR 10 4), some (aR 10 5), some (aR 10 6), some (aR 10 7), some (aR 10 8), some (aR 10 9), some (aI (nI j)), some (aI (nI i)), some (aI (nI n)), some (aI (bV (borneH S i j))), some (aI ((10 : Int32) * nI i)), some (aI (nI (n + t))), some (aI gw), some (aI gh), some (aI (bV pm)), some (aI 0), some (aI (nI k)), some (aI (nI (n + q) + 1)), none] [] S 0 := fun z => by
              rw [decide_eq_false z] at h1
              exact h1
            refine ⟨fun z => absurd rfl z, fun _ => ⟨ve0, va2, ?_⟩⟩
            rw [e0, a2]
            refine ⟨fun z => no fun y => z y.1, fun z0 => ⟨ve1, ?_⟩⟩
            rw [e1]
            refine ⟨fun z => no fun y => absurd y.2.1 (Int32.not_le.mpr z), fun z1 => ⟨ve2, ?_⟩⟩
            rw [e2]
            refine ⟨fun z => no fun y => absurd y.2.2 (Int32.not_lt.mpr z), fun z2 => ?_⟩
            rw [decide_eq_true ⟨z0, Int32.not_lt.mp z1, Int32.not_le.mp z2⟩] at h1
            exact h1
      have h0 := g242 t 0 (by omega) _ rfl
      refine hs [242] 120 229 _ _ _ _ ?_
      refine ⟨vm4, ?_⟩
      rw [em4]
      refine ⟨fun z => absurd z (lp_go (by omega) hk2), fun _ => ?_⟩
      have hz : anyN (fun q => decide (S.1 6 0 k = S.1 2 2 i ∧ S.1 9 0 k ≤ nI (n + q) ∧ nI (n + q) < S.1 9 1 k)) 0 = false := rfl
      rw [hz, Bool.or_false] at h0
      exact h0
  -- the permits
  have g142 : ∀ m k, k + m = S.2.2 23 → G 142 [some (aR 10 3), some (aR 10 4), some (aR 10 5), some (aR 10 6), some (aR 10 7), some (aR 10 8), some (aR 10 9), some (aI (nI j)), some (aI (nI i)), some (aI (nI n)), some (aI (bV (borneH S i j))), some (aI ((10 : Int32) * nI i)), some (aI (nI (n + t))), some (aI gw), some (aI gh), some (aI (bV (anyN (permH S (nI j) (S.1 2 2 i) (nI n) (nI (n + t))) k))), some (aI (nI k)), none, none, none] [] S 0 := by
    intro m
    induction m with
    | zero =>
      intro k hk
      obtain rfl : k = S.2.2 23 := hk
      rw [← hpm]
      refine hs [142, 229] 120 142 _ _ _ _ ?_
      refine ⟨vm3, ?_⟩
      rw [em3]
      exact ⟨fun _ => g229 (S.2.2 24) 0 (by omega) none, fun z => (lp_end z).elim⟩
    | succ m ih =>
      intro k hk
      have hk2 : k < S.2.2 23 := by omega
      have vp0 : vp_in ((4 : Int32) * nI k) 48 := vP0 hI hk2
      have p0 : S.1 10 6 ((4 : Int32) * nI k).toNatClampNeg = S.1 5 0 k := aP0 hI hk2
      have vp1 : vp_in ((4 : Int32) * nI k + 1) 48 := vP hI hk2 1 (by decide)
      have p1 : S.1 10 6 ((4 : Int32) * nI k + 1).toNatClampNeg = S.1 5 1 k := aP hI hk2 1 (by decide)
      have vp2 : vp_in ((4 : Int32) * nI k + 2) 48 := vP hI hk2 2 (by decide)
      have p2 : S.1 10 6 ((4 : Int32) * nI k + 2).toNatClampNeg = S.1 8 0 k := aP hI hk2 2 (by decide)
      have vp3 : vp_in ((4 : Int32) * nI k + 3) 48 := vP hI hk2 3 (by decide)
      have p3 : S.1 10 6 ((4 : Int32) * nI k + 3).toNatClampNeg = S.1 8 1 k := aP hI hk2 3 (by decide)
      have h1 := ih (k + 1) (by omega)
      rw [← nI_s] at h1
      have hs1 : anyN (permH S (nI j) (S.1 2 2 i) (nI n) (nI (n + t))) (k + 1) = (anyN (permH S (nI j) (S.1 2 2 i) (nI n) (nI (n + t))) k || permH S (nI j) (S.1 2 2 i) (nI n) (nI (n + t)) k) := rfl
      rw [hs1] at h1
      refine hs [142] 120 142 _ _ _ _ ?_
      refine ⟨vm3, ?_⟩
      rw [em3]
      refine ⟨fun z => absurd z (lp_go (by omega) hk2), fun _ => ?_⟩
      cases ha : anyN (permH S (nI j) (S.1 2 2 i) (nI n) (nI (n + t))) k with
      | true =>
        rw [ha, Bool.true_or] at h1
        exact ⟨fun _ => h1, fun z => absurd z (by decide)⟩
      | false =>
        rw [ha, Bool.false_or] at h1
        have no : ¬ (S.1 5 0 k = nI j ∧ S.1 5 1 k = S.1 2 2 i ∧ S.1 8 0 k ≤ nI n ∧ nI (n + t) ≤ S.1 8 1 k) → G 142 [some (aR 10 3), some (aR 10 4), some (aR 10 5), some (aR 10 6), some (aR 10 7), some (aR 10 8), some (aR 10 9), some (aI (nI j)), some (aI (nI i)), some (aI (nI n)), some (aI (bV (borneH S i j))), some (aI ((10 : Int32) * nI i)), some (aI (nI (n + t))), some (aI gw), some (aI gh), some (aI 0), some (aI (nI k + 1)), none, none, none] [] S 0 := fun z => by
          have e : permH S (nI j) (S.1 2 2 i) (nI n) (nI (n + t)) k = false := decide_eq_false z
          rw [e] at h1
          exact h1
        refine ⟨fun z => absurd rfl z, fun _ => ⟨vp0, ?_⟩⟩
        rw [p0]
        refine ⟨fun z => no fun y => z y.1, fun z0 => ⟨vp1, va2, ?_⟩⟩
        rw [p1, a2]
        refine ⟨fun z => no fun y => z y.2.1, fun z1 => ⟨vp2, ?_⟩⟩
        rw [p2]
        refine ⟨fun z => no fun y => absurd y.2.2.1 (Int32.not_le.mpr z), fun z2 => ⟨vp3, ?_⟩⟩
        rw [p3]
        refine ⟨fun z => no fun y => absurd y.2.2.2 (Int32.not_le.mpr z), fun z3 => ?_⟩
        have e : permH S (nI j) (S.1 2 2 i) (nI n) (nI (n + t)) k = true := decide_eq_true ⟨z0, z1, Int32.not_lt.mp z2, Int32.not_lt.mp z3⟩
        rw [e] at h1
        exact h1
  -- the works
  have g28 : ∀ m k, k + m = S.2.2 21 → G 28 [some (aR 10 3), some (aR 10 4), some (aR 10 5), some (aR 10 6), some (aR 10 7), some (aR 10 8), some (aR 10 9), some (aI (nI j)), some (aI (nI i)), some (aI (nI n)), some (aI (bV (borneH S i j))), some (aI ((10 : Int32) * nI i)), some (aI (nI (n + t))), some (aI (gainH S (nI i) 0 (nI n) (nI (n + t)) k)), some (aI (gainH S (nI i) 1 (nI n) (nI (n + t)) k)), some (aI (nI k)), none, none, none, none] [] S 0 := by
    intro m
    induction m with
    | zero =>
      intro k hk
      obtain rfl : k = S.2.2 21 := hk
      rw [← hgw, ← hgh]
      refine hs [28, 142] 120 28 _ _ _ _ ?_
      refine ⟨vm2, ?_⟩
      rw [em2]
      exact ⟨fun _ => g142 (S.2.2 23) 0 (by omega), fun z => (lp_end z).elim⟩
    | succ m ih =>
      intro k hk
      have hk2 : k < S.2.2 21 := by omega
      have vw0 : vp_in ((5 : Int32) * nI k) 30 := vW0 hI hk2
      have w0 : S.1 10 4 ((5 : Int32) * nI k).toNatClampNeg = S.1 3 0 k := aW0 hI hk2
      have vw1 : vp_in ((5 : Int32) * nI k + 1) 30 := vW hI hk2 1 (by decide)
      have w1 : S.1 10 4 ((5 : Int32) * nI k + 1).toNatClampNeg = S.1 3 1 k := aW hI hk2 1 (by decide)
      have vw2 : vp_in ((5 : Int32) * nI k + 2) 30 := vW hI hk2 2 (by decide)
      have w2 : S.1 10 4 ((5 : Int32) * nI k + 2).toNatClampNeg = S.1 3 2 k := aW hI hk2 2 (by decide)
      have vw3 : vp_in ((5 : Int32) * nI k + 3) 30 := vW hI hk2 3 (by decide)
      have w3 : S.1 10 4 ((5 : Int32) * nI k + 3).toNatClampNeg = S.1 7 0 k := aW hI hk2 3 (by decide)
      have vw4 : vp_in ((5 : Int32) * nI k + 4) 30 := vW hI hk2 4 (by decide)
      have w4 : S.1 10 4 ((5 : Int32) * nI k + 4).toNatClampNeg = S.1 7 1 k := aW hI hk2 4 (by decide)
      have h1 := ih (k + 1) (by omega)
      rw [← nI_s] at h1
      have no : ¬ (S.1 3 0 k = nI i ∧ S.1 7 0 k ≤ nI n ∧ nI (n + t) ≤ S.1 7 1 k) → G 28 [some (aR 10 3), some (aR 10 4), some (aR 10 5), some (aR 10 6), some (aR 10 7), some (aR 10 8), some (aR 10 9), some (aI (nI j)), some (aI (nI i)), some (aI (nI n)), some (aI (bV (borneH S i j))), some (aI ((10 : Int32) * nI i)), some (aI (nI (n + t))), some (aI (gainH S (nI i) 0 (nI n) (nI (n + t)) k)), some (aI (gainH S (nI i) 1 (nI n) (nI (n + t)) k)), some (aI (nI k + 1)), none, none, none, none] [] S 0 := fun z => by
        have e : ∀ x, gainH S (nI i) x (nI n) (nI (n + t)) (k + 1) = gainH S (nI i) x (nI n) (nI (n + t)) k := fun x => if_neg z
        rw [e, e] at h1
        exact h1
      refine hs [28] 120 28 _ _ _ _ ?_
      refine ⟨vm2, ?_⟩
      rw [em2]
      refine ⟨fun z => absurd z (lp_go (by omega) hk2), fun _ => ⟨vw0, ?_⟩⟩
      rw [w0]
      refine ⟨fun z => no fun y => z y.1, fun z0 => ⟨vw3, ?_⟩⟩
      rw [w3]
      refine ⟨fun z => no fun y => absurd y.2.1 (Int32.not_le.mpr z), fun z3 => ⟨vw4, ?_⟩⟩
      rw [w4]
      refine ⟨fun z => no fun y => absurd y.2.2 (Int32.not_le.mpr z), fun z4 => ⟨vw1, ?_⟩⟩
      have hc : S.1 3 0 k = nI i ∧ S.1 7 0 k ≤ nI n ∧ nI (n + t) ≤ S.1 7 1 k := ⟨z0, Int32.not_lt.mp z3, Int32.not_lt.mp z4⟩
      have q0 := gainH_s (isH := 0) hc (vl := S.1 3 1) (if_pos rfl)
      have q1 := gainH_s (isH := 1) hc (vl := S.1 3 2) (if_neg (by decide))
      rw [← q0, ← q1] at h1
      rw [w1]
      refine ⟨fun c0 => ⟨vw2, ?_⟩, fun c0 => ⟨vw1, vw2, ?_⟩⟩
      · rw [if_neg (Int32.not_lt.mpr c0)] at h1
        rw [w2]
        refine ⟨fun c1 => ?_, fun c1 => ⟨vw2, ?_⟩⟩
        · rw [if_neg (Int32.not_lt.mpr c1)] at h1
          exact h1
        · rw [if_pos (Int32.not_le.mp c1)] at h1
          rw [w2]
          exact h1
      · rw [if_pos (Int32.not_le.mp c0)] at h1
        rw [w1, w2]
        refine ⟨fun c1 => ?_, fun c1 => ⟨vw2, ?_⟩⟩
        · rw [if_neg (Int32.not_lt.mpr c1)] at h1
          exact h1
        · rw [if_pos (Int32.not_le.mp c1)] at h1
          rw [w2]
          exact h1
  have h0 := g28 (S.2.2 21) 0 (by omega)
  rw [← eov] at h0
  refine hs [28] 120 0 _ _ _ _ ?_
  refine ⟨va6, ?_⟩
  rw [a6]
  exact h0
theorem ct_L_why {l : Launch} (hl : l.stackTraces = false) (hNL : NewL l) : CT l yL_why cL_why 20 (some .int) 1 0 s_L_why := CT_of hl hNL (by decide +kernel) (own := "HeavyHaulLaw") rfl (ini := false) (fun q => nomatch q) chk_L_why (cal_L_why hl hNL) ar_L_why vc_L_why
end
section
/-! BITS OF LONGS; the places for each ten, by the law's loops -/
theorem leave_night {S : Sto} {i : Nat} {rig t : Int32} (h : leaveH S i rig t = 0) : nightH t (S.1 2 6 i) = true := by
  unfold leaveH at h
  by_cases h1 : anyN (permH S rig (S.1 2 2 i) t (t + S.1 2 6 i)) (S.2.2 23) = true
  · rw [if_pos h1] at h
    by_cases h2 : anyN (embH S (S.1 2 2 i) t (t + S.1 2 6 i)) (S.2.2 24) = true
    · rw [if_pos h2] at h
      exact absurd h (by decide)
    · rw [if_neg h2] at h
      by_cases h3 : nightH t (S.1 2 6 i) = true
      · exact h3
      · rw [if_neg h3] at h
        exact absurd h (by decide)
  · rw [if_neg h1] at h
    exact absurd h (by decide)
theorem reason_open (S : Sto) (r d t : Int32) : reasonH S r d t = 0 ↔ (fitH S r.toNatClampNeg d.toNatClampNeg && openH S r d t) = true := by
  unfold reasonH fitH openH
  by_cases h1 : sizeH S r.toNatClampNeg d.toNatClampNeg d t = 0
  · by_cases h2 : lastH S r.toNatClampNeg d.toNatClampNeg = 0
    · rw [if_pos h1, if_pos h2, decide_eq_true h1, decide_eq_true h2]
      constructor
      · intro h
        rw [leave_night h, decide_eq_true h]
        rfl
      · intro h
        simp only [Bool.true_and, Bool.and_eq_true, decide_eq_true_eq] at h
        exact h.2
    · rw [if_pos h1, if_neg h2, decide_eq_false h2]
      constructor
      · intro h
        exact absurd h h2
      · intro h
        cases h
  · rw [if_neg h1, decide_eq_false h1]
    constructor
    · intro h
      exact absurd h h1
    · intro h
      simp at h
theorem lsh_sm : ∀ p, p < 64 → (((nI p).toInt64 &&& 63).toBitVec.smod 64).toNat = p := by decide +kernel
theorem lbit_1 : ∀ p, p < 64 → ∀ q, q < 64 → ((1 : Int64) <<< ((nI p).toInt64 &&& 63)).toBitVec.getLsbD q = decide (q = p) := by decide +kernel
theorem lbit_one : ∀ q, q < 64 → (1 : Int64).toBitVec.getLsbD q = decide (q = 0) := by decide +kernel
theorem t_lbit (w : Int64) (p : Nat) (hp : p < 64) : (w >>> ((nI p).toInt64 &&& 63)) &&& 1 = 1 ↔ w.toBitVec.getLsbD p = true := by
  have h : (((nI p).toInt64 &&& 63).toBitVec.smod 64).toNat = p := lsh_sm p hp
  rw [← Int64.toBitVec_inj, Int64.toBitVec_and, Int64.toBitVec_shiftRight]
  unfold BitVec.sshiftRight'
  rw [h]
  show w.toBitVec.sshiftRight p &&& 1#64 = 1#64 ↔ _
  rw [BitVec.and_one_eq_setWidth_ofBool_getLsbD, BitVec.getLsbD_sshiftRight]
  have h2 : (!decide (64 ≤ 0) && (if p + 0 < 64 then w.toBitVec.getLsbD (p + 0) else w.toBitVec.msb)) = w.toBitVec.getLsbD p := by
    rw [if_pos (by omega)]
    simp
  rw [h2]
  cases w.toBitVec.getLsbD p <;> decide
def lb (D : Nat → Int64) (g p : Nat) : Bool := (D (5 * p + g / 64)).toBitVec.getLsbD (g % 64)
def setD (D : Nat → Int64) (g p : Nat) : Nat → Int64 := fun y => if y = 5 * p + g / 64 then D (5 * p + g / 64) ||| (1 : Int64) <<< ((nI (g % 64)).toInt64 &&& 63) else D y
theorem lb_set {D : Nat → Int64} {g p g' p' : Nat} (hg : g < 320) (hg' : g' < 320) : lb (setD D g p) g' p' = (lb D g' p' || (decide (g' = g) && decide (p' = p))) := by
  unfold lb setD
  by_cases h : 5 * p' + g' / 64 = 5 * p + g / 64
  · have hp : p' = p := by omega
    have hq : g' / 64 = g / 64 := by omega
    rw [if_pos h, Int64.toBitVec_or, BitVec.getLsbD_or, lbit_1 _ (Nat.mod_lt _ (by omega)) _ (Nat.mod_lt _ (by omega)), h, decide_eq_true hp, Bool.and_true]
    congr 1
    exact decide_eq_decide.mpr ⟨fun z => by omega, fun z => by rw [z]⟩
  · rw [if_neg h]
    have : (decide (g' = g) && decide (p' = p)) = false := by
      by_cases e : g' = g
      · by_cases e2 : p' = p
        · exact absurd (by rw [e, e2]) h
        · rw [decide_eq_false e2, Bool.and_false]
      · rw [decide_eq_false e, Bool.false_and]
    rw [this, Bool.or_false]
def D1 (f : Nat) : Nat → Int64 := fun y => if y = 5 * f then 1 else 0
theorem lb_D1 {f g p : Nat} (hg : g < 320) : lb (D1 f) g p = (decide (g = 0) && decide (p = f)) := by
  unfold lb D1
  by_cases h : 5 * p + g / 64 = 5 * f
  · rw [if_pos h, lbit_one _ (Nat.mod_lt _ (by omega)), decide_eq_true (show p = f by omega), Bool.and_true]
    exact decide_eq_decide.mpr ⟨fun z => by omega, fun z => by rw [z]⟩
  · rw [if_neg h]
    have e : (decide (g = 0) && decide (p = f)) = false := by
      by_cases e1 : g = 0
      · by_cases e2 : p = f
        · exact absurd (by omega) h
        · rw [decide_eq_false e2, Bool.and_false]
      · rw [decide_eq_false e1, Bool.false_and]
    rw [e]
    exact BitVec.getLsbD_zero
/-- S with the newest array of longs -/
def jS (S : Sto) (D : Nat → Int64) : Sto := (S.1, fun i => if i = S.2.2 12 then D else S.2.1 i, bump S.2.2 12)
theorem jS_mk {S : Sto} : mkJ S = jS S fun _ => 0 := rfl
theorem jS_rd {S : Sto} {D : Nat → Int64} {x : Nat} : (jS S D).2.1 (S.2.2 12) x = D x := by
  show (if S.2.2 12 = S.2.2 12 then D else S.2.1 _) x = D x
  rw [if_pos rfl]
theorem jS_wr {S : Sto} {D : Nat → Int64} {x : Nat} {v : Int64} : wrJ (jS S D) (S.2.2 12) x v = jS S fun y => if y = x then v else D y := by
  unfold wrJ jS
  congr 2
  funext i y
  by_cases h : i = S.2.2 12
  · show (if i = S.2.2 12 ∧ y = x then v else (if i = S.2.2 12 then D else S.2.1 i) y) = (if i = S.2.2 12 then (fun y => if y = x then v else D y) else S.2.1 i) y
    rw [if_pos h, if_pos h]
    by_cases e : y = x
    · rw [if_pos ⟨h, e⟩, if_pos e]
    · rw [if_neg fun z => e z.2, if_neg e]
  · show (if i = S.2.2 12 ∧ y = x then v else (if i = S.2.2 12 then D else S.2.1 i) y) = (if i = S.2.2 12 then (fun y => if y = x then v else D y) else S.2.1 i) y
    rw [if_neg h, if_neg h, if_neg fun z => h z.1]
theorem jS_same {S : Sto} {D : Nat → Int64} : sameL S (jS S D) := ⟨fun k hk => bump_ne hk, fun _ _ _ _ => rfl⟩
theorem anyN_or (a b : Nat → Bool) (n : Nat) : anyN (fun i => a i || b i) n = (anyN a n || anyN b n) := by
  induction n with
  | zero => rfl
  | succ n ih =>
    show (anyN (fun i => a i || b i) n || (a n || b n)) = ((anyN a n || a n) || (anyN b n || b n))
    rw [ih]
    cases anyN a n <;> cases anyN b n <;> cases a n <;> cases b n <;> rfl
def lvC (S0 : Sto) (rig ten : Int32) (p g g' p' i : Nat) : Bool := ((decide (p = onN S0 i) && decide (p' = otN S0 i)) || (decide (p = otN S0 i) && decide (p' = onN S0 i))) && ((fitH S0 rig.toNatClampNeg i && openH S0 rig (nI i) (ten + nI g)) && decide (g' = g + tnN S0 i))
def lvN (S0 : Sto) (rig ten : Int32) (p g g' p' n : Nat) : Bool := anyN (lvC S0 rig ten p g g' p') n
theorem lvN_s {S0 : Sto} {rig ten : Int32} {p g g' p' n : Nat} : lvN S0 rig ten p g g' p' (n + 1) = (lvN S0 rig ten p g g' p' n || lvC S0 rig ten p g g' p' n) := rfl
/-- the marks while the places below q are through -/
def tabP (S0 : Sto) (rig ten : Int32) (T : Nat → Nat → Bool) (k q g p : Nat) : Bool := (T g p || (decide (g = k + 1) && ((T k p && decide (p < q)) && bayH S0 p))) || anyN (fun i => (((T k (onN S0 i) && decide (onN S0 i < q)) && decide (p = otN S0 i)) || ((T k (otN S0 i) && decide (otN S0 i < q)) && decide (p = onN S0 i))) && ((fitH S0 rig.toNatClampNeg i && openH S0 rig (nI i) (ten + nI k)) && decide (g = k + tnN S0 i))) (S0.2.2 20)
theorem tabP_0 {S0 : Sto} {rig ten : Int32} {T : Nat → Nat → Bool} {k g p : Nat} : tabP S0 rig ten T k 0 g p = T g p := by
  unfold tabP
  have h0 : ∀ x : Nat, decide (x < 0) = false := fun x => decide_eq_false (Nat.not_lt_zero x)
  rw [anyN_f (fun i _ => by rw [h0, h0, Bool.and_false, Bool.and_false, Bool.false_and, Bool.false_and, Bool.false_or, Bool.false_and]), h0, Bool.and_false, Bool.false_and, Bool.and_false, Bool.or_false, Bool.or_false]
theorem tabP_k {S0 : Sto} (hW : WfH S0) {rig ten : Int32} {T : Nat → Nat → Bool} {k q p : Nat} : tabP S0 rig ten T k q k p = T k p := by
  unfold tabP
  rw [anyN_f (fun i hi => by
    obtain ⟨-, -, -, -, -, -, t1, -⟩ := ro_N hW hi
    rw [decide_eq_false (show ¬ k = k + tnN S0 i by omega), Bool.and_false, Bool.and_false]), decide_eq_false (show ¬ k = k + 1 by omega), Bool.false_and, Bool.or_false, Bool.or_false]
theorem tabP_5 {S0 : Sto} (h5 : ∀ i, i < S0.2.2 20 → onN S0 i < 5 ∧ otN S0 i < 5) {rig fr ten : Int32} {k g p : Nat} (hp : p < 5) : tabP S0 rig ten (tabH S0 rig fr ten k) k 5 g p = tabH S0 rig fr ten (k + 1) g p := by
  have hstep : tabH S0 rig fr ten (k + 1) g p = ((tabH S0 rig fr ten k g p || (decide (g = k + 1) && (tabH S0 rig fr ten k k p && bayH S0 p))) || anyN (fun i => ((tabH S0 rig fr ten k k (onN S0 i) && decide (p = otN S0 i)) || (tabH S0 rig fr ten k k (otN S0 i) && decide (p = onN S0 i))) && ((fitH S0 rig.toNatClampNeg i && openH S0 rig (nI i) (ten + nI k)) && decide (g = k + tnN S0 i))) (S0.2.2 20)) := rfl
  rw [hstep]
  unfold tabP
  rw [decide_eq_true hp, Bool.and_true]
  congr 1
  refine anyN_c fun i hi => ?_
  obtain ⟨l1, l2⟩ := h5 i hi
  rw [decide_eq_true l1, decide_eq_true l2, Bool.and_true, Bool.and_true]
theorem lq_s (t : Bool) (x q : Nat) : (t && decide (x < q + 1)) = ((t && decide (x < q)) || (t && decide (q = x))) := by
  by_cases h1 : x < q
  · rw [decide_eq_true h1, decide_eq_true (show x < q + 1 by omega)]
    cases t <;> simp
  · by_cases h2 : q = x
    · rw [decide_eq_false h1, decide_eq_true h2, decide_eq_true (show x < q + 1 by omega)]
      cases t <;> simp
    · rw [decide_eq_false h1, decide_eq_false h2, decide_eq_false (show ¬ x < q + 1 by omega)]
      cases t <;> simp
theorem bl_a : ∀ A e d A2 e2 d2 C : Bool, ((((A || e) && d) || ((A2 || e2) && d2)) && C) = ((((A && d) || (A2 && d2)) && C) || (((e && d) || (e2 && d2)) && C)) := by decide
theorem bl_b : ∀ t dk a e b n1 n2 : Bool, ((t || (dk && ((a || e) && b))) || (n1 || n2)) = ((((t || (dk && (a && b))) || n1) || (dk && (e && b))) || n2) := by decide
theorem tabP_s {S0 : Sto} {rig ten : Int32} {T : Nat → Nat → Bool} {k q g p : Nat} : tabP S0 rig ten T k (q + 1) g p = ((tabP S0 rig ten T k q g p || (decide (g = k + 1) && ((T k p && decide (q = p)) && bayH S0 p))) || anyN (fun i => (((T k (onN S0 i) && decide (q = onN S0 i)) && decide (p = otN S0 i)) || ((T k (otN S0 i) && decide (q = otN S0 i)) && decide (p = onN S0 i))) && ((fitH S0 rig.toNatClampNeg i && openH S0 rig (nI i) (ten + nI k)) && decide (g = k + tnN S0 i))) (S0.2.2 20)) := by
  unfold tabP
  rw [lq_s (T k p) p q, ← bl_b, ← anyN_or]
  congr 1
  refine anyN_c fun i _ => ?_
  rw [lq_s (T k (onN S0 i)) _ q, lq_s (T k (otN S0 i)) _ q, bl_a]
theorem tq_f {T : Nat → Nat → Bool} {k q x : Nat} (h : T k q = false) : (T k x && decide (q = x)) = false := by
  by_cases e : q = x
  · rw [← e, h, Bool.false_and]
  · rw [decide_eq_false e, Bool.and_false]
theorem tq_t {T : Nat → Nat → Bool} {k q x : Nat} (h : T k q = true) : (T k x && decide (q = x)) = decide (q = x) := by
  by_cases e : q = x
  · rw [← e, h, Bool.true_and]
  · rw [decide_eq_false e, Bool.and_false]
theorem tabP_f {S0 : Sto} {rig ten : Int32} {T : Nat → Nat → Bool} {k q g p : Nat} (h : T k q = false) : tabP S0 rig ten T k (q + 1) g p = tabP S0 rig ten T k q g p := by
  rw [tabP_s, tq_f h, anyN_f (fun i _ => by rw [tq_f h, tq_f h, Bool.false_and, Bool.false_and, Bool.false_or, Bool.false_and]), Bool.false_and, Bool.and_false, Bool.or_false, Bool.or_false]
theorem tabP_t {S0 : Sto} {rig ten : Int32} {T : Nat → Nat → Bool} {k q g p : Nat} (h : T k q = true) : tabP S0 rig ten T k (q + 1) g p = ((tabP S0 rig ten T k q g p || (decide (g = k + 1) && (decide (p = q) && bayH S0 q))) || lvN S0 rig ten q k g p (S0.2.2 20)) := by
  rw [tabP_s, tq_t h]
  congr 1
  · congr 2
    by_cases e : p = q
    · rw [e]
    · rw [decide_eq_false e, decide_eq_false fun z => e z.symm, Bool.false_and, Bool.false_and]
  · refine anyN_c fun i _ => ?_
    unfold lvC
    rw [tq_t h, tq_t h]
end
section
/-! THE EARLIEST ARRIVAL, by the law -/
def s_L_arrives : SP := fun as S Q => wy as fun r fr to t => ∃ (T j f o n : Nat), LawI T S ∧ r = nI j ∧ j < 2 ∧ fr = nI f ∧ f < 5 ∧ to = nI o ∧ o < 5 ∧ t = nI n ∧ n < 10000 ∧ ∀ S', sameL S S' → Q (Sum.inl (some (aI (arrH S (nI j) (nI f) (nI o) (nI n))))) S'
def tb_L_arrives : Tb := [(0, .bipush 25, 2, xI (25)), (2, .newarray .long, 2, xF 12 0 [767]), (4, .astore 11, 2, x0), (6, .aload_n 0, 1, x0), (7, .aload_n 2, 1, x0), (8, .iload 7, 2, x0), (10, .invokestatic 19, 3, xS 3 0 s_L_borne), (13, .istore 12, 2, x0), (15, .aload 11, 2, x0), (17, .iconst 5, 1, xI (5)), (18, .iload 8, 2, x0), (20, .imul, 1, x0), (21, .lconst 1, 1, x0), (22, .lastore, 1, x0), (23, .iconst 0, 1, xI (0)), (24, .istore 13, 2, x0), (26, .iload 13, 2, x0), (28, .sipush 288, 3, xI (288)), (31, .if_icmp .ge 260, 3, xN 291), (34, .iconst 0, 1, xI (0)), (35, .istore 14, 2, x0), (37, .iload 14, 2, x0), (39, .iconst 5, 1, xI (5)), (40, .if_icmp .ge 245, 3, xN 285), (43, .aload 11, 2, x0), (45, .iconst 5, 1, xI (5)), (46, .iload 14, 2, x0), (48, .imul, 1, x0), (49, .iload 13, 2, x0), (51, .bipush 64, 2, xI (64)), (53, .idiv, 1, x0), (54, .iadd, 1, x0), (55, .laload, 1, x0), (56, .iload 13, 2, x0), (58, .bipush 64, 2, xI (64)), (60, .irem, 1, x0), (61, .lshr, 1, x0), (62, .lconst 1, 1, x0), (63, .land, 1, x0), (64, .lconst 1, 1, x0), (65, .lcmp, 1, x0), (66, .ifCond .ne 213, 3, xN 279), (69, .iload 14, 2, x0), (71, .iload 9, 2, x0), (73, .if_icmp .ne 9, 3, xN 82), (76, .iload 10, 2, x0), (78, .iload 13, 2, x0), (80, .iadd, 1, x0), (81, .ireturn, 1, x0), (82, .iconst 0, 1, xI (0)), (83, .istore 15, 2, x0), (85, .iload 15, 2, x0), (87, .bipush 6, 2, xI (6)), (89, .if_icmp .ge 144, 3, xN 233), (92, .aload_n 0, 1, x0), (93, .bipush 10, 2, xI (10)), (95, .iload 15, 2, x0), (97, .imul, 1, x0), (98, .iaload, 1, x0), (99, .iload 14, 2, x0), (101, .if_icmp .ne 15, 3, xN 116), (104, .aload_n 0, 1, x0), (105, .bipush 10, 2, xI (10)), (107, .iload 15, 2, x0), (109, .imul, 1, x0), (110, .iconst 1, 1, xI (1)), (111, .iadd, 1, x0), (112, .iaload, 1, x0), (113, .goto 28, 3, xN 141), (116, .aload_n 0, 1, x0), (117, .bipush 10, 2, xI (10)), (119, .iload 15, 2, x0), (121, .imul, 1, x0), (122, .iconst 1, 1, xI (1)), (123, .iadd, 1, x0), (124, .iaload, 1, x0), (125, .iload 14, 2, x0), (127, .if_icmp .ne 13, 3, xN 140), (130, .aload_n 0, 1, x0), (131, .bipush 10, 2, xI (10)), (133, .iload 15, 2, x0), (135, .imul, 1, x0), (136, .iaload, 1, x0), (137, .goto 4, 3, xN 141), (140, .iconst (-1), 1, xI (-1)), (141, .istore 16, 2, x0), (143, .iload 13, 2, x0), (145, .aload_n 0, 1, x0), (146, .bipush 10, 2, xI (10)), (148, .iload 15, 2, x0), (150, .imul, 1, x0), (151, .bipush 6, 2, xI (6)), (153, .iadd, 1, x0), (154, .iaload, 1, x0), (155, .iadd, 1, x0), (156, .istore 17, 2, x0), (158, .iload 16, 2, x0), (160, .ifCond .lt 67, 3, xN 227), (163, .aload_n 0, 1, x0), (164, .aload_n 1, 1, x0), (165, .aload_n 2, 1, x0), (166, .aload_n 3, 1, x0), (167, .aload 4, 2, x0), (169, .aload 5, 2, x0), (171, .aload 6, 2, x0), (173, .iload 7, 2, x0), (175, .iload 15, 2, x0), (177, .iload 10, 2, x0), (179, .iload 13, 2, x0), (181, .iadd, 1, x0), (182, .iload 12, 2, x0), (184, .iload 15, 2, x0), (186, .ishr, 1, x0), (187, .iconst 1, 1, xI (1)), (188, .iand, 1, x0), (189, .iconst 1, 1, xI (1)), (190, .if_icmp .ne 7, 3, xN 197), (193, .iconst 1, 1, xI (1)), (194, .goto 4, 3, xN 198), (197, .iconst 0, 1, xI (0)), (198, .invokestatic 23, 3, xS 11 0 s_L_why), (201, .ifCond .ne 26, 3, xN 227), (204, .aload 11, 2, x0), (206, .iconst 5, 1, xI (5)), (207, .iload 16, 2, x0), (209, .imul, 1, x0), (210, .iload 17, 2, x0), (212, .bipush 64, 2, xI (64)), (214, .idiv, 1, x0), (215, .iadd, 1, x0), (216, .dup2, 1, x0), (217, .laload, 1, x0), (218, .lconst 1, 1, x0), (219, .iload 17, 2, x0), (221, .bipush 64, 2, xI (64)), (223, .irem, 1, x0), (224, .lshl, 1, x0), (225, .lor, 1, x0), (226, .lastore, 1, x0), (227, .iinc 15 1, 3, xI (1)), (230, .goto (-145), 3, xN 85), (233, .iload 13, 2, x0), (235, .iconst 1, 1, xI (1)), (236, .iadd, 1, x0), (237, .istore 15, 2, x0), (239, .aload 11, 2, x0), (241, .iconst 5, 1, xI (5)), (242, .iload 14, 2, x0), (244, .imul, 1, x0), (245, .iload 15, 2, x0), (247, .bipush 64, 2, xI (64)), (249, .idiv, 1, x0), (250, .iadd, 1, x0), (251, .dup2, 1, x0), (252, .laload, 1, x0), (253, .aload 6, 2, x0), (255, .iconst 1, 1, xI (1)), (256, .iaload, 1, x0), (257, .iload 14, 2, x0), (259, .ishr, 1, x0), (260, .iconst 1, 1, xI (1)), (261, .iand, 1, x0), (262, .iconst 1, 1, xI (1)), (263, .if_icmp .ne 13, 3, xN 276), (266, .lconst 1, 1, x0), (267, .iload 15, 2, x0), (269, .bipush 64, 2, xI (64)), (271, .irem, 1, x0), (272, .lshl, 1, x0), (273, .goto 4, 3, xN 277), (276, .lconst 0, 1, x0), (277, .lor, 1, x0), (278, .lastore, 1, x0), (279, .iinc 14 1, 3, xI (1)), (282, .goto (-245), 3, xN 37), (285, .iinc 13 1, 3, xI (1)), (288, .goto (-262), 3, xN 26), (291, .iconst (-1), 1, xI (-1)), (292, .ireturn, 1, x0)]
theorem chk_L_arrives : chkTb cL_arrives "HeavyHaulLaw" false tb_L_arrives = true := by decide +kernel
theorem cal_L_arrives {l : Launch} (hl : l.stackTraces = false) (hNL : NewL l) : CallsOK l "HeavyHaulLaw" 4 tb_L_arrives := callsOK_f ⟨⟨_, _, 5, 3, _, (ct_L_borne hl hNL), ⟨List.mem_of_getElem? (i := 766) (by decide +kernel), List.mem_of_getElem? (i := 25) (by decide +kernel), List.mem_of_getElem? (i := 764) (by decide +kernel), ⟨by decide +kernel, by decide +kernel⟩, by decide +kernel, by decide⟩, List.mem_of_getElem? (i := 765) (by decide +kernel), by decide⟩, ⟨_, _, 20, 1, _, (ct_L_why hl hNL), ⟨List.mem_of_getElem? (i := 604) (by decide +kernel), List.mem_of_getElem? (i := 25) (by decide +kernel), List.mem_of_getElem? (i := 602) (by decide +kernel), ⟨by decide +kernel, by decide +kernel⟩, by decide +kernel, by decide⟩, List.mem_of_getElem? (i := 603) (by decide +kernel), by decide⟩, trivial⟩
theorem ar_L_arrives : ∀ as S P, s_L_arrives as S P → as.length ≤ 18 ∧ ∀ a ∈ as, catV a = 1 := fun as S P h => by
  obtain ⟨_, _, _, _, rfl, _⟩ := wy_ok h
  exact ar_all ⟨Nat.le_of_ble_eq_true rfl, rfl⟩
theorem ix_64 {q t : Nat} (hq : q < 5) (ht : t < 320) : vp_in ((5 : Int32) * nI q + nI t / 64) 25 ∧ ((5 : Int32) * nI q + nI t / 64).toNatClampNeg = 5 * q + t / 64 ∧ nI t - nI t / 64 * 64 = nI (t % 64) := by
  have e : (5 : Int32) * nI q + nI t / 64 = nI (5 * q + t / 64) := by
    have e1 : nI t / 64 = nI (t / 64) := pk_div (d := 64) (by omega) (by omega) (by omega)
    rw [e1, show (5 : Int32) = nI 5 from rfl, nI_mul, nI_add]
  rw [e]
  exact ⟨nI_vin (by omega) (by omega), nI_cl (by omega), pk_rem (d := 64) (by omega) (by omega) (by omega)⟩
theorem z64 : ¬ (64 : Int32) = 0 := by decide
set_option maxRecDepth 8000 in
theorem vc_L_arrives : ∀ (G : Gt) (Q : Out → Sto → Prop) (as : List AV) (S : Sto), s_L_arrives as S Q → Seg tb_L_arrives G Q 1 30 [] (0, fun _ => 0) → G 0 (argL as 18) [] S 0 := by
  intro G Q as S h hs
  obtain ⟨r, fr, to, t0, rfl, T, j, f, o, n, hI, rfl, hj, rfl, hf, rfl, ho, rfl, hn, hQ⟩ := wy_ok h
  have hW := hI.wf
  have h20 := hI.n.1
  have h5 : ∀ i, i < S.2.2 20 → onN S i < 5 ∧ otN S i < 5 := fun i hi => (hI.ro i (by omega)).2
  unfold arrH at hQ
  rw [nI_cl (show o < 2 ^ 31 by omega)] at hQ
  obtain ⟨Tt, hTt⟩ : ∃ Tt, Tt = tabH S (nI j) (nI f) (nI n) := ⟨_, rfl⟩
  have hT0 : ∀ g p, Tt 0 g p = (decide (g = 0) && decide (p = f)) := fun g p => by
    rw [hTt]
    show (decide (g = 0) && decide (p = (nI f).toNatClampNeg)) = _
    rw [nI_cl (by omega)]
  rw [← hTt] at hQ
  have hrea : ∀ D i k, i < 6 → k < 288 → (reasonH (jS S D) (nI j) (nI i) (nI (n + k)) = 0 ↔ (fitH S (nI j).toNatClampNeg i && openH S (nI j) (nI i) (nI n + nI k)) = true) := fun D i k hi hk => by
    rw [jS_same.rea, reason_open, nI_cl (show i < 2 ^ 31 by omega), nI_add]
  have loop26 : ∀ m t, t + m = 288 → (∀ S', sameL S S' → Q (Sum.inl (some (aI (fstF (fun g => Tt g g o) (nI n) m t)))) S') → ∀ D x14 x15 x16 x17, (∀ g p, g < 320 → p < 5 → lb D g p = Tt t g p) → G 26 [some (aR 10 3), some (aR 10 4), some (aR 10 5), some (aR 10 6), some (aR 10 7), some (aR 10 8), some (aR 10 9), some (aI (nI j)), some (aI (nI f)), some (aI (nI o)), some (aI (nI n)), some (aR 12 (S.2.2 12)), some (aI (mkW (brnN S j) 6)), some (aI (nI t)), x14, x15, x16, x17] [] (jS S D) 30 := by
    intro m
    induction m with
    | zero =>
      intro t ht hq D x14 x15 x16 x17 hD
      obtain rfl : t = 288 := ht
      refine hs [26, 37] 120 26 _ _ _ _ ?_
      exact ⟨fun _ => hq _ jS_same, fun z => absurd (by decide) z⟩
    | succ m ih =>
      intro t ht hq D x14 x15 x16 x17 hD
      have ht2 : t < 288 := by omega
      have loop37 : ∀ m2 q, q + m2 = 5 → (o < q → Tt t t o = false) → ∀ D x15 x16 x17, (∀ g p, g < 320 → p < 5 → lb D g p = tabP S (nI j) (nI n) (Tt t) t q g p) → G 37 [some (aR 10 3), some (aR 10 4), some (aR 10 5), some (aR 10 6), some (aR 10 7), some (aR 10 8), some (aR 10 9), some (aI (nI j)), some (aI (nI f)), some (aI (nI o)), some (aI (nI n)), some (aR 12 (S.2.2 12)), some (aI (mkW (brnN S j) 6)), some (aI (nI t)), some (aI (nI q)), x15, x16, x17] [] (jS S D) 30 := by
        intro m2
        induction m2 with
        | zero =>
          intro q hq2 hno D x15 x16 x17 hD
          obtain rfl : q = 5 := hq2
          have hz := hno ho
          have hq' : ∀ S', sameL S S' → Q (Sum.inl (some (aI (fstF (fun g => Tt g g o) (nI n) m (t + 1))))) S' := fun S' hS' => by
            have h1 := hq S' hS'
            unfold fstF at h1
            rw [if_neg (by rw [hz]; decide)] at h1
            exact h1
          have h1 := ih (t + 1) (by omega) hq' D (some (aI (nI 5))) x15 x16 x17 (fun g p hg hp => by rw [hD g p hg hp, hTt, tabP_5 h5 hp])
          rw [← nI_s] at h1
          refine hs [26, 37] 120 37 _ _ _ _ ?_
          exact ⟨fun _ => h1, fun z => absurd (by decide) z⟩
        | succ m2 ih2 =>
          intro q hq2 hno D x15 x16 x17 hD
          have hq5 : q < 5 := by omega
          obtain ⟨i1, i2, i3⟩ := ix_64 hq5 (show t < 320 by omega)
          have hbit := t_lbit (D (5 * q + t / 64)) (t % 64) (Nat.mod_lt _ (by omega))
          have hrd : (D (5 * q + t / 64)).toBitVec.getLsbD (t % 64) = Tt t t q := by
            have := hD t q (by omega) hq5
            rw [tabP_k hW] at this
            exact this
          rw [hrd] at hbit
          have go279 : ∀ D x15 x16 x17, (q = o → Tt t t o = false) → (∀ g p, g < 320 → p < 5 → lb D g p = tabP S (nI j) (nI n) (Tt t) t (q + 1) g p) → G 279 [some (aR 10 3), some (aR 10 4), some (aR 10 5), some (aR 10 6), some (aR 10 7), some (aR 10 8), some (aR 10 9), some (aI (nI j)), some (aI (nI f)), some (aI (nI o)), some (aI (nI n)), some (aR 12 (S.2.2 12)), some (aI (mkW (brnN S j) 6)), some (aI (nI t)), some (aI (nI q)), x15, x16, x17] [] (jS S D) 30 := fun D x15 x16 x17 hoq hD => by
            have h1 := ih2 (q + 1) (by omega) (fun z => by
              by_cases e : q = o
              · exact hoq e
              · exact hno (by omega)) D x15 x16 x17 hD
            rw [← nI_s] at h1
            refine hs [37] 120 279 _ _ _ _ ?_
            exact h1
          -- the roads from here
          have loop85 : Tt t t q = true → ¬ q = o → ∀ m3 i, i + m3 = 6 → ∀ D x16 x17, (∀ g p, g < 320 → p < 5 → lb D g p = (tabP S (nI j) (nI n) (Tt t) t q g p || lvN S (nI j) (nI n) q t g p i)) → G 85 [some (aR 10 3), some (aR 10 4), some (aR 10 5), some (aR 10 6), some (aR 10 7), some (aR 10 8), some (aR 10 9), some (aI (nI j)), some (aI (nI f)), some (aI (nI o)), some (aI (nI n)), some (aR 12 (S.2.2 12)), some (aI (mkW (brnN S j) 6)), some (aI (nI t)), some (aI (nI q)), some (aI (nI i)), x16, x17] [] (jS S D) 30 := by
            intro hTq hqo m3
            induction m3 with
            | zero =>
              intro i hi D x16 x17 hD
              obtain rfl : i = 6 := hi
              obtain ⟨k1, k2, k3⟩ := ix_64 hq5 (show t + 1 < 320 by omega)
              have hbay : (S.1 10 9 (1 : Int32).toNatClampNeg >>> (nI q &&& 31)) &&& 1 = 1 ↔ bayH S q = true := by
                rw [← hI.ba.1 q hq5]
                exact t_bit _ q (by omega)
              have v1 : vp_in (1 : Int32) 5 := nI_vin (a := 1) (by omega) (by decide)
              have fin : ∀ D', (∀ g p, g < 320 → p < 5 → lb D' g p = (lb D g p || (decide (g = t + 1) && (decide (p = q) && bayH S q)))) → ∀ x15 x16 x17, G 279 [some (aR 10 3), some (aR 10 4), some (aR 10 5), some (aR 10 6), some (aR 10 7), some (aR 10 8), some (aR 10 9), some (aI (nI j)), some (aI (nI f)), some (aI (nI o)), some (aI (nI n)), some (aR 12 (S.2.2 12)), some (aI (mkW (brnN S j) 6)), some (aI (nI t)), some (aI (nI q)), x15, x16, x17] [] (jS S D') 30 := fun D' hD' x15 x16 x17 => by
                refine go279 D' _ _ _ (fun e => absurd e hqo) fun g p hg hp => ?_
                rw [hD' g p hg hp, hD g p hg hp, tabP_t hTq, ← h20]
                cases tabP S (nI j) (nI n) (Tt t) t q g p <;> cases lvN S (nI j) (nI n) q t g p (S.2.2 20) <;> simp
              refine hs [85, 279] 120 85 _ _ _ _ ?_
              refine ⟨fun _ => ⟨z64, ?_⟩, fun z => absurd (by decide) z⟩
              rw [nI_s]
              refine ⟨k1, v1, fun c => ?_, fun c => ⟨z64, ?_⟩⟩
              · have hb : bayH S q = false := by
                  cases hh : bayH S q with
                  | false => rfl
                  | true => exact absurd (hbay.mpr hh) c
                refine ⟨k1, ?_⟩
                rw [k2, jS_rd, jS_wr]
                refine fin _ (fun g p hg hp => ?_) _ _ _
                rw [hb, Bool.and_false, Bool.and_false, Bool.or_false]
                unfold lb
                show (if 5 * p + g / 64 = 5 * q + (t + 1) / 64 then D (5 * q + (t + 1) / 64) ||| 0 else D (5 * p + g / 64)).toBitVec.getLsbD (g % 64) = _
                by_cases e : 5 * p + g / 64 = 5 * q + (t + 1) / 64
                · rw [if_pos e, Int64.or_zero, e]
                · rw [if_neg e]
              · have hb : bayH S q = true := hbay.mp c
                refine ⟨k1, ?_⟩
                rw [k2, k3, jS_rd, jS_wr]
                refine fin _ (fun g p hg hp => ?_) _ _ _
                rw [hb, Bool.and_true]
                exact lb_set (by omega) hg
            | succ m3 ih3 =>
              intro i hi D x16 x17 hD
              have hi6 : i < 6 := by omega
              have hi20 : i < S.2.2 20 := by omega
              have va0 : vp_in ((10 : Int32) * nI i) 60 := vA0 hI hi6
              have a0 : S.1 10 3 ((10 : Int32) * nI i).toNatClampNeg = S.1 2 0 i := aA0 hI hi6
              have va1 : vp_in ((10 : Int32) * nI i + 1) 60 := vA hI hi6 1 (by decide)
              have a1 : S.1 10 3 ((10 : Int32) * nI i + 1).toNatClampNeg = S.1 2 1 i := aA hI hi6 1 (by decide)
              have va6 : vp_in ((10 : Int32) * nI i + 6) 60 := vA hI hi6 6 (by decide)
              have a6 : S.1 10 3 ((10 : Int32) * nI i + 6).toNatClampNeg = S.1 2 6 i := aA hI hi6 6 (by decide)
              obtain ⟨r1, r2, r3, -, -, rne, rt1, rt9⟩ := ro_N hW hi20
              obtain ⟨on5, ot5⟩ := h5 i hi20
              rw [r1] at a0
              rw [r2] at a1
              rw [r3] at a6
              have vi : bit (mkW (brnN S j) 6) i = borneH S i j := by
                rw [bit_mk _ _ _ (by omega) (by omega), decide_eq_true hi6, Bool.true_and]
                rfl
              have hbo : (mkW (brnN S j) 6 >>> (nI i &&& 31)) &&& 1 = 1 ↔ borneH S i j = true := by
                rw [← vi]
                exact t_bit _ i (by omega)
              have go227 : ∀ D x16 x17, (∀ g p, g < 320 → p < 5 → lb D g p = (tabP S (nI j) (nI n) (Tt t) t q g p || lvN S (nI j) (nI n) q t g p (i + 1))) → G 227 [some (aR 10 3), some (aR 10 4), some (aR 10 5), some (aR 10 6), some (aR 10 7), some (aR 10 8), some (aR 10 9), some (aI (nI j)), some (aI (nI f)), some (aI (nI o)), some (aI (nI n)), some (aR 12 (S.2.2 12)), some (aI (mkW (brnN S j) 6)), some (aI (nI t)), some (aI (nI q)), some (aI (nI i)), x16, x17] [] (jS S D) 30 := fun D x16 x17 hD => by
                have h1 := ih3 (i + 1) (by omega) D x16 x17 hD
                rw [← nI_s] at h1
                refine hs [85] 120 227 _ _ _ _ ?_
                exact h1
              have no227 : ∀ x16 x17, (∀ g p, lvC S (nI j) (nI n) q t g p i = false) → G 227 [some (aR 10 3), some (aR 10 4), some (aR 10 5), some (aR 10 6), some (aR 10 7), some (aR 10 8), some (aR 10 9), some (aI (nI j)), some (aI (nI f)), some (aI (nI o)), some (aI (nI n)), some (aR 12 (S.2.2 12)), some (aI (mkW (brnN S j) 6)), some (aI (nI t)), some (aI (nI q)), some (aI (nI i)), x16, x17] [] (jS S D) 30 := fun x16 x17 hf => go227 D x16 x17 fun g p hg hp => by
                rw [hD g p hg hp, lvN_s, hf g p, Bool.or_false]
              have g158 : ∀ X : Nat, X < 5 → (∀ p, ((decide (q = onN S i) && decide (p = otN S i)) || (decide (q = otN S i) && decide (p = onN S i))) = decide (p = X)) → G 158 [some (aR 10 3), some (aR 10 4), some (aR 10 5), some (aR 10 6), some (aR 10 7), some (aR 10 8), some (aR 10 9), some (aI (nI j)), some (aI (nI f)), some (aI (nI o)), some (aI (nI n)), some (aR 12 (S.2.2 12)), some (aI (mkW (brnN S j) 6)), some (aI (nI t)), some (aI (nI q)), some (aI (nI i)), some (aI (nI X)), some (aI (nI (t + tnN S i)))] [] (jS S D) 30 := fun X hX hm => by
                obtain ⟨k1, k2, k3⟩ := ix_64 hX (show t + tnN S i < 320 by omega)
                have hlv : ∀ g p, lvC S (nI j) (nI n) q t g p i = (decide (p = X) && ((fitH S (nI j).toNatClampNeg i && openH S (nI j) (nI i) (nI n + nI t)) && decide (g = t + tnN S i))) := fun g p => by
                  unfold lvC
                  rw [hm p]
                have g201 : G 201 [some (aR 10 3), some (aR 10 4), some (aR 10 5), some (aR 10 6), some (aR 10 7), some (aR 10 8), some (aR 10 9), some (aI (nI j)), some (aI (nI f)), some (aI (nI o)), some (aI (nI n)), some (aR 12 (S.2.2 12)), some (aI (mkW (brnN S j) 6)), some (aI (nI t)), some (aI (nI q)), some (aI (nI i)), some (aI (nI X)), some (aI (nI (t + tnN S i)))] [aI (reasonH (jS S D) (nI j) (nI i) (nI (n + t)))] (jS S D) 30 := by
                  have hr := hrea D i t hi6 ht2
                  refine hs [227] 120 201 _ _ _ _ ?_
                  refine ⟨fun z => no227 _ _ fun g p => ?_, fun z => ⟨z64, k1, z64, k1, ?_⟩⟩
                  · have hf : (fitH S (nI j).toNatClampNeg i && openH S (nI j) (nI i) (nI n + nI t)) = false := by
                      cases hh : (fitH S (nI j).toNatClampNeg i && openH S (nI j) (nI i) (nI n + nI t)) with
                      | false => rfl
                      | true => exact absurd (hr.mpr hh) z
                    rw [hlv, hf, Bool.false_and, Bool.and_false]
                  · rw [k2, k3, jS_rd, jS_wr]
                    refine go227 _ _ _ fun g p hg hp => ?_
                    have e9 := lb_set (D := D) (g := t + tnN S i) (p := X) (g' := g) (p' := p) (by omega) hg
                    refine Eq.trans e9 ?_
                    rw [hD g p hg hp, lvN_s, hlv, hr.mp z, Bool.true_and, Bool.or_assoc, Bool.and_comm (decide (g = _))]
                refine hs [201, 227] 120 158 _ _ _ _ ?_
                refine ⟨fun z => absurd z (nI_nn (by omega)), fun _ => ⟨fun c => ?_, fun c => ?_⟩⟩
                · refine ⟨⟨rfl, rfl⟩, ⟨rfl, rfl⟩, ⟨rfl, rfl⟩, ⟨rfl, rfl⟩, ⟨rfl, rfl⟩, ⟨rfl, rfl⟩, ⟨rfl, rfl⟩, T, i, j, n + t, jS_same.inv hI, rfl, hj, rfl, hi6, nI_add n t, by omega, ?_, ?_⟩
                  · rw [jS_same.bor]
                    cases hh : borneH S i j with
                    | false => rfl
                    | true => exact absurd (hbo.mpr hh) c
                  · rw [nI_add]
                    exact g201
                · refine ⟨⟨rfl, rfl⟩, ⟨rfl, rfl⟩, ⟨rfl, rfl⟩, ⟨rfl, rfl⟩, ⟨rfl, rfl⟩, ⟨rfl, rfl⟩, ⟨rfl, rfl⟩, T, i, j, n + t, jS_same.inv hI, rfl, hj, rfl, hi6, nI_add n t, by omega, ?_, ?_⟩
                  · rw [jS_same.bor, hbo.mp c]
                    rfl
                  · rw [nI_add]
                    exact g201
              have ew : nI t + nI (tnN S i) = nI (t + tnN S i) := nI_add _ _
              refine hs [158, 227] 120 85 _ _ _ _ ?_
              refine ⟨fun z => absurd z (lp_go (n := 6) (by omega) hi6), fun _ => ⟨va0, ?_⟩⟩
              have b0 : (jS S D).1 10 3 ((10 : Int32) * nI i).toNatClampNeg = nI (onN S i) := a0
              have b1 : (jS S D).1 10 3 ((10 : Int32) * nI i + 1).toNatClampNeg = nI (otN S i) := a1
              have b6 : (jS S D).1 10 3 ((10 : Int32) * nI i + 6).toNatClampNeg = nI (tnN S i) := a6
              rw [b0]
              refine ⟨fun c0 => ⟨va1, ?_⟩, fun c0 => ⟨va1, va6, ?_⟩⟩
              · rw [b1]
                have n0 : ¬ q = onN S i := fun e => c0 (by rw [e])
                refine ⟨fun c1 => ⟨va6, ?_⟩, fun c1 => ⟨va0, va6, ?_⟩⟩
                · have n1 : ¬ q = otN S i := fun e => c1 (by rw [e])
                  refine hs [227] 120 158 _ _ _ _ ?_
                  refine ⟨fun _ => no227 _ _ fun g p => ?_, fun z => absurd (by decide) z⟩
                  unfold lvC
                  rw [decide_eq_false n0, decide_eq_false n1]
                  rfl
                · have e1 : q = otN S i := ((nI_eq (by omega) (by omega)).mp c1).symm
                  have r9 := g158 _ on5 fun p => by rw [decide_eq_false n0, decide_eq_true e1, Bool.false_and, Bool.true_and, Bool.false_or]
                  rw [← ew] at r9
                  rw [b0, b6]
                  exact r9
              · have e0 : q = onN S i := ((nI_eq (by omega) (by omega)).mp c0).symm
                have n1 : ¬ q = otN S i := fun e => rne (by omega)
                have r9 := g158 _ ot5 fun p => by rw [decide_eq_true e0, decide_eq_false n1, Bool.false_and, Bool.true_and, Bool.or_false]
                rw [← ew] at r9
                rw [b1, b6]
                exact r9
          refine hs [37, 85, 279] 120 37 _ _ _ _ ?_
          refine ⟨fun z => absurd z (lp_go (n := 5) (by omega) hq5), fun _ => ⟨z64, i1, z64, ?_⟩⟩
          rw [i2, i3, jS_rd]
          refine ⟨fun z => ?_, fun z => ⟨fun c => ?_, fun c => ?_⟩⟩
          · have hz : Tt t t q = false := by
              cases hh : Tt t t q with
              | false => rfl
              | true => exact absurd ((lg_cmp_eq _ _).mpr (hbit.mpr hh)) z
            exact go279 D _ _ _ (fun e => by rw [← e]; exact hz) fun g p hg hp => by rw [hD g p hg hp, tabP_f hz]
          · have hz : Tt t t q = true := hbit.mp ((lg_cmp_eq _ _).mp z)
            refine loop85 hz (fun e => c (by rw [e])) 6 0 rfl D x16 x17 fun g p hg hp => ?_
            rw [hD g p hg hp]
            show _ = (_ || false)
            rw [Bool.or_false]
          · have hz : Tt t t q = true := hbit.mp ((lg_cmp_eq _ _).mp z)
            have e : q = o := (nI_eq (by omega) (by omega)).mp c
            have h1 := hq _ (jS_same (S := S) (D := D))
            unfold fstF at h1
            rw [if_pos (by rw [← e]; exact hz)] at h1
            exact h1
      refine hs [26, 37] 120 26 _ _ _ _ ?_
      refine ⟨fun z => absurd z (lp_go (n := 288) (by omega) ht2), fun _ => ?_⟩
      exact loop37 5 0 rfl (fun z => absurd z (Nat.not_lt_zero _)) D x15 x16 x17 fun g p hg hp => by rw [tabP_0]; exact hD g p hg hp
  have vf : vp_in ((5 : Int32) * nI f) 25 := iv_1 (a := 5) (by omega) (by omega)
  have ef : ((5 : Int32) * nI f).toNatClampNeg = 5 * f := ix_1 5 f (by omega)
  have h0 := loop26 288 0 rfl hQ (D1 f) none none none none fun g p hg hp => by rw [lb_D1 hg, hT0]
  refine hs [26] 120 0 _ _ _ _ ?_
  refine ⟨rfl, rfl, rfl, rfl, rfl, T, j, jS_same.inv hI, rfl, hj, vf, ?_⟩
  rw [ef]
  have e9 : wrJ (jS S fun _ => 0) (S.2.2 12) (5 * f) 1 = jS S (D1 f) := jS_wr
  have e8 : mkW (brnN (jS S fun _ => 0) j) 6 = mkW (brnN S j) 6 := rfl
  rw [← e9] at h0
  exact h0
theorem ct_L_arrives {l : Launch} (hl : l.stackTraces = false) (hNL : NewL l) : CT l yL_arrives cL_arrives 18 (some .int) 4 30 s_L_arrives := CT_of hl hNL (by decide +kernel) (own := "HeavyHaulLaw") rfl (ini := false) (fun q => nomatch q) chk_L_arrives (cal_L_arrives hl hNL) ar_L_arrives vc_L_arrives
end
section
/-! TIME, by the law -/
theorem passS_2 {S : Sto} {n : Nat} : (passS S n).2 = S.2 := by
  induction n with
  | zero => rfl
  | succ n ih => exact ih
theorem passS_o {S : Sto} {n k f i : Nat} (h : ¬ (k = 0 ∧ f = 9) ∧ ¬ (k = 4 ∧ f = 9) ∧ ¬ (k = 4 ∧ f = 11)) : (passS S n).1 k f i = S.1 k f i := by
  induction n with
  | zero => rfl
  | succ n ih => exact (tenS_o h).trans ih
theorem passS_now {S : Sto} {n : Nat} : (passS S n).1 0 9 0 = S.1 0 9 0 + nI n := by
  induction n with
  | zero =>
    show S.1 0 9 0 = S.1 0 9 0 + 0
    rw [Int32.add_zero]
  | succ n ih =>
    show (tenS (passS S n) _).1 0 9 0 = _
    rw [tenS_now, ih, Int32.add_assoc, nI_s]
/-- who drives will arrive -/
def drvI (S : Sto) : Prop := ∀ i, i < S.2.2 22 → S.1 4 9 i ≠ -1 → S.1 0 9 0 < S.1 4 10 i
theorem drvI_s {S : Sto} (h : drvI S) (n : Nat) : drvI (passS S n) := by
  induction n with
  | zero => exact h
  | succ n ih =>
    intro i hi hd
    have e2 : (passS S n).2.2 22 = S.2.2 22 := by rw [passS_2]
    have e3 : (passS S (n + 1)).2.2 22 = S.2.2 22 := by rw [passS_2]
    have hi2 : i < (passS S n).2.2 22 := by omega
    have hd' : (tenS (passS S n) ((passS S n).2.2 22)).1 4 9 i ≠ -1 := hd
    show (tenS (passS S n) ((passS S n).2.2 22)).1 0 9 0 < (tenS (passS S n) ((passS S n).2.2 22)).1 4 10 i
    rw [tenS_rd, if_pos hi2] at hd'
    rw [tenS_now, tenS_o (by decide)]
    unfold rdT at hd'
    by_cases h1 : (passS S n).1 4 9 i = -1
    · rw [if_pos h1] at hd'
      exact absurd rfl hd'
    · rw [if_neg h1] at hd'
      by_cases h2 : (passS S n).1 0 9 0 + 1 < (passS S n).1 4 10 i
      · exact h2
      · rw [if_neg h2] at hd'
        exact absurd rfl hd'
theorem passS_s {S : Sto} {n : Nat} : passS S (n + 1) = tenS (passS S n) ((passS S n).2.2 22) := rfl
theorem passS_rd {S : Sto} (n : Nat) (i : Nat) : (passS S n).1 4 9 i = S.1 4 9 i ∨ (passS S n).1 4 9 i = -1 := by
  induction n with
  | zero => exact Or.inl rfl
  | succ n ih =>
    rw [passS_s, tenS_rd]
    by_cases h : i < (passS S n).2.2 22
    · rw [if_pos h]
      unfold rdT
      by_cases h1 : (passS S n).1 4 9 i = -1
      · rw [if_pos h1]
        exact Or.inr rfl
      · rw [if_neg h1]
        by_cases h2 : (passS S n).1 0 9 0 + 1 < (passS S n).1 4 10 i
        · rw [if_pos h2]
          exact ih
        · rw [if_neg h2]
          exact Or.inr rfl
    · rw [if_neg h]
      exact ih
/-- the law's rows behind n tens and, of the next, of the rigs below k -/
def pasK (T : Nat) (S0 : Sto) (n k : Nat) (S : Sto) : Prop := S.2 = S0.2 ∧ S.1 10 9 0 = nI (T + n) ∧
  (∀ i, i < 2 → S.1 10 5 (14 * i + 9) = (if i < k then (passS S0 (n + 1)).1 4 9 i else (passS S0 n).1 4 9 i) ∧ S.1 10 5 (14 * i + 11) = (if i < k then (passS S0 (n + 1)).1 4 11 i else (passS S0 n).1 4 11 i)) ∧
  ∀ k' f i, ¬ (k' = 10 ∧ f = 9 ∧ i = 0) → ¬ (k' = 10 ∧ f = 5 ∧ (i = 9 ∨ i = 23 ∨ i = 11 ∨ i = 25)) → S.1 k' f i = S0.1 k' f i
def ps2 (as : List AV) (f : Prop) : Prop := match as with
  | [Sum.inr (Sum.inr (k, i)), Sum.inr (Sum.inr (k2, i2))] => k = 10 ∧ i = 5 ∧ k2 = 10 ∧ i2 = 9 ∧ f
  | _ => False
theorem ps2_ok {as : List AV} {f : Prop} (h : ps2 as f) : as = [aR 10 5, aR 10 9] ∧ f := by
  unfold ps2 at h
  split at h
  · obtain ⟨rfl, rfl, rfl, rfl, h⟩ := h; exact ⟨rfl, h⟩
  · exact h.elim
def s_L_pass : SP := fun as S Q => ps2 as (∃ (T n : Nat) (S0 : Sto), LawI T S0 ∧ T + n < 20000 ∧ pasK T S0 n 0 S ∧ ∀ S', pasK T S0 (n + 1) 0 S' → Q (Sum.inl none) S')
def tb_L_pass : Tb := [(0, .iconst 0, 1, xI (0)), (1, .istore_n 2, 1, x0), (2, .iload_n 2, 1, x0), (3, .iconst 2, 1, xI (2)), (4, .if_icmp .ge 99, 3, xN 103), (7, .bipush 14, 2, xI (14)), (9, .iload_n 2, 1, x0), (10, .imul, 1, x0), (11, .istore_n 3, 1, x0), (12, .aload_n 0, 1, x0), (13, .iload_n 3, 1, x0), (14, .bipush 9, 2, xI (9)), (16, .iadd, 1, x0), (17, .iaload, 1, x0), (18, .ifCond .ge 7, 3, xN 25), (21, .iconst 1, 1, xI (1)), (22, .goto 4, 3, xN 26), (25, .iconst 0, 1, xI (0)), (26, .istore 4, 2, x0), (28, .aload_n 0, 1, x0), (29, .iload_n 3, 1, x0), (30, .bipush 11, 2, xI (11)), (32, .iadd, 1, x0), (33, .dup2, 1, x0), (34, .iaload, 1, x0), (35, .iload 4, 2, x0), (37, .ifCond .eq 31, 3, xN 68), (40, .aload_n 1, 1, x0), (41, .iconst 0, 1, xI (0)), (42, .iaload, 1, x0), (43, .sipush 144, 3, xI (144)), (46, .irem, 1, x0), (47, .bipush 35, 2, xI (35)), (49, .if_icmp .le 19, 3, xN 68), (52, .aload_n 1, 1, x0), (53, .iconst 1, 1, xI (1)), (54, .iaload, 1, x0), (55, .aload_n 0, 1, x0), (56, .iload_n 3, 1, x0), (57, .iaload, 1, x0), (58, .ishr, 1, x0), (59, .iconst 1, 1, xI (1)), (60, .iand, 1, x0), (61, .ifCond .ne 7, 3, xN 68), (64, .iconst 1, 1, xI (1)), (65, .goto 4, 3, xN 69), (68, .iconst 0, 1, xI (0)), (69, .iadd, 1, x0), (70, .iastore, 1, x0), (71, .iload 4, 2, x0), (73, .ifCond .ne 24, 3, xN 97), (76, .aload_n 0, 1, x0), (77, .iload_n 3, 1, x0), (78, .bipush 10, 2, xI (10)), (80, .iadd, 1, x0), (81, .iaload, 1, x0), (82, .aload_n 1, 1, x0), (83, .iconst 0, 1, xI (0)), (84, .iaload, 1, x0), (85, .iconst 1, 1, xI (1)), (86, .iadd, 1, x0), (87, .if_icmp .ne 10, 3, xN 97), (90, .aload_n 0, 1, x0), (91, .iload_n 3, 1, x0), (92, .bipush 9, 2, xI (9)), (94, .iadd, 1, x0), (95, .iconst (-1), 1, xI (-1)), (96, .iastore, 1, x0), (97, .iinc 2 1, 3, xI (1)), (100, .goto (-98), 3, xN 2), (103, .aload_n 1, 1, x0), (104, .iconst 0, 1, xI (0)), (105, .dup2, 1, x0), (106, .iaload, 1, x0), (107, .iconst 1, 1, xI (1)), (108, .iadd, 1, x0), (109, .iastore, 1, x0), (110, .return_, 1, x0)]
theorem chk_L_pass : chkTb cL_pass "HeavyHaulLaw" false tb_L_pass = true := by decide +kernel
theorem cal_L_pass {l : Launch} (hl : l.stackTraces = false) (hNL : NewL l) : CallsOK l "HeavyHaulLaw" 0 tb_L_pass := callsOK_f trivial
theorem ar_L_pass : ∀ as S P, s_L_pass as S P → as.length ≤ 5 ∧ ∀ a ∈ as, catV a = 1 := fun as S P h => by
  obtain ⟨rfl, _⟩ := ps2_ok h
  exact ar_all ⟨Nat.le_of_ble_eq_true rfl, rfl⟩
theorem dayB_m {a : Nat} (ha : a < 2 ^ 31) : dayB (nI a) = true ↔ 36 ≤ a % 144 := by
  have e : nI a - nI a / 144 * 144 = nI (a % 144) := pk_rem (d := 144) ha (by omega) (by omega)
  unfold dayB
  rw [e, decide_eq_true_iff]
  exact nI_le2 (a := 36) (by omega) (by omega)
set_option maxRecDepth 8000 in
theorem vc_L_pass : ∀ (G : Gt) (Q : Out → Sto → Prop) (as : List AV) (S : Sto), s_L_pass as S Q → Seg tb_L_pass G Q 0 0 [] (0, fun _ => 0) → G 0 (argL as 5) [] S 0 := by
  intro G Q as S h hs
  obtain ⟨rfl, T, n, S0, hI, hTn, hP, hQ⟩ := ps2_ok h
  have h22 : S0.2.2 22 = 2 := hI.n.2.1
  have e00 : S0.1 0 9 0 = nI T := hI.mm.2.1
  have enow : (passS S0 n).1 0 9 0 = nI (T + n) := by rw [passS_now, e00, nI_add]
  have hdrv : drvI S0 := fun i hi hd => by
    obtain ⟨-, -, -, h9⟩ := hI.ri i (by omega)
    rcases h9 with h9 | ⟨d, q, -, -, h10, hq, hq2⟩
    · exact absurd h9 hd
    · rw [e00, h10]
      exact (nI_lt2 (by omega) (by omega)).mpr hq
  have v0 : vp_in (0 : Int32) 5 := nI_vin (a := 0) (by omega) (by decide)
  have v1 : vp_in (1 : Int32) 5 := nI_vin (a := 1) (by omega) (by decide)
  have loop : ∀ m k, k + m = 2 → ∀ Sk, pasK T S0 n k Sk → ∀ x3 x4, G 2 [some (aR 10 5), some (aR 10 9), some (aI (nI k)), x3, x4] [] Sk 0 := by
    intro m
    induction m with
    | zero =>
      intro k hk Sk hPk x3 x4
      obtain rfl : k = 2 := hk
      obtain ⟨p1, p2, p3, p4⟩ := hPk
      have em : Sk.1 10 9 (0 : Int32).toNatClampNeg = nI (T + n) := p2
      refine hs [2] 60 2 _ _ _ _ ?_
      refine ⟨fun _ => ⟨v0, v0, ?_⟩, fun z => absurd (by decide) z⟩
      rw [em, nI_s]
      refine hQ _ ⟨p1, ?_, fun i hi => ?_, fun k' f i q1 q2 => ?_⟩
      · show (wrI Sk 10 9 0 (nI (T + n + 1))).1 10 9 0 = _
        rw [wrI_at, if_pos ⟨rfl, rfl, rfl⟩]
        rfl
      · show (wrI Sk 10 9 0 (nI (T + n + 1))).1 10 5 (14 * i + 9) = _ ∧ (wrI Sk 10 9 0 (nI (T + n + 1))).1 10 5 (14 * i + 11) = _
        rw [wrI_ne fun q => absurd q.2.1 (by decide), wrI_ne fun q => absurd q.2.1 (by decide), (p3 i hi).1, (p3 i hi).2, if_pos hi, if_pos hi, if_neg (Nat.not_lt_zero _), if_neg (Nat.not_lt_zero _)]
        exact ⟨rfl, rfl⟩
      · show (wrI Sk 10 9 0 (nI (T + n + 1))).1 k' f i = _
        rw [wrI_ne q1]
        exact p4 k' f i q1 q2
    | succ m ih =>
      intro k hk Sk hPk x3 x4
      have hk2 : k < 2 := by omega
      obtain ⟨p1, p2, p3, p4⟩ := hPk
      have em : Sk.1 10 9 (0 : Int32).toNatClampNeg = nI (T + n) := p2
      obtain ⟨r9, r11⟩ := p3 k hk2
      rw [if_neg (Nat.lt_irrefl k)] at r9 r11
      obtain ⟨hrow, -, ⟨p, ep, p5⟩, hroad⟩ := hI.ri k hk2
      have w0 : vp_in ((14 : Int32) * nI k) 28 := iv_1 (a := 14) (by omega) (by omega)
      have w9 : vp_in ((14 : Int32) * nI k + 9) 28 := iv_2 (a := 14) (c := 9) (by omega) (by omega)
      have w10 : vp_in ((14 : Int32) * nI k + 10) 28 := iv_2 (a := 14) (c := 10) (by omega) (by omega)
      have w11 : vp_in ((14 : Int32) * nI k + 11) 28 := iv_2 (a := 14) (c := 11) (by omega) (by omega)
      have i0 : ((14 : Int32) * nI k).toNatClampNeg = 14 * k := ix_1 14 k (by omega)
      have i9 : ((14 : Int32) * nI k + 9).toNatClampNeg = 14 * k + 9 := ix_2 14 k 9 (by omega)
      have i10 : ((14 : Int32) * nI k + 10).toNatClampNeg = 14 * k + 10 := ix_2 14 k 10 (by omega)
      have i11 : ((14 : Int32) * nI k + 11).toNatClampNeg = 14 * k + 11 := ix_2 14 k 11 (by omega)
      have g0 : Sk.1 10 5 (14 * k) = nI p := by
        rw [p4 10 5 (14 * k) (fun q => absurd q.2.1 (by decide)) (fun q => by omega), ← ep]
        exact hrow 0 (by decide) (by decide) (by decide)
      have g10 : Sk.1 10 5 (14 * k + 10) = S0.1 4 10 k := by
        rw [p4 10 5 (14 * k + 10) (fun q => absurd q.2.1 (by decide)) (fun q => by omega)]
        exact hrow 10 (by decide) (by decide) (by decide)
      have m1 : Sk.1 10 9 1 = S0.1 10 9 1 := p4 10 9 1 (fun q => absurd q.2.2 (by decide)) (fun q => absurd q.2.1 (by decide))
      have em1 : Sk.1 10 9 (1 : Int32).toNatClampNeg = S0.1 10 9 1 := m1
      have o8 : (passS S0 n).1 4 8 k = nI p := (passS_o (by decide)).trans ep
      have o10 : (passS S0 n).1 4 10 k = S0.1 4 10 k := passS_o (by decide)
      have o11 : ∀ i, (passS S0 n).1 11 0 i = S0.1 11 0 i := fun i => passS_o ⟨fun q => absurd q.1 (by decide), fun q => absurd q.1 (by decide), fun q => absurd q.1 (by decide)⟩
      have n22 : (passS S0 n).2.2 22 = 2 := by rw [passS_2]; exact h22
      have eR : (passS S0 (n + 1)).1 4 9 k = rdT (passS S0 n) k := by rw [passS_s, tenS_rd, n22, if_pos hk2]
      have eB : (passS S0 (n + 1)).1 4 11 k = brT (passS S0 n) k := by rw [passS_s, tenS_br, n22, if_pos hk2]
      have stp : ∀ S', S'.2 = Sk.2 → S'.1 10 5 (14 * k + 9) = rdT (passS S0 n) k → S'.1 10 5 (14 * k + 11) = brT (passS S0 n) k → (∀ k' f i, ¬ (k' = 10 ∧ f = 5 ∧ (i = 14 * k + 9 ∨ i = 14 * k + 11)) → S'.1 k' f i = Sk.1 k' f i) → ∀ x3 x4, G 97 [some (aR 10 5), some (aR 10 9), some (aI (nI k)), x3, x4] [] S' 0 := fun S' h2 hr hb ho x3 x4 => by
        have h1 := ih (k + 1) (by omega) S' ⟨h2.trans p1, ?_, fun i hi => ?_, fun k' f i q1 q2 => ?_⟩ x3 x4
        · rw [← nI_s] at h1
          refine hs [2] 60 97 _ _ _ _ ?_
          exact h1
        · rw [ho 10 9 0 (fun q => absurd q.2.1 (by decide))]
          exact p2
        · by_cases e : i = k
          · subst e
            rw [hr, hb, if_pos (Nat.lt_succ_self _), if_pos (Nat.lt_succ_self _), eR, eB]
            exact ⟨rfl, rfl⟩
          · rw [ho 10 5 (14 * i + 9) (fun q => by omega), ho 10 5 (14 * i + 11) (fun q => by omega), (p3 i hi).1, (p3 i hi).2]
            by_cases e2 : i < k
            · rw [if_pos e2, if_pos e2, if_pos (by omega), if_pos (by omega)]
              exact ⟨rfl, rfl⟩
            · rw [if_neg e2, if_neg e2, if_neg (by omega), if_neg (by omega)]
              exact ⟨rfl, rfl⟩
        · rw [ho k' f i (fun q => q2 ⟨q.1, q.2.1, by have := q.2.2; omega⟩)]
          exact p4 k' f i q1 q2
      -- the road
      have rneg : (passS S0 n).1 4 9 k = -1 ∨ (¬ (passS S0 n).1 4 9 k = -1 ∧ ¬ (passS S0 n).1 4 9 k < 0) := by
        rcases passS_rd (S := S0) n k with e | e
        · rcases hroad with h9 | ⟨d, q, h9, hd, -⟩
          · exact Or.inl (e.trans h9)
          · right
            rw [e, h9]
            exact ⟨fun z => absurd (z ▸ nI_nn (n := d) (by omega)) (by decide), nI_nn (by omega)⟩
        · exact Or.inl e
      have h71 : ∀ vb, vb = brT (passS S0 n) k → ∀ fl : Bool, (fl = true ↔ (passS S0 n).1 4 9 k = -1) → G 71 [some (aR 10 5), some (aR 10 9), some (aI (nI k)), some (aI ((14 : Int32) * nI k)), some (aI (bV fl))] [] (wrI Sk 10 5 (14 * k + 11) vb) 0 := fun vb hb fl hfl => by
        have q9 : (wrI Sk 10 5 (14 * k + 11) vb).1 10 5 (14 * k + 9) = (passS S0 n).1 4 9 k := by rw [wrI_ne fun q => by omega]; exact r9
        have q10 : (wrI Sk 10 5 (14 * k + 11) vb).1 10 5 (14 * k + 10) = S0.1 4 10 k := by rw [wrI_ne fun q => by omega]; exact g10
        have qm : (wrI Sk 10 5 (14 * k + 11) vb).1 10 9 (0 : Int32).toNatClampNeg = nI (T + n) := by rw [wrI_ne fun q => absurd q.2.1 (by decide)]; exact em
        have q11 : (wrI Sk 10 5 (14 * k + 11) vb).1 10 5 (14 * k + 11) = brT (passS S0 n) k := by rw [wrI_at, if_pos ⟨rfl, rfl, rfl⟩]; exact hb
        have oth : ∀ k' f i, ¬ (k' = 10 ∧ f = 5 ∧ (i = 14 * k + 9 ∨ i = 14 * k + 11)) → (wrI Sk 10 5 (14 * k + 11) vb).1 k' f i = Sk.1 k' f i := fun k' f i q => wrI_ne fun z => q ⟨z.1, z.2.1, Or.inr z.2.2⟩
        refine hs [97] 60 71 _ _ _ _ ?_
        cases fl with
        | true =>
          refine ⟨fun _ => stp (wrI Sk 10 5 (14 * k + 11) vb) rfl ?_ q11 oth _ _, fun z => absurd z (by decide)⟩
          rw [q9]
          unfold rdT
          rw [if_pos (hfl.mp rfl)]
          exact hfl.mp rfl
        | false =>
          have hne : ¬ (passS S0 n).1 4 9 k = -1 := fun z => absurd (hfl.mpr z) (by decide)
          refine ⟨fun z => absurd rfl z, fun _ => ⟨w10, v0, ?_⟩⟩
          rw [i10, q10, qm]
          refine ⟨fun z => stp (wrI Sk 10 5 (14 * k + 11) vb) rfl ?_ q11 oth _ _, fun z => ⟨w9, ?_⟩⟩
          · rw [q9]
            unfold rdT
            have hlt : (passS S0 n).1 0 9 0 < (passS S0 n).1 4 10 k := drvI_s hdrv n k (by omega) hne
            have hlt2 : (passS S0 n).1 0 9 0 + 1 < (passS S0 n).1 4 10 k := by
              rw [o10] at hlt ⊢
              rw [enow] at hlt ⊢
              rw [nI_s]
              rw [Int32.lt_iff_toInt_lt, nI_toInt (by omega)] at hlt ⊢
              have hy2 : ¬ (S0.1 4 10 k).toInt = ((T + n + 1 : Nat) : Int) := fun q => z ((Int32.toInt_inj.mp (q.trans (nI_toInt (by omega)).symm)).trans (nI_s _).symm)
              omega
            rw [if_neg hne, if_pos hlt2]
          · rw [i9]
            refine stp (wrI (wrI Sk 10 5 (14 * k + 11) vb) 10 5 (14 * k + 9) (-1)) rfl ?_ ?_ (fun k' f i q => ?_) _ _
            · rw [wrI_at, if_pos ⟨rfl, rfl, rfl⟩]
              unfold rdT
              rw [if_neg hne, o10, z, enow, if_neg Int32.lt_irrefl]
            · rw [wrI_ne fun q => by omega]
              exact q11
            · rw [wrI_ne fun z => q ⟨z.1, z.2.1, Or.inl z.2.2⟩]
              exact oth k' f i q
      have hbay : (S0.1 10 9 1 >>> (nI p &&& 31)) &&& 1 = 0 ↔ S0.1 11 0 p = 0 := by
        have h1 := hI.ba.1 p p5
        have h2 := t_bit (S0.1 10 9 1) p (by omega)
        rw [h1] at h2
        have h01 : ∀ x : Int32, x &&& 1 = 0 ∨ x &&& 1 = 1 := fun x => by
          obtain ⟨q, hq, e⟩ := pk_andE x (m := 1) 1 (by decide)
          rw [e]
          have : q = 0 ∨ q = 1 := by omega
          rcases this with rfl | rfl
          · exact Or.inl rfl
          · exact Or.inr rfl
        unfold bayH at h2
        rw [decide_eq_true_iff] at h2
        constructor
        · intro z
          refine Classical.byContradiction fun y => ?_
          have := h2.mpr y
          rw [z] at this
          exact absurd this (by decide)
        · intro z
          rcases h01 (S0.1 10 9 1 >>> (nI p &&& 31)) with e | e
          · exact e
          · exact absurd z (h2.mp e)
      have bq : ∀ c : Prop, (c ↔ ((passS S0 n).1 4 9 k = -1 ∧ dayB ((passS S0 n).1 0 9 0) = true ∧ (passS S0 n).1 11 0 ((passS S0 n).1 4 8 k).toNatClampNeg = 0)) → (c → (passS S0 n).1 4 11 k + 1 = brT (passS S0 n) k) ∧ (¬ c → (passS S0 n).1 4 11 k + 0 = brT (passS S0 n) k) := fun c hc => by
        unfold brT
        refine ⟨fun z => (if_pos (hc.mp z)).symm, fun z => ?_⟩
        rw [if_neg fun y => z (hc.mpr y), Int32.add_zero]
      have bq2 := bq _ Iff.rfl
      rw [enow, o8, o11, nI_cl (show p < 2 ^ 31 by omega), dayB_m (show T + n < 2 ^ 31 by omega)] at bq2
      have em144 : nI (T + n) - nI (T + n) / 144 * 144 = nI ((T + n) % 144) := pk_rem (d := 144) (by omega) (by omega) (by omega)
      refine hs [71] 60 2 _ _ _ _ ?_
      refine ⟨fun q => absurd q (lp_go (n := 2) (by omega) hk2), fun _ => ⟨w9, ?_⟩⟩
      rw [i9, r9]
      have neg1 : ((-1 : Int32) < 0) := by decide
      refine ⟨fun z => ⟨w11, ?_⟩, fun z => ⟨w11, ?_⟩⟩
      · have hne : ¬ (passS S0 n).1 4 9 k = -1 := fun y => by
          rw [y] at z
          exact absurd z (by decide)
        refine ⟨fun _ => ⟨w11, ?_⟩, fun y => absurd rfl y⟩
        rw [i11, r11]
        exact h71 _ (bq2.2 fun y => hne y.1) false ⟨fun y => (nomatch y), fun y => absurd y hne⟩
      · have heq : (passS S0 n).1 4 9 k = -1 := rneg.resolve_right fun y => z (Int32.not_lt.mp y.2)
        refine ⟨fun y => absurd y (by decide), fun _ => ⟨v0, rem144 0, ?_⟩⟩
        rw [em, em144]
        refine ⟨fun y => ⟨w11, ?_⟩, fun y => ⟨v1, w0, ?_⟩⟩
        · have y' := (nI_le2 (b := 35) (by omega) (by omega)).mp y
          rw [i11, r11]
          exact h71 _ (bq2.2 fun x => by have := x.2.1; omega) true ⟨fun _ => heq, fun _ => rfl⟩
        · have y' : 36 ≤ (T + n) % 144 := by
            refine Nat.not_lt.mp fun x => y ?_
            exact (nI_le2 (b := 35) (by omega) (by omega)).mpr (by omega)
          rw [em1, i0, g0]
          refine ⟨fun x => ⟨w11, ?_⟩, fun x => ⟨w11, ?_⟩⟩
          · rw [i11, r11]
            exact h71 _ (bq2.2 fun v => x (hbay.mpr v.2.2)) true ⟨fun _ => heq, fun _ => rfl⟩
          · rw [i11, r11]
            exact h71 _ (bq2.1 ⟨heq, y', hbay.mp x⟩) true ⟨fun _ => heq, fun _ => rfl⟩
  exact hs [2] 60 0 _ _ _ _ (loop 2 0 rfl S hP none none)
theorem ct_L_pass {l : Launch} (hl : l.stackTraces = false) (hNL : NewL l) : CT l yL_pass cL_pass 5 none 0 0 s_L_pass := CT_of hl hNL (by decide +kernel) (own := "HeavyHaulLaw") rfl (ini := false) (fun q => nomatch q) chk_L_pass (cal_L_pass hl hNL) ar_L_pass vc_L_pass
end
