/-! CONTRACTS, and calls over the world -/
def rmx (rk u : Nat) : Room := { frames := 6 + rk, cells := u, slots := 120 * u, locals := 100 + 40 * rk }
def exn : Nat → String
  | 0 => "java/lang/IndexOutOfBoundsException"
  | 1 => "java/lang/IllegalArgumentException"
  | _ => "java/lang/IllegalStateException"
def LvO (S : Sto) : Option AV → Prop
  | none => True
  | some a => LvV S a
def Ext (α : Nat → Nat → Nat) (S : Sto) (α' : Nat → Nat → Nat) (S' : Sto) : Prop := AgR S α α' ∧ ∀ k, S.2.2 k ≤ S'.2.2 k
def PC (g : GT) (α : Nat → Nat → Nat) (h : HT) (S : Sto) (as : List AV) : Array Value → State → Prop := va_Pc (as.map (conc α)) (fun U => Wd g α h S U ∧ ∀ a ∈ as, LvV S a)
def QC (g : GT) (α : Nat → Nat → Nat) (S : Sto) (P : Out → Sto → Prop) : Array Value → State → Outcome → State → Prop := fun _ st o t =>
  ∃ (r : Option AV) (α' : Nat → Nat → Nat) (h' : HT) (S' : Sto), o = .returned (r.map (conc α')) ∧ P (Sum.inl r) S' ∧ Ext α S α' S' ∧ LvO S' r ∧ Rep g α' h' S' t.heap ∧ va_F (AB g) st t
def XC (g : GT) (α : Nat → Nat → Nat) (S : Sto) (P : Out → Sto → Prop) : String → State → State → Prop := fun E st t =>
  ∃ (x : Nat) (α' : Nat → Nat → Nat) (h' : HT) (S' : Sto), E = exn x ∧ P (Sum.inr x) S' ∧ Ext α S α' S' ∧ Rep g α' h' S' t.heap ∧ va_F (AB g) st t
/-- a method's contract: whatever its words ask, it gives -/
def CT (l : Launch) (y : MethodName) (cc : ByteArray) (maxL : Nat) (ret : Option FieldType) (rk u : Nat) (sp : SP) : Prop :=
  ∀ (g : GT) (α : Nat → Nat → Nat) (h : HT) (S : Sto) (as : List AV) (P : Out → Sto → Prop), sp as S P → vx_Met l y [.code y cc maxL ret] (rmx rk u) (PC g α h S as) (QC g α S P) (XC g α S P) u (120 * u) (AB g)
/-- .. of a method with handlers -/
def CTW (l : Launch) (y : MethodName) (cc : ByteArray) (maxL : Nat) (ret : Option FieldType) (hh : List (Nat × Nat × Nat × Nat)) (rk u : Nat) (sp : SP) : Prop :=
  ∀ (g : GT) (α : Nat → Nat → Nat) (h : HT) (S : Sto) (as : List AV) (P : Out → Sto → Prop), sp as S P → vx_Met l y [.codeWith y cc maxL ret hh] (rmx rk u) (PC g α h S as) (QC g α S P) (XC g α S P) u (120 * u) (AB g)
/-- what a method's body stands on -/
def Cx (p : Program) (l : Launch) (s : State) (m : MethodId) (meth : Method) (c : Code) (R : Room) (cc : ByteArray) (own : String) (nL rk cb sb B : Nat) (ini : Bool) (g : GT) : Prop :=
  p.tables.exec = Jvm.exec ∧ c.code = cc ∧ c.maxLocals = nL ∧ s.vm.findClass own = some m.cls ∧ meth.locks = false ∧ (ini = true → meth.name = "<init>") ∧ va_K g.1 vwCl (tysG g) s ∧ WT s ∧ ST g s s.heap ∧ g.2.2.2 ≤ s.heap.size ∧
  6 + rk ≤ R.frames ∧ 100 + 40 * rk ≤ R.locals ∧ cb + B ≤ R.cells ∧ sb + 120 * B ≤ R.slots ∧ l.stackTraces = false
theorem blind_PC {g : GT} {α : Nat → Nat → Nat} {h : HT} {S : Sto} {as : List AV} : FrameBlind (PC g α h S as) := by
  intro a U f mk q
  obtain ⟨q1, ⟨q2, q3, q4, q5, q6⟩, q7⟩ := q
  exact ⟨q1, ⟨q2, va_K.moved (u := U) (U := U.calling f mk a) (Vm.Alike.refl U.vm) q3, WT.warm (s := U) (U := U.calling f mk a) (State.WarmedH.refl U) q4, ST.moved (s := U) (U := U.calling f mk a) (State.WarmedH.refl U) q5, q6⟩, q7⟩
theorem code_pay {y : MethodName} {cc : ByteArray} {maxL : Nat} {ret : Option FieldType} {s : State} {args : Array Value} (h : (Cond.code y cc maxL ret).before args s = true) : ∀ w ∈ [Cond.code y cc maxL ret], ∀ (a' : Array Value) (U : State), s.WarmedH U.vm → w.before a' U = true := by
  intro w hw a' U hW
  rw [List.mem_singleton.mp hw]
  exact word_at hW (Or.inl rfl) h
theorem codeW_pay {y : MethodName} {cc : ByteArray} {maxL : Nat} {ret : Option FieldType} {hh : List (Nat × Nat × Nat × Nat)} {s : State} {args : Array Value} (h : (Cond.codeWith y cc maxL ret hh).before args s = true) : ∀ w ∈ [Cond.codeWith y cc maxL ret hh], ∀ (a' : Array Value) (U : State), s.WarmedH U.vm → w.before a' U = true := by
  intro w hw a' U hW
  rw [List.mem_singleton.mp hw]
  exact word_at hW (Or.inl rfl) h
/-! a static call with up to 16 words below its arguments (after vx_runS) -/
section Runs16
variable {p : Program} {l : Launch} {e : Env} {R : Room} {s : State} {m : MethodId} {args : Array Value} {below : List Frame} {meth : Method} {c : Code} {H : Heap} {locs : List Loc} {cells slots : Nat}
variable {y : MethodName} {bytes cc : ByteArray} {maxL nL mc ms n index : Nat} {ret : Option FieldType} {ws : List Cond} {rm : Room} {Pc : Array Value → State → Prop} {Qc : Array Value → State → Outcome → State → Prop} {XC : String → State → State → Prop} {free : Addr → Prop} {Ts : List Cond} {own C : String} {b : Addr} {As rest : List Value} {g : JFrame}
theorem vx_runS16 (hlo16 : 16 + (maxL + 11) + rm.locals ≤ R.locals) (S : CallFix p m c cc nL s args Ts own) (hM : vx_Met l y ws rm Pc Qc XC mc ms free) (cw : CallB R s args own index y bytes maxL ret ws rm mc ms n ∧ (Cond.static y).before args s = true) (hp : PreS s H Pc As)
    (hg : g.method = m) (hn : As.length = n) (hsize : g.locals.size = nL) (hstack : g.stack = As.reverse ++ rest) (hW : 2 * g.monitorRoom + (rest.map fun v => v.category).sum ≤ 16) (hdg : decode cc g.pc = .ok (.invokestatic index, 3)) (hf : cells + mc ≤ R.cells ∧ slots + ms ≤ R.slots) :
    vx_Run p l e R s m args below meth c H locs cells slots mc ms g rest (Qc As.toArray) XC free := by
  have hK : vx_Back l R p e below s args y 3 16 (PreOf R mc ms Pc) (PostOf Qc mc ms free) (vx_Post XC mc ms free) := by
    obtain ⟨hrc, hrs, hfr, -, hws, hcw, -, hini, -⟩ := cw.1
    exact vx_back (bytes := bytes) (maxL := maxL) (ret := ret) hM hp.1 hrc hrs hfr hlo16 hws hcw (fun a' U hW => word_at hW (Or.inl (by first | rfl | simp [Cond.onTables, Cond.keeps, Cond.steady])) hini)
  obtain ⟨⟨-, -, -, -, -, -, hcode, hini, hy, hlen, hl⟩, hstt⟩ := cw
  obtain ⟨hx, hb, hml, ho, -⟩ := S
  intro T hT X
  rcases vx_callS X hx (bytes := bytes) (maxL := maxL) (ret := ret) ho hl hstt hini hcode hy hK hg (hsize.trans hml.symm) (argsL := As) (rest := rest) (fun sig h => hn.trans (hlen sig h)) hstack hW (by rw [hb]; exact hdg)
    (fun vm₁ hW₁ => ⟨hf.1, hf.2, hp.2 (T.setVm vm₁) hT hW₁⟩) with ⟨v, vm₁, ⟨U', l2, c2, s2⟩, hW₁, X', ⟨g', mk, t, L, e1, e2, hq, h1, hL, h2, h3⟩, st⟩ | ⟨q, vm₁, ⟨U', l2, c2, s2⟩, hW₁, X', ⟨g', mk, t, L, E, ce, e1, e2, hq, hce, hcv, hcl, h1, hL, h2, h3⟩, st⟩
  · dsimp only [Pt.U, Pt.locs, Pt.cells, Pt.slots] at X' e1 e2 h1 h2 h3 st
    subst h1; subst h2; subst h3
    exact Or.inl ⟨v, (T.setVm vm₁).calling g' mk As.toArray, t, U', L, hT, X', hL, e1, e2, hq, st⟩
  · dsimp only [Pt.U, Pt.locs, Pt.cells, Pt.slots] at X' e1 e2 h1 h2 h3 st hcl
    subst h1; subst h2; subst h3
    exact Or.inr ⟨q, (T.setVm vm₁).calling g' mk As.toArray, t, U', L, E, ce, hT, X', hL, e1, e2, hq, hce, hcv, vx_cls hW₁ hcl, st⟩
end Runs16
section CALLS
variable {p : Program} {l : Launch} {e : Env} {R : Room} {s : State} {m : MethodId} {args : Array Value} {below : List Frame} {meth : Method} {c : Code} {H : Heap} {locs : List Loc} {cells slots : Nat} {Q : State → Prop}
variable {cc : ByteArray} {pc : Nat} {ls : Array Slot} {rest st0 : List Value} {g : GT} {α : Nat → Nat → Nat} {h : HT} {S : Sto} {own : String} {idx nL rk cb sb B : Nat} {ini : Bool} {as : List AV} {P : Out → Sto → Prop}
theorem pre_PC (C : Cx p l s m meth c R cc own nL rk cb sb B ini g) (hR : Rep g α h S H) (hS : va_S (AB g) s.heap H locs) (hLv : ∀ a ∈ as, LvV S a) : PreS s H (PC g α h S as) (as.map (conc α)) := by
  obtain ⟨hx, hb, hml, hown, hlk, hin, hK, hWT, hST, hbs, -⟩ := C
  refine ⟨blind_PC, fun U hU hW => ⟨rfl, ⟨by rw [hU]; exact hR, va_K.moved hW.alike hK, WT.warm hW hWT, by rw [hU]; exact (ST.moved hW hST).kept hS.2.1, by rw [hU]; exact Nat.le_trans hbs hS.1⟩, hLv⟩⟩
/-- behind a call -/
theorem w_after {a : Array Value} {mc ms : Nat} (hr : vx_Run p l e R s m args below meth c H locs cells slots mc ms (F0 m pc ls st0) rest (QC g α S P a) (XC g α S P) (AB g)) (hS : va_S (AB g) s.heap H locs)
    (kk : ∀ (r : Option AV) (α' : Nat → Nat → Nat) (h' : HT) (S' : Sto) (H1 : Heap) (locs1 : List Loc), P (Sum.inl r) S' → Ext α S α' S' → LvO S' r → Rep g α' h' S' H1 → va_S (AB g) s.heap H1 locs1 → W p l e R s m args below meth c H1 locs1 (cells + mc) (slots + ms) Q (F0 m (pc + 3) ls ((r.map (conc α')).toList ++ rest)))
    (kx : ∀ (x : Nat) (α' : Nat → Nat → Nat) (h' : HT) (S' : Sto) (H1 : Heap) (locs1 : List Loc) (q9 : Addr) (ce : Cell), P (Sum.inr x) S' → Ext α S α' S' → Rep g α' h' S' H1 → va_S (AB g) s.heap H1 locs1 → H1[q9]? = some ce → ce.vm = .none → s.vm.findClass (exn x) = some ce.cls →
      vx_W p l e R s m args below meth c H1 locs1 (cells + mc) (slots + ms) Q (F0 m pc ls rest) q9) : W p l e R s m args below meth c H locs cells slots Q (F0 m pc ls st0) := by
  intro T hT X
  rcases hr T hT X with ⟨v, st₀, t, T', L, h0, X', hL, e1, e2, ⟨r, α', h', S', ho, hP, hE, hLv, hRep, hF⟩, st⟩ | ⟨q, st₀, t, T', L, E, ce, h0, X', hL, e1, e2, ⟨x, α', h', S', hEx, hP, hE, hRep, hF⟩, hce, hcv, hcl, st⟩
  · cases ho
    obtain ⟨k1, k2, k3⟩ := vx_keep h0 e1 hS (fun _ _ h => h) (fun _ h => h) hL hF
    obtain ⟨t2, a1, b1⟩ := kk r α' h' S' T'.heap (locs ++ L) hP hE hLv (by rw [e1]; exact hRep) k3 T' rfl X'
    exact ⟨t2, st t2 a1, b1⟩
  · obtain ⟨k1, k2, k3⟩ := vx_keep h0 e1 hS (fun _ _ h => h) (fun _ h => h) hL hF
    obtain ⟨t2, a1, b1⟩ := kx x α' h' S' T'.heap (locs ++ L) q ce hP hE (by rw [e1]; exact hRep) k3 (by rw [e1]; exact hce) hcv (by rw [← hEx]; exact hcl) T' rfl X'
    exact ⟨t2, st.trans a1, b1⟩
/-- a call's words: the site, the callee -/
def LkB (own : String) (idx : Nat) (y : MethodName) (cc : ByteArray) (maxL : Nat) (ret : Option FieldType) (n : Nat) : Prop :=
  Cond.code y cc maxL ret ∈ lw_tbl ∧ Cond.initialized y.cls ∈ lw_tbl ∧ Cond.methodLink own idx y ∈ lw_tbl ∧ (y.cls ≠ "java/lang/invoke/MethodHandle" ∧ y.cls ≠ "java/lang/invoke/VarHandle") ∧ (parseMethodDescriptor y.desc).map (fun d => d.parameters.length) = some n ∧ maxL ≤ 21
theorem lkB_call {y : MethodName} {cy : ByteArray} {maxL n rz uz : Nat} {ret : Option FieldType} (C : Cx p l s m meth c R cc own nL rk cb sb B ini g) (hL : LkB own idx y cy maxL ret n) (hrk : rz < rk) :
    CallB R s args own idx y cy maxL ret [.code y cy maxL ret] (rmx rz uz) uz (120 * uz) n := by
  obtain ⟨hx, hb, hml, hown, hlk, hin, hK, hWT, hST, hbs, hfr, hlo, -⟩ := C
  obtain ⟨h1, h2, h3, h4, h5, h6⟩ := hL
  have hcode : (Cond.code y cy maxL ret).before args s = true := hWT _ h1 rfl args
  refine ⟨rfl, rfl, by show 6 + rz + 1 ≤ _; omega, by show 8 + (maxL + 11) + (100 + 40 * rz) ≤ _; omega, code_pay hcode, List.mem_singleton.mpr rfl, hcode, hWT _ h2 rfl args, h4, fun sig h => ?_, hWT _ h3 rfl args⟩
  rw [h] at h5
  exact (Option.some.inj h5).symm
theorem w_callS {y : MethodName} {cy : ByteArray} {maxL n rz uz : Nat} {ret : Option FieldType} {sp : SP} (C : Cx p l s m meth c R cc own nL rk cb sb B ini g) (hct : CT l y cy maxL ret rz uz sp) (hL : LkB own idx y cy maxL ret n) (hst : Cond.static y ∈ lw_tbl) (hrk : rz < rk) (hn : as.length = n)
    (hsp : sp as S P) (hR : Rep g α h S H) (hS : va_S (AB g) s.heap H locs) (hLv : ∀ a ∈ as, LvV S a) (hsz : ls.size = nL) (hcat : (rest.map fun v => v.category).sum ≤ 8) (hf : cells + uz ≤ R.cells ∧ slots + 120 * uz ≤ R.slots) (hdg : decode cc pc = .ok (.invokestatic idx, 3))
    (kk : ∀ (r : Option AV) (α' : Nat → Nat → Nat) (h' : HT) (S' : Sto) (H1 : Heap) (locs1 : List Loc), P (Sum.inl r) S' → Ext α S α' S' → LvO S' r → Rep g α' h' S' H1 → va_S (AB g) s.heap H1 locs1 → W p l e R s m args below meth c H1 locs1 (cells + uz) (slots + 120 * uz) Q (F0 m (pc + 3) ls ((r.map (conc α')).toList ++ rest)))
    (kx : ∀ (x : Nat) (α' : Nat → Nat → Nat) (h' : HT) (S' : Sto) (H1 : Heap) (locs1 : List Loc) (q9 : Addr) (ce : Cell), P (Sum.inr x) S' → Ext α S α' S' → Rep g α' h' S' H1 → va_S (AB g) s.heap H1 locs1 → H1[q9]? = some ce → ce.vm = .none → s.vm.findClass (exn x) = some ce.cls →
      vx_W p l e R s m args below meth c H1 locs1 (cells + uz) (slots + 120 * uz) Q (F0 m pc ls rest) q9) : W p l e R s m args below meth c H locs cells slots Q (F0 m pc ls ((as.map (conc α)).reverse ++ rest)) :=
  w_after (vx_runS (Ts := []) (own := own) (As := as.map (conc α)) ⟨C.1, C.2.1, C.2.2.1, C.2.2.2.1, fun _ h => nomatch h⟩ (hct g α h S as P hsp) ⟨lkB_call C hL hrk, C.2.2.2.2.2.2.2.1 _ hst rfl args⟩ (pre_PC C hR hS hLv) rfl (by rw [List.length_map]; exact hn) hsz rfl (by show 2 * 0 + _ ≤ 8; omega) hdg hf) hS kk kx
theorem w_callS16 {y : MethodName} {cy : ByteArray} {maxL n rz uz : Nat} {ret : Option FieldType} {sp : SP} (C : Cx p l s m meth c R cc own nL rk cb sb B ini g) (hct : CT l y cy maxL ret rz uz sp) (hL : LkB own idx y cy maxL ret n) (hm : maxL ≤ 13) (hst : Cond.static y ∈ lw_tbl) (hrk : rz < rk) (hn : as.length = n)
    (hsp : sp as S P) (hR : Rep g α h S H) (hS : va_S (AB g) s.heap H locs) (hLv : ∀ a ∈ as, LvV S a) (hsz : ls.size = nL) (hcat : (rest.map fun v => v.category).sum ≤ 16) (hf : cells + uz ≤ R.cells ∧ slots + 120 * uz ≤ R.slots) (hdg : decode cc pc = .ok (.invokestatic idx, 3))
    (kk : ∀ (r : Option AV) (α' : Nat → Nat → Nat) (h' : HT) (S' : Sto) (H1 : Heap) (locs1 : List Loc), P (Sum.inl r) S' → Ext α S α' S' → LvO S' r → Rep g α' h' S' H1 → va_S (AB g) s.heap H1 locs1 → W p l e R s m args below meth c H1 locs1 (cells + uz) (slots + 120 * uz) Q (F0 m (pc + 3) ls ((r.map (conc α')).toList ++ rest)))
    (kx : ∀ (x : Nat) (α' : Nat → Nat → Nat) (h' : HT) (S' : Sto) (H1 : Heap) (locs1 : List Loc) (q9 : Addr) (ce : Cell), P (Sum.inr x) S' → Ext α S α' S' → Rep g α' h' S' H1 → va_S (AB g) s.heap H1 locs1 → H1[q9]? = some ce → ce.vm = .none → s.vm.findClass (exn x) = some ce.cls →
      vx_W p l e R s m args below meth c H1 locs1 (cells + uz) (slots + 120 * uz) Q (F0 m pc ls rest) q9) : W p l e R s m args below meth c H locs cells slots Q (F0 m pc ls ((as.map (conc α)).reverse ++ rest)) :=
  w_after (vx_runS16 (by have := C.2.2.2.2.2.2.2.2.2.2.2.1; show 16 + (maxL + 11) + (100 + 40 * rz) ≤ _; omega) (Ts := []) (own := own) (As := as.map (conc α)) ⟨C.1, C.2.1, C.2.2.1, C.2.2.2.1, fun _ h => nomatch h⟩ (hct g α h S as P hsp) ⟨lkB_call C hL hrk, C.2.2.2.2.2.2.2.1 _ hst rfl args⟩ (pre_PC C hR hS hLv) rfl (by rw [List.length_map]; exact hn) hsz rfl (by show 2 * 0 + _ ≤ 16; omega) hdg hf) hS kk kx
/-- a call's words, of a callee with handlers -/
def LkW (own : String) (idx : Nat) (y : MethodName) (cc : ByteArray) (maxL : Nat) (ret : Option FieldType) (hh : List (Nat × Nat × Nat × Nat)) (n : Nat) : Prop :=
  Cond.codeWith y cc maxL ret hh ∈ lw_tbl ∧ Cond.initialized y.cls ∈ lw_tbl ∧ Cond.methodLink own idx y ∈ lw_tbl ∧ (y.cls ≠ "java/lang/invoke/MethodHandle" ∧ y.cls ≠ "java/lang/invoke/VarHandle") ∧ (parseMethodDescriptor y.desc).map (fun d => d.parameters.length) = some n ∧ maxL ≤ 21
theorem lkW_call {y : MethodName} {cy : ByteArray} {maxL n rz uz : Nat} {ret : Option FieldType} {hh : List (Nat × Nat × Nat × Nat)} (C : Cx p l s m meth c R cc own nL rk cb sb B ini g) (hL : LkW own idx y cy maxL ret hh n) (hrk : rz < rk) (hst : Cond.static y ∈ lw_tbl) :
    vx_CSW R s args own idx y cy maxL ret hh [.codeWith y cy maxL ret hh] (rmx rz uz) uz (120 * uz) n := by
  obtain ⟨hx, hb, hml, hown, hlk, hin, hK, hWT, hST, hbs, hfr, hlo, -⟩ := C
  obtain ⟨h1, h2, h3, h4, h5, h6⟩ := hL
  have hcode : (Cond.codeWith y cy maxL ret hh).before args s = true := hWT _ h1 rfl args
  refine ⟨⟨rfl, rfl, by show 6 + rz + 1 ≤ _; omega, by show 8 + (maxL + 11) + (100 + 40 * rz) ≤ _; omega, codeW_pay hcode, List.mem_singleton.mpr rfl⟩, hcode, hWT _ h2 rfl args, h4, fun sig h => ?_, hWT _ h3 rfl args, hWT _ hst rfl args⟩
  rw [h] at h5
  exact (Option.some.inj h5).symm
theorem w_callSW {y : MethodName} {cy : ByteArray} {maxL n rz uz : Nat} {ret : Option FieldType} {hh : List (Nat × Nat × Nat × Nat)} {sp : SP} (C : Cx p l s m meth c R cc own nL rk cb sb B ini g) (hct : CTW l y cy maxL ret hh rz uz sp) (hL : LkW own idx y cy maxL ret hh n) (hst : Cond.static y ∈ lw_tbl) (hrk : rz < rk) (hn : as.length = n)
    (hsp : sp as S P) (hR : Rep g α h S H) (hS : va_S (AB g) s.heap H locs) (hLv : ∀ a ∈ as, LvV S a) (hsz : ls.size = nL) (hcat : (rest.map fun v => v.category).sum ≤ 8) (hf : cells + uz ≤ R.cells ∧ slots + 120 * uz ≤ R.slots) (hdg : decode cc pc = .ok (.invokestatic idx, 3))
    (kk : ∀ (r : Option AV) (α' : Nat → Nat → Nat) (h' : HT) (S' : Sto) (H1 : Heap) (locs1 : List Loc), P (Sum.inl r) S' → Ext α S α' S' → LvO S' r → Rep g α' h' S' H1 → va_S (AB g) s.heap H1 locs1 → W p l e R s m args below meth c H1 locs1 (cells + uz) (slots + 120 * uz) Q (F0 m (pc + 3) ls ((r.map (conc α')).toList ++ rest)))
    (kx : ∀ (x : Nat) (α' : Nat → Nat → Nat) (h' : HT) (S' : Sto) (H1 : Heap) (locs1 : List Loc) (q9 : Addr) (ce : Cell), P (Sum.inr x) S' → Ext α S α' S' → Rep g α' h' S' H1 → va_S (AB g) s.heap H1 locs1 → H1[q9]? = some ce → ce.vm = .none → s.vm.findClass (exn x) = some ce.cls →
      vx_W p l e R s m args below meth c H1 locs1 (cells + uz) (slots + 120 * uz) Q (F0 m pc ls rest) q9) : W p l e R s m args below meth c H locs cells slots Q (F0 m pc ls ((as.map (conc α)).reverse ++ rest)) :=
  w_after (vx_runSX (Ts := []) (own := own) (As := as.map (conc α)) ⟨C.1, C.2.1, C.2.2.1, C.2.2.2.1, fun _ h => nomatch h⟩ (hct g α h S as P hsp) (lkW_call C hL hrk hst) (pre_PC C hR hS hLv) rfl (by rw [List.length_map]; exact hn) hsz rfl (by show 2 * 0 + _ ≤ 8; omega) hdg hf) hS kk kx
/-- an object as a receiver -/
theorem recv_ob (hK : va_K g.1 vwCl (tysG g) s) (hR : Rep g α h S H) {k i : Nat} (hk : obK k = true ∨ k = 13) (hi : i < S.2.2 k) : ∃ cell : Cell, H[α k i]? = some cell ∧ cell.vm.isStatics = false ∧ s.vm.findClass (vC (ci k)).1 = some cell.cls := by
  rcases hk with hk | rfl
  · exact va_recv hK (hR.ob hk hi) (kd_KF hk).1.1 (q0 := 0) rfl
  · exact va_recv hK (hR.ar (k := 13) rfl hi) (ci := 0) (q := vC 0) rfl (q0 := 0) (by rw [ent_13]; rfl)
theorem w_callV {y : MethodName} {cy : ByteArray} {maxL n rz uz k i : Nat} {ret : Option FieldType} {sp : SP} (C : Cx p l s m meth c R cc own nL rk cb sb B ini g) (hct : CT l y cy maxL ret rz uz sp) (hL : LkB own idx y cy maxL ret n) (hin : Cond.instanceMethod y ∈ lw_tbl) (hse : (Cond.selects (vC (ci k)).1 y y) ∈ lw_tbl) (hrk : rz < rk) (hn : as.length = n)
    (hk : obK k = true ∨ k = 13) (hi : i < S.2.2 k) (hsp : sp (aR k i :: as) S P) (hR : Rep g α h S H) (hS : va_S (AB g) s.heap H locs) (hLv : ∀ a ∈ as, LvV S a) (hsz : ls.size = nL) (hcat : (rest.map fun v => v.category).sum ≤ 8) (hf : cells + uz ≤ R.cells ∧ slots + 120 * uz ≤ R.slots) (hdg : decode cc pc = .ok (.invokevirtual idx, 3))
    (kk : ∀ (r : Option AV) (α' : Nat → Nat → Nat) (h' : HT) (S' : Sto) (H1 : Heap) (locs1 : List Loc), P (Sum.inl r) S' → Ext α S α' S' → LvO S' r → Rep g α' h' S' H1 → va_S (AB g) s.heap H1 locs1 → W p l e R s m args below meth c H1 locs1 (cells + uz) (slots + 120 * uz) Q (F0 m (pc + 3) ls ((r.map (conc α')).toList ++ rest)))
    (kx : ∀ (x : Nat) (α' : Nat → Nat → Nat) (h' : HT) (S' : Sto) (H1 : Heap) (locs1 : List Loc) (q9 : Addr) (ce : Cell), P (Sum.inr x) S' → Ext α S α' S' → Rep g α' h' S' H1 → va_S (AB g) s.heap H1 locs1 → H1[q9]? = some ce → ce.vm = .none → s.vm.findClass (exn x) = some ce.cls →
      vx_W p l e R s m args below meth c H1 locs1 (cells + uz) (slots + 120 * uz) Q (F0 m pc ls rest) q9) : W p l e R s m args below meth c H locs cells slots Q (F0 m pc ls ((as.map (conc α)).reverse ++ .ref (α k i) :: rest)) := by
  have hk9 : k ≠ 99 := (ob_ne (hk.imp id (fun q => by rw [q]; rfl))).2.1
  have hcv : conc α (aR k i) = .ref (α k i) := by show Value.ref (if k = 99 then i else α k i) = _; rw [if_neg hk9]
  have hLv' : ∀ a ∈ aR k i :: as, LvV S a := fun a ha => (List.mem_cons.mp ha).elim (fun q => by rw [q]; exact Or.inr (Or.inr ⟨hk.imp id (fun q => by rw [q]; rfl), hi⟩)) (hLv a)
  have hpre := pre_PC C hR hS hLv'
  rw [List.map_cons, hcv] at hpre
  exact w_after (vx_runV (Ts := []) (own := own) (As := as.map (conc α)) ⟨C.1, C.2.1, C.2.2.1, C.2.2.2.1, fun _ h => nomatch h⟩ (hct g α h S (aR k i :: as) P hsp) ⟨lkB_call C hL hrk, C.2.2.2.2.2.2.2.1 _ hin rfl args, C.2.2.2.2.2.2.2.1 _ hse rfl args⟩ ⟨hpre.1, recv_ob C.2.2.2.2.2.2.1 hR hk hi, hpre.2⟩ rfl (by rw [List.length_map]; exact hn) hsz rfl (by show 2 * 0 + _ ≤ 8; omega) hdg hf) hS kk kx
theorem w_callI {y : MethodName} {cy : ByteArray} {maxL n rz uz k i : Nat} {sp : SP} (C : Cx p l s m meth c R cc own nL rk cb sb B ini g) (hct : CT l y cy maxL none rz uz sp) (hL : LkB own idx y cy maxL none n) (hin : Cond.instanceMethod y ∈ lw_tbl) (hy : y.name = "<init>") (hrk : rz < rk) (hn : as.length = n)
    (hk : obK k = true ∨ k = 13) (hi : i < S.2.2 k) (hsp : sp (aR k i :: as) S P) (hR : Rep g α h S H) (hS : va_S (AB g) s.heap H locs) (hLv : ∀ a ∈ as, LvV S a) (hsz : ls.size = nL) (hcat : (rest.map fun v => v.category).sum ≤ 8) (hf : cells + uz ≤ R.cells ∧ slots + 120 * uz ≤ R.slots) (hdg : decode cc pc = .ok (.invokespecial idx, 3))
    (kk : ∀ (r : Option AV) (α' : Nat → Nat → Nat) (h' : HT) (S' : Sto) (H1 : Heap) (locs1 : List Loc), P (Sum.inl r) S' → Ext α S α' S' → LvO S' r → Rep g α' h' S' H1 → va_S (AB g) s.heap H1 locs1 → W p l e R s m args below meth c H1 locs1 (cells + uz) (slots + 120 * uz) Q (F0 m (pc + 3) ls ((r.map (conc α')).toList ++ rest)))
    (kx : ∀ (x : Nat) (α' : Nat → Nat → Nat) (h' : HT) (S' : Sto) (H1 : Heap) (locs1 : List Loc) (q9 : Addr) (ce : Cell), P (Sum.inr x) S' → Ext α S α' S' → Rep g α' h' S' H1 → va_S (AB g) s.heap H1 locs1 → H1[q9]? = some ce → ce.vm = .none → s.vm.findClass (exn x) = some ce.cls →
      vx_W p l e R s m args below meth c H1 locs1 (cells + uz) (slots + 120 * uz) Q (F0 m pc ls rest) q9) : W p l e R s m args below meth c H locs cells slots Q (F0 m pc ls ((as.map (conc α)).reverse ++ .ref (α k i) :: rest)) := by
  have hk9 : k ≠ 99 := (ob_ne (hk.imp id (fun q => by rw [q]; rfl))).2.1
  have hcv : conc α (aR k i) = .ref (α k i) := by show Value.ref (if k = 99 then i else α k i) = _; rw [if_neg hk9]
  have hLv' : ∀ a ∈ aR k i :: as, LvV S a := fun a ha => (List.mem_cons.mp ha).elim (fun q => by rw [q]; exact Or.inr (Or.inr ⟨hk.imp id (fun q => by rw [q]; rfl), hi⟩)) (hLv a)
  have hpre := pre_PC C hR hS hLv'
  rw [List.map_cons, hcv] at hpre
  exact w_after (vx_runI (Ts := []) (own := own) (As := as.map (conc α)) ⟨C.1, C.2.1, C.2.2.1, C.2.2.2.1, fun _ h => nomatch h⟩ (hct g α h S (aR k i :: as) P hsp) ⟨lkB_call C hL hrk, hy, C.2.2.2.2.2.2.2.1 _ hin rfl args⟩ hpre rfl (by rw [List.length_map]; exact hn) hsz rfl (by show 2 * 0 + _ ≤ 8; omega) hdg hf) hS kk kx
end CALLS
