/-! THE JDK's LISTS: a new one -/
def Cy (p : Program) (s : State) (m : MethodId) (meth : Method) (c : Code) (cc : ByteArray) (own : String) (nL : Nat) (g : GT) : Prop :=
  p.tables.exec = Jvm.exec ∧ c.code = cc ∧ c.maxLocals = nL ∧ s.vm.findClass own = some m.cls ∧ meth.locks = false ∧ va_K g.1 vwCl (tysG g) s ∧ WT s ∧ ST g s s.heap ∧ g.2.2.2 ≤ s.heap.size
theorem Met_y {l : Launch} {y : MethodName} {cc : ByteArray} {maxL u : Nat} {rm : Room} {ret : Option FieldType} {own : String} (hl : l.stackTraces = false) (hy : plainName y.cls = true) (hcls : y.cls = own) {g : GT} {α : Nat → Nat → Nat} {h : HT} {S : Sto} {X : Heap → Prop} {vs : List Value} {Qc : Array Value → State → Outcome → State → Prop} {XCc : String → State → State → Prop} (hlen : vs.length ≤ maxL) (hcat : ∀ v ∈ vs, v.category = 1)
    (body : ∀ (p : Program) (e : Env) (s : State) (m : MethodId) (below : List Frame) (meth : Method) (c : Code) (ls : Array Slot), Cy p s m meth c cc own maxL g → meth.sig.returnType = ret → Rep g α h S s.heap → X s.heap → lv_has ls maxL (lv_args 0 vs) →
      W p l e rm s m vs.toArray below meth c s.heap [] 0 0 (vx_MQ below Qc XCc vs.toArray s u (120 * u) (AB g)) (F0 m 0 ls [])) : vx_Met l y [.code y cc maxL ret] rm (va_Pc vs (fun U => Wd g α h S U ∧ X U.heap)) Qc XCc u (120 * u) (AB g) := by
  refine vx_ofW (cc := cc) (maxL := maxL) (ret := ret) hy rfl ?_
  intro p e s m args below meth c s₁ B hml hout hv
  obtain ⟨rfl, ⟨hR, hK, hWT, hST, hbs⟩, hX⟩ := hv
  have hown : s.vm.findClass own = some m.cls := by rw [← hcls]; exact findClass_of_methodNamed B.named
  rw [lg_entry_eq]
  have hl1 : (lg_sl vs).length ≤ maxL := by rw [lg_len1 hcat]; exact hlen
  have hle := lv_entry vs (n := maxL) hl1
  generalize (lg_sl vs ++ List.replicate (maxL - (lg_sl vs).length) Slot.unset).toArray = ls at hle ⊢
  exact body p e s m below meth c ls ⟨B.exec, B.bytes, hml, hown, B.notSynchronized, hK, hWT, hST, hbs⟩ B.returns hR hX hle
section JD3
variable {p : Program} {l : Launch} {e : Env} {R : Room} {s : State} {m : MethodId} {args : Array Value} {below : List Frame} {meth : Method} {c : Code} {H : Heap} {locs : List Loc} {cells slots : Nat} {Q : State → Prop}
variable {cc : ByteArray} {pc : Nat} {ls : Array Slot} {rest st0 : List Value} {g : GT} {α : Nat → Nat → Nat} {h : HT} {S : Sto} {H0 : Heap} {own : String} {idx nL rk cb sb B : Nat} {ini : Bool} {P : Out → Sto → Prop}
theorem pre_Wy (C : Cy p s m meth c cc own nL g) (hR : Rep g α h S H) {X : Heap → Prop} (hX : X H) (hS : va_S (AB g) s.heap H locs) (vs : List Value) : PreS s H (va_Pc vs (fun U => Wd g α h S U ∧ X U.heap)) vs := by
  obtain ⟨hx, hb, hml, hown, hlk, hK, hWT, hST, hbs⟩ := C
  refine ⟨?_, fun U hU hW => ⟨rfl, ⟨by rw [hU]; exact hR, va_K.moved hW.alike hK, WT.warm hW hWT, by rw [hU]; exact (ST.moved hW hST).kept hS.2.1, by rw [hU]; exact Nat.le_trans hbs hS.1⟩, by rw [hU]; exact hX⟩⟩
  intro a U f mk q
  obtain ⟨q1, ⟨q2, q3, q4, q5, q6⟩, q7⟩ := q
  exact ⟨q1, ⟨q2, va_K.moved (u := U) (U := U.calling f mk a) (Vm.Alike.refl U.vm) q3, WT.warm (s := U) (U := U.calling f mk a) (State.WarmedH.refl U) q4, ST.moved (s := U) (U := U.calling f mk a) (State.WarmedH.refl U) q5, q6⟩, q7⟩
theorem lkB_y {y : MethodName} {cy : ByteArray} {maxL n : Nat} {ret : Option FieldType} {rm : Room} (hWT : WT s) (hL : LkB own idx y cy maxL ret n) (h1 : rm.frames + 1 ≤ R.frames) (h2 : 8 + (maxL + 11) + rm.locals ≤ R.locals) :
    CallB R s args own idx y cy maxL ret [.code y cy maxL ret] rm rm.cells rm.slots n := by
  obtain ⟨q1, q2, q3, q4, q5, q6⟩ := hL
  have hcode : (Cond.code y cy maxL ret).before args s = true := hWT _ q1 rfl args
  refine ⟨rfl, rfl, h1, h2, code_pay hcode, List.mem_singleton.mpr rfl, hcode, hWT _ q2 rfl args, q4, fun sig h => ?_, hWT _ q3 rfl args⟩
  rw [h] at q5
  exact (Option.some.inj q5).symm
/-- a list's field is written -/
theorem w_putL (hx : p.tables.exec = Jvm.exec) (hb : c.code = cc) (hown : s.vm.findClass own = some m.cls) (hK : va_K g.1 vwCl (tysG g) s) (hWT : WT s) (hS : va_S (AB g) H0 H locs) {q : Nat} {fs : List Value} (hP : va_P g.1 vwCl [(q, .inr (0, fs))] H) (hAB : AB g q) (k : Nat) (hk : k < 3) (hlen : fs.length = 3) {ref : String} {v : Value}
    (hlink : (Cond.fieldLink own idx ref ((vC 0).2.1 k).2.1 ((vC 0).2.1 k).2.2.1).before args s = true) (hsame : ∀ x, s.fieldFound? ((vC 0).2.1 k).1 ((vC 0).2.1 k).2.1 ((vC 0).2.1 k).2.2.1 = some x → s.fieldFound? ref ((vC 0).2.1 k).2.1 ((vC 0).2.1 k).2.2.1 = some x)
    (hfin : ((vC 0).2.1 k).2.2.2 = false) (hfit : narrow (tyC 0 k) v = v ∧ fits (tyC 0 k) v = true) (hdg : decode cc pc = .ok (.putfield idx, 3))
    (kk : ∀ (H1 : Heap) (locs1 : List Loc), va_P g.1 vwCl [(q, .inr (0, fs.set k v))] H1 → H1.size = H.size → (∀ q', q' ≠ q → H1[q']? = H[q']?) → va_S (AB g) H0 H1 locs1 → W p l e R s m args below meth c H1 locs1 cells slots Q (F0 m (pc + 3) ls rest)) : W p l e R s m args below meth c H locs cells slots Q (F0 m pc ls (v :: .ref q :: rest)) := by
  have hts := kf_words (args := args) hWT KF0
  have hap := va_apart (D := g.1) (cl := vwCl) (tys := tysG g) (own := own) (ci := 0) hts (fun _ h => h) (tyC 0) KF0.2.1 KF0.2.2.1 hK KF0.1
  obtain ⟨r, h1, cell, q1, q2, q3, q4⟩ := hP 0 _ rfl
  have hr : r = ((vC 0).1, (vC 0).2.1, (vC 0).2.2) := Option.some.inj (h1.symm.trans KF0.1)
  subst hr
  obtain ⟨hSl, hfc, kC, hkC, hkind⟩ := hK.1 0 _ KF0.1
  obtain ⟨cf, kf, fi, f, hi, hsl⟩ := hSl k hk
  have hlay := hts _ (u_in_lay (N := (vC 0).2.2) hk)
  unfold u_lay at hlay
  rw [if_neg (by rw [hfin]; decide)] at hlay
  have hst := (u_facts hfc hkC (u_lays hts (fun _ h => h) hk) hi).1
  have h6 := u_store hfc hkC hkind hlay hi (KF0.2.1 k hk) hfit.1 hfit.2
  refine W.putK hx hb (f := f) ⟨hown, hlink, ⟨_, _, _, hsame _ hi⟩, hst⟩ (by rw [q2]; exact h6) q1 q3 (by rw [hsl]; exact k2_hasslot (q4 k hk)) rfl rfl hdg fun H' e1 e2 e3 => ?_
  rw [hsl] at e1 ⊢
  refine kk H' _ (va_P1 ⟨_, KF0.1, t_OB.to (V := updV (vp_V fs) k v) ⟨_, e1, q2, q3, t_set q4 hap hk v⟩ (fun j _ => vp_updV_set (by rw [hlen]; exact hk) v j)⟩) e2 e3 (hS.put e2 e3 hAB)
end JD3
def QI (g : GT) (q : Nat) (fs : List Value) : Array Value → State → Outcome → State → Prop := fun _ st o t => o = .returned none ∧ va_P g.1 vwCl [(q, .inr (0, fs))] t.heap ∧ st.heap.size = t.heap.size ∧ ∀ q', q' ≠ q → t.heap[q']? = st.heap[q']?
theorem qi_F {g : GT} {q : Nat} {fs : List Value} (hq : AB g q) {a : Array Value} (v : Option Value) (st t : State) (h : QI g q fs a st (.returned v) t) : va_F (AB g) st t := ⟨by rw [h.2.2.1]; exact Nat.le_refl _, fun q' _ hn => h.2.2.2 q' fun e => hn (by rw [e]; exact hq)⟩
def XN : String → State → State → Prop := fun _ _ _ => False
def rmA : Room := { frames := 1, cells := 0, slots := 0, locals := 12 }
def rmB : Room := { frames := 2, cells := 0, slots := 0, locals := 32 }
def rmC : Room := { frames := 3, cells := 0, slots := 0, locals := 52 }
theorem ct_ac {l : Launch} (hl : l.stackTraces = false) {g : GT} {α : Nat → Nat → Nat} {h : HT} {S : Sto} {q : Nat} {fs : List Value} :
    vx_Met l yJxa1e45_init_da8c8 [.code yJxa1e45_init_da8c8 cJxa1e45_init_da8c8 1 none] rmA (va_Pc [.ref q] (fun U => Wd g α h S U ∧ va_P g.1 vwCl [(q, .inr (0, fs))] U.heap)) (QI g q fs) XN 0 (120 * 0) (AB g) := by
  refine Met_y (X := va_P g.1 vwCl [(q, .inr (0, fs))]) (own := "java/util/AbstractCollection") hl (by decide +kernel) rfl (Nat.le_refl 1) (fun v hv => by rw [List.mem_singleton.mp hv]; rfl) ?_
  intro p e s m below meth c ls C hr hR hX hle
  have hWT := C.2.2.2.2.2.2.1
  have hlocks := C.2.2.2.2.1
  refine lv_aload_n C.1 C.2.1 dJxa1e45_init_da8c8_0 rfl (hle.2.2 _ List.mem_cons_self) ?_
  refine W.objInit C.1 C.2.1 C.2.2.2.1 (wt_at (w := 76) hWT (by decide +kernel) rfl) (hWT _ objI_ok.1 rfl _) (hWT _ objI_ok.2 rfl _) rfl (by rw [C.2.2.1]; exact hle.1) rfl dJxa1e45_init_da8c8_1 (by decide) (by show 2 * 0 + 0 + 12 ≤ 12; decide) ?_
  refine vx_ret ?_
  exact W.vret C.1 C.2.1 hr (fun t ht _ => ⟨rfl, by rw [ht]; exact hX, by rw [ht], fun q' _ => by rw [ht]⟩) (fun _ q => nomatch q) dJxa1e45_init_da8c8_4
theorem ct_al {l : Launch} (hl : l.stackTraces = false) {g : GT} {α : Nat → Nat → Nat} {h : HT} {S : Sto} {q : Nat} {fs : List Value} (hq : AB g q) (hq2 : ∀ k i, Lv h S k i → adr α h k i ≠ q) (hlen : fs.length = 3) :
    vx_Met l yJxc12de_init_da8c8 [.code yJxc12de_init_da8c8 cJxc12de_init_da8c8 1 none] rmB (va_Pc [.ref q] (fun U => Wd g α h S U ∧ va_P g.1 vwCl [(q, .inr (0, fs))] U.heap)) (QI g q (fs.set 0 (.int 0))) XN 0 (120 * 0) (AB g) := by
  refine Met_y (X := va_P g.1 vwCl [(q, .inr (0, fs))]) (own := "java/util/AbstractList") hl (by decide +kernel) rfl (Nat.le_refl 1) (fun v hv => by rw [List.mem_singleton.mp hv]; rfl) ?_
  intro p e s m below meth c ls C hr hR hX hle
  have hWT := C.2.2.2.2.2.2.1
  have hlocks := C.2.2.2.2.1
  have a0 := hle.2.2 (0, .ref q) List.mem_cons_self
  refine lv_aload_n C.1 C.2.1 dJxc12de_init_da8c8_0 rfl a0 ?_
  have hlk : LkB "java/util/AbstractList" 1 yJxa1e45_init_da8c8 cJxa1e45_init_da8c8 1 none 0 := ⟨List.mem_of_getElem? (i := 75) (by decide +kernel), List.mem_of_getElem? (i := 27) (by decide +kernel), List.mem_of_getElem? (i := 73) (by decide +kernel), ⟨by decide +kernel, by decide +kernel⟩, by decide +kernel, by decide⟩
  refine w_afterQ (rest := []) (mc := 0) (ms := 120 * 0) (vx_runI (Ts := []) (own := "java/util/AbstractList") (As := []) (b := q) ⟨C.1, C.2.1, C.2.2.1, C.2.2.2.1, fun _ h => nomatch h⟩ (ct_ac hl (α := α) (h := h) (S := S)) ⟨lkB_y C.2.2.2.2.2.2.1 hlk (by decide) (by decide), rfl, wt_at (w := 74) hWT (by decide +kernel) rfl⟩ (pre_Wy C hR (X := va_P g.1 vwCl [(q, .inr (0, fs))]) hX va_S.rf _) rfl rfl hle.1 rfl (by show 2 * 0 + 0 ≤ 8; decide) dJxc12de_init_da8c8_1 ⟨Nat.zero_le _, Nat.zero_le _⟩) va_S.rf (fun v st₀ t _ hz => qi_F hq v st₀ t hz) (fun v st₀ t locs1 hst hz hS1 => ?_) (fun E st₀ t hx => hx)
  obtain ⟨ho, hP, hsz, hoth⟩ := hz
  cases ho
  refine lv_aload_n C.1 C.2.1 dJxc12de_init_da8c8_4 rfl a0 ?_
  refine lv_iconst C.1 C.2.1 dJxc12de_init_da8c8_5 rfl ?_
  refine w_putL C.1 C.2.1 C.2.2.2.1 C.2.2.2.2.2.1 hWT hS1 hP hq 0 (by decide) hlen (wt_at (w := 81) hWT (by decide +kernel) rfl) (fun _ h => h) rfl ⟨rfl, rfl⟩ dJxc12de_init_da8c8_6 (fun H1 locs2 hP1 z1 o1 hS2 => ?_)
  refine vx_ret ?_
  exact W.vret C.1 C.2.1 hr (fun t' ht _ => ⟨rfl, by rw [ht]; exact hP1, by rw [ht, z1, ← hsz, hst], fun q' hq' => by rw [ht, o1 q' hq', hoth q' hq', hst]⟩) hS2.2.2 dJxc12de_init_da8c8_9
theorem ct_li {l : Launch} (hl : l.stackTraces = false) {g : GT} {α : Nat → Nat → Nat} {h : HT} {S : Sto} {q : Nat} {fs : List Value} (hq : AB g q) (hq2 : ∀ k i, Lv h S k i → adr α h k i ≠ q) (hlen : fs.length = 3) :
    vx_Met l yJx4a65c_init_da8c8 [.code yJx4a65c_init_da8c8 cJx4a65c_init_da8c8 1 none] rmC (va_Pc [.ref q] (fun U => Wd g α h S U ∧ va_P g.1 vwCl [(q, .inr (0, fs))] U.heap)) (QI g q ((fs.set 0 (.int 0)).set 1 (.ref g.2.2.1))) XN 0 (120 * 0) (AB g) := by
  refine Met_y (X := va_P g.1 vwCl [(q, .inr (0, fs))]) (own := "java/util/ArrayList") hl (by decide +kernel) rfl (Nat.le_refl 1) (fun v hv => by rw [List.mem_singleton.mp hv]; rfl) ?_
  intro p e s m below meth c ls C hr hR hX hle
  have hWT := C.2.2.2.2.2.2.1
  have hlocks := C.2.2.2.2.1
  have hST := C.2.2.2.2.2.2.2.1
  have a0 := hle.2.2 (0, .ref q) List.mem_cons_self
  refine lv_aload_n C.1 C.2.1 dJx4a65c_init_da8c8_0 rfl a0 ?_
  have hlk : LkB "java/util/ArrayList" 1 yJxc12de_init_da8c8 cJxc12de_init_da8c8 1 none 0 := ⟨List.mem_of_getElem? (i := 72) (by decide +kernel), List.mem_of_getElem? (i := 28) (by decide +kernel), List.mem_of_getElem? (i := 70) (by decide +kernel), ⟨by decide +kernel, by decide +kernel⟩, by decide +kernel, by decide⟩
  refine w_afterQ (rest := []) (mc := 0) (ms := 120 * 0) (vx_runI (Ts := []) (own := "java/util/ArrayList") (As := []) (b := q) ⟨C.1, C.2.1, C.2.2.1, C.2.2.2.1, fun _ h => nomatch h⟩ (ct_al hl (α := α) (h := h) (S := S) hq hq2 hlen) ⟨lkB_y C.2.2.2.2.2.2.1 hlk (by decide) (by decide), rfl, wt_at (w := 71) hWT (by decide +kernel) rfl⟩ (pre_Wy C hR (X := va_P g.1 vwCl [(q, .inr (0, fs))]) hX va_S.rf _) rfl rfl hle.1 rfl (by show 2 * 0 + 0 ≤ 8; decide) dJx4a65c_init_da8c8_1 ⟨Nat.zero_le _, Nat.zero_le _⟩) va_S.rf (fun v st₀ t _ hz => qi_F hq v st₀ t hz) (fun v st₀ t locs1 hst hz hS1 => ?_) (fun E st₀ t hx => hx)
  obtain ⟨ho, hP, hsz, hoth⟩ := hz
  cases ho
  refine lv_aload_n C.1 C.2.1 dJx4a65c_init_da8c8_4 rfl a0 ?_
  refine va_gets C.1 C.2.1 hST.2.2.2.1 hS1 C.2.2.2.1 (wt_at (w := 77) hWT (by decide +kernel) rfl) (fun _ h => h) dJx4a65c_init_da8c8_5 ?_
  refine w_putL C.1 C.2.1 C.2.2.2.1 C.2.2.2.2.2.1 hWT hS1 hP hq 1 (by decide) (by rw [List.length_set]; exact hlen) (wt_at (w := 79) hWT (by decide +kernel) rfl) (fun _ h => h) rfl ((rty_ok rfl).2 _) dJx4a65c_init_da8c8_8 (fun H1 locs2 hP1 z1 o1 hS2 => ?_)
  refine vx_ret ?_
  exact W.vret C.1 C.2.1 hr (fun t' ht _ => ⟨rfl, by rw [ht]; exact hP1, by rw [ht, z1, ← hsz, hst], fun q' hq' => by rw [ht, o1 q' hq', hoth q' hq', hst]⟩) hS2.2.2 dJx4a65c_init_da8c8_11
def h1n (h : HT) (n : Nat) (v : Nat × Nat × Int32) : HT := fun i => if i = n then v else h i
theorem h1n_eq {h : HT} {n : Nat} {v : Nat × Nat × Int32} : h1n h n v n = v := if_pos rfl
theorem h1n_ne {h : HT} {n i : Nat} {v : Nat × Nat × Int32} (q : i ≠ n) : h1n h n v i = h i := if_neg q
theorem Rep.growL {g : GT} {α : Nat → Nat → Nat} {h : HT} {S : Sto} {H H1 : Heap} (R : Rep g α h S H) (h5 : S.2.2 13 < 5) (h0 : S.2.2 (20 + S.2.2 13) = 0) {q : Nat} (hq : AB g q) (hq2 : ∀ k i, Lv h S k i → adr α h k i ≠ q)
    (hat : va_P g.1 vwCl [(q, .inr (0, [.int 0, .ref g.2.2.1, .int 0]))] H1) (hoth : ∀ k i, Lv h S k i → H1[adr α h k i]? = H[adr α h k i]?) : Rep g (al1 α 13 (S.2.2 13) q) (h1n h (S.2.2 13) (0, 0, 0)) (mkL S) H1 := by
  have hag : AgR S α (al1 α 13 (S.2.2 13) q) := al1_ag (Or.inr rfl)
  have hle : ∀ k', S.2.2 k' ≤ (mkL S).2.2 k' := fun k' => bump_le k'
  have hn0 : h1n h (S.2.2 13) (0, 0, 0) (S.2.2 13) = (0, 0, 0) := h1n_eq
  have h20 : ∀ i, (mkL S).2.2 (20 + i) = S.2.2 (20 + i) := fun i => bump_ne (by omega)
  have e1 : ∀ k' i', Lv (h1n h (S.2.2 13) (0, 0, 0)) (mkL S) k' i' → (k' = 13 ∧ i' = S.2.2 13) ∨ (Lv h S k' i' ∧ ((k' = 13 ∨ k' = 15) → i' ≠ S.2.2 13)) := by
    intro k' i' hl
    rcases Lv_un hl with ⟨rfl, h2, h3⟩ | ⟨h2, h3, h4⟩
    · right
      have hne : i' ≠ S.2.2 13 := fun e => h3 (by rw [e, hn0])
      rw [h1n_ne hne] at h3
      have h2' : i' < S.2.2 13 + 1 := h2
      rw [Lv, if_pos rfl]
      exact ⟨⟨by omega, h3⟩, fun _ => hne⟩
    · by_cases e : k' = 13
      · subst e
        have h4' : i' < S.2.2 13 + 1 := h4
        by_cases e2 : i' = S.2.2 13
        · exact Or.inl ⟨rfl, e2⟩
        · exact Or.inr ⟨Lv_of h3 (by omega), fun _ => e2⟩
      · have h4' : i' < bump S.2.2 13 k' := h4
        rw [bump_ne e] at h4'
        exact Or.inr ⟨Lv_of h3 h4', fun hz => by rcases hz with hz | hz; exact absurd hz e; exact absurd hz h2⟩
  have e2 : ∀ k' i', Lv h S k' i' → ((k' = 13 ∨ k' = 15) → i' ≠ S.2.2 13) → adr (al1 α 13 (S.2.2 13) q) (h1n h (S.2.2 13) (0, 0, 0)) k' i' = adr α h k' i' := fun k' i' hl hne => by
    rw [← adr_ext hag hl]
    unfold adr
    by_cases h15 : k' = 15
    · rw [if_pos h15, if_pos h15, h1n_ne (hne (Or.inr h15))]
    · rw [if_neg h15, if_neg h15]
  have e3 : adr (al1 α 13 (S.2.2 13) q) (h1n h (S.2.2 13) (0, 0, 0)) 13 (S.2.2 13) = q := by rw [adr_of (Or.inr rfl), al1_eq]
  have e4 : ∀ k' i', Lv h S k' i' → ((k' = 13 ∨ k' = 15) → i' ≠ S.2.2 13) → ent g (al1 α 13 (S.2.2 13) q) (h1n h (S.2.2 13) (0, 0, 0)) (mkL S) k' i' = ent g α h S k' i' := fun k' i' hl hne => by
    rw [← ent_ext R hag hl]
    unfold ent
    rw [h20]
    by_cases h13 : k' = 13
    · subst h13
      rw [h1n_ne (hne (Or.inl rfl))]
      rfl
    · by_cases h15 : k' = 15
      · subst h15
        rw [h1n_ne (hne (Or.inr rfl))]
        rfl
      · rcases Lv_un hl with ⟨q9, -⟩ | ⟨-, q9, -⟩
        · exact absurd q9 h15
        · rcases q9 with q9 | q9
          · rw [if_pos q9, if_pos q9]; rfl
          · rcases ar_or q9 with rfl | rfl | rfl | rfl
            · rfl
            · rfl
            · rfl
            · exact absurd rfl h13
  refine ⟨fun k' i' hl => ?_, fun k1 i1 k2 i2 hl1 hl2 he => ?_, fun k' i' hl => ?_, fun k' i f g1 g2 g3 g4 => ?_, fun i hi => ?_, ?_⟩
  · rcases e1 k' i' hl with ⟨rfl, rfl⟩ | ⟨h2, h3⟩
    · rw [e3, ent_13, hn0, h20, h0]
      exact hat 0 _ rfl
    · rw [e2 k' i' h2 h3, e4 k' i' h2 h3]
      exact (R.1 k' i' h2).kept (hoth k' i' h2)
  · rcases e1 k1 i1 hl1 with ⟨rfl, rfl⟩ | ⟨h3, h3'⟩ <;> rcases e1 k2 i2 hl2 with ⟨rfl, rfl⟩ | ⟨h4, h4'⟩
    · exact ⟨rfl, rfl⟩
    · rw [e3, e2 k2 i2 h4 h4'] at he
      exact absurd he.symm (hq2 k2 i2 h4)
    · rw [e3, e2 k1 i1 h3 h3'] at he
      exact absurd he (hq2 k1 i1 h3)
    · rw [e2 k1 i1 h3 h3', e2 k2 i2 h4 h4'] at he
      exact R.2.1 _ _ _ _ h3 h4 he
  · rcases e1 k' i' hl with ⟨rfl, rfl⟩ | ⟨h2, h3⟩
    · rw [e3]; exact hq
    · rw [e2 k' i' h2 h3]; exact R.2.2.1 k' i' h2
  · have g2' : i < S.2.2 k' := by
      have g5 : i < bump S.2.2 13 k' := g2
      rwa [bump_ne (fun e => by rw [e] at g1; exact absurd g1 (by decide))] at g5
    rcases R.2.2.2.1 k' i f g1 g2' g3 g4 with g5 | g5
    · exact Or.inl g5
    · exact Or.inr (LvR_le hle g5)
  · have hi' : i < S.2.2 13 + 1 := hi
    rw [h20]
    by_cases e : i = S.2.2 13
    · subst e
      rw [hn0, h0]
      exact ⟨h5, Nat.zero_le _, Nat.le_refl _, Nat.zero_le _, Or.inl rfl⟩
    · rw [h1n_ne e]
      have h9 := R.2.2.2.2.1 i (by omega)
      exact ⟨h9.1, Nat.le_trans h9.2.1 (hle _), h9.2.2⟩
  · rw [al1_ne fun z => absurd z.1 (by decide)]
    exact R.2.2.2.2.2
theorem newL {l : Launch} (hl : l.stackTraces = false) : NewL l := by
  intro p e R s m args below meth c Qm g cc own nL rk cb sb B ini pc i len xl S u α h H locs ls rest C hc h5 h0 hu hR hS hsz hcat kk
  have hWT := C.2.2.2.2.2.2.2.1
  have hK := C.2.2.2.2.2.2.1
  have h30 := C.2.2.2.2.2.2.2.2.2.2.2.2.1
  have h31 := C.2.2.2.2.2.2.2.2.2.2.2.2.2.1
  have hfr := C.2.2.2.2.2.2.2.2.2.2.1
  have hlo := C.2.2.2.2.2.2.2.2.2.2.2.1
  unfold chkL at hc
  split at hc
  · rename_i w1 ic
    simp only [Bool.and_eq_true, decide_eq_true_eq] at hc
    obtain ⟨⟨⟨⟨⟨hw1, d0⟩, d3⟩, d4⟩, hml⟩, -⟩ := hc
    have hKn := hK.1 0 _ KF0.1
    have hts := kf_words (args := args) hWT KF0
    have hbs : g.2.2.2 ≤ H.size := Nat.le_trans C.2.2.2.2.2.2.2.2.2.1 hS.1
    refine W.newcK C.1 C.2.1 C.2.2.2.1 (wdAt_ok hw1 hWT _) (wt_at (w := 66) (k := Cond.instantiable "java/util/ArrayList" 3) hWT (by decide +kernel) rfl) (wt_at (w := 29) hWT (by decide +kernel) rfl) rfl (dcd_ok d0) (by omega) (by show _ + 3 ≤ _; omega) hKn.2.1 rfl fun H1 kC hkC e1 z1 o1 => ?_
    have hP1 : va_P g.1 vwCl [(H.size, .inr (0, [.int 0, .null, .int 0]))] H1 := va_P1 ⟨_, KF0.1, (u_born (tyC 0) hts (fun _ h => h) hKn hkC e1 KF0.2.1).to fun j hj => by
      have hj3 : j < 3 := hj
      rcases j with _ | _ | _ | j
      · rfl
      · rfl
      · rfl
      · omega⟩
    have hS1 : va_S (AB g) s.heap H1 locs := ⟨Nat.le_trans hS.1 (by omega), fun x h1 h2 => (o1 x (Nat.lt_of_lt_of_le h1 hS.1)).trans (hS.2.1 x h1 h2), hS.2.2⟩
    have hR1 : Rep g α h S H1 := hR.cong fun q h1 _ => o1 q h1
    have hq2 : ∀ k i, Lv h S k i → adr α h k i ≠ H.size := fun k i hlv e9 => by have := hR.lt hlv; omega
    refine lv_dup C.1 C.2.1 (dcd_ok d3) rfl ?_
    have hlk : LkB own ic yJx4a65c_init_da8c8 cJx4a65c_init_da8c8 1 none 0 := ⟨List.mem_of_getElem? (i := 69) (by decide +kernel), List.mem_of_getElem? (i := 29) (by decide +kernel), hml, ⟨by decide +kernel, by decide +kernel⟩, by decide +kernel, by decide⟩
    have hcs : H.size < H1.size := by rw [z1]; exact Nat.lt_succ_self _
    refine w_afterQ (rest := .ref H.size :: rest) (mc := 0) (ms := 120 * 0) (vx_runI (Ts := []) (own := own) (As := []) (b := H.size) ⟨C.1, C.2.1, C.2.2.1, C.2.2.2.1, fun _ h => nomatch h⟩ (ct_li hl (α := α) (h := h) (S := S) hbs hq2 rfl) ⟨lkB_y hWT hlk (by show 3 + 1 ≤ _; omega) (by show 8 + (1 + 11) + 52 ≤ _; omega), rfl, wt_at (w := 68) hWT (by decide +kernel) rfl⟩ (pre_Wy (cc := cc) (own := own) (nL := nL) ⟨C.1, C.2.1, C.2.2.1, C.2.2.2.1, C.2.2.2.2.1, hK, hWT, C.2.2.2.2.2.2.2.2.1, C.2.2.2.2.2.2.2.2.2.1⟩ hR1 (X := va_P g.1 vwCl [(H.size, .inr (0, [.int 0, .null, .int 0]))]) hP1 hS1 _) rfl rfl hsz rfl (by show 2 * 0 + (1 + (rest.map fun v => v.category).sum) ≤ 8; omega) (dcd_ok d4) ⟨by show _ + 0 ≤ _; omega, by show _ + 120 * 0 ≤ _; omega⟩) hS1 (fun v st₀ t _ hz => qi_F hbs v st₀ t hz) (fun v st₀ t locs1 hst hz hS2 => ?_) (fun E st₀ t hx => hx)
    obtain ⟨ho, hP, hsz2, hoth⟩ := hz
    cases ho
    have hR2 : Rep g (al1 α 13 (S.2.2 13) H.size) (h1n h (S.2.2 13) (0, 0, 0)) (mkL S) t.heap := hR.growL h5 h0 hbs hq2 hP fun k i hlv => by rw [hoth _ (hq2 k i hlv), hst, o1 _ (hR.lt hlv)]
    refine W.widen (k := cb + (u + 1)) (n := sb + 120 * (u + 1)) (by omega) (by show _ + 3 + 120 * 0 ≤ _; omega) (kk _ _ _ _ hR2 hS2)
  · cases hc
