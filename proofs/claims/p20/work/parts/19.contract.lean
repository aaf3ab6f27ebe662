/-! A CONTRACT out of what the pure machine asks -/
def rtOf : Option FieldType → Nat
  | none => 0
  | some .int => 1
  | some .boolean => 2
  | some (.object _) => 3
  | some (.array _) => 3
  | _ => 9
def argL (as : List AV) (n : Nat) : Lo := as.map some ++ List.replicate (n - as.length) none
/-- 'new ArrayList()' over the world -/
def NewL (l : Launch) : Prop := ∀ (p : Program) (e : Env) (R : Room) (s : State) (m : MethodId) (args : Array Value) (below : List Frame) (meth : Method) (c : Code) (Qm : State → Prop) (g : GT) (cc : ByteArray) (own : String) (nL rk cb sb B : Nat) (ini : Bool)
  (pc i len : Nat) (xl : List Nat) (S : Sto) (u : Nat) (α : Nat → Nat → Nat) (h : HT) (H : Heap) (locs : List Loc) (ls : Array Slot) (rest : List Value), Cx p l s m meth c R cc own nL rk cb sb B ini g → chkL cc own pc i len xl = true → S.2.2 13 < 5 → S.2.2 (20 + S.2.2 13) = 0 → u + 1 ≤ B → Rep g α h S H → va_S (AB g) s.heap H locs → ls.size = nL → (rest.map fun v => v.category).sum ≤ 6 →
    (∀ (h' : HT) (H1 : Heap) (locs1 : List Loc) (q : Nat), Rep g (al1 α 13 (S.2.2 13) q) h' (mkL S) H1 → va_S (AB g) s.heap H1 locs1 → W p l e R s m args below meth c H1 locs1 (cb + (u + 1)) (sb + 120 * (u + 1)) Qm (F0 m (pc + 7) ls (.ref q :: rest))) →
    W p l e R s m args below meth c H locs (cb + u) (sb + 120 * u) Qm (F0 m pc ls rest)
theorem str_at {si : Nat} (h : strs.any (fun q => q.1 == si) = true) : ∃ tx, (si, tx) ∈ strs := by
  obtain ⟨q, h1, h2⟩ := List.any_eq_true.mp h
  obtain ⟨a, tx⟩ := q
  have h2 : a = si := eq_of_beq h2
  subst h2
  exact ⟨tx, h1⟩
section CTO
variable {p : Program} {l : Launch} {e : Env} {R : Room} {s : State} {m : MethodId} {args : Array Value} {below : List Frame} {meth : Method} {c : Code} {g : GT} {α0 : Nat → Nat → Nat} {S0 : Sto} {cc : ByteArray} {own : String} {nL rk B : Nat} {ini : Bool} {ret : Option FieldType} {Q : Out → Sto → Prop}
theorem fin_ret (C : Cx p l s m meth c R cc own nL rk 0 0 B ini g) (hr : meth.sig.returnType = ret) {r : Option AV} {S : Sto} {u : Nat} {α : Nat → Nat → Nat} {h : HT} {H : Heap} {locs : List Loc} {pc : Nat} {ls : Array Slot} (hq : Q (Sum.inl r) S) (hu : u ≤ B) (hR : Rep g α h S H) (hE : Ext α0 S0 α S) (hlo : LvO S r) (hS : va_S (AB g) s.heap H locs) (hra : RetAt cc pc (rtOf ret) r) :
    W p l e R s m args below meth c H locs (0 + u) (0 + 120 * u) (vx_MQ below (QC g α0 S0 Q) (XC g α0 S0 Q) args s B (120 * B) (AB g)) (F0 m pc ls (r.map (conc α)).toList) := by
  refine W.widen (k := B) (n := 120 * B) (by omega) (by omega) (vx_ret ?_)
  have hlocks := C.2.2.2.2.1
  have key : ∀ t : State, t.heap = H → s.WarmedH t.vm → QC g α0 S0 Q args s (.returned (r.map (conc α))) t := fun t ht hW => ⟨r, α, h, S, rfl, hq, hE, hlo, by rw [ht]; exact hR, hS.F ht⟩
  rcases r with _ | (a | (v | ⟨k, i⟩))
  · obtain ⟨h1, h2⟩ := hra
    have hret : ret = none := by
      cases ret with
      | none => rfl
      | some t => cases t <;> simp [rtOf] at h1
    subst hret
    exact W.vret C.1 C.2.1 hr key hS.2.2 h2
  · obtain ⟨h1, h2⟩ := hra
    rcases h1 with h1 | ⟨h1, h3⟩
    · have hret : ret = some .int := by
        cases ret with
        | none => simp [rtOf] at h1
        | some t => cases t <;> simp [rtOf] at h1 <;> rfl
      subst hret
      exact W.iret C.1 C.2.1 hr key hS.2.2 h2
    · have hret : ret = some .boolean := by
        cases ret with
        | none => simp [rtOf] at h1
        | some t => cases t <;> simp [rtOf] at h1 <;> rfl
      subst hret
      exact W.zret C.1 C.2.1 hr (by show Value.int (a &&& 1) = _; rw [h3]) key hS.2.2 h2
  · exact hra.elim
  · obtain ⟨h1, h2⟩ := hra
    have hret : ∃ t, ret = some t ∧ ((∃ n, t = .object n) ∨ ∃ t', t = .array t') := by
      cases ret with
      | none => simp [rtOf] at h1
      | some t =>
        cases t <;> simp [rtOf] at h1
        · exact ⟨_, rfl, Or.inl ⟨_, rfl⟩⟩
        · exact ⟨_, rfl, Or.inr ⟨_, rfl⟩⟩
    obtain ⟨t, rfl, ht⟩ := hret
    exact W.aret C.1 C.2.1 hr ht (Or.inr ⟨_, rfl⟩) key hS.2.2 h2
theorem fin_out (C : Cx p l s m meth c R cc own nL rk 0 0 B ini g) {x : Nat} {S : Sto} {u : Nat} {α : Nat → Nat → Nat} {h : HT} {H : Heap} {locs : List Loc} {pc : Nat} {ls : Array Slot} {rest : List Value} {q : Addr} {ce : Cell} (hout : ∀ z ∈ c.exceptionTable.toList, covers z pc = false) (hq : Q (Sum.inr x) S) (hu : u ≤ B) (hR : Rep g α h S H) (hE : Ext α0 S0 α S) (hS : va_S (AB g) s.heap H locs) (hce : H[q]? = some ce) (hcv : ce.vm = .none) (hcl : s.vm.findClass (exn x) = some ce.cls) :
    vx_W p l e R s m args below meth c H locs (0 + u) (0 + 120 * u) (vx_MQ below (QC g α0 S0 Q) (XC g α0 S0 Q) args s B (120 * B) (AB g)) (F0 m pc ls rest) q :=
  vx_out (E := exn x) hout C.2.2.2.2.1 hce hcv hcl (fun t ht _ => ⟨x, α, h, S, rfl, hq, hE, by rw [ht]; exact hR, hS.F ht⟩) hS.2.2 (by omega) (by omega)
theorem fin_throw (C : Cx p l s m meth c R cc own nL rk 0 0 B ini g) {x pc i len : Nat} {xl : List Nat} {S : Sto} {u : Nat} {α : Nat → Nat → Nat} {h : HT} {H : Heap} {locs : List Loc} {ls : Array Slot} {rest : List Value} (hout : ∀ z ∈ c.exceptionTable.toList, False) (hc : chkT cc own pc i x len xl = true) (hq : Q (Sum.inr x) S) (hu : u + 1 ≤ B) (hR : Rep g α h S H) (hE : Ext α0 S0 α S) (hS : va_S (AB g) s.heap H locs) (hsz : ls.size = nL) (hcat : (rest.map fun v => v.category).sum ≤ 8) :
    W p l e R s m args below meth c H locs (0 + u) (0 + 120 * u) (vx_MQ below (QC g α0 S0 Q) (XC g α0 S0 Q) args s B (120 * B) (AB g)) (F0 m pc ls rest) := by
  obtain ⟨hx, hb, hml, hown, hlk, hin, hK, hWT, hST, hbs, hfr, hlo, h30, h31, hl⟩ := C
  unfold chkT at hc
  split at hc
  · rename_i w1 w2 si ic
    simp only [Bool.and_eq_true, decide_eq_true_eq] at hc
    obtain ⟨⟨⟨⟨⟨⟨⟨ho, hw1⟩, hw2⟩, hic⟩, hstr⟩, d0⟩, d3⟩, hd⟩ := hc
    subst ho
    have hic' : (x = 0 ∧ ic = 229) ∨ (x = 1 ∧ ic = 61) ∨ (x = 2 ∧ ic = 135) := by simpa [or_assoc] using hic
    have hat := List.all_eq_true.mp (atS_ok x ic hic')
    obtain ⟨tx, htx⟩ := str_at hstr
    obtain ⟨sa, hsa⟩ := hST.2.2.1 _ htx
    have hfit : Bundle.fit (exn x) = true := by rcases hic' with ⟨rfl, -⟩ | ⟨rfl, -⟩ | ⟨rfl, -⟩ <;> decide +kernel
    have hnames : ∀ n ∈ ["java/lang/RuntimeException", "java/lang/Exception"], Bundle.fit n = true := by decide +kernel
    have hat1 : ∀ w ∈ vx_atS "HeavyHaul" ic (exn x) ["java/lang/RuntimeException", "java/lang/Exception"], w.before args s = true := fun w hw => by
      have h9 := hat w hw
      simp only [Bool.and_eq_true, decide_eq_true_eq] at h9
      exact hWT w h9.1.1 h9.1.2 args
    have hgood : ∀ w ∈ Cond.classLink "HeavyHaul" i (exn x) :: Cond.initialized (exn x) :: vx_atS "HeavyHaul" ic (exn x) ["java/lang/RuntimeException", "java/lang/Exception"], vx_ot w = true := fun w hw => by
      rcases List.mem_cons.mp hw with rfl | hw
      · rfl
      · rcases List.mem_cons.mp hw with rfl | hw
        · rfl
        · have h9 := hat w hw
          simp only [Bool.and_eq_true, decide_eq_true_eq] at h9
          exact h9.2
    have hx9 : ∀ t : State, s.vm.Alike t.vm → H.size ≤ t.heap.size → (∀ q : Nat, q < H.size → t.heap[q]? = H[q]?) → XC g α0 S0 Q (exn x) s t := fun t _ hz hk => ⟨x, α, h, S, rfl, hq, hE, hR.cong fun q h1 _ => hk q h1, ⟨Nat.le_trans hS.1 hz, fun q h1 h2 => (hk q (Nat.lt_of_lt_of_le h1 hS.1)).trans (hS.2.1 q h1 h2)⟩⟩
    simp only [Bool.or_eq_true, Bool.and_eq_true] at hd
    rcases hd with ⟨⟨⟨_, e4⟩, e6⟩, e9⟩ | ⟨⟨⟨_, e4⟩, e7⟩, e10⟩
    · exact vx_throwS (sa := sa) (text := tx) hx hb hl hown hfit hnames (wdAt_ok hw1 hWT _) (wdAt_ok hw2 hWT _) hsa hat1 hgood hST.1 hST.2.1 hS (by rw [hsz, hml]) (dcd_ok d0) (dcd_ok d3) (dcd_ok e4) (dcd_ok e6) (dcd_ok e9) (fun z hz => (hout z hz).elim) (by show 2 + 3 < _; omega) (by show _ + (13 * 3 + 43) ≤ _; omega) (by omega) (by omega) hlk hx9 hS.2.2 (by omega) (by omega)
    · exact vx_throwSW (sa := sa) (text := tx) hx hb hl hown hfit hnames (wdAt_ok hw1 hWT _) (wdAt_ok hw2 hWT _) hsa hat1 hgood hST.1 hST.2.1 hS (by rw [hsz, hml]) (dcd_ok d0) (dcd_ok d3) (dcd_ok e4) (dcd_ok e7) (dcd_ok e10) (fun z hz => (hout z hz).elim) (by show 2 + 3 < _; omega) (by show _ + (13 * 3 + 43) ≤ _; omega) (by omega) (by omega) hlk hx9 hS.2.2 (by omega) (by omega)
  · cases hc
end CTO
theorem argL_at {as : List AV} {n i : Nat} {a : AV} (h : (argL as n)[i]? = some (some a)) : as[i]? = some a := by
  unfold argL at h
  by_cases hi : i < as.length
  · rw [List.getElem?_append_left (by simpa using hi), List.getElem?_map] at h
    cases hq : as[i]? with
    | none => rw [hq] at h; cases h
    | some b => rw [hq] at h; cases h; rfl
  · rw [List.getElem?_append_right (by simpa using hi)] at h
    have := List.mem_of_getElem? h
    have h2 := List.eq_of_mem_replicate this
    cases h2
theorem argL_len {as : List AV} {n : Nat} (h : as.length ≤ n) : (argL as n).length = n := by
  simp [argL]
  omega
theorem lv_args1 {vs : List Value} (hv : ∀ v ∈ vs, v.category = 1) {k i : Nat} {v : Value} (h : vs[i]? = some v) : (k + i, v) ∈ lv_args k vs := by
  induction vs generalizing k i with
  | nil => cases h
  | cons w r ih =>
    cases i with
    | zero =>
      cases h
      exact List.mem_cons_self
    | succ i =>
      have h1 : w.category = 1 := hv w List.mem_cons_self
      have := ih (k := k + 1) (fun v hv' => hv v (List.mem_cons_of_mem _ hv')) (i := i) h
      unfold lv_args
      refine List.mem_cons_of_mem _ ?_
      rw [h1]
      rw [show k + (i + 1) = k + 1 + i by omega]
      exact this
theorem lg_len1 {vs : List Value} (hv : ∀ v ∈ vs, v.category = 1) : (lg_sl vs).length = vs.length := by
  induction vs with
  | nil => rfl
  | cons w r ih =>
    have h1 : w.category = 1 := hv w List.mem_cons_self
    have h2 := ih fun v hv' => hv v (List.mem_cons_of_mem _ hv')
    unfold lg_sl at h2 ⊢
    rw [List.flatMap_cons, List.length_append, h2, if_neg (by omega)]
    simp
    omega
theorem cx_of {p : Program} {l : Launch} {e : Env} {s s₁ : State} {m : MethodId} {args : Array Value} {below : List Frame} {meth : Method} {c : Code} {y : MethodName} {ws : List Cond} {cc : ByteArray} {maxL rk u : Nat} {ret : Option FieldType} {own : String} {ini : Bool} {g : GT} {α : Nat → Nat → Nat} {h : HT} {S : Sto}
    (hl : l.stackTraces = false) (hcls : y.cls = own) (hini : ini = true → y.name = "<init>") (B : BodyLoose p l y (headSpec ws (rmx rk u)) cc maxL ret e s m args below meth c s₁) (hml : c.maxLocals = maxL) (hW : Wd g α h S s) : Cx p l s m meth c (headSpec ws (rmx rk u)).room cc own maxL rk 0 0 u ini g := by
  obtain ⟨hR, hK, hWT, hST, hbs⟩ := hW
  have hown : s.vm.findClass own = some m.cls := by rw [← hcls]; exact findClass_of_methodNamed B.named
  refine ⟨B.exec, B.bytes, hml, hown, B.notSynchronized, fun q => ?_, hK, hWT, hST, hbs, Nat.le_refl _, Nat.le_refl _, by show 0 + u ≤ u; omega, by show 0 + 120 * u ≤ 120 * u; omega, hl⟩
  rw [(name_of_methodNamed B.named B.method).1]
  exact hini q
theorem start_of {p : Program} {l : Launch} {e : Env} {R : Room} {s : State} {m : MethodId} {below : List Frame} {meth : Method} {c : Code} {Qm : State → Prop} {g : GT} {α : Nat → Nat → Nat} {h : HT} {S : Sto} {as : List AV} {nL B : Nat}
    (hR : Rep g α h S s.heap) (hLv : ∀ a ∈ as, LvV S a) (hlen : as.length ≤ nL) (hcat : ∀ a ∈ as, catV a = 1) (hgo : Go p l e R s m (as.map (conc α)).toArray below meth c Qm g α S nL 0 0 B 0 (argL as nL) [] S 0) :
    W p l e R s m (as.map (conc α)).toArray below meth c s.heap [] 0 0 Qm (entryFrame m (as.map (conc α)).toArray nL) := by
  rw [lg_entry_eq]
  have hc1 : ∀ v ∈ as.map (conc α), v.category = 1 := fun v hv => by
    obtain ⟨a, ha, rfl⟩ := List.mem_map.mp hv
    rw [cat_conc]
    exact hcat a ha
  have hl1 : (lg_sl (as.map (conc α))).length ≤ nL := by rw [lg_len1 hc1, List.length_map]; exact hlen
  have hle := lv_entry (as.map (conc α)) (n := nL) hl1
  generalize (lg_sl (as.map (conc α)) ++ List.replicate (nL - (lg_sl (as.map (conc α))).length) Slot.unset).toArray = ls at hle ⊢
  refine hgo (Nat.zero_le _) α h s.heap [] ls hR ⟨fun _ _ _ => rfl, fun _ => Nat.le_refl _⟩ (fun a ha => ?_) (fun a ha => nomatch ha) va_S.rf ⟨hle.1, argL_len hlen, hle.2.1, fun i a hi => ?_⟩
  · obtain ⟨j, hj⟩ := List.getElem?_of_mem ha
    exact hLv a (List.mem_of_getElem? (argL_at hj))
  · have h1 := argL_at hi
    have h2 : (as.map (conc α))[i]? = some (conc α a) := by rw [List.getElem?_map, h1]; rfl
    have h3 := lv_args1 hc1 (k := 0) h2
    rw [Nat.zero_add] at h3
    exact hle.2.2 _ h3
/-- the contract of a method without handlers -/
theorem CT_of {l : Launch} {y : MethodName} {cc : ByteArray} {maxL rk u : Nat} {ret : Option FieldType} {sp : SP} {own : String} {tb : Tb} {ini : Bool} (hl : l.stackTraces = false) (hNL : NewL l) (hy : plainName y.cls = true) (hcls : y.cls = own) (hini : ini = true → y.name = "<init>")
    (hchk : chkTb cc own ini tb = true) (hcalls : CallsOK l own rk tb) (hargs : ∀ as S P, sp as S P → as.length ≤ maxL ∧ ∀ a ∈ as, catV a = 1)
    (vc : ∀ (G : Gt) (Q : Out → Sto → Prop) (as : List AV) (S : Sto), sp as S Q → Seg tb G Q (rtOf ret) u [] (0, fun _ => 0) → G 0 (argL as maxL) [] S 0) : CT l y cc maxL ret rk u sp := by
  intro g α h S as P hsp
  obtain ⟨hlen, hcat⟩ := hargs as S P hsp
  refine vx_ofW (cc := cc) (maxL := maxL) (ret := ret) hy rfl ?_
  intro p e s m args below meth c s₁ B hml hout hv
  obtain ⟨rfl, hW, hLv⟩ := hv
  have C := cx_of hl hcls hini B hml hW
  have hf : Fin p l e (headSpec [Cond.code y cc maxL ret] (rmx rk u)).room s m (as.map (conc α)).toArray below meth c (vx_MQ below (QC g α S P) (XC g α S P) (as.map (conc α)).toArray s u (120 * u) (AB g)) g α S maxL 0 0 u cc own P (rtOf ret) [] :=
    ⟨fun r S' u' α' h' H locs pc ls hq hu hR hE hlo hS hra => fin_ret C B.returns hq hu hR hE hlo hS hra,
     fun x S' u' α' h' H locs pc ls rest q ce hq hu hR hE hS _ hce hcv hcl => fin_out C (fun z hz => (hout z hz).elim) hq hu hR hE hS hce hcv hcl,
     fun x t u' H locs pc ls rest q ce hh => (nomatch hh),
     fun x pc i len xl S' u' α' h' H locs ls rest hc hq hu hR hE hS hsz hct => fin_throw C hout hc hq hu hR hE hS hsz hct,
     fun pc i len xl S' u' α' h' H locs ls rest hc h5 h0 hu hR hS hsz hct kk => hNL p e _ s m _ below meth c _ g cc own maxL rk 0 0 u ini pc i len xl S' u' α' h' H locs ls rest C hc h5 h0 hu hR hS hsz hct kk⟩
  exact start_of hW.1 hLv hlen hcat (vc _ P as S hsp (seg_sound C hf (fun q => absurd q (by decide)) hchk hcalls))
