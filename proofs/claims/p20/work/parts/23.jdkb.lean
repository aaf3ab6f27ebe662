/-! THE JDK's LISTS: the index check, and reading -/
theorem lv_args_hd {v : Value} {vs : List Value} {k : Nat} : (k, v) ∈ lv_args k (v :: vs) := List.mem_cons_self
/-- a contract of a method by its walk: any arguments of one slot each -/
theorem Met_w {l : Launch} {y : MethodName} {cc : ByteArray} {maxL rk u : Nat} {ret : Option FieldType} {own : String} (ini : Bool) (hl : l.stackTraces = false) (hy : plainName y.cls = true) (hcls : y.cls = own) (hini : ini = true → y.name = "<init>") {g : GT} {α : Nat → Nat → Nat} {h : HT} {S : Sto} {vs : List Value} {Qc : Array Value → State → Outcome → State → Prop} {XCc : String → State → State → Prop} (hlen : vs.length ≤ maxL) (hcat : ∀ v ∈ vs, v.category = 1)
    (body : ∀ (p : Program) (e : Env) (R : Room) (s : State) (m : MethodId) (below : List Frame) (meth : Method) (c : Code) (ls : Array Slot), Cx p l s m meth c R cc own maxL rk 0 0 u ini g → meth.sig.returnType = ret → Rep g α h S s.heap → lv_has ls maxL (lv_args 0 vs) →
      W p l e R s m vs.toArray below meth c s.heap [] 0 0 (vx_MQ below Qc XCc vs.toArray s u (120 * u) (AB g)) (F0 m 0 ls [])) : vx_Met l y [.code y cc maxL ret] (rmx rk u) (va_Pc vs (Wd g α h S)) Qc XCc u (120 * u) (AB g) := by
  refine vx_ofW (cc := cc) (maxL := maxL) (ret := ret) hy rfl ?_
  intro p e s m args below meth c s₁ B hml hout hv
  obtain ⟨rfl, hW⟩ := hv
  have C := cx_of (ini := ini) hl hcls hini B hml hW
  rw [lg_entry_eq]
  have hl1 : (lg_sl vs).length ≤ maxL := by rw [lg_len1 hcat]; exact hlen
  have hle := lv_entry vs (n := maxL) hl1
  generalize (lg_sl vs ++ List.replicate (maxL - (lg_sl vs).length) Slot.unset).toArray = ls at hle ⊢
  exact body p e _ s m below meth c ls C B.returns hW.1 hle
section JD2
variable {p : Program} {l : Launch} {e : Env} {R : Room} {s : State} {m : MethodId} {args : Array Value} {below : List Frame} {meth : Method} {c : Code} {H : Heap} {locs : List Loc} {cells slots : Nat} {Q : State → Prop}
variable {cc : ByteArray} {pc : Nat} {ls : Array Slot} {rest st0 : List Value} {g : GT} {α : Nat → Nat → Nat} {h : HT} {S : Sto} {H0 : Heap} {own : String} {idx nL rk cb sb B : Nat} {ini : Bool} {P : Out → Sto → Prop}
theorem w_afterQ {a : Array Value} {mc ms : Nat} {Qc : Array Value → State → Outcome → State → Prop} {XCc : String → State → State → Prop} (hr : vx_Run p l e R s m args below meth c H locs cells slots mc ms (F0 m pc ls st0) rest (Qc a) XCc (AB g)) (hS : va_S (AB g) s.heap H locs)
    (hF : ∀ (v : Option Value) (st₀ t : State), st₀.heap = H → Qc a st₀ (.returned v) t → va_F (AB g) st₀ t)
    (kk : ∀ (v : Option Value) (st₀ t : State) (locs1 : List Loc), st₀.heap = H → Qc a st₀ (.returned v) t → va_S (AB g) s.heap t.heap locs1 → W p l e R s m args below meth c t.heap locs1 (cells + mc) (slots + ms) Q (F0 m (pc + 3) ls (v.toList ++ rest)))
    (kx : ∀ (E : String) (st₀ t : State), XCc E st₀ t → False) : W p l e R s m args below meth c H locs cells slots Q (F0 m pc ls st0) := by
  intro T hT X
  rcases hr T hT X with ⟨v, st₀, t, T', L, h0, X', hL, e1, e2, hQ, st⟩ | ⟨q, st₀, t, T', L, E, ce, h0, X', hL, e1, e2, hX, hce, hcv, hcl, st⟩
  · obtain ⟨k1, k2, k3⟩ := vx_keep h0 e1 hS (fun _ _ h => h) (fun _ h => h) hL (hF v st₀ t h0 hQ)
    obtain ⟨t2, a1, b1⟩ := kk v st₀ t (locs ++ L) h0 hQ (by rw [← e1]; exact k3) T' e1 X'
    exact ⟨t2, st t2 a1, b1⟩
  · exact (kx E st₀ t hX).elim
theorem pre_Wd (C : Cx p l s m meth c R cc own nL rk cb sb B ini g) (hR : Rep g α h S H) (hS : va_S (AB g) s.heap H locs) (vs : List Value) : PreS s H (va_Pc vs (Wd g α h S)) vs := by
  obtain ⟨hx, hb, hml, hown, hlk, hin, hK, hWT, hST, hbs, -⟩ := C
  refine ⟨?_, fun U hU hW => ⟨rfl, by rw [hU]; exact hR, va_K.moved hW.alike hK, WT.warm hW hWT, by rw [hU]; exact (ST.moved hW hST).kept hS.2.1, by rw [hU]; exact Nat.le_trans hbs hS.1⟩⟩
  intro a U f mk q
  obtain ⟨q1, q2, q3, q4, q5, q6⟩ := q
  exact ⟨q1, q2, va_K.moved (u := U) (U := U.calling f mk a) (Vm.Alike.refl U.vm) q3, WT.warm (s := U) (U := U.calling f mk a) (State.WarmedH.refl U) q4, ST.moved (s := U) (U := U.calling f mk a) (State.WarmedH.refl U) q5, q6⟩
theorem qc_F {P : Out → Sto → Prop} {a : Array Value} (v : Option Value) (st₀ t : State) (hq : QC g α S P a st₀ (.returned v) t) : va_F (AB g) st₀ t := by
  obtain ⟨r, α', h', S', -, -, -, -, -, hF⟩ := hq
  exact hF
end JD2
theorem ct_ck3 {l : Launch} (hl : l.stackTraces = false) {g : GT} {α : Nat → Nat → Nat} {h : HT} {S : Sto} {a b : Int32} {P : Out → Sto → Prop} (h0 : 0 ≤ a) (hab : a < b) (hP : P (Sum.inl (some (aI a))) S) :
    vx_Met l yJ3_checkIndex_8e157 [.code yJ3_checkIndex_8e157 cJ3_checkIndex_8e157 3 (some .int)] (rmx 0 0) (va_Pc [.int a, .int b, .null] (Wd g α h S)) (QC g α S P) (fun _ _ _ => False) 0 (120 * 0) (AB g) := by
  refine Met_w (own := "jdk/internal/util/Preconditions") false hl (by decide +kernel) rfl (fun q => nomatch q) (Nat.le_refl 3) (fun v hv => ?_) ?_
  · simp only [List.mem_cons, List.not_mem_nil, or_false] at hv
    rcases hv with rfl | rfl | rfl <;> rfl
  · intro p e R s m below meth c ls C hr hR hle
    have hlocks := C.2.2.2.2.1
    have l0 := hle.2.2 (0, .int a) List.mem_cons_self
    have l1 := hle.2.2 (1, .int b) (List.mem_cons_of_mem _ List.mem_cons_self)
    refine lv_iload_n C.1 C.2.1 dJ3_checkIndex_8e157_0 rfl l0 ?_
    refine lv_if_lt (tgt := 9) C.1 C.2.1 dJ3_checkIndex_8e157_1 rfl (fun q => absurd q (Int32.not_lt.mpr h0)) fun _ => ?_
    refine lv_iload_n C.1 C.2.1 dJ3_checkIndex_8e157_4 rfl l0 ?_
    refine lv_iload_n C.1 C.2.1 dJ3_checkIndex_8e157_5 rfl l1 ?_
    refine lv_icmp_lt (tgt := 16) C.1 C.2.1 dJ3_checkIndex_8e157_6 rfl (fun _ => ?_) (fun q => absurd hab q)
    refine lv_iload_n C.1 C.2.1 dJ3_checkIndex_8e157_16 rfl l0 ?_
    refine vx_ret ?_
    exact W.iret C.1 C.2.1 hr (fun t ht _ => ⟨some (aI a), α, h, S, rfl, hP, ⟨fun _ _ _ => rfl, fun _ => Nat.le_refl _⟩, trivial, by rw [ht]; exact hR, (va_S.rf (A := AB g) (H0 := s.heap)).F ht⟩) (fun _ q => nomatch q) dJ3_checkIndex_8e157_17
def s_ck : SP := vS fun as _ k => i2i as fun a b => 0 ≤ a ∧ a < b ∧ k (some (aI a))
theorem ct_ck {l : Launch} (hl : l.stackTraces = false) : CT l yJ15_checkIndex_7cf53 cJ15_checkIndex_7cf53 2 (some .int) 1 0 s_ck := by
  refine CT_w (own := "java/util/Objects") hl (by decide +kernel) rfl (fun as S P h => ?_) ?_
  · obtain ⟨i, j, rfl, -⟩ := i2i_ok h
    exact ⟨Nat.le_refl _, fun a ha => by
      rcases List.mem_cons.mp ha with rfl | ha
      · rfl
      · rw [List.mem_singleton.mp ha]; rfl⟩
  · intro p e R s m below meth c g α h S as P ls hsp C hr hR hLv hle
    obtain ⟨a, b, rfl, h0, hab, hP⟩ := i2i_ok hsp
    have hWT := C.2.2.2.2.2.2.2.1
    refine lv_iload_n C.1 C.2.1 dJ15_checkIndex_7cf53_0 rfl (hle.2.2 (0, .int a) List.mem_cons_self) ?_
    refine lv_iload_n C.1 C.2.1 dJ15_checkIndex_7cf53_1 rfl (hle.2.2 (1, .int b) (List.mem_cons_of_mem _ List.mem_cons_self)) ?_
    refine lv_null C.1 C.2.1 dJ15_checkIndex_7cf53_2 ?_
    have hlk : LkB "java/util/Objects" 105 yJ3_checkIndex_8e157 cJ3_checkIndex_8e157 3 (some .int) 3 := ⟨List.mem_of_getElem? (i := 525) (by decide +kernel), List.mem_of_getElem? (i := 46) (by decide +kernel), List.mem_of_getElem? (i := 523) (by decide +kernel), ⟨by decide +kernel, by decide +kernel⟩, by decide +kernel, by decide⟩
    refine w_afterQ (rest := []) (mc := 0) (ms := 120 * 0) (vx_runS (Ts := []) (own := "java/util/Objects") (As := [.int a, .int b, .null]) ⟨C.1, C.2.1, C.2.2.1, C.2.2.2.1, fun _ h => nomatch h⟩ (ct_ck3 hl (g := g) (α := α) (h := h) (S := S) (P := fun o S' => o = Sum.inl (some (aI a)) ∧ S' = S) h0 hab ⟨rfl, rfl⟩) ⟨lkB_call C hlk (by decide), wt_at (w := 524) hWT (by decide +kernel) rfl⟩ (pre_Wd C hR va_S.rf _) rfl rfl hle.1 rfl (by show 2 * 0 + 0 ≤ 8; decide) dJ15_checkIndex_7cf53_3 ⟨Nat.zero_le _, Nat.zero_le _⟩) va_S.rf (fun v st₀ t _ hq => qc_F v st₀ t hq) (fun v st₀ t locs1 _ hq hS1 => ?_) (fun E st₀ t hx => hx)
    obtain ⟨r, α', h', S', ho, ⟨h1, h2⟩, hE, hLvO, hR', hF⟩ := hq
    cases h1
    cases h2
    cases ho
    exact fin_ret (u := 0) (r := some (aI a)) C hr hP (Nat.le_refl _) hR' hE trivial hS1 ⟨Or.inl rfl, dJ15_checkIndex_7cf53_6⟩
def s_get : SP := vS fun as S k => l2i as fun i j => i < S.2.2 13 ∧ 0 ≤ j ∧ j < nI (S.2.2 (20 + i)) ∧ k (some (aR (lk i) j.toNatClampNeg))
theorem j_ltn {j : Int32} {n : Nat} (h0 : 0 ≤ j) (h : j < nI n) (hn : n < 2 ^ 31) : j.toNatClampNeg < n := by
  have h1 : (nI n).toInt = n := by
    show (Int32.ofNat n).toInt = n
    rw [Int32.toInt_ofNat_of_lt hn]
  rw [Int32.lt_iff_toInt_lt, h1] at h
  rw [Int32.le_iff_toInt_le] at h0
  have h2 : j.toNatClampNeg = j.toInt.toNat := rfl
  rw [h2]
  have h3 : (0 : Int32).toInt = 0 := rfl
  omega
theorem ct_get {l : Launch} (hl : l.stackTraces = false) : CT l yJx4a65c_get_915e3 cJx4a65c_get_915e3 2 (some (.object "java/lang/Object")) 2 0 s_get := by
  refine CT_w (own := "java/util/ArrayList") hl (by decide +kernel) rfl (fun as S P h => ?_) ?_
  · obtain ⟨i, j, rfl, -⟩ := l2i_ok h
    exact ⟨Nat.le_refl _, fun a ha => by
      rcases List.mem_cons.mp ha with rfl | ha
      · rfl
      · rw [List.mem_singleton.mp ha]; rfl⟩
  · intro p e R s m below meth c g α h S as P ls hsp C hr hR hLv hle
    obtain ⟨i, j, rfl, hi, hj0, hj, hP⟩ := l2i_ok hsp
    have hWT := C.2.2.2.2.2.2.2.1
    have h9 := hR.2.2.2.2.1 i hi
    have hjn := j_ltn hj0 hj (by omega)
    have e0 : Ext α S α S := ⟨fun _ _ _ => rfl, fun _ => Nat.le_refl _⟩
    have a0 := hle.2.2 (0, .ref (α 13 i)) List.mem_cons_self
    have a1 := hle.2.2 (1, .int j) (List.mem_cons_of_mem _ List.mem_cons_self)
    refine lv_iload_n C.1 C.2.1 dJx4a65c_get_915e3_0 rfl a1 ?_
    refine lv_aload_n C.1 C.2.1 dJx4a65c_get_915e3_1 rfl a0 ?_
    refine w_lget C.1 C.2.1 C.2.2.2.1 C.2.2.2.2.2.2.1 hWT hR hi 2 (by decide) (wt_at (w := 80) hWT (by decide +kernel) rfl) (fun _ h => h) rfl dJx4a65c_get_915e3_2 ?_
    have hlk1 : LkB "java/util/ArrayList" 118 yJ15_checkIndex_7cf53 cJ15_checkIndex_7cf53 2 (some .int) 2 := ⟨List.mem_of_getElem? (i := 522) (by decide +kernel), List.mem_of_getElem? (i := 45) (by decide +kernel), List.mem_of_getElem? (i := 520) (by decide +kernel), ⟨by decide +kernel, by decide +kernel⟩, by decide +kernel, by decide⟩
    refine w_callS (as := [aI j, aI (nI (S.2.2 (20 + i)))]) (P := fun o S' => o = Sum.inl (some (aI j)) ∧ S' = S) C (ct_ck hl) hlk1 (List.mem_of_getElem? (i := 521) (by decide +kernel)) (by decide) rfl (show s_ck _ _ _ from ⟨hj0, hj, rfl, rfl⟩) hR va_S.rf (fun a ha => ?_) hle.1 (Nat.zero_le _) ⟨Nat.zero_le _, Nat.zero_le _⟩ dJx4a65c_get_915e3_5 (fun r α' h' S' H1 locs1 hq hE hlo hR1 hS1 => ?_) (fun x α' h' S' H1 locs1 q9 ce hq => nomatch hq.1)
    · rcases List.mem_cons.mp ha with rfl | ha
      · trivial
      · rw [List.mem_singleton.mp ha]; trivial
    · obtain ⟨h1, h2⟩ := hq
      cases h1
      cases h2
      refine lv_pop C.1 C.2.1 dJx4a65c_get_915e3_8 rfl ?_
      have e1 : α' 13 i = α 13 i := hE.1 13 i (Or.inr (Or.inr ⟨Or.inr rfl, hi⟩))
      refine lv_aload_n C.1 C.2.1 dJx4a65c_get_915e3_9 rfl a0 ?_
      refine lv_iload_n C.1 C.2.1 dJx4a65c_get_915e3_10 rfl a1 ?_
      rw [← e1]
      have hlk2 : LkB "java/util/ArrayList" 123 yJx4a65c_elementData_915e3 cJx4a65c_elementData_915e3 2 (some (.object "java/lang/Object")) 1 := ⟨List.mem_of_getElem? (i := 529) (by decide +kernel), List.mem_of_getElem? (i := 29) (by decide +kernel), List.mem_of_getElem? (i := 526) (by decide +kernel), ⟨by decide +kernel, by decide +kernel⟩, by decide +kernel, by decide⟩
      refine w_callV (as := [aI j]) (k := 13) (i := i) (P := fun o S' => o = Sum.inl (some (aR (lk i) j.toNatClampNeg)) ∧ S' = S) C (ct_elem hl) hlk2 (List.mem_of_getElem? (i := 527) (by decide +kernel)) (List.mem_of_getElem? (i := 528) (by decide +kernel)) (by decide) rfl (Or.inr rfl) hi (show s_elem _ _ _ from ⟨rfl, hi, hj0, hjn, rfl, rfl⟩) hR1 hS1 (fun a ha => by rw [List.mem_singleton.mp ha]; trivial) hle.1 (Nat.zero_le _) ⟨Nat.zero_le _, Nat.zero_le _⟩ dJx4a65c_get_915e3_11 (fun r α'' h'' S'' H2 locs2 hq hE2 hlo hR2 hS2 => ?_) (fun x α' h' S' H1 locs1 q9 ce hq => nomatch hq.1)
      obtain ⟨h1, h2⟩ := hq
      cases h1
      cases h2
      exact fin_ret (u := 0) (r := some (aR (lk i) j.toNatClampNeg)) C hr hP (Nat.le_refl _) hR2 (hE.tr hE2) hlo hS2 ⟨rfl, dJx4a65c_get_915e3_14⟩
