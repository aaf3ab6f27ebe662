/-! CONTRACTS of the law's outer methods: with handlers, and of the one that makes the object -/
def cdOf (c : Nat) : Nat := if c = 136 then 0 else if c = 138 then 1 else 2
def hnOf (hh : List (Nat × Nat × Nat × Nat)) : List (Nat × Nat × Nat × Nat) := hh.map fun q => (q.1, q.2.1, q.2.2.1, cdOf q.2.2.2)
def hhOK (hh : List (Nat × Nat × Nat × Nat)) : Bool := hh.all fun q => q.2.2.2 == 136 || q.2.2.2 == 138 || q.2.2.2 == 140
def noX (Q : Out → Sto → Prop) : Out → Sto → Prop := fun o S => match o with
  | Sum.inl r => Q (Sum.inl r) S
  | Sum.inr _ => False
theorem fH_split {hh : List (Nat × Nat × Nat × Nat)} {pc x t : Nat} (h : fH (hnOf hh) pc x = some t) : ∃ pre e suf, hh = pre ++ e :: suf ∧ (e.1 ≤ pc ∧ pc < e.2.1) ∧ cdOf e.2.2.2 = x ∧ e.2.2.1 = t ∧ ∀ z ∈ pre, ¬ (z.1 ≤ pc ∧ pc < z.2.1) ∨ cdOf z.2.2.2 ≠ x := by
  induction hh with
  | nil => cases h
  | cons q r ih =>
    obtain ⟨a, b, t', c⟩ := q
    have h : (bif Nat.ble a pc && Nat.blt pc b && cdOf c == x then some t' else fH (hnOf r) pc x) = some t := h
    cases hc : (Nat.ble a pc && Nat.blt pc b && cdOf c == x) with
    | true =>
      rw [hc] at h
      simp only [Bool.and_eq_true, Nat.ble_eq, Nat.blt_eq, beq_iff_eq] at hc
      exact ⟨[], (a, b, t', c), r, rfl, hc.1, hc.2, Option.some.inj h, fun z hz => nomatch hz⟩
    | false =>
      rw [hc] at h
      obtain ⟨pre, e, suf, h1, h2, h3, h4, h5⟩ := ih h
      refine ⟨(a, b, t', c) :: pre, e, suf, by rw [h1]; rfl, h2, h3, h4, fun z hz => ?_⟩
      rcases List.mem_cons.mp hz with rfl | hz
      · by_cases h9 : a ≤ pc ∧ pc < b
        · right
          intro h8
          have : (Nat.ble a pc && Nat.blt pc b && cdOf c == x) = true := by
            simp only [Bool.and_eq_true, Nat.ble_eq, Nat.blt_eq, beq_iff_eq]
            exact ⟨h9, h8⟩
          rw [hc] at this
          cases this
        · exact Or.inl h9
      · exact h5 z hz
theorem cl_ok : ∀ c, (c == 136 || c == 138 || c == 140) = true → Cond.classLink "HeavyHaulLaw" c (exn (cdOf c)) ∈ lw_tbl ∧ Cond.castable (exn (cdOf c)) (exn (cdOf c)) ∈ lw_tbl ∧ c ≠ 0 ∧ cdOf c < 3 := by
  intro c hc
  simp only [Bool.or_eq_true, beq_iff_eq] at hc
  rcases hc with (rfl | rfl) | rfl
  · exact ⟨List.mem_of_getElem? (i := 51) (by decide +kernel), List.mem_of_getElem? (i := 147) (by decide +kernel), by decide, by decide⟩
  · exact ⟨List.mem_of_getElem? (i := 52) (by decide +kernel), List.mem_of_getElem? (i := 215) (by decide +kernel), by decide, by decide⟩
  · exact ⟨List.mem_of_getElem? (i := 53) (by decide +kernel), List.mem_of_getElem? (i := 242) (by decide +kernel), by decide, by decide⟩
theorem nc_ok {s : State} (h : NcF s) {x y : Nat} (hx : x < 3) (hy : y < 3) (hne : y ≠ x) : va_Nc (exn x) (exn y) s := by
  have hx' : x = 0 ∨ x = 1 ∨ x = 2 := by omega
  have hy' : y = 0 ∨ y = 1 ∨ y = 2 := by omega
  rcases hx' with rfl | rfl | rfl <;> rcases hy' with rfl | rfl | rfl
  · exact absurd rfl hne
  · exact h ("java/lang/IndexOutOfBoundsException", "java/lang/IllegalArgumentException") (by decide)
  · exact h ("java/lang/IndexOutOfBoundsException", "java/lang/IllegalStateException") (by decide)
  · exact h ("java/lang/IllegalArgumentException", "java/lang/IndexOutOfBoundsException") (by decide)
  · exact absurd rfl hne
  · exact h ("java/lang/IllegalArgumentException", "java/lang/IllegalStateException") (by decide)
  · exact h ("java/lang/IllegalStateException", "java/lang/IndexOutOfBoundsException") (by decide)
  · exact h ("java/lang/IllegalStateException", "java/lang/IllegalArgumentException") (by decide)
  · exact absurd rfl hne
section CTWO
variable {p : Program} {l : Launch} {e : Env} {R : Room} {s : State} {m : MethodId} {args : Array Value} {below : List Frame} {meth : Method} {c : Code} {g : GT} {cc : ByteArray} {nL rk cb sb B : Nat} {ini : Bool} {Qm : State → Prop}
theorem catch_ok (C : Cx p l s m meth c R cc "HeavyHaulLaw" nL rk cb sb B ini g) {hh : List (Nat × Nat × Nat × Nat)} (htab : c.exceptionTable.toList = tableOf hh) (hok : hhOK hh = true) {pc x t cells slots : Nat} {H : Heap} {locs : List Loc} {ls : Array Slot} {rest : List Value} {q : Addr} {ce : Cell}
    (hf : fH (hnOf hh) pc x = some t) (hce : H[q]? = some ce) (hcv : ce.vm = .none) (hcl : s.vm.findClass (exn x) = some ce.cls) (kk : W p l e R s m args below meth c H locs cells slots Qm (F0 m t ls [.ref q])) : vx_W p l e R s m args below meth c H locs cells slots Qm (F0 m pc ls rest) q := by
  obtain ⟨pre, en, suf, h1, h2, h3, h4, h5⟩ := fH_split hf
  have hall := List.all_eq_true.mp hok
  obtain ⟨k1, k2, k3, k4⟩ := cl_ok _ (hall en (by rw [h1]; exact List.mem_append_right _ List.mem_cons_self))
  have hWT := C.2.2.2.2.2.2.2.1
  have hNc : NcF s := C.2.2.2.2.2.2.2.2.1.2.2.2.2.2.2.1
  subst h4
  rw [h3] at k1 k2 k4
  refine vx_catch (name := exn x) (E := exn x) (own := "HeavyHaulLaw") C.2.2.2.1 (tableOf pre) ⟨en.1, en.2.1, en.2.2.1, en.2.2.2⟩ (tableOf suf) ?_ ?_ ?_ k3 (hWT _ k1 rfl args) (hWT _ k2 rfl args) hce hcv hcl kk
  · rw [htab, h1]
    exact List.map_append
  · intro z hz
    obtain ⟨w, hw, rfl⟩ := List.mem_map.mp hz
    rcases h5 w hw with h9 | h9
    · left
      show (decide (w.1 ≤ pc) && decide (pc < w.2.1)) = false
      simp only [Bool.and_eq_false_iff, decide_eq_false_iff_not]
      omega
    · right
      obtain ⟨j1, j2, j3, j4⟩ := cl_ok _ (hall w (by rw [h1]; exact List.mem_append_left _ hw))
      exact ⟨j3, exn (cdOf w.2.2.2), hWT _ j1 rfl args, nc_ok hNc k4 j4 h9⟩
  · show (decide (en.1 ≤ pc) && decide (pc < en.2.1)) = true
    rw [decide_eq_true h2.1, decide_eq_true h2.2]
    rfl
end CTWO
theorem CTW_of {l : Launch} {y : MethodName} {cc : ByteArray} {maxL rk u : Nat} {hh : List (Nat × Nat × Nat × Nat)} {sp : SP} {tb : Tb} (hl : l.stackTraces = false) (hNL : NewL l) (hy : plainName y.cls = true) (hcls : y.cls = "HeavyHaulLaw") (hok : hhOK hh = true)
    (hchk : chkTb cc "HeavyHaulLaw" false tb = true) (hcalls : CallsOK l "HeavyHaulLaw" rk tb) (hargs : ∀ as S P, sp as S P → as.length ≤ maxL ∧ ∀ a ∈ as, catV a = 1)
    (vc : ∀ (G : Gt) (Q : Out → Sto → Prop) (as : List AV) (S : Sto), sp as S Q → Seg tb G (noX Q) 2 u (hnOf hh) (0, fun _ => 0) → G 0 (argL as maxL) [] S 0) : CTW l y cc maxL (some .boolean) hh rk u sp := by
  intro g α h S as P hsp
  obtain ⟨hlen, hcat⟩ := hargs as S P hsp
  refine vx_ofWH (cc := cc) (maxL := maxL) (ret := some .boolean) (hh := hh) hy rfl ?_
  intro p e s m args below meth c s₁ B hml hv
  obtain ⟨rfl, hW, hLv⟩ := hv
  have C := cx_of hl hcls (ini := false) (fun q => nomatch q) B hml hW
  have htab : c.exceptionTable.toList = tableOf hh := vx_table (x := y) B (atoms_spec (ws := [Cond.codeWith y cc maxL (some .boolean) hh]) B.pre _ List.mem_cons_self)
  have hf : Fin p l e (headSpec [Cond.codeWith y cc maxL (some .boolean) hh] (rmx rk u)).room s m (as.map (conc α)).toArray below meth c (vx_MQ below (QC g α S P) (XC g α S P) (as.map (conc α)).toArray s u (120 * u) (AB g)) g α S maxL 0 0 u cc "HeavyHaulLaw" (noX P) 2 (hnOf hh) :=
    ⟨fun r S' u' α' h' H locs pc ls hq hu hR hE hlo hS hra => fin_ret (Q := P) (ret := some .boolean) C B.returns hq hu hR hE hlo hS hra,
     fun x S' u' α' h' H locs pc ls rest q ce hq => hq.elim,
     fun x t u' H locs pc ls rest q ce hh9 hce hcv hcl kk => catch_ok C htab hok hh9 hce hcv hcl kk,
     fun x pc i len xl S' u' α' h' H locs ls rest hc hq => hq.elim,
     fun pc i len xl S' u' α' h' H locs ls rest hc h5 h0 hu hR hS hsz hct kk => hNL p e _ s m _ below meth c _ g cc "HeavyHaulLaw" maxL rk 0 0 u false pc i len xl S' u' α' h' H locs ls rest C hc h5 h0 hu hR hS hsz hct kk⟩
  exact start_of hW.1 hLv hlen hcat (vc _ P as S hsp (seg_sound C hf (fun q => absurd q (by decide)) hchk hcalls))
/-- the locals of the one that makes the object, behind its making -/
abbrev hL (x : AV) : Lo := [some (aR 14 0), some x, none, none, none, none, none, none, none, none, none, none, none, none, none]
theorem CT_ofR {l : Launch} {y : MethodName} {cc : ByteArray} {rk u : Nat} {sp : SP} {tb : Tb} (hl : l.stackTraces = false) (hNL : NewL l) (hy : plainName y.cls = true) (hcls : y.cls = "HeavyHaulLaw")
    (hchk : chkTb cc "HeavyHaulLaw" false tb = true) (hcalls : CallsOK l "HeavyHaulLaw" rk tb) (hargs : ∀ as S P, sp as S P → as = [aR 14 0] ∧ S = S00)
    (vc : ∀ (G : Gt) (Q : Out → Sto → Prop) (as : List AV) (S : Sto), sp as S Q → (∀ v, G 8 (hL (aR 0 0)) [] SF v → G 8 (hL (aR 17 0)) [] cHb v) → Seg tb G Q 2 u [] (0, fun _ => 0) → G 0 (argL as 15) [] S 0) : CT l y cc 15 (some .boolean) rk u sp := by
  intro g α h S as P hsp
  obtain ⟨rfl, rfl⟩ := hargs as S P hsp
  refine vx_ofW (cc := cc) (maxL := 15) (ret := some .boolean) hy rfl ?_
  intro p e s m args below meth c s₁ B hml hout hv
  obtain ⟨rfl, hW, hLv⟩ := hv
  have C := cx_of hl hcls (ini := false) (fun q => nomatch q) B hml hW
  have hf : Fin p l e (headSpec [Cond.code y cc 15 (some .boolean)] (rmx rk u)).room s m (([aR 14 0] : List AV).map (conc α)).toArray below meth c (vx_MQ below (QC g α S00 P) (XC g α S00 P) (([aR 14 0] : List AV).map (conc α)).toArray s u (120 * u) (AB g)) g α S00 15 0 0 u cc "HeavyHaulLaw" P 2 [] :=
    ⟨fun r S' u' α' h' H locs pc ls hq hu hR hE hlo hS hra => fin_ret (ret := some .boolean) C B.returns hq hu hR hE hlo hS hra,
     fun x S' u' α' h' H locs pc ls rest q ce hq hu hR hE hS _ hce hcv hcl => fin_out C (fun z hz => (hout z hz).elim) hq hu hR hE hS hce hcv hcl,
     fun x t u' H locs pc ls rest q ce hh => (nomatch hh),
     fun x pc i len xl S' u' α' h' H locs ls rest hc hq hu hR hE hS hsz hct => fin_throw C hout hc hq hu hR hE hS hsz hct,
     fun pc i len xl S' u' α' h' H locs ls rest hc h5 h0 hu hR hS hsz hct kk => hNL p e _ s m _ below meth c _ g cc "HeavyHaulLaw" 15 rk 0 0 u false pc i len xl S' u' α' h' H locs ls rest C hc h5 h0 hu hR hS hsz hct kk⟩
  refine start_of hW.1 hLv (by decide) (fun a hm => by rw [List.mem_singleton.mp hm]; rfl) (vc _ P [aR 14 0] S00 hsp (fun v hgo => ?_) (seg_sound C hf (fun q => absurd q (by decide)) hchk hcalls))
  intro hu α' h' H locs ls hR hE hLl hst hS hLH
  have hR1 := hR.start
  refine hgo hu (aF α') h' H locs ls hR1 ⟨aF_agr hE.1, fun k => Nat.zero_le _⟩ (fun a hm => ?_) (fun a ha => nomatch ha) hS ⟨hLH.1, rfl, hLH.2.2.1, fun i a hi => ?_⟩
  · simp only [List.mem_cons, Option.some.injEq, reduceCtorEq, List.not_mem_nil, or_false, false_or] at hm
    rcases hm with rfl | rfl
    · exact Or.inr (Or.inl rfl)
    · exact Or.inr (Or.inr ⟨Or.inl rfl, by decide⟩)
  · rcases i with _ | _ | i
    · cases hi
      exact hLH.2.2.2 0 (aR 14 0) rfl
    · cases hi
      exact hLH.2.2.2 1 (aR 17 0) rfl
    · exfalso
      have hi15 : i + 2 < 15 := (List.getElem?_eq_some_iff.mp hi).1
      have h13 : i = 0 ∨ i = 1 ∨ i = 2 ∨ i = 3 ∨ i = 4 ∨ i = 5 ∨ i = 6 ∨ i = 7 ∨ i = 8 ∨ i = 9 ∨ i = 10 ∨ i = 11 ∨ i = 12 := by omega
      rcases h13 with rfl | rfl | rfl | rfl | rfl | rfl | rfl | rfl | rfl | rfl | rfl | rfl | rfl <;> cases hi
