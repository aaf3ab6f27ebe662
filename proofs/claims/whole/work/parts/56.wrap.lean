/-! CONTRACTS of methods with handlers: the law's calls -/
def cdOf (c : Nat) : Nat := if c = 13 then 0 else if c = 19 then 1 else 2
def hnOf (hh : List (Nat × Nat × Nat × Nat)) : List (Nat × Nat × Nat × Nat) := hh.map fun q => (q.1, q.2.1, q.2.2.1, cdOf q.2.2.2)
def hhOK (hh : List (Nat × Nat × Nat × Nat)) : Bool := hh.all fun q => q.2.2.2 == 13 || q.2.2.2 == 19 || q.2.2.2 == 21
def noX (Q : Out → Sto → Prop) : Out → Sto → Prop := fun o S => match o with
  | Sum.inl r => Q (Sum.inl r) S
  | Sum.inr _ => False
theorem fH_split {hh : List (Nat × Nat × Nat × Nat)} {pc x t : Nat} (h : fH (hnOf hh) pc x = some t) : ∃ pre e suf, hh = pre ++ e :: suf ∧ (e.1 ≤ pc ∧ pc < e.2.1) ∧ cdOf e.2.2.2 = x ∧ e.2.2.1 = t ∧ ∀ z ∈ pre, ¬ (z.1 ≤ pc ∧ pc < z.2.1) ∨ cdOf z.2.2.2 ≠ x := by
  induction hh with
  | nil => cases h
  | cons q r ih =>
    obtain ⟨a, b, t', c⟩ := q
    have h : (bif Nat.ble a pc && Nat.blt pc b && cdOf c == x then some t' else fH (hnOf r) pc x) = some t := h
    cases hc : (Nat.ble a pc && Nat.blt pc b && cdOf c == x) with
    | true =>
      rw [hc] at h
      simp only [Bool.and_eq_true, Nat.ble_eq, Nat.blt_eq, beq_iff_eq] at hc
      exact ⟨[], (a, b, t', c), r, rfl, hc.1, hc.2, Option.some.inj h, fun z hz => nomatch hz⟩
    | false =>
      rw [hc] at h
      obtain ⟨pre, e, suf, h1, h2, h3, h4, h5⟩ := ih h
      refine ⟨(a, b, t', c) :: pre, e, suf, by rw [h1]; rfl, h2, h3, h4, fun z hz => ?_⟩
      rcases List.mem_cons.mp hz with rfl | hz
      · by_cases h9 : a ≤ pc ∧ pc < b
        · right
          intro h8
          have : (Nat.ble a pc && Nat.blt pc b && cdOf c == x) = true := by
            simp only [Bool.and_eq_true, Nat.ble_eq, Nat.blt_eq, beq_iff_eq]
            exact ⟨h9, h8⟩
          rw [hc] at this
          cases this
        · exact Or.inl h9
      · exact h5 z hz
theorem cl_ok : ∀ c, (c == 13 || c == 19 || c == 21) = true → Cond.classLink "HeavyHaulLaw" c (exn (cdOf c)) ∈ lw_tbl ∧ Cond.castable (exn (cdOf c)) (exn (cdOf c)) ∈ lw_tbl ∧ c ≠ 0 ∧ cdOf c < 3 := by
  intro c hc
  simp only [Bool.or_eq_true, beq_iff_eq] at hc
  rcases hc with (rfl | rfl) | rfl
  · exact ⟨List.mem_of_getElem? (i := 136) (by decide +kernel), List.mem_of_getElem? (i := 146) (by decide +kernel), by decide, by decide⟩
  · exact ⟨List.mem_of_getElem? (i := 215) (by decide +kernel), List.mem_of_getElem? (i := 223) (by decide +kernel), by decide, by decide⟩
  · exact ⟨List.mem_of_getElem? (i := 216) (by decide +kernel), List.mem_of_getElem? (i := 250) (by decide +kernel), by decide, by decide⟩
theorem nc_ok {s : State} (h : NcF s) {x y : Nat} (hx : x < 3) (hy : y < 3) (hne : y ≠ x) : va_Nc (exn x) (exn y) s := by
  have hx' : x = 0 ∨ x = 1 ∨ x = 2 := by omega
  have hy' : y = 0 ∨ y = 1 ∨ y = 2 := by omega
  rcases hx' with rfl | rfl | rfl <;> rcases hy' with rfl | rfl | rfl
  · exact absurd rfl hne
  · exact h ("java/lang/IndexOutOfBoundsException", "java/lang/IllegalArgumentException") (by decide)
  · exact h ("java/lang/IndexOutOfBoundsException", "java/lang/IllegalStateException") (by decide)
  · exact h ("java/lang/IllegalArgumentException", "java/lang/IndexOutOfBoundsException") (by decide)
  · exact absurd rfl hne
  · exact h ("java/lang/IllegalArgumentException", "java/lang/IllegalStateException") (by decide)
  · exact h ("java/lang/IllegalStateException", "java/lang/IndexOutOfBoundsException") (by decide)
  · exact h ("java/lang/IllegalStateException", "java/lang/IllegalArgumentException") (by decide)
  · exact absurd rfl hne
section CTWO
variable {p : Program} {l : Launch} {e : Env} {R : Room} {s : State} {m : MethodId} {args : Array Value} {below : List Frame} {meth : Method} {c : Code} {g : GT} {cc : ByteArray} {nL rk cb sb B : Nat} {ini : Bool} {Qm : State → Prop}
theorem catch_ok (C : Cx p l s m meth c R cc "HeavyHaulLaw" nL rk cb sb B ini g) {hh : List (Nat × Nat × Nat × Nat)} (htab : c.exceptionTable.toList = tableOf hh) (hok : hhOK hh = true) {pc x t cells slots : Nat} {H : Heap} {locs : List Loc} {ls : Array Slot} {rest : List Value} {q : Addr} {ce : Cell}
    (hf : fH (hnOf hh) pc x = some t) (hce : H[q]? = some ce) (hcv : ce.vm = .none) (hcl : s.vm.findClass (exn x) = some ce.cls) (kk : W p l e R s m args below meth c H locs cells slots Qm (F0 m t ls [.ref q])) : vx_W p l e R s m args below meth c H locs cells slots Qm (F0 m pc ls rest) q := by
  obtain ⟨pre, en, suf, h1, h2, h3, h4, h5⟩ := fH_split hf
  have hall := List.all_eq_true.mp hok
  obtain ⟨k1, k2, k3, k4⟩ := cl_ok _ (hall en (by rw [h1]; exact List.mem_append_right _ List.mem_cons_self))
  have hWT := C.2.2.2.2.2.2.2.1
  have hNc : NcF s := C.2.2.2.2.2.2.2.2.1.2.2.2.2.2.2
  subst h4
  rw [h3] at k1 k2 k4
  refine vx_catch (name := exn x) (E := exn x) (own := "HeavyHaulLaw") C.2.2.2.1 (tableOf pre) ⟨en.1, en.2.1, en.2.2.1, en.2.2.2⟩ (tableOf suf) ?_ ?_ ?_ k3 (hWT _ k1 rfl args) (hWT _ k2 rfl args) hce hcv hcl kk
  · rw [htab, h1]
    exact List.map_append
  · intro z hz
    obtain ⟨w, hw, rfl⟩ := List.mem_map.mp hz
    rcases h5 w hw with h9 | h9
    · left
      show (decide (w.1 ≤ pc) && decide (pc < w.2.1)) = false
      simp only [Bool.and_eq_false_iff, decide_eq_false_iff_not]
      omega
    · right
      obtain ⟨j1, j2, j3, j4⟩ := cl_ok _ (hall w (by rw [h1]; exact List.mem_append_left _ hw))
      exact ⟨j3, exn (cdOf w.2.2.2), hWT _ j1 rfl args, nc_ok hNc k4 j4 h9⟩
  · show (decide (en.1 ≤ pc) && decide (pc < en.2.1)) = true
    rw [decide_eq_true h2.1, decide_eq_true h2.2]
    rfl
end CTWO
theorem CTW_of {l : Launch} {y : MethodName} {cc : ByteArray} {maxL rk u : Nat} {hh : List (Nat × Nat × Nat × Nat)} {sp : SP} {tb : Tb} (hl : l.stackTraces = false) (hNL : NewL l) (hy : plainName y.cls = true) (hcls : y.cls = "HeavyHaulLaw") (hok : hhOK hh = true)
    (hchk : chkTb cc "HeavyHaulLaw" false tb = true) (hcalls : CallsOK l "HeavyHaulLaw" rk tb) (hargs : ∀ as S P, sp as S P → as.length ≤ maxL ∧ ∀ a ∈ as, catV a = 1)
    (vc : ∀ (G : Gt) (Q : Out → Sto → Prop) (as : List AV) (S : Sto), sp as S Q → Seg tb G (noX Q) 1 u (hnOf hh) (0, fun _ => 0) → G 0 (argL as maxL) [] S 0) : CTW l y cc maxL (some .int) hh rk u sp := by
  intro g α h S as P hsp
  obtain ⟨hlen, hcat⟩ := hargs as S P hsp
  refine vx_ofWH (cc := cc) (maxL := maxL) (ret := some .int) (hh := hh) hy rfl ?_
  intro p e s m args below meth c s₁ B hml hv
  obtain ⟨rfl, hW, hLv⟩ := hv
  have C := cx_of hl hcls (ini := false) (fun q => nomatch q) B hml hW
  have htab : c.exceptionTable.toList = tableOf hh := vx_table (x := y) B (atoms_spec (ws := [Cond.codeWith y cc maxL (some .int) hh]) B.pre _ List.mem_cons_self)
  have hf : Fin p l e (headSpec [Cond.codeWith y cc maxL (some .int) hh] (rmx rk u)).room s m (as.map (conc α)).toArray below meth c (vx_MQ below (QC g α S P) (XC g α S P) (as.map (conc α)).toArray s u (120 * u) (AB g)) g α S maxL 0 0 u cc "HeavyHaulLaw" (noX P) 1 (hnOf hh) :=
    ⟨fun r S' u' α' h' H locs pc ls hq hu hR hE hlo hS hra => fin_ret (Q := P) (ret := some .int) C B.returns hq hu hR hE hlo hS hra,
     fun x S' u' α' h' H locs pc ls rest q ce hq => hq.elim,
     fun x t u' H locs pc ls rest q ce hh9 hce hcv hcl kk => catch_ok C htab hok hh9 hce hcv hcl kk,
     fun x pc i len xl S' u' α' h' H locs ls rest hc hq => hq.elim,
     fun pc i len xl S' u' α' h' H locs ls rest hc h5 h0 hu hR hS hsz hct kk => hNL p e _ s m _ below meth c _ g cc "HeavyHaulLaw" maxL rk 0 0 u false pc i len xl S' u' α' h' H locs ls rest C hc h5 h0 hu hR hS hsz hct kk⟩
  exact start_of hW.1 hLv hlen hcat (vc _ P as S hsp (seg_sound C hf (fun q => absurd q (by decide)) hchk hcalls))
def wx (k : Nat) (Q : Out → Sto → Prop) (S : Sto) : Prop := match k with
  | 1 => Q (Sum.inl (some (aI 1))) S
  | 2 => Q (Sum.inl (some (aI 2))) S
  | 3 => Q (Sum.inl (some (aI 3))) S
  | _ => False
def wI (a b c : Nat) (Q : Out → Sto → Prop) : Out → Sto → Prop := fun o S => match o with
  | Sum.inl (some (Sum.inl v)) => Q (Sum.inl (some (aI 0))) (wrJ S v.toInt64)
  | Sum.inr 0 => wx a Q S
  | Sum.inr 1 => wx b Q S
  | Sum.inr 2 => wx c Q S
  | _ => False
def wB (a b c : Nat) (Q : Out → Sto → Prop) : Out → Sto → Prop := fun o S => match o with
  | Sum.inl (some (Sum.inl v)) => (v = 0 → Q (Sum.inl (some (aI 0))) (wrJ S 0)) ∧ (¬ v = 0 → Q (Sum.inl (some (aI 0))) (wrJ S 1))
  | Sum.inr 0 => wx a Q S
  | Sum.inr 1 => wx b Q S
  | Sum.inr 2 => wx c Q S
  | _ => False
def wN (a b c : Nat) (Q : Out → Sto → Prop) : Out → Sto → Prop := fun o S => match o with
  | Sum.inl none => Q (Sum.inl (some (aI 0))) S
  | Sum.inr 0 => wx a Q S
  | Sum.inr 1 => wx b Q S
  | Sum.inr 2 => wx c Q S
  | _ => False
def tb_L_bay : Tb := [(0, .aload_n 3, 1, x0), (1, .iconst 0, 1, xI (0)), (2, .aload_n 0, 1, x0), (3, .iload_n 1, 1, x0), (4, .iload_n 2, 1, x0), (5, .invokevirtual 7, 3, xS 3 1 s_X6_bay), (8, .ifCond .eq 7, 3, xN 15), (11, .lconst 1, 1, x0), (12, .goto 4, 3, xN 16), (15, .lconst 0, 1, x0), (16, .lastore, 1, x0), (17, .goto 7, 3, xN 24), (20, .astore 4, 2, x0), (22, .iconst 1, 1, xI (1)), (23, .ireturn, 1, x0), (24, .iconst 0, 1, xI (0)), (25, .ireturn, 1, x0)]
theorem chk_L_bay : chkTb cL_bay "HeavyHaulLaw" false tb_L_bay = true := by decide +kernel
theorem cal_L_bay {l : Launch} (hl : l.stackTraces = false) (hNL : NewL l) : CallsOK l "HeavyHaulLaw" 2 tb_L_bay := callsOK_f ⟨⟨_, _, 4, 1, _, 7, (ct_X6_bay hl hNL), ⟨List.mem_of_getElem? (i := 140) (by decide +kernel), List.mem_of_getElem? (i := 39) (by decide +kernel), List.mem_of_getElem? (i := 137) (by decide +kernel), ⟨by decide +kernel, by decide +kernel⟩, by decide +kernel, by decide⟩, List.mem_of_getElem? (i := 138) (by decide +kernel), List.mem_of_getElem? (i := 139) (by decide +kernel), by decide, by decide, rc_X6_bay⟩, trivial⟩
def s_L_bay : SP := fun as S Q => ∃ cs, as = cs ++ [aR 12 0] ∧ s_X6_bay cs S (wB 1 0 0 Q)
theorem ar_L_bay : ∀ as S P, s_L_bay as S P → as.length ≤ 5 ∧ ∀ a ∈ as, catV a = 1 := fun as S P h => by
  obtain ⟨cs, rfl, h⟩ := h
  obtain ⟨_, _, rfl, _⟩ := o2_ok h
  exact ar_all ⟨Nat.le_of_ble_eq_true rfl, rfl⟩
theorem vc_L_bay : ∀ (G : Gt) (Q : Out → Sto → Prop) (as : List AV) (S : Sto), s_L_bay as S Q → Seg tb_L_bay G (noX Q) 1 1 (hnOf [(0, 17, 20, 13)]) (0, fun _ => 0) → G 0 (argL as 5) [] S 0 := by
  intro G Q as S h hs
  obtain ⟨cs, rfl, h⟩ := h
  obtain ⟨_, _, rfl, h0, h1, h2, h3⟩ := o2_ok h
  refine hs [] 60 0 _ _ _ _ ?_
  exact ⟨rfl, rfl, h0, h1, fun z0 q => h2 z0, fun z0 => ⟨fun y => ⟨rfl, (h3 z0).1 y⟩, fun y => ⟨rfl, (h3 z0).2 y⟩⟩⟩
theorem ct_L_bay {l : Launch} (hl : l.stackTraces = false) (hNL : NewL l) : CTW l yL_bay cL_bay 5 (some .int) [(0, 17, 20, 13)] 2 1 s_L_bay := CTW_of hl hNL (by decide +kernel) rfl (by decide) chk_L_bay (cal_L_bay hl hNL) ar_L_bay vc_L_bay
def tb_L_road : Tb := [(0, .aload 8, 2, x0), (2, .iconst 0, 1, xI (0)), (3, .aload_n 0, 1, x0), (4, .iload_n 1, 1, x0), (5, .iload_n 2, 1, x0), (6, .iload_n 3, 1, x0), (7, .iload 4, 2, x0), (9, .iload 5, 2, x0), (11, .iload 6, 2, x0), (13, .iload 7, 2, x0), (15, .invokevirtual 15, 3, xS 8 10 s_X6_road), (18, .i2l, 1, x0), (19, .lastore, 1, x0), (20, .goto 15, 3, xN 35), (23, .astore 9, 2, x0), (25, .iconst 1, 1, xI (1)), (26, .ireturn, 1, x0), (27, .astore 9, 2, x0), (29, .iconst 2, 1, xI (2)), (30, .ireturn, 1, x0), (31, .astore 9, 2, x0), (33, .iconst 3, 1, xI (3)), (34, .ireturn, 1, x0), (35, .iconst 0, 1, xI (0)), (36, .ireturn, 1, x0)]
theorem chk_L_road : chkTb cL_road "HeavyHaulLaw" false tb_L_road = true := by decide +kernel
theorem cal_L_road {l : Launch} (hl : l.stackTraces = false) (hNL : NewL l) : CallsOK l "HeavyHaulLaw" 7 tb_L_road := callsOK_f ⟨⟨_, _, 8, 6, _, 7, (ct_X6_road hl hNL), ⟨List.mem_of_getElem? (i := 220) (by decide +kernel), List.mem_of_getElem? (i := 39) (by decide +kernel), List.mem_of_getElem? (i := 217) (by decide +kernel), ⟨by decide +kernel, by decide +kernel⟩, by decide +kernel, by decide⟩, List.mem_of_getElem? (i := 218) (by decide +kernel), List.mem_of_getElem? (i := 219) (by decide +kernel), by decide, by decide, rc_X6_road⟩, trivial⟩
def s_L_road : SP := fun as S Q => ∃ cs, as = cs ++ [aR 12 0] ∧ s_X6_road cs S (wI 1 2 3 Q)
theorem ar_L_road : ∀ as S P, s_L_road as S P → as.length ≤ 10 ∧ ∀ a ∈ as, catV a = 1 := fun as S P h => by
  obtain ⟨cs, rfl, h⟩ := h
  obtain ⟨_, _, _, _, _, _, _, rfl, _⟩ := o7_ok h
  exact ar_all ⟨Nat.le_of_ble_eq_true rfl, rfl⟩
theorem vc_L_road : ∀ (G : Gt) (Q : Out → Sto → Prop) (as : List AV) (S : Sto), s_L_road as S Q → Seg tb_L_road G (noX Q) 1 10 (hnOf [(0, 20, 23, 13), (0, 20, 27, 19), (0, 20, 31, 21)]) (0, fun _ => 0) → G 0 (argL as 10) [] S 0 := by
  intro G Q as S h hs
  obtain ⟨cs, rfl, h⟩ := h
  obtain ⟨_, _, _, _, _, _, _, rfl, h0, h1, h2, h3, h4⟩ := o7_ok h
  refine hs [] 60 0 _ _ _ _ ?_
  exact ⟨rfl, rfl, h0, fun z0 q => h1 z0, fun z0 z1 q => h2 z0 z1, fun z0 z1 z2 q => h3 z0 z1 z2, fun z0 z1 z2 => ⟨rfl, h4 z0 z1 z2⟩⟩
theorem ct_L_road {l : Launch} (hl : l.stackTraces = false) (hNL : NewL l) : CTW l yL_road cL_road 10 (some .int) [(0, 20, 23, 13), (0, 20, 27, 19), (0, 20, 31, 21)] 7 10 s_L_road := CTW_of hl hNL (by decide +kernel) rfl (by decide) chk_L_road (cal_L_road hl hNL) ar_L_road vc_L_road
def tb_L_bridge : Tb := [(0, .aload 5, 2, x0), (2, .iconst 0, 1, xI (0)), (3, .aload_n 0, 1, x0), (4, .iload_n 1, 1, x0), (5, .iload_n 2, 1, x0), (6, .iload_n 3, 1, x0), (7, .iload 4, 2, x0), (9, .invokevirtual 23, 3, xS 5 4 s_X6_bridge), (12, .ifCond .eq 7, 3, xN 19), (15, .lconst 1, 1, x0), (16, .goto 4, 3, xN 20), (19, .lconst 0, 1, x0), (20, .lastore, 1, x0), (21, .goto 11, 3, xN 32), (24, .astore 6, 2, x0), (26, .iconst 1, 1, xI (1)), (27, .ireturn, 1, x0), (28, .astore 6, 2, x0), (30, .iconst 2, 1, xI (2)), (31, .ireturn, 1, x0), (32, .iconst 0, 1, xI (0)), (33, .ireturn, 1, x0)]
theorem chk_L_bridge : chkTb cL_bridge "HeavyHaulLaw" false tb_L_bridge = true := by decide +kernel
theorem cal_L_bridge {l : Launch} (hl : l.stackTraces = false) (hNL : NewL l) : CallsOK l "HeavyHaulLaw" 5 tb_L_bridge := callsOK_f ⟨⟨_, _, 7, 4, _, 7, (ct_X6_bridge hl hNL), ⟨List.mem_of_getElem? (i := 374) (by decide +kernel), List.mem_of_getElem? (i := 39) (by decide +kernel), List.mem_of_getElem? (i := 371) (by decide +kernel), ⟨by decide +kernel, by decide +kernel⟩, by decide +kernel, by decide⟩, List.mem_of_getElem? (i := 372) (by decide +kernel), List.mem_of_getElem? (i := 373) (by decide +kernel), by decide, by decide, rc_X6_bridge⟩, trivial⟩
def s_L_bridge : SP := fun as S Q => ∃ cs, as = cs ++ [aR 12 0] ∧ s_X6_bridge cs S (wB 1 2 0 Q)
theorem ar_L_bridge : ∀ as S P, s_L_bridge as S P → as.length ≤ 7 ∧ ∀ a ∈ as, catV a = 1 := fun as S P h => by
  obtain ⟨cs, rfl, h⟩ := h
  obtain ⟨_, _, _, _, rfl, _⟩ := o4_ok h
  exact ar_all ⟨Nat.le_of_ble_eq_true rfl, rfl⟩
theorem vc_L_bridge : ∀ (G : Gt) (Q : Out → Sto → Prop) (as : List AV) (S : Sto), s_L_bridge as S Q → Seg tb_L_bridge G (noX Q) 1 4 (hnOf [(0, 21, 24, 13), (0, 21, 28, 19)]) (0, fun _ => 0) → G 0 (argL as 7) [] S 0 := by
  intro G Q as S h hs
  obtain ⟨cs, rfl, h⟩ := h
  obtain ⟨_, _, _, _, rfl, h0, h1, h2, h3⟩ := o4_ok h
  refine hs [] 60 0 _ _ _ _ ?_
  exact ⟨rfl, rfl, h0, fun z0 q => h1 z0, fun z0 z1 q => h2 z0 z1, fun z0 z1 => ⟨fun y => ⟨rfl, (h3 z0 z1).1 y⟩, fun y => ⟨rfl, (h3 z0 z1).2 y⟩⟩⟩
theorem ct_L_bridge {l : Launch} (hl : l.stackTraces = false) (hNL : NewL l) : CTW l yL_bridge cL_bridge 7 (some .int) [(0, 21, 24, 13), (0, 21, 28, 19)] 5 4 s_L_bridge := CTW_of hl hNL (by decide +kernel) rfl (by decide) chk_L_bridge (cal_L_bridge hl hNL) ar_L_bridge vc_L_bridge
def tb_L_work : Tb := [(0, .aload 6, 2, x0), (2, .iconst 0, 1, xI (0)), (3, .aload_n 0, 1, x0), (4, .iload_n 1, 1, x0), (5, .iload_n 2, 1, x0), (6, .iload_n 3, 1, x0), (7, .iload 4, 2, x0), (9, .iload 5, 2, x0), (11, .invokevirtual 27, 3, xS 6 10 s_X6_work), (14, .i2l, 1, x0), (15, .lastore, 1, x0), (16, .goto 15, 3, xN 31), (19, .astore 7, 2, x0), (21, .iconst 1, 1, xI (1)), (22, .ireturn, 1, x0), (23, .astore 7, 2, x0), (25, .iconst 2, 1, xI (2)), (26, .ireturn, 1, x0), (27, .astore 7, 2, x0), (29, .iconst 3, 1, xI (3)), (30, .ireturn, 1, x0), (31, .iconst 0, 1, xI (0)), (32, .ireturn, 1, x0)]
theorem chk_L_work : chkTb cL_work "HeavyHaulLaw" false tb_L_work = true := by decide +kernel
theorem cal_L_work {l : Launch} (hl : l.stackTraces = false) (hNL : NewL l) : CallsOK l "HeavyHaulLaw" 7 tb_L_work := callsOK_f ⟨⟨_, _, 6, 6, _, 7, (ct_X6_work hl hNL), ⟨List.mem_of_getElem? (i := 405) (by decide +kernel), List.mem_of_getElem? (i := 39) (by decide +kernel), List.mem_of_getElem? (i := 402) (by decide +kernel), ⟨by decide +kernel, by decide +kernel⟩, by decide +kernel, by decide⟩, List.mem_of_getElem? (i := 403) (by decide +kernel), List.mem_of_getElem? (i := 404) (by decide +kernel), by decide, by decide, rc_X6_work⟩, trivial⟩
def s_L_work : SP := fun as S Q => ∃ cs, as = cs ++ [aR 12 0] ∧ s_X6_work cs S (wI 1 2 3 Q)
theorem ar_L_work : ∀ as S P, s_L_work as S P → as.length ≤ 8 ∧ ∀ a ∈ as, catV a = 1 := fun as S P h => by
  obtain ⟨cs, rfl, h⟩ := h
  obtain ⟨_, _, _, _, _, rfl, _⟩ := o5_ok h
  exact ar_all ⟨Nat.le_of_ble_eq_true rfl, rfl⟩
theorem vc_L_work : ∀ (G : Gt) (Q : Out → Sto → Prop) (as : List AV) (S : Sto), s_L_work as S Q → Seg tb_L_work G (noX Q) 1 10 (hnOf [(0, 16, 19, 13), (0, 16, 23, 19), (0, 16, 27, 21)]) (0, fun _ => 0) → G 0 (argL as 8) [] S 0 := by
  intro G Q as S h hs
  obtain ⟨cs, rfl, h⟩ := h
  obtain ⟨_, _, _, _, _, rfl, h0, h1, h2, h3, h4⟩ := o5_ok h
  refine hs [] 60 0 _ _ _ _ ?_
  exact ⟨rfl, rfl, h0, fun z0 q => h1 z0, fun z0 z1 q => h2 z0 z1, fun z0 z1 z2 q => h3 z0 z1 z2, fun z0 z1 z2 => ⟨rfl, h4 z0 z1 z2⟩⟩
theorem ct_L_work {l : Launch} (hl : l.stackTraces = false) (hNL : NewL l) : CTW l yL_work cL_work 8 (some .int) [(0, 16, 19, 13), (0, 16, 23, 19), (0, 16, 27, 21)] 7 10 s_L_work := CTW_of hl hNL (by decide +kernel) rfl (by decide) chk_L_work (cal_L_work hl hNL) ar_L_work vc_L_work
def tb_L_rig : Tb := [(0, .aload 8, 2, x0), (2, .iconst 0, 1, xI (0)), (3, .aload_n 0, 1, x0), (4, .iload_n 1, 1, x0), (5, .iload_n 2, 1, x0), (6, .iload_n 3, 1, x0), (7, .iload 4, 2, x0), (9, .iload 5, 2, x0), (11, .iload 6, 2, x0), (13, .iload 7, 2, x0), (15, .invokevirtual 31, 3, xS 8 12 s_X6_rig), (18, .i2l, 1, x0), (19, .lastore, 1, x0), (20, .goto 15, 3, xN 35), (23, .astore 9, 2, x0), (25, .iconst 1, 1, xI (1)), (26, .ireturn, 1, x0), (27, .astore 9, 2, x0), (29, .iconst 2, 1, xI (2)), (30, .ireturn, 1, x0), (31, .astore 9, 2, x0), (33, .iconst 3, 1, xI (3)), (34, .ireturn, 1, x0), (35, .iconst 0, 1, xI (0)), (36, .ireturn, 1, x0)]
theorem chk_L_rig : chkTb cL_rig "HeavyHaulLaw" false tb_L_rig = true := by decide +kernel
theorem cal_L_rig {l : Launch} (hl : l.stackTraces = false) (hNL : NewL l) : CallsOK l "HeavyHaulLaw" 7 tb_L_rig := callsOK_f ⟨⟨_, _, 9, 6, _, 7, (ct_X6_rig hl hNL), ⟨List.mem_of_getElem? (i := 451) (by decide +kernel), List.mem_of_getElem? (i := 39) (by decide +kernel), List.mem_of_getElem? (i := 448) (by decide +kernel), ⟨by decide +kernel, by decide +kernel⟩, by decide +kernel, by decide⟩, List.mem_of_getElem? (i := 449) (by decide +kernel), List.mem_of_getElem? (i := 450) (by decide +kernel), by decide, by decide, rc_X6_rig⟩, trivial⟩
def s_L_rig : SP := fun as S Q => ∃ cs, as = cs ++ [aR 12 0] ∧ s_X6_rig cs S (wI 1 2 3 Q)
theorem ar_L_rig : ∀ as S P, s_L_rig as S P → as.length ≤ 10 ∧ ∀ a ∈ as, catV a = 1 := fun as S P h => by
  obtain ⟨cs, rfl, h⟩ := h
  obtain ⟨_, _, _, _, _, _, _, rfl, _⟩ := o7_ok h
  exact ar_all ⟨Nat.le_of_ble_eq_true rfl, rfl⟩
theorem vc_L_rig : ∀ (G : Gt) (Q : Out → Sto → Prop) (as : List AV) (S : Sto), s_L_rig as S Q → Seg tb_L_rig G (noX Q) 1 12 (hnOf [(0, 20, 23, 13), (0, 20, 27, 19), (0, 20, 31, 21)]) (0, fun _ => 0) → G 0 (argL as 10) [] S 0 := by
  intro G Q as S h hs
  obtain ⟨cs, rfl, h⟩ := h
  obtain ⟨_, _, _, _, _, _, _, rfl, h0, h1, h2, h3, h4⟩ := o7_ok h
  refine hs [] 60 0 _ _ _ _ ?_
  exact ⟨rfl, rfl, h0, fun z0 q => h1 z0, fun z0 z1 q => h2 z0 z1, fun z0 z1 z2 q => h3 z0 z1 z2, fun z0 z1 z2 => ⟨rfl, h4 z0 z1 z2⟩⟩
theorem ct_L_rig {l : Launch} (hl : l.stackTraces = false) (hNL : NewL l) : CTW l yL_rig cL_rig 10 (some .int) [(0, 20, 23, 13), (0, 20, 27, 19), (0, 20, 31, 21)] 7 12 s_L_rig := CTW_of hl hNL (by decide +kernel) rfl (by decide) chk_L_rig (cal_L_rig hl hNL) ar_L_rig vc_L_rig
def tb_L_load : Tb := [(0, .aload_n 0, 1, x0), (1, .iload_n 1, 1, x0), (2, .iload_n 2, 1, x0), (3, .iload_n 3, 1, x0), (4, .invokevirtual 34, 3, xS 4 4 s_X6_load), (7, .goto 15, 3, xN 22), (10, .astore 4, 2, x0), (12, .iconst 1, 1, xI (1)), (13, .ireturn, 1, x0), (14, .astore 4, 2, x0), (16, .iconst 2, 1, xI (2)), (17, .ireturn, 1, x0), (18, .astore 4, 2, x0), (20, .iconst 3, 1, xI (3)), (21, .ireturn, 1, x0), (22, .iconst 0, 1, xI (0)), (23, .ireturn, 1, x0)]
theorem chk_L_load : chkTb cL_load "HeavyHaulLaw" false tb_L_load = true := by decide +kernel
theorem cal_L_load {l : Launch} (hl : l.stackTraces = false) (hNL : NewL l) : CallsOK l "HeavyHaulLaw" 5 tb_L_load := callsOK_f ⟨⟨_, _, 5, 4, _, 7, (ct_X6_load hl hNL), ⟨List.mem_of_getElem? (i := 530) (by decide +kernel), List.mem_of_getElem? (i := 39) (by decide +kernel), List.mem_of_getElem? (i := 527) (by decide +kernel), ⟨by decide +kernel, by decide +kernel⟩, by decide +kernel, by decide⟩, List.mem_of_getElem? (i := 528) (by decide +kernel), List.mem_of_getElem? (i := 529) (by decide +kernel), by decide, by decide, rc_X6_load⟩, trivial⟩
def s_L_load : SP := fun as S Q => s_X6_load as S (wN 1 2 3 Q)
theorem ar_L_load : ∀ as S P, s_L_load as S P → as.length ≤ 5 ∧ ∀ a ∈ as, catV a = 1 := fun as S P h => by
  obtain ⟨_, _, _, rfl, _⟩ := o3_ok h
  exact ar_all ⟨Nat.le_of_ble_eq_true rfl, rfl⟩
theorem vc_L_load : ∀ (G : Gt) (Q : Out → Sto → Prop) (as : List AV) (S : Sto), s_L_load as S Q → Seg tb_L_load G (noX Q) 1 4 (hnOf [(0, 7, 10, 13), (0, 7, 14, 19), (0, 7, 18, 21)]) (0, fun _ => 0) → G 0 (argL as 5) [] S 0 := by
  intro G Q as S h hs
  have h : s_X6_load as S (wN 1 2 3 Q) := h
  obtain ⟨_, _, _, rfl, h0, h1, h2, h3, h4⟩ := o3_ok h
  refine hs [] 60 0 _ _ _ _ ?_
  exact ⟨rfl, rfl, h0, fun z0 q => h1 z0, fun z0 z1 q => h2 z0 z1, fun z0 z1 z2 q => h3 z0 z1 z2, fun z0 z1 z2 => h4 z0 z1 z2⟩
theorem ct_L_load {l : Launch} (hl : l.stackTraces = false) (hNL : NewL l) : CTW l yL_load cL_load 5 (some .int) [(0, 7, 10, 13), (0, 7, 14, 19), (0, 7, 18, 21)] 5 4 s_L_load := CTW_of hl hNL (by decide +kernel) rfl (by decide) chk_L_load (cal_L_load hl hNL) ar_L_load vc_L_load
def tb_L_axle : Tb := [(0, .aload_n 3, 1, x0), (1, .iconst 0, 1, xI (0)), (2, .aload_n 0, 1, x0), (3, .iload_n 1, 1, x0), (4, .iload_n 2, 1, x0), (5, .invokevirtual 38, 3, xS 3 2 s_X6_axle), (8, .i2l, 1, x0), (9, .lastore, 1, x0), (10, .goto 7, 3, xN 17), (13, .astore 4, 2, x0), (15, .iconst 1, 1, xI (1)), (16, .ireturn, 1, x0), (17, .iconst 0, 1, xI (0)), (18, .ireturn, 1, x0)]
theorem chk_L_axle : chkTb cL_axle "HeavyHaulLaw" false tb_L_axle = true := by decide +kernel
theorem cal_L_axle {l : Launch} (hl : l.stackTraces = false) (hNL : NewL l) : CallsOK l "HeavyHaulLaw" 5 tb_L_axle := callsOK_f ⟨⟨_, _, 4, 4, _, 7, (ct_X6_axle hl hNL), ⟨List.mem_of_getElem? (i := 552) (by decide +kernel), List.mem_of_getElem? (i := 39) (by decide +kernel), List.mem_of_getElem? (i := 549) (by decide +kernel), ⟨by decide +kernel, by decide +kernel⟩, by decide +kernel, by decide⟩, List.mem_of_getElem? (i := 550) (by decide +kernel), List.mem_of_getElem? (i := 551) (by decide +kernel), by decide, by decide, rc_X6_axle⟩, trivial⟩
def s_L_axle : SP := fun as S Q => ∃ cs, as = cs ++ [aR 12 0] ∧ s_X6_axle cs S (wI 1 0 0 Q)
theorem ar_L_axle : ∀ as S P, s_L_axle as S P → as.length ≤ 5 ∧ ∀ a ∈ as, catV a = 1 := fun as S P h => by
  obtain ⟨cs, rfl, h⟩ := h
  obtain ⟨_, _, rfl, _⟩ := o2_ok h
  exact ar_all ⟨Nat.le_of_ble_eq_true rfl, rfl⟩
theorem vc_L_axle : ∀ (G : Gt) (Q : Out → Sto → Prop) (as : List AV) (S : Sto), s_L_axle as S Q → Seg tb_L_axle G (noX Q) 1 2 (hnOf [(0, 10, 13, 13)]) (0, fun _ => 0) → G 0 (argL as 5) [] S 0 := by
  intro G Q as S h hs
  obtain ⟨cs, rfl, h⟩ := h
  obtain ⟨_, _, rfl, h0, h1, h2⟩ := o2_ok h
  refine hs [] 60 0 _ _ _ _ ?_
  exact ⟨rfl, rfl, h0, fun z0 q => h1 z0, fun z0 => ⟨rfl, h2 z0⟩⟩
theorem ct_L_axle {l : Launch} (hl : l.stackTraces = false) (hNL : NewL l) : CTW l yL_axle cL_axle 5 (some .int) [(0, 10, 13, 13)] 5 2 s_L_axle := CTW_of hl hNL (by decide +kernel) rfl (by decide) chk_L_axle (cal_L_axle hl hNL) ar_L_axle vc_L_axle
def tb_L_greatest : Tb := [(0, .aload 4, 2, x0), (2, .iconst 0, 1, xI (0)), (3, .aload_n 0, 1, x0), (4, .iload_n 1, 1, x0), (5, .iload_n 2, 1, x0), (6, .iload_n 3, 1, x0), (7, .invokevirtual 42, 3, xS 4 2 s_X6_greatest), (10, .i2l, 1, x0), (11, .lastore, 1, x0), (12, .goto 7, 3, xN 19), (15, .astore 5, 2, x0), (17, .iconst 1, 1, xI (1)), (18, .ireturn, 1, x0), (19, .iconst 0, 1, xI (0)), (20, .ireturn, 1, x0)]
theorem chk_L_greatest : chkTb cL_greatest "HeavyHaulLaw" false tb_L_greatest = true := by decide +kernel
theorem cal_L_greatest {l : Launch} (hl : l.stackTraces = false) (hNL : NewL l) : CallsOK l "HeavyHaulLaw" 5 tb_L_greatest := callsOK_f ⟨⟨_, _, 4, 4, _, 7, (ct_X6_greatest hl hNL), ⟨List.mem_of_getElem? (i := 563) (by decide +kernel), List.mem_of_getElem? (i := 39) (by decide +kernel), List.mem_of_getElem? (i := 560) (by decide +kernel), ⟨by decide +kernel, by decide +kernel⟩, by decide +kernel, by decide⟩, List.mem_of_getElem? (i := 561) (by decide +kernel), List.mem_of_getElem? (i := 562) (by decide +kernel), by decide, by decide, rc_X6_greatest⟩, trivial⟩
def s_L_greatest : SP := fun as S Q => ∃ cs, as = cs ++ [aR 12 0] ∧ s_X6_greatest cs S (wI 1 0 0 Q)
theorem ar_L_greatest : ∀ as S P, s_L_greatest as S P → as.length ≤ 6 ∧ ∀ a ∈ as, catV a = 1 := fun as S P h => by
  obtain ⟨cs, rfl, h⟩ := h
  obtain ⟨_, _, _, rfl, _⟩ := o3_ok h
  exact ar_all ⟨Nat.le_of_ble_eq_true rfl, rfl⟩
theorem vc_L_greatest : ∀ (G : Gt) (Q : Out → Sto → Prop) (as : List AV) (S : Sto), s_L_greatest as S Q → Seg tb_L_greatest G (noX Q) 1 2 (hnOf [(0, 12, 15, 13)]) (0, fun _ => 0) → G 0 (argL as 6) [] S 0 := by
  intro G Q as S h hs
  obtain ⟨cs, rfl, h⟩ := h
  obtain ⟨_, _, _, rfl, h0, h1, h2⟩ := o3_ok h
  refine hs [] 60 0 _ _ _ _ ?_
  exact ⟨rfl, rfl, h0, fun z0 q => h1 z0, fun z0 => ⟨rfl, h2 z0⟩⟩
theorem ct_L_greatest {l : Launch} (hl : l.stackTraces = false) (hNL : NewL l) : CTW l yL_greatest cL_greatest 6 (some .int) [(0, 12, 15, 13)] 5 2 s_L_greatest := CTW_of hl hNL (by decide +kernel) rfl (by decide) chk_L_greatest (cal_L_greatest hl hNL) ar_L_greatest vc_L_greatest
def tb_L_greatestAnew : Tb := [(0, .aload 4, 2, x0), (2, .iconst 0, 1, xI (0)), (3, .aload_n 0, 1, x0), (4, .iload_n 1, 1, x0), (5, .iload_n 2, 1, x0), (6, .iload_n 3, 1, x0), (7, .invokevirtual 46, 3, xS 4 2 s_X6_greatestAnew), (10, .i2l, 1, x0), (11, .lastore, 1, x0), (12, .goto 7, 3, xN 19), (15, .astore 5, 2, x0), (17, .iconst 1, 1, xI (1)), (18, .ireturn, 1, x0), (19, .iconst 0, 1, xI (0)), (20, .ireturn, 1, x0)]
theorem chk_L_greatestAnew : chkTb cL_greatestAnew "HeavyHaulLaw" false tb_L_greatestAnew = true := by decide +kernel
theorem cal_L_greatestAnew {l : Launch} (hl : l.stackTraces = false) (hNL : NewL l) : CallsOK l "HeavyHaulLaw" 5 tb_L_greatestAnew := callsOK_f ⟨⟨_, _, 4, 4, _, 7, (ct_X6_greatestAnew hl hNL), ⟨List.mem_of_getElem? (i := 578) (by decide +kernel), List.mem_of_getElem? (i := 39) (by decide +kernel), List.mem_of_getElem? (i := 575) (by decide +kernel), ⟨by decide +kernel, by decide +kernel⟩, by decide +kernel, by decide⟩, List.mem_of_getElem? (i := 576) (by decide +kernel), List.mem_of_getElem? (i := 577) (by decide +kernel), by decide, by decide, rc_X6_greatestAnew⟩, trivial⟩
def s_L_greatestAnew : SP := fun as S Q => ∃ cs, as = cs ++ [aR 12 0] ∧ s_X6_greatestAnew cs S (wI 1 0 0 Q)
theorem ar_L_greatestAnew : ∀ as S P, s_L_greatestAnew as S P → as.length ≤ 6 ∧ ∀ a ∈ as, catV a = 1 := fun as S P h => by
  obtain ⟨cs, rfl, h⟩ := h
  obtain ⟨_, _, _, rfl, _⟩ := o3_ok h
  exact ar_all ⟨Nat.le_of_ble_eq_true rfl, rfl⟩
theorem vc_L_greatestAnew : ∀ (G : Gt) (Q : Out → Sto → Prop) (as : List AV) (S : Sto), s_L_greatestAnew as S Q → Seg tb_L_greatestAnew G (noX Q) 1 2 (hnOf [(0, 12, 15, 13)]) (0, fun _ => 0) → G 0 (argL as 6) [] S 0 := by
  intro G Q as S h hs
  obtain ⟨cs, rfl, h⟩ := h
  obtain ⟨_, _, _, rfl, h0, h1, h2⟩ := o3_ok h
  refine hs [] 60 0 _ _ _ _ ?_
  exact ⟨rfl, rfl, h0, fun z0 q => h1 z0, fun z0 => ⟨rfl, h2 z0⟩⟩
theorem ct_L_greatestAnew {l : Launch} (hl : l.stackTraces = false) (hNL : NewL l) : CTW l yL_greatestAnew cL_greatestAnew 6 (some .int) [(0, 12, 15, 13)] 5 2 s_L_greatestAnew := CTW_of hl hNL (by decide +kernel) rfl (by decide) chk_L_greatestAnew (cal_L_greatestAnew hl hNL) ar_L_greatestAnew vc_L_greatestAnew
def tb_L_authority : Tb := [(0, .aload_n 0, 1, x0), (1, .iload_n 1, 1, x0), (2, .iload_n 2, 1, x0), (3, .iload_n 3, 1, x0), (4, .invokevirtual 49, 3, xS 4 3 s_X6_authority), (7, .goto 11, 3, xN 18), (10, .astore 4, 2, x0), (12, .iconst 1, 1, xI (1)), (13, .ireturn, 1, x0), (14, .astore 4, 2, x0), (16, .iconst 2, 1, xI (2)), (17, .ireturn, 1, x0), (18, .iconst 0, 1, xI (0)), (19, .ireturn, 1, x0)]
theorem chk_L_authority : chkTb cL_authority "HeavyHaulLaw" false tb_L_authority = true := by decide +kernel
theorem cal_L_authority {l : Launch} (hl : l.stackTraces = false) (hNL : NewL l) : CallsOK l "HeavyHaulLaw" 2 tb_L_authority := callsOK_f ⟨⟨_, _, 4, 1, _, 7, (ct_X6_authority hl hNL), ⟨List.mem_of_getElem? (i := 585) (by decide +kernel), List.mem_of_getElem? (i := 39) (by decide +kernel), List.mem_of_getElem? (i := 582) (by decide +kernel), ⟨by decide +kernel, by decide +kernel⟩, by decide +kernel, by decide⟩, List.mem_of_getElem? (i := 583) (by decide +kernel), List.mem_of_getElem? (i := 584) (by decide +kernel), by decide, by decide, rc_X6_authority⟩, trivial⟩
def s_L_authority : SP := fun as S Q => s_X6_authority as S (wN 1 2 0 Q)
theorem ar_L_authority : ∀ as S P, s_L_authority as S P → as.length ≤ 5 ∧ ∀ a ∈ as, catV a = 1 := fun as S P h => by
  obtain ⟨_, _, _, rfl, _⟩ := o3_ok h
  exact ar_all ⟨Nat.le_of_ble_eq_true rfl, rfl⟩
theorem vc_L_authority : ∀ (G : Gt) (Q : Out → Sto → Prop) (as : List AV) (S : Sto), s_L_authority as S Q → Seg tb_L_authority G (noX Q) 1 3 (hnOf [(0, 7, 10, 13), (0, 7, 14, 19)]) (0, fun _ => 0) → G 0 (argL as 5) [] S 0 := by
  intro G Q as S h hs
  have h : s_X6_authority as S (wN 1 2 0 Q) := h
  obtain ⟨_, _, _, rfl, h0, h1, h2⟩ := o3_ok h
  refine hs [] 60 0 _ _ _ _ ?_
  exact ⟨rfl, rfl, fun z0 q => h0 z0, fun z0 z1 q => h1 z0 z1, fun z0 z1 => h2 z0 z1⟩
theorem ct_L_authority {l : Launch} (hl : l.stackTraces = false) (hNL : NewL l) : CTW l yL_authority cL_authority 5 (some .int) [(0, 7, 10, 13), (0, 7, 14, 19)] 2 3 s_L_authority := CTW_of hl hNL (by decide +kernel) rfl (by decide) chk_L_authority (cal_L_authority hl hNL) ar_L_authority vc_L_authority
def tb_L_permit : Tb := [(0, .aload 5, 2, x0), (2, .iconst 0, 1, xI (0)), (3, .aload_n 0, 1, x0), (4, .iload_n 1, 1, x0), (5, .iload_n 2, 1, x0), (6, .iload_n 3, 1, x0), (7, .iload 4, 2, x0), (9, .invokevirtual 52, 3, xS 5 10 s_X6_permit), (12, .i2l, 1, x0), (13, .lastore, 1, x0), (14, .goto 15, 3, xN 29), (17, .astore 6, 2, x0), (19, .iconst 1, 1, xI (1)), (20, .ireturn, 1, x0), (21, .astore 6, 2, x0), (23, .iconst 2, 1, xI (2)), (24, .ireturn, 1, x0), (25, .astore 6, 2, x0), (27, .iconst 3, 1, xI (3)), (28, .ireturn, 1, x0), (29, .iconst 0, 1, xI (0)), (30, .ireturn, 1, x0)]
theorem chk_L_permit : chkTb cL_permit "HeavyHaulLaw" false tb_L_permit = true := by decide +kernel
theorem cal_L_permit {l : Launch} (hl : l.stackTraces = false) (hNL : NewL l) : CallsOK l "HeavyHaulLaw" 7 tb_L_permit := callsOK_f ⟨⟨_, _, 5, 6, _, 7, (ct_X6_permit hl hNL), ⟨List.mem_of_getElem? (i := 592) (by decide +kernel), List.mem_of_getElem? (i := 39) (by decide +kernel), List.mem_of_getElem? (i := 589) (by decide +kernel), ⟨by decide +kernel, by decide +kernel⟩, by decide +kernel, by decide⟩, List.mem_of_getElem? (i := 590) (by decide +kernel), List.mem_of_getElem? (i := 591) (by decide +kernel), by decide, by decide, rc_X6_permit⟩, trivial⟩
def s_L_permit : SP := fun as S Q => ∃ cs, as = cs ++ [aR 12 0] ∧ s_X6_permit cs S (wI 1 2 3 Q)
theorem ar_L_permit : ∀ as S P, s_L_permit as S P → as.length ≤ 7 ∧ ∀ a ∈ as, catV a = 1 := fun as S P h => by
  obtain ⟨cs, rfl, h⟩ := h
  obtain ⟨_, _, _, _, rfl, _⟩ := o4_ok h
  exact ar_all ⟨Nat.le_of_ble_eq_true rfl, rfl⟩
theorem vc_L_permit : ∀ (G : Gt) (Q : Out → Sto → Prop) (as : List AV) (S : Sto), s_L_permit as S Q → Seg tb_L_permit G (noX Q) 1 10 (hnOf [(0, 14, 17, 13), (0, 14, 21, 19), (0, 14, 25, 21)]) (0, fun _ => 0) → G 0 (argL as 7) [] S 0 := by
  intro G Q as S h hs
  obtain ⟨cs, rfl, h⟩ := h
  obtain ⟨_, _, _, _, rfl, h0, h1, h2, h3, h4⟩ := o4_ok h
  refine hs [] 60 0 _ _ _ _ ?_
  exact ⟨rfl, rfl, h0, fun z0 q => h1 z0, fun z0 z1 q => h2 z0 z1, fun z0 z1 z2 q => h3 z0 z1 z2, fun z0 z1 z2 => ⟨rfl, h4 z0 z1 z2⟩⟩
theorem ct_L_permit {l : Launch} (hl : l.stackTraces = false) (hNL : NewL l) : CTW l yL_permit cL_permit 7 (some .int) [(0, 14, 17, 13), (0, 14, 21, 19), (0, 14, 25, 21)] 7 10 s_L_permit := CTW_of hl hNL (by decide +kernel) rfl (by decide) chk_L_permit (cal_L_permit hl hNL) ar_L_permit vc_L_permit
def tb_L_embargo : Tb := [(0, .aload 4, 2, x0), (2, .iconst 0, 1, xI (0)), (3, .aload_n 0, 1, x0), (4, .iload_n 1, 1, x0), (5, .iload_n 2, 1, x0), (6, .iload_n 3, 1, x0), (7, .invokevirtual 56, 3, xS 4 10 s_X6_embargo), (10, .i2l, 1, x0), (11, .lastore, 1, x0), (12, .goto 15, 3, xN 27), (15, .astore 5, 2, x0), (17, .iconst 1, 1, xI (1)), (18, .ireturn, 1, x0), (19, .astore 5, 2, x0), (21, .iconst 2, 1, xI (2)), (22, .ireturn, 1, x0), (23, .astore 5, 2, x0), (25, .iconst 3, 1, xI (3)), (26, .ireturn, 1, x0), (27, .iconst 0, 1, xI (0)), (28, .ireturn, 1, x0)]
theorem chk_L_embargo : chkTb cL_embargo "HeavyHaulLaw" false tb_L_embargo = true := by decide +kernel
theorem cal_L_embargo {l : Launch} (hl : l.stackTraces = false) (hNL : NewL l) : CallsOK l "HeavyHaulLaw" 7 tb_L_embargo := callsOK_f ⟨⟨_, _, 4, 6, _, 7, (ct_X6_embargo hl hNL), ⟨List.mem_of_getElem? (i := 619) (by decide +kernel), List.mem_of_getElem? (i := 39) (by decide +kernel), List.mem_of_getElem? (i := 616) (by decide +kernel), ⟨by decide +kernel, by decide +kernel⟩, by decide +kernel, by decide⟩, List.mem_of_getElem? (i := 617) (by decide +kernel), List.mem_of_getElem? (i := 618) (by decide +kernel), by decide, by decide, rc_X6_embargo⟩, trivial⟩
def s_L_embargo : SP := fun as S Q => ∃ cs, as = cs ++ [aR 12 0] ∧ s_X6_embargo cs S (wI 1 2 3 Q)
theorem ar_L_embargo : ∀ as S P, s_L_embargo as S P → as.length ≤ 6 ∧ ∀ a ∈ as, catV a = 1 := fun as S P h => by
  obtain ⟨cs, rfl, h⟩ := h
  obtain ⟨_, _, _, rfl, _⟩ := o3_ok h
  exact ar_all ⟨Nat.le_of_ble_eq_true rfl, rfl⟩
theorem vc_L_embargo : ∀ (G : Gt) (Q : Out → Sto → Prop) (as : List AV) (S : Sto), s_L_embargo as S Q → Seg tb_L_embargo G (noX Q) 1 10 (hnOf [(0, 12, 15, 13), (0, 12, 19, 19), (0, 12, 23, 21)]) (0, fun _ => 0) → G 0 (argL as 6) [] S 0 := by
  intro G Q as S h hs
  obtain ⟨cs, rfl, h⟩ := h
  obtain ⟨_, _, _, rfl, h0, h1, h2, h3, h4⟩ := o3_ok h
  refine hs [] 60 0 _ _ _ _ ?_
  exact ⟨rfl, rfl, h0, fun z0 q => h1 z0, fun z0 z1 q => h2 z0 z1, fun z0 z1 z2 q => h3 z0 z1 z2, fun z0 z1 z2 => ⟨rfl, h4 z0 z1 z2⟩⟩
theorem ct_L_embargo {l : Launch} (hl : l.stackTraces = false) (hNL : NewL l) : CTW l yL_embargo cL_embargo 6 (some .int) [(0, 12, 15, 13), (0, 12, 19, 19), (0, 12, 23, 21)] 7 10 s_L_embargo := CTW_of hl hNL (by decide +kernel) rfl (by decide) chk_L_embargo (cal_L_embargo hl hNL) ar_L_embargo vc_L_embargo
def tb_L_why : Tb := [(0, .aload 4, 2, x0), (2, .iconst 0, 1, xI (0)), (3, .aload_n 0, 1, x0), (4, .iload_n 1, 1, x0), (5, .iload_n 2, 1, x0), (6, .iload_n 3, 1, x0), (7, .invokevirtual 60, 3, xS 4 3 s_X6_why), (10, .i2l, 1, x0), (11, .lastore, 1, x0), (12, .goto 11, 3, xN 23), (15, .astore 5, 2, x0), (17, .iconst 1, 1, xI (1)), (18, .ireturn, 1, x0), (19, .astore 5, 2, x0), (21, .iconst 2, 1, xI (2)), (22, .ireturn, 1, x0), (23, .iconst 0, 1, xI (0)), (24, .ireturn, 1, x0)]
theorem chk_L_why : chkTb cL_why "HeavyHaulLaw" false tb_L_why = true := by decide +kernel
theorem cal_L_why {l : Launch} (hl : l.stackTraces = false) (hNL : NewL l) : CallsOK l "HeavyHaulLaw" 7 tb_L_why := callsOK_f ⟨⟨_, _, 4, 6, _, 7, (ct_X6_why hl hNL), ⟨List.mem_of_getElem? (i := 641) (by decide +kernel), List.mem_of_getElem? (i := 39) (by decide +kernel), List.mem_of_getElem? (i := 638) (by decide +kernel), ⟨by decide +kernel, by decide +kernel⟩, by decide +kernel, by decide⟩, List.mem_of_getElem? (i := 639) (by decide +kernel), List.mem_of_getElem? (i := 640) (by decide +kernel), by decide, by decide, rc_X6_why⟩, trivial⟩
def s_L_why : SP := fun as S Q => ∃ cs, as = cs ++ [aR 12 0] ∧ s_X6_why cs S (wI 1 2 0 Q)
theorem ar_L_why : ∀ as S P, s_L_why as S P → as.length ≤ 6 ∧ ∀ a ∈ as, catV a = 1 := fun as S P h => by
  obtain ⟨cs, rfl, h⟩ := h
  obtain ⟨_, _, _, rfl, _⟩ := o3_ok h
  exact ar_all ⟨Nat.le_of_ble_eq_true rfl, rfl⟩
theorem vc_L_why : ∀ (G : Gt) (Q : Out → Sto → Prop) (as : List AV) (S : Sto), s_L_why as S Q → Seg tb_L_why G (noX Q) 1 3 (hnOf [(0, 12, 15, 13), (0, 12, 19, 19)]) (0, fun _ => 0) → G 0 (argL as 6) [] S 0 := by
  intro G Q as S h hs
  obtain ⟨cs, rfl, h⟩ := h
  obtain ⟨_, _, _, rfl, h0, h1, h2, h3⟩ := o3_ok h
  refine hs [] 60 0 _ _ _ _ ?_
  exact ⟨rfl, rfl, h0, fun z0 q => h1 z0, fun z0 z1 q => h2 z0 z1, fun z0 z1 => ⟨rfl, h3 z0 z1⟩⟩
theorem ct_L_why {l : Launch} (hl : l.stackTraces = false) (hNL : NewL l) : CTW l yL_why cL_why 6 (some .int) [(0, 12, 15, 13), (0, 12, 19, 19)] 7 3 s_L_why := CTW_of hl hNL (by decide +kernel) rfl (by decide) chk_L_why (cal_L_why hl hNL) ar_L_why vc_L_why
def tb_L_drive : Tb := [(0, .aload_n 3, 1, x0), (1, .iconst 0, 1, xI (0)), (2, .aload_n 0, 1, x0), (3, .iload_n 1, 1, x0), (4, .iload_n 2, 1, x0), (5, .invokevirtual 63, 3, xS 3 3 s_X6_drive), (8, .i2l, 1, x0), (9, .lastore, 1, x0), (10, .goto 11, 3, xN 21), (13, .astore 4, 2, x0), (15, .iconst 1, 1, xI (1)), (16, .ireturn, 1, x0), (17, .astore 4, 2, x0), (19, .iconst 2, 1, xI (2)), (20, .ireturn, 1, x0), (21, .iconst 0, 1, xI (0)), (22, .ireturn, 1, x0)]
theorem chk_L_drive : chkTb cL_drive "HeavyHaulLaw" false tb_L_drive = true := by decide +kernel
theorem cal_L_drive {l : Launch} (hl : l.stackTraces = false) (hNL : NewL l) : CallsOK l "HeavyHaulLaw" 7 tb_L_drive := callsOK_f ⟨⟨_, _, 5, 6, _, 7, (ct_X6_drive hl hNL), ⟨List.mem_of_getElem? (i := 699) (by decide +kernel), List.mem_of_getElem? (i := 39) (by decide +kernel), List.mem_of_getElem? (i := 696) (by decide +kernel), ⟨by decide +kernel, by decide +kernel⟩, by decide +kernel, by decide⟩, List.mem_of_getElem? (i := 697) (by decide +kernel), List.mem_of_getElem? (i := 698) (by decide +kernel), by decide, by decide, rc_X6_drive⟩, trivial⟩
def s_L_drive : SP := fun as S Q => ∃ cs, as = cs ++ [aR 12 0] ∧ s_X6_drive cs S (wI 1 0 2 Q)
theorem ar_L_drive : ∀ as S P, s_L_drive as S P → as.length ≤ 5 ∧ ∀ a ∈ as, catV a = 1 := fun as S P h => by
  obtain ⟨cs, rfl, h⟩ := h
  obtain ⟨_, _, rfl, _⟩ := o2_ok h
  exact ar_all ⟨Nat.le_of_ble_eq_true rfl, rfl⟩
theorem vc_L_drive : ∀ (G : Gt) (Q : Out → Sto → Prop) (as : List AV) (S : Sto), s_L_drive as S Q → Seg tb_L_drive G (noX Q) 1 3 (hnOf [(0, 10, 13, 13), (0, 10, 17, 21)]) (0, fun _ => 0) → G 0 (argL as 5) [] S 0 := by
  intro G Q as S h hs
  obtain ⟨cs, rfl, h⟩ := h
  obtain ⟨_, _, rfl, h0, h1, h2, h3⟩ := o2_ok h
  refine hs [] 60 0 _ _ _ _ ?_
  exact ⟨rfl, rfl, h0, fun z0 q => h1 z0, fun z0 z1 q => h2 z0 z1, fun z0 z1 => ⟨rfl, h3 z0 z1⟩⟩
theorem ct_L_drive {l : Launch} (hl : l.stackTraces = false) (hNL : NewL l) : CTW l yL_drive cL_drive 5 (some .int) [(0, 10, 13, 13), (0, 10, 17, 21)] 7 3 s_L_drive := CTW_of hl hNL (by decide +kernel) rfl (by decide) chk_L_drive (cal_L_drive hl hNL) ar_L_drive vc_L_drive
def tb_L_arrives : Tb := [(0, .aload 5, 2, x0), (2, .iconst 0, 1, xI (0)), (3, .aload_n 0, 1, x0), (4, .iload_n 1, 1, x0), (5, .iload_n 2, 1, x0), (6, .iload_n 3, 1, x0), (7, .iload 4, 2, x0), (9, .invokevirtual 66, 3, xS 5 4 s_X6_arrives), (12, .i2l, 1, x0), (13, .lastore, 1, x0), (14, .goto 11, 3, xN 25), (17, .astore 6, 2, x0), (19, .iconst 1, 1, xI (1)), (20, .ireturn, 1, x0), (21, .astore 6, 2, x0), (23, .iconst 2, 1, xI (2)), (24, .ireturn, 1, x0), (25, .iconst 0, 1, xI (0)), (26, .ireturn, 1, x0)]
theorem chk_L_arrives : chkTb cL_arrives "HeavyHaulLaw" false tb_L_arrives = true := by decide +kernel
theorem cal_L_arrives {l : Launch} (hl : l.stackTraces = false) (hNL : NewL l) : CallsOK l "HeavyHaulLaw" 8 tb_L_arrives := callsOK_f ⟨⟨_, _, 9, 7, _, 7, (ct_X6_arrives hl hNL), ⟨List.mem_of_getElem? (i := 725) (by decide +kernel), List.mem_of_getElem? (i := 39) (by decide +kernel), List.mem_of_getElem? (i := 722) (by decide +kernel), ⟨by decide +kernel, by decide +kernel⟩, by decide +kernel, by decide⟩, List.mem_of_getElem? (i := 723) (by decide +kernel), List.mem_of_getElem? (i := 724) (by decide +kernel), by decide, by decide, rc_X6_arrives⟩, trivial⟩
def s_L_arrives : SP := fun as S Q => ∃ cs, as = cs ++ [aR 12 0] ∧ s_X6_arrives cs S (wI 1 2 0 Q)
theorem ar_L_arrives : ∀ as S P, s_L_arrives as S P → as.length ≤ 7 ∧ ∀ a ∈ as, catV a = 1 := fun as S P h => by
  obtain ⟨cs, rfl, h⟩ := h
  obtain ⟨_, _, _, _, rfl, _⟩ := o4_ok h
  exact ar_all ⟨Nat.le_of_ble_eq_true rfl, rfl⟩
theorem vc_L_arrives : ∀ (G : Gt) (Q : Out → Sto → Prop) (as : List AV) (S : Sto), s_L_arrives as S Q → Seg tb_L_arrives G (noX Q) 1 4 (hnOf [(0, 14, 17, 13), (0, 14, 21, 19)]) (0, fun _ => 0) → G 0 (argL as 7) [] S 0 := by
  intro G Q as S h hs
  obtain ⟨cs, rfl, h⟩ := h
  obtain ⟨_, _, _, _, rfl, h0, h1, h2, h3⟩ := o4_ok h
  refine hs [] 60 0 _ _ _ _ ?_
  exact ⟨rfl, rfl, h0, fun z0 q => h1 z0, fun z0 z1 q => h2 z0 z1, fun z0 z1 z2 z3 => ⟨rfl, h3 z0 z1 z2 z3⟩⟩
theorem ct_L_arrives {l : Launch} (hl : l.stackTraces = false) (hNL : NewL l) : CTW l yL_arrives cL_arrives 7 (some .int) [(0, 14, 17, 13), (0, 14, 21, 19)] 8 4 s_L_arrives := CTW_of hl hNL (by decide +kernel) rfl (by decide) chk_L_arrives (cal_L_arrives hl hNL) ar_L_arrives vc_L_arrives
def tb_L_rigIs : Tb := [(0, .aload_n 3, 1, x0), (1, .iconst 0, 1, xI (0)), (2, .aload_n 0, 1, x0), (3, .iload_n 1, 1, x0), (4, .iload_n 2, 1, x0), (5, .invokevirtual 69, 3, xS 3 2 s_X6_rigIs), (8, .i2l, 1, x0), (9, .lastore, 1, x0), (10, .goto 11, 3, xN 21), (13, .astore 4, 2, x0), (15, .iconst 1, 1, xI (1)), (16, .ireturn, 1, x0), (17, .astore 4, 2, x0), (19, .iconst 2, 1, xI (2)), (20, .ireturn, 1, x0), (21, .iconst 0, 1, xI (0)), (22, .ireturn, 1, x0)]
theorem chk_L_rigIs : chkTb cL_rigIs "HeavyHaulLaw" false tb_L_rigIs = true := by decide +kernel
theorem cal_L_rigIs {l : Launch} (hl : l.stackTraces = false) (hNL : NewL l) : CallsOK l "HeavyHaulLaw" 5 tb_L_rigIs := callsOK_f ⟨⟨_, _, 4, 4, _, 7, (ct_X6_rigIs hl hNL), ⟨List.mem_of_getElem? (i := 759) (by decide +kernel), List.mem_of_getElem? (i := 39) (by decide +kernel), List.mem_of_getElem? (i := 756) (by decide +kernel), ⟨by decide +kernel, by decide +kernel⟩, by decide +kernel, by decide⟩, List.mem_of_getElem? (i := 757) (by decide +kernel), List.mem_of_getElem? (i := 758) (by decide +kernel), by decide, by decide, rc_X6_rigIs⟩, trivial⟩
def s_L_rigIs : SP := fun as S Q => ∃ cs, as = cs ++ [aR 12 0] ∧ s_X6_rigIs cs S (wI 1 2 0 Q)
theorem ar_L_rigIs : ∀ as S P, s_L_rigIs as S P → as.length ≤ 5 ∧ ∀ a ∈ as, catV a = 1 := fun as S P h => by
  obtain ⟨cs, rfl, h⟩ := h
  obtain ⟨_, _, rfl, _⟩ := o2_ok h
  exact ar_all ⟨Nat.le_of_ble_eq_true rfl, rfl⟩
theorem vc_L_rigIs : ∀ (G : Gt) (Q : Out → Sto → Prop) (as : List AV) (S : Sto), s_L_rigIs as S Q → Seg tb_L_rigIs G (noX Q) 1 2 (hnOf [(0, 10, 13, 13), (0, 10, 17, 19)]) (0, fun _ => 0) → G 0 (argL as 5) [] S 0 := by
  intro G Q as S h hs
  obtain ⟨cs, rfl, h⟩ := h
  obtain ⟨_, _, rfl, h0, h1, h2, h3⟩ := o2_ok h
  refine hs [] 60 0 _ _ _ _ ?_
  exact ⟨rfl, rfl, h0, fun z0 q => h1 z0, fun z0 z1 q => h2 z0 z1, fun z0 z1 => ⟨rfl, h3 z0 z1⟩⟩
theorem ct_L_rigIs {l : Launch} (hl : l.stackTraces = false) (hNL : NewL l) : CTW l yL_rigIs cL_rigIs 5 (some .int) [(0, 10, 13, 13), (0, 10, 17, 19)] 5 2 s_L_rigIs := CTW_of hl hNL (by decide +kernel) rfl (by decide) chk_L_rigIs (cal_L_rigIs hl hNL) ar_L_rigIs vc_L_rigIs
def tb_L_pass : Tb := [(0, .aload_n 2, 1, x0), (1, .iconst 0, 1, xI (0)), (2, .aload_n 0, 1, x0), (3, .iload_n 1, 1, x0), (4, .invokevirtual 72, 3, xS 2 2 s_X6_pass), (7, .i2l, 1, x0), (8, .lastore, 1, x0), (9, .goto 9, 3, xN 18), (12, .astore_n 3, 1, x0), (13, .iconst 1, 1, xI (1)), (14, .ireturn, 1, x0), (15, .astore_n 3, 1, x0), (16, .iconst 2, 1, xI (2)), (17, .ireturn, 1, x0), (18, .iconst 0, 1, xI (0)), (19, .ireturn, 1, x0)]
theorem chk_L_pass : chkTb cL_pass "HeavyHaulLaw" false tb_L_pass = true := by decide +kernel
theorem cal_L_pass {l : Launch} (hl : l.stackTraces = false) (hNL : NewL l) : CallsOK l "HeavyHaulLaw" 5 tb_L_pass := callsOK_f ⟨⟨_, _, 3, 4, _, 7, (ct_X6_pass hl hNL), ⟨List.mem_of_getElem? (i := 766) (by decide +kernel), List.mem_of_getElem? (i := 39) (by decide +kernel), List.mem_of_getElem? (i := 763) (by decide +kernel), ⟨by decide +kernel, by decide +kernel⟩, by decide +kernel, by decide⟩, List.mem_of_getElem? (i := 764) (by decide +kernel), List.mem_of_getElem? (i := 765) (by decide +kernel), by decide, by decide, rc_X6_pass⟩, trivial⟩
def s_L_pass : SP := fun as S Q => ∃ cs, as = cs ++ [aR 12 0] ∧ s_X6_pass cs S (wI 0 1 2 Q)
theorem ar_L_pass : ∀ as S P, s_L_pass as S P → as.length ≤ 4 ∧ ∀ a ∈ as, catV a = 1 := fun as S P h => by
  obtain ⟨cs, rfl, h⟩ := h
  obtain ⟨_, rfl, _⟩ := o1_ok h
  exact ar_all ⟨Nat.le_of_ble_eq_true rfl, rfl⟩
theorem vc_L_pass : ∀ (G : Gt) (Q : Out → Sto → Prop) (as : List AV) (S : Sto), s_L_pass as S Q → Seg tb_L_pass G (noX Q) 1 2 (hnOf [(0, 9, 12, 19), (0, 9, 15, 21)]) (0, fun _ => 0) → G 0 (argL as 4) [] S 0 := by
  intro G Q as S h hs
  obtain ⟨cs, rfl, h⟩ := h
  obtain ⟨_, rfl, h0, h1, h2, h3⟩ := o1_ok h
  refine hs [] 60 0 _ _ _ _ ?_
  exact ⟨rfl, rfl, h0, fun z0 q => h1 z0, fun z0 z1 q => h2 z0 z1, fun z0 z1 => ⟨rfl, h3 z0 z1⟩⟩
theorem ct_L_pass {l : Launch} (hl : l.stackTraces = false) (hNL : NewL l) : CTW l yL_pass cL_pass 4 (some .int) [(0, 9, 12, 19), (0, 9, 15, 21)] 5 2 s_L_pass := CTW_of hl hNL (by decide +kernel) rfl (by decide) chk_L_pass (cal_L_pass hl hNL) ar_L_pass vc_L_pass
