/-! THE EARLIEST ARRIVAL, by the model -/
theorem anyN_or (a b : Nat → Bool) (n : Nat) : anyN (fun i => a i || b i) n = (anyN a n || anyN b n) := by
  induction n with
  | zero => rfl
  | succ n ih =>
    show (anyN (fun i => a i || b i) n || (a n || b n)) = ((anyN a n || a n) || (anyN b n || b n))
    rw [ih]
    cases anyN a n <;> cases anyN b n <;> cases a n <;> cases b n <;> rfl
/-- the marks while the places below q are through -/
def tabP (S0 : Sto) (rig ten : Int32) (T : Nat → Nat → Bool) (k q g p : Nat) : Bool := (T g p || (decide (g = k + 1) && ((T k p && decide (p < q)) && bayH S0 p))) || anyN (fun i => (((T k (onN S0 i) && decide (onN S0 i < q)) && decide (p = otN S0 i)) || ((T k (otN S0 i) && decide (otN S0 i < q)) && decide (p = onN S0 i))) && ((fitH S0 rig.toNatClampNeg i && openH S0 rig (nI i) (ten + nI k)) && decide (g = k + tnN S0 i))) (S0.2.2 20)
theorem tabP_0 {S0 : Sto} {rig ten : Int32} {T : Nat → Nat → Bool} {k g p : Nat} : tabP S0 rig ten T k 0 g p = T g p := by
  unfold tabP
  have h0 : ∀ x : Nat, decide (x < 0) = false := fun x => decide_eq_false (Nat.not_lt_zero x)
  rw [anyN_f (fun i _ => by rw [h0, h0, Bool.and_false, Bool.and_false, Bool.false_and, Bool.false_and, Bool.false_or, Bool.false_and]), h0, Bool.and_false, Bool.false_and, Bool.and_false, Bool.or_false, Bool.or_false]
theorem tabP_k {S0 : Sto} (hW : WfH S0) {rig ten : Int32} {T : Nat → Nat → Bool} {k q p : Nat} : tabP S0 rig ten T k q k p = T k p := by
  unfold tabP
  rw [anyN_f (fun i hi => by
    obtain ⟨-, -, -, -, -, -, t1, -⟩ := ro_N hW hi
    rw [decide_eq_false (show ¬ k = k + tnN S0 i by omega), Bool.and_false, Bool.and_false]), decide_eq_false (show ¬ k = k + 1 by omega), Bool.false_and, Bool.or_false, Bool.or_false]
theorem tabP_10 {S0 : Sto} (hW : WfH S0) {rig fr ten : Int32} {k g p : Nat} (hp : p < 10) : tabP S0 rig ten (tabH S0 rig fr ten k) k 10 g p = tabH S0 rig fr ten (k + 1) g p := by
  have hstep : tabH S0 rig fr ten (k + 1) g p = ((tabH S0 rig fr ten k g p || (decide (g = k + 1) && (tabH S0 rig fr ten k k p && bayH S0 p))) || anyN (fun i => ((tabH S0 rig fr ten k k (onN S0 i) && decide (p = otN S0 i)) || (tabH S0 rig fr ten k k (otN S0 i) && decide (p = onN S0 i))) && ((fitH S0 rig.toNatClampNeg i && openH S0 rig (nI i) (ten + nI k)) && decide (g = k + tnN S0 i))) (S0.2.2 20)) := rfl
  rw [hstep]
  unfold tabP
  rw [decide_eq_true hp, Bool.and_true]
  congr 1
  refine anyN_c fun i hi => ?_
  obtain ⟨-, -, -, l1, l2, -⟩ := ro_N hW hi
  rw [decide_eq_true l1, decide_eq_true l2, Bool.and_true, Bool.and_true]
theorem lq_s (t : Bool) (x q : Nat) : (t && decide (x < q + 1)) = ((t && decide (x < q)) || (t && decide (q = x))) := by
  by_cases h1 : x < q
  · rw [decide_eq_true h1, decide_eq_true (show x < q + 1 by omega)]
    cases t <;> simp
  · by_cases h2 : q = x
    · rw [decide_eq_false h1, decide_eq_true h2, decide_eq_true (show x < q + 1 by omega)]
      cases t <;> simp
    · rw [decide_eq_false h1, decide_eq_false h2, decide_eq_false (show ¬ x < q + 1 by omega)]
      cases t <;> simp
theorem bl_a : ∀ A e d A2 e2 d2 C : Bool, ((((A || e) && d) || ((A2 || e2) && d2)) && C) = ((((A && d) || (A2 && d2)) && C) || (((e && d) || (e2 && d2)) && C)) := by decide
theorem bl_b : ∀ t dk a e b n1 n2 : Bool, ((t || (dk && ((a || e) && b))) || (n1 || n2)) = ((((t || (dk && (a && b))) || n1) || (dk && (e && b))) || n2) := by decide
theorem tabP_s {S0 : Sto} {rig ten : Int32} {T : Nat → Nat → Bool} {k q g p : Nat} : tabP S0 rig ten T k (q + 1) g p = ((tabP S0 rig ten T k q g p || (decide (g = k + 1) && ((T k p && decide (q = p)) && bayH S0 p))) || anyN (fun i => (((T k (onN S0 i) && decide (q = onN S0 i)) && decide (p = otN S0 i)) || ((T k (otN S0 i) && decide (q = otN S0 i)) && decide (p = onN S0 i))) && ((fitH S0 rig.toNatClampNeg i && openH S0 rig (nI i) (ten + nI k)) && decide (g = k + tnN S0 i))) (S0.2.2 20)) := by
  unfold tabP
  rw [lq_s (T k p) p q, ← bl_b, ← anyN_or]
  congr 1
  refine anyN_c fun i _ => ?_
  rw [lq_s (T k (onN S0 i)) _ q, lq_s (T k (otN S0 i)) _ q, bl_a]
theorem tq_f {T : Nat → Nat → Bool} {k q x : Nat} (h : T k q = false) : (T k x && decide (q = x)) = false := by
  by_cases e : q = x
  · rw [← e, h, Bool.false_and]
  · rw [decide_eq_false e, Bool.and_false]
theorem tq_t {T : Nat → Nat → Bool} {k q x : Nat} (h : T k q = true) : (T k x && decide (q = x)) = decide (q = x) := by
  by_cases e : q = x
  · rw [← e, h, Bool.true_and]
  · rw [decide_eq_false e, Bool.and_false]
theorem tabP_f {S0 : Sto} {rig ten : Int32} {T : Nat → Nat → Bool} {k q g p : Nat} (h : T k q = false) : tabP S0 rig ten T k (q + 1) g p = tabP S0 rig ten T k q g p := by
  rw [tabP_s, tq_f h, anyN_f (fun i _ => by rw [tq_f h, tq_f h, Bool.false_and, Bool.false_and, Bool.false_or, Bool.false_and]), Bool.false_and, Bool.and_false, Bool.or_false, Bool.or_false]
theorem tabP_t {S0 : Sto} {rig ten : Int32} {T : Nat → Nat → Bool} {k q g p : Nat} (h : T k q = true) : tabP S0 rig ten T k (q + 1) g p = ((tabP S0 rig ten T k q g p || (decide (g = k + 1) && (decide (p = q) && bayH S0 q))) || lvN S0 rig ten q k g p (S0.2.2 20)) := by
  rw [tabP_s, tq_t h]
  congr 1
  · congr 2
    by_cases e : p = q
    · rw [e]
    · rw [decide_eq_false e, decide_eq_false fun z => e z.symm, Bool.false_and, Bool.false_and]
  · refine anyN_c fun i _ => ?_
    unfold lvC
    rw [tq_t h, tq_t h]
def onlyN (S S' : Sto) : Prop := S'.2 = S.2 ∧ ∀ k f i, ¬ (k = 11 ∧ (f = 2 ∨ f = 3)) → S'.1 k f i = S.1 k f i
theorem onlyN.rf {S : Sto} : onlyN S S := ⟨rfl, fun _ _ _ _ => rfl⟩
theorem onlyN.tr {S S1 S2 : Sto} (h : onlyN S S1) (h2 : onlyN S1 S2) : onlyN S S2 := ⟨h2.1.trans h.1, fun k f i q => (h2.2 k f i q).trans (h.2 k f i q)⟩
theorem onlyN.wr {S : Sto} {f i : Nat} {v : Int32} (h : f = 2 ∨ f = 3) : onlyN S (wrI S 11 f i v) := ⟨rfl, fun k f' j q => wrI_ne fun z => q ⟨z.1, by rw [z.2.1]; exact h⟩⟩
theorem onlyN.m {S S' : Sto} (h : onlyN S S') : onlyM S S' := ⟨h.1, fun k f i q _ => h.2 k f i q⟩
theorem onlyL.n {S S' : Sto} (h : onlyL S S') : onlyN S S' := ⟨h.1, fun k f i q => h.2 k f i fun z => q ⟨z.1, Or.inl z.2⟩⟩
theorem lp_go' {n j : Nat} (hn : n ≤ 100000) (h : j < n) : ¬ nI n ≤ nI j := fun q => absurd ((nI_le2 (by omega) (by omega)).mp q) (by omega)
/-- what stands while arrivals are looked for -/
def arI (S S0 : Sto) (rig : Int32) (Sk : Sto) : Prop := onlyN (lastS S 0) Sk ∧ ∀ i, i < S0.2.2 20 → Sk.1 11 3 i = bV (bornH S0 (nI i) rig)
def s_X7_arrives : SP := fun as S Q => o4 1 as fun rig fr to ten => ∃ S0, ref S S0 ∧ (¬ knA S0 rig fr to → Q (Sum.inl (some (aI 0))) (lastS S 1)) ∧ (knA S0 rig fr to → ¬ tenA ten → Q (Sum.inl (some (aI 0))) (lastS S 2)) ∧
  (knA S0 rig fr to → tenA ten → ∀ S', onlyN (lastS S 0) S' → Q (Sum.inl (some (aI (arrH S0 rig fr to ten)))) S')
def tb_X7_arrives : Tb := [(0, .aload_n 0, 1, x0), (1, .iload_n 1, 1, x0), (2, .invokevirtual 142, 3, xS 2 0 s_X7_isRigB), (5, .ifCond .eq 21, 3, xN 26), (8, .iload_n 2, 1, x0), (9, .invokestatic 119, 3, xS 1 0 s_X7_isPlaceB), (12, .ifCond .eq 14, 3, xN 26), (15, .iload_n 3, 1, x0), (16, .invokestatic 119, 3, xS 1 0 s_X7_isPlaceB), (19, .ifCond .eq 7, 3, xN 26), (22, .iconst 1, 1, xI (1)), (23, .goto 4, 3, xN 27), (26, .iconst 0, 1, xI (0)), (27, .istore 5, 2, x0), (29, .aload_n 0, 1, x0), (30, .iload 5, 2, x0), (32, .iload 4, 2, x0), (34, .iconst 0, 1, xI (0)), (35, .sipush 9999, 3, xI (9999)), (38, .invokestatic 109, 3, xS 3 0 s_X7_inB), (41, .iconst 1, 1, xI (1)), (42, .invokevirtual 123, 3, xS 4 0 s_X7_goesB), (45, .ifCond .ne 5, 3, xN 50), (48, .iconst 0, 1, xI (0)), (49, .ireturn, 1, x0), (50, .iconst 0, 1, xI (0)), (51, .istore 6, 2, x0), (53, .iload 6, 2, x0), (55, .sipush 2880, 3, xI (2880)), (58, .if_icmp .ge 31, 3, xN 89), (61, .aload_n 0, 1, x0), (62, .getfield 98, 3, xF 8 35 [818]), (65, .iload 6, 2, x0), (67, .iload 6, 2, x0), (69, .sipush 288, 3, xI (288)), (72, .iload_n 2, 1, x0), (73, .imul, 1, x0), (74, .if_icmp .ne 7, 3, xN 81), (77, .iconst 1, 1, xI (1)), (78, .goto 4, 3, xN 82), (81, .iconst 0, 1, xI (0)), (82, .bastore, 1, x0), (83, .iinc 6 1, 3, xI (1)), (86, .goto (-33), 3, xN 53), (89, .iconst 0, 1, xI (0)), (90, .istore 6, 2, x0), (92, .iload 6, 2, x0), (94, .aload_n 0, 1, x0), (95, .getfield 113, 3, xF 8 12 [795]), (98, .if_icmp .ge 23, 3, xN 121), (101, .aload_n 0, 1, x0), (102, .getfield 101, 3, xF 8 36 [819]), (105, .iload 6, 2, x0), (107, .aload_n 0, 1, x0), (108, .iload_n 1, 1, x0), (109, .iload 6, 2, x0), (111, .invokevirtual 180, 3, xS 3 0 s_X7_isBorne), (114, .bastore, 1, x0), (115, .iinc 6 1, 3, xI (1)), (118, .goto (-26), 3, xN 92), (121, .iconst 0, 1, xI (0)), (122, .istore 6, 2, x0), (124, .iload 6, 2, x0), (126, .sipush 288, 3, xI (288)), (129, .if_icmp .ge 75, 3, xN 204), (132, .aload_n 0, 1, x0), (133, .getfield 98, 3, xF 8 35 [818]), (136, .sipush 288, 3, xI (288)), (139, .iload_n 3, 1, x0), (140, .imul, 1, x0), (141, .iload 6, 2, x0), (143, .iadd, 1, x0), (144, .baload, 1, x0), (145, .ifCond .eq 9, 3, xN 154), (148, .iload 4, 2, x0), (150, .iload 6, 2, x0), (152, .iadd, 1, x0), (153, .ireturn, 1, x0), (154, .iconst 0, 1, xI (0)), (155, .istore 7, 2, x0), (157, .iload 7, 2, x0), (159, .bipush 10, 2, xI (10)), (161, .if_icmp .ge 37, 3, xN 198), (164, .aload_n 0, 1, x0), (165, .getfield 98, 3, xF 8 35 [818]), (168, .sipush 288, 3, xI (288)), (171, .iload 7, 2, x0), (173, .imul, 1, x0), (174, .iload 6, 2, x0), (176, .iadd, 1, x0), (177, .baload, 1, x0), (178, .ifCond .eq 14, 3, xN 192), (181, .aload_n 0, 1, x0), (182, .iload_n 1, 1, x0), (183, .iload 7, 2, x0), (185, .iload 6, 2, x0), (187, .iload 4, 2, x0), (189, .invokevirtual 190, 3, xS 5 0 s_X7_leaves), (192, .iinc 7 1, 3, xI (1)), (195, .goto (-38), 3, xN 157), (198, .iinc 6 1, 3, xI (1)), (201, .goto (-77), 3, xN 124), (204, .iconst (-1), 1, xI (-1)), (205, .ireturn, 1, x0)]
theorem chk_X7_arrives : chkTb cX7_arrives "HeavyHaulModel" false tb_X7_arrives = true := by decide +kernel
theorem cal_X7_arrives {l : Launch} (hl : l.stackTraces = false) (hNL : NewL l) : CallsOK l "HeavyHaulModel" 4 tb_X7_arrives := callsOK_f ⟨⟨_, _, 2, 1, _, 8, (ct_X7_isRigB hl hNL), ⟨List.mem_of_getElem? (i := 951) (by decide +kernel), List.mem_of_getElem? (i := 44) (by decide +kernel), List.mem_of_getElem? (i := 948) (by decide +kernel), ⟨by decide +kernel, by decide +kernel⟩, by decide +kernel, by decide⟩, List.mem_of_getElem? (i := 950) (by decide +kernel), List.mem_of_getElem? (i := 27) (by decide +kernel), by decide, by decide, rc_X7_isRigB⟩, ⟨_, _, 1, 1, _, (ct_X7_isPlaceB hl hNL), ⟨List.mem_of_getElem? (i := 908) (by decide +kernel), List.mem_of_getElem? (i := 44) (by decide +kernel), List.mem_of_getElem? (i := 906) (by decide +kernel), ⟨by decide +kernel, by decide +kernel⟩, by decide +kernel, by decide⟩, List.mem_of_getElem? (i := 907) (by decide +kernel), by decide⟩, ⟨_, _, 1, 1, _, (ct_X7_isPlaceB hl hNL), ⟨List.mem_of_getElem? (i := 908) (by decide +kernel), List.mem_of_getElem? (i := 44) (by decide +kernel), List.mem_of_getElem? (i := 906) (by decide +kernel), ⟨by decide +kernel, by decide +kernel⟩, by decide +kernel, by decide⟩, List.mem_of_getElem? (i := 907) (by decide +kernel), by decide⟩, ⟨_, _, 3, 0, _, (ct_X7_inB hl hNL), ⟨List.mem_of_getElem? (i := 911) (by decide +kernel), List.mem_of_getElem? (i := 44) (by decide +kernel), List.mem_of_getElem? (i := 909) (by decide +kernel), ⟨by decide +kernel, by decide +kernel⟩, by decide +kernel, by decide⟩, List.mem_of_getElem? (i := 910) (by decide +kernel), by decide⟩, ⟨_, _, 4, 0, _, 8, (ct_X7_goesB hl hNL), ⟨List.mem_of_getElem? (i := 915) (by decide +kernel), List.mem_of_getElem? (i := 44) (by decide +kernel), List.mem_of_getElem? (i := 912) (by decide +kernel), ⟨by decide +kernel, by decide +kernel⟩, by decide +kernel, by decide⟩, List.mem_of_getElem? (i := 914) (by decide +kernel), List.mem_of_getElem? (i := 25) (by decide +kernel), by decide, by decide, rc_X7_goesB⟩, ⟨_, _, 3, 3, _, 8, (ct_X7_isBorne hl hNL), ⟨List.mem_of_getElem? (i := 997) (by decide +kernel), List.mem_of_getElem? (i := 44) (by decide +kernel), List.mem_of_getElem? (i := 994) (by decide +kernel), ⟨by decide +kernel, by decide +kernel⟩, by decide +kernel, by decide⟩, List.mem_of_getElem? (i := 996) (by decide +kernel), List.mem_of_getElem? (i := 31) (by decide +kernel), by decide, by decide, rc_X7_isBorne⟩, ⟨_, _, 7, 3, _, 8, (ct_X7_leaves hl hNL), ⟨List.mem_of_getElem? (i := 1029) (by decide +kernel), List.mem_of_getElem? (i := 44) (by decide +kernel), List.mem_of_getElem? (i := 1026) (by decide +kernel), ⟨by decide +kernel, by decide +kernel⟩, by decide +kernel, by decide⟩, List.mem_of_getElem? (i := 1028) (by decide +kernel), List.mem_of_getElem? (i := 37) (by decide +kernel), by decide, by decide, rc_X7_leaves⟩, trivial⟩
theorem ar_X7_arrives : ∀ as S P, s_X7_arrives as S P → as.length ≤ 8 ∧ ∀ a ∈ as, catV a = 1 := fun as S P h => by
  obtain ⟨_, _, _, _, rfl, _⟩ := o4_ok h
  exact ar_all ⟨Nat.le_of_ble_eq_true rfl, rfl⟩
theorem rc_X7_arrives : ∀ as S P, s_X7_arrives as S P → ∃ k i r, as = aR k i :: r ∧ ci k = 8 ∧ (obK k = true ∨ k = 13) := fun as S P h => by
  obtain ⟨_, _, _, _, rfl, _⟩ := o4_ok h
  exact ⟨_, _, _, rfl, rfl, Or.inl rfl⟩
theorem in_nm {v : Int32} {n : Nat} : nm v (nI n) ↔ inN v n := ⟨nm_in, fun h => ⟨Int32.not_lt.mpr h.1, h.2⟩⟩
theorem nI_back {v : Int32} {n : Nat} (h : inN v n) (hn : n ≤ 1000) : v = nI v.toNatClampNeg := by
  obtain ⟨q, hq, rfl⟩ := nI_of (Int32.not_lt.mpr h.1)
  rw [nI_cl hq]
theorem ix_288 {a c : Nat} (ha : a < 10) (hc : c < 288) : vp_in ((288 : Int32) * nI a + nI c) 2880 ∧ ((288 : Int32) * nI a + nI c).toNatClampNeg = 288 * a + c := by
  have e : (288 : Int32) * nI a + nI c = nI (288 * a + c) := by
    rw [show (288 : Int32) = nI 288 from rfl, nI_mul, nI_add]
  rw [e]
  exact ⟨nI_vin (by omega) (by omega), nI_cl (by omega)⟩
theorem rm_0 {S : Sto} {g p : Nat} {b : Bool} (h : rm S g p = b) : S.1 11 2 (288 * p + g) = 0 ↔ b = false := by
  rw [← h]
  unfold rm
  simp
set_option maxRecDepth 8000 in
theorem vc_X7_arrives : ∀ (G : Gt) (Q : Out → Sto → Prop) (as : List AV) (S : Sto), s_X7_arrives as S Q → Seg tb_X7_arrives G Q 1 0 [] (0, fun _ => 0) → G 0 (argL as 8) [] S 0 := by
  intro G Q as S h hs
  obtain ⟨rig, fr, to, ten, rfl, S0, hr, hQ0, hQ1, hQ⟩ := o4_ok h
  have hn20 := hr.wf.2.1.1
  have hn22 := hr.wf.2.1.2.2.1
  have hW := hr.wf
  have hlr : ref (lastS S 0) S0 := onlyM.la.ref hr
  -- the search
  have main : knA S0 rig fr to → tenA ten → ∀ x7, ∀ S1, arI S S0 rig S1 → (∀ g p, g < 288 → p < 10 → rm S1 g p = tabH S0 rig fr ten 0 g p) → G 124 [some (aR 1 0), some (aI rig), some (aI fr), some (aI to), some (aI ten), some (aI 1), some (aI (nI 0)), x7] [] S1 0 := by
    intro hk ht
    obtain ⟨hri, hf, hto⟩ := hk
    have hQ' := hQ ⟨hri, hf, hto⟩ ht
    have ht10 : to.toNatClampNeg < 10 := inN_lt hto (by omega)
    have eto : to = nI to.toNatClampNeg := nI_back hto (by omega)
    unfold arrH at hQ'
    generalize to.toNatClampNeg = tn at ht10 eto hQ'
    subst eto
    have loop : ∀ m k, k + m = 288 → (∀ S', onlyN (lastS S 0) S' → Q (Sum.inl (some (aI (fstF (fun g => tabH S0 rig fr ten g g tn) ten m k)))) S') → ∀ x7 Sk, arI S S0 rig Sk → (∀ g p, g < 288 → p < 10 → rm Sk g p = tabH S0 rig fr ten k g p) →
        G 124 [some (aR 1 0), some (aI rig), some (aI fr), some (aI (nI tn)), some (aI ten), some (aI 1), some (aI (nI k)), x7] [] Sk 0 := by
      intro m
      induction m with
      | zero =>
        intro k hk hq x7 Sk hA hrm
        obtain rfl : k = 288 := hk
        refine hs [124] 60 124 _ _ _ _ ?_
        exact ⟨fun _ => hq Sk hA.1, fun q => absurd (by decide) q⟩
      | succ m ih =>
        intro k hk hq x7 Sk hA hrm
        have hk2 : k < 288 := by omega
        have inner : tabH S0 rig fr ten k k tn = false → ∀ m2 q, q + m2 = 10 → ∀ Sq, arI S S0 rig Sq → (∀ g p, g < 288 → p < 10 → rm Sq g p = tabP S0 rig ten (tabH S0 rig fr ten k) k q g p) →
            G 157 [some (aR 1 0), some (aI rig), some (aI fr), some (aI (nI tn)), some (aI ten), some (aI 1), some (aI (nI k)), some (aI (nI q))] [] Sq 0 := by
          intro hz m2
          induction m2 with
          | zero =>
            intro q hq2 Sq hAq hrq
            obtain rfl : q = 10 := hq2
            have hq' : ∀ S', onlyN (lastS S 0) S' → Q (Sum.inl (some (aI (fstF (fun g => tabH S0 rig fr ten g g tn) ten m (k + 1))))) S' := fun S' hS' => by
              have h1 := hq S' hS'
              unfold fstF at h1
              rw [if_neg (by rw [hz]; decide)] at h1
              exact h1
            have h1 := ih (k + 1) (by omega) hq' (some (aI (nI 10))) Sq hAq (fun g p hg hp => by rw [hrq g p hg hp, tabP_10 hW hp])
            rw [← nI_s] at h1
            refine hs [124] 60 157 _ _ _ _ ?_
            exact ⟨fun _ => h1, fun z => absurd (by decide) z⟩
          | succ m2 ih2 =>
            intro q hq2 Sq hAq hrq
            have hq10 : q < 10 := by omega
            obtain ⟨i1, i2⟩ := ix_288 hq10 hk2
            have hv := rm_0 (hrq k q hk2 hq10)
            rw [tabP_k hW] at hv
            refine hs [157] 60 157 _ _ _ _ ?_
            refine ⟨fun z => absurd z (lp_go (n := 10) (by omega) hq10), fun _ => ⟨i1, ?_⟩⟩
            rw [i2]
            refine ⟨fun z => ?_, fun z => ?_⟩
            · have h1 := ih2 (q + 1) (by omega) Sq hAq (fun g p hg hp => by rw [hrq g p hg hp, tabP_f (hv.mp z)])
              rw [← nI_s] at h1
              exact h1
            · have hT : tabH S0 rig fr ten k k q = true := by
                cases hh : tabH S0 rig fr ten k k q with
                | true => rfl
                | false => exact absurd (hv.mpr hh) z
              refine ⟨rfl, rfl, S0, q, k, hAq.1.m.ref hlr, hri, rfl, rfl, hq10, hk2, hAq.2, fun S' hO hrm' => ?_⟩
              have h1 := ih2 (q + 1) (by omega) S' ⟨hAq.1.tr hO.n, fun i hi => by rw [hO.2 11 3 i (fun z => absurd z.2 (by decide))]; exact hAq.2 i hi⟩ (fun g p hg hp => by
                rw [hrm' g p hg hp, tabP_t hT]
                unfold lvB
                rw [hrq g p hg hp])
              rw [← nI_s] at h1
              exact h1
        obtain ⟨i1, i2⟩ := ix_288 ht10 hk2
        have hv := rm_0 (hrm k tn hk2 ht10)
        refine hs [124, 157] 60 124 _ _ _ _ ?_
        refine ⟨fun z => absurd z (lp_go (n := 288) (by omega) hk2), fun _ => ⟨i1, ?_⟩⟩
        rw [i2]
        refine ⟨fun z => ?_, fun z => ?_⟩
        · exact inner (hv.mp z) 10 0 (by omega) Sk hA (fun g p hg hp => by rw [tabP_0]; exact hrm g p hg hp)
        · have h1 := hq Sk hA.1
          unfold fstF at h1
          have hT : tabH S0 rig fr ten k k tn = true := by
            cases hh : tabH S0 rig fr ten k k tn with
            | true => rfl
            | false => exact absurd (hv.mpr hh) z
          rw [if_pos hT] at h1
          exact h1
    intro x7 S1 hA hrm
    exact loop 288 0 (by omega) hQ' x7 S1 hA hrm
  -- bridges
  have brd : knA S0 rig fr to → tenA ten → ∀ x7, ∀ S1, onlyN (lastS S 0) S1 → (∀ g p, g < 288 → p < 10 → rm S1 g p = tabH S0 rig fr ten 0 g p) → ∀ m k, k + m = S0.2.2 20 → ∀ Sk, onlyN S1 Sk → (∀ i, Sk.1 11 2 i = S1.1 11 2 i) → (∀ i, i < k → Sk.1 11 3 i = bV (bornH S0 (nI i) rig)) → G 92 [some (aR 1 0), some (aI rig), some (aI fr), some (aI to), some (aI ten), some (aI 1), some (aI (nI k)), x7] [] Sk 0 := by
    intro hk ht x7 S1 hO1 hrm1 m
    induction m with
    | zero =>
      intro k hkm Sk hO h2 h3
      obtain rfl : k = S0.2.2 20 := hkm
      have e12 := ((hO1.tr hO).m.ref hlr).ct.1
      refine hs [92, 124] 60 92 _ _ _ _ ?_
      refine ⟨fun _ => main hk ht x7 Sk ⟨hO1.tr hO, h3⟩ (fun g p hg hp => ?_), fun q => ?_⟩
      · rw [← hrm1 g p hg hp]
        unfold rm
        rw [h2]
      · rw [e12] at q
        exact (lp_end q).elim
    | succ m ih =>
      intro k hkm Sk hO h2 h3
      have hrk := (hO1.tr hO).m.ref hlr
      have e12 := hrk.ct.1
      have hkk : k < S0.2.2 20 := by omega
      have hvk : vp_in (nI k) 20 := nI_vin (by omega) (by omega)
      have hdk : inN (nI k) (S0.2.2 20) := ⟨lp_nn (by omega) hkk, lp_in (by omega) hkk⟩
      refine hs [92] 60 92 _ _ _ _ ?_
      refine ⟨fun q => ?_, fun _ => ⟨rfl, rfl, S0, hrk, hk.1, hdk, hvk, ?_⟩⟩
      · rw [e12] at q
        exact absurd q (lp_go (by omega) hkk)
      · rw [bV_1, nI_cl (by omega)]
        have h1 := ih (k + 1) (by omega) (wrI Sk 11 3 k (bV (bornH S0 (nI k) rig))) (hO.tr (onlyN.wr (Or.inr rfl))) (fun i => by rw [wrI_ne fun q => absurd q.2.1 (by decide)]; exact h2 i) (fun i hi => by
          rw [wrI_at]
          by_cases e : i = k
          · rw [if_pos ⟨rfl, rfl, e⟩, e]
          · rw [if_neg fun q => e q.2.2]
            exact h3 i (by omega))
        rw [← nI_s] at h1
        exact h1
  -- the first marks
  have fil : knA S0 rig fr to → tenA ten → ∀ x7, ∀ m k, k + m = 2880 → ∀ Sk, onlyN (lastS S 0) Sk → (∀ i, i < k → Sk.1 11 2 i = bV (decide (i = 288 * fr.toNatClampNeg))) → G 53 [some (aR 1 0), some (aI rig), some (aI fr), some (aI to), some (aI ten), some (aI 1), some (aI (nI k)), x7] [] Sk 0 := by
    intro hk ht x7
    have hf10 : fr.toNatClampNeg < 10 := inN_lt hk.2.1 (by omega)
    have efr : fr = nI fr.toNatClampNeg := nI_back hk.2.1 (by omega)
    intro m
    induction m with
    | zero =>
      intro k hkm Sk hO h2
      obtain rfl : k = 2880 := hkm
      refine hs [53, 92] 60 53 _ _ _ _ ?_
      refine ⟨fun _ => ?_, fun q => absurd (by decide) q⟩
      refine brd hk ht x7 Sk hO (fun g p hg hp => ?_) (S0.2.2 20) 0 (by omega) Sk onlyN.rf (fun _ => rfl) (fun i hi => absurd hi (Nat.not_lt_zero i))
      show decide (Sk.1 11 2 (288 * p + g) ≠ 0) = (decide (g = 0) && decide (p = fr.toNatClampNeg))
      rw [h2 _ (by omega)]
      by_cases e : g = 0 ∧ p = fr.toNatClampNeg
      · rw [decide_eq_true e.1, decide_eq_true e.2, decide_eq_true (show 288 * p + g = 288 * fr.toNatClampNeg by omega)]
        decide
      · have e2 : (decide (g = 0) && decide (p = fr.toNatClampNeg)) = false := by
          simp only [Bool.and_eq_false_iff, decide_eq_false_iff_not]
          omega
        rw [e2, decide_eq_false (show ¬ 288 * p + g = 288 * fr.toNatClampNeg from fun q => e (by omega))]
        decide
    | succ m ih =>
      intro k hkm Sk hO h2
      have hvk : vp_in (nI k) 2880 := nI_vin (by omega) (by omega)
      have stp : ∀ v, v = bV (decide (k = 288 * fr.toNatClampNeg)) → G 53 [some (aR 1 0), some (aI rig), some (aI fr), some (aI to), some (aI ten), some (aI 1), some (aI (nI k + 1)), x7] [] (wrI Sk 11 2 (nI k).toNatClampNeg v) 0 := fun v hv => by
        rw [nI_cl (by omega), nI_s]
        refine ih (k + 1) (by omega) _ (hO.tr (onlyN.wr (Or.inl rfl))) fun i hi => ?_
        rw [wrI_at]
        by_cases e : i = k
        · rw [if_pos ⟨rfl, rfl, e⟩, e, hv]
        · rw [if_neg fun q => e q.2.2]
          exact h2 i (by omega)
      have e8 : (288 : Int32) * fr = nI (288 * fr.toNatClampNeg) := by
        rw [show (288 : Int32) = nI 288 from rfl]
        conv => lhs; rw [efr]
        exact nI_mul _ _
      refine hs [53] 60 53 _ _ _ _ ?_
      refine ⟨fun q => absurd q (lp_go' (n := 2880) (by omega) (by omega)), fun _ => ⟨fun z => ⟨hvk, stp 0 ?_⟩, fun z => ⟨hvk, stp 1 ?_⟩⟩⟩
      · rw [decide_eq_false fun q => z (by rw [e8, q])]
        rfl
      · have z' : nI k = (288 : Int32) * fr := z
        rw [e8] at z'
        rw [decide_eq_true (nI_inj (by omega) (by omega) z')]
        rfl
  -- the checks
  have k50 : knA S0 rig fr to → tenA ten → G 50 [some (aR 1 0), some (aI rig), some (aI fr), some (aI to), some (aI ten), some (aI 1), none, none] [] (lastS S 0) 0 := fun hk ht => by
    refine hs [53] 60 50 _ _ _ _ ?_
    exact fil hk ht none 2880 0 (by omega) _ onlyN.rf (fun i hi => absurd hi (Nat.not_lt_zero i))
  have e28 := hr.ct.2.2.1
  have k0 : ¬ knA S0 rig fr to → G 27 [some (aR 1 0), some (aI rig), some (aI fr), some (aI to), some (aI ten), none, none, none] [aI 0] S 0 := fun hk => by
    refine hs [] 60 27 _ _ _ _ ?_
    exact ⟨rfl, rfl, false, dP (rg ten 0 9999), true, rfl, rfl, rfl, fun _ => ⟨fun z => absurd rfl z, fun _ => hQ0 hk⟩, fun z => (nomatch z), fun z => (nomatch z), fun z => (nomatch z)⟩
  have k1 : knA S0 rig fr to → G 27 [some (aR 1 0), some (aI rig), some (aI fr), some (aI to), some (aI ten), none, none, none] [aI 1] S 0 := fun hk => by
    have ht : rg ten 0 9999 ↔ tenA ten := ⟨fun z => ⟨z.1, Int32.not_lt.mpr z.2⟩, fun z => ⟨z.1, Int32.not_lt.mp z.2⟩⟩
    refine hs [50] 60 27 _ _ _ _ ?_
    refine ⟨rfl, rfl, true, dP (rg ten 0 9999), true, rfl, rfl, rfl, fun z => (nomatch z), fun _ z => ⟨fun y => absurd rfl y, fun _ => hQ1 hk fun y => ?_⟩, fun _ _ z => (nomatch z), fun _ z _ => ⟨fun _ => k50 hk ?_, fun y => absurd y (by decide)⟩⟩
    · rw [dP_t (ht.mpr y)] at z
      cases z
    · by_cases y : tenA ten
      · exact y
      · rw [dP_f fun x => y (ht.mp x)] at z
        cases z
  have eq : ∀ v (n : Nat), nm v (nI n) → inN v n := fun v n => nm_in
  refine hs [27] 60 0 _ _ _ _ ?_
  refine ⟨rfl, rfl, _, e28, by omega, dz_eq (fun q1 => k0 fun z => q1 (in_nm.mpr z.1)) (fun q1 => dz_eq (fun q2 => k0 fun z => q2 (in_nm (n := 10) |>.mpr z.2.1)) (fun q2 => dz_eq (fun q3 => k0 fun z => q3 (in_nm (n := 10) |>.mpr z.2.2)) (fun q3 => k1 ⟨nm_in q1, nm_in (n := 10) q2, nm_in (n := 10) q3⟩)))⟩
theorem ct_X7_arrives {l : Launch} (hl : l.stackTraces = false) (hNL : NewL l) : CT l yX7_arrives cX7_arrives 8 (some .int) 4 0 s_X7_arrives := CT_of hl hNL (by decide +kernel) (own := "HeavyHaulModel") rfl (ini := false) (fun q => nomatch q) chk_X7_arrives (cal_X7_arrives hl hNL) ar_X7_arrives vc_X7_arrives
