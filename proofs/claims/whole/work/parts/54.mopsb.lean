/-! THE MODEL's PUBLIC METHODS: loads, bridges, authorities -/
def fitL (w c : Int32) : Prop := rg w 0 200000 ∧ rg c 0 80
def canL (S : Sto) (r w c : Int32) : Prop := S.1 4 9 r.toNatClampNeg = -1 ∧ canT S r.toNatClampNeg w c
def s_X7_load : SP := fun as S Q => o3 1 as fun r w c => ∃ S0, ref S S0 ∧ (¬ nm r (nI (S0.2.2 22)) → Q (Sum.inl none) (lastS S 1)) ∧ (nm r (nI (S0.2.2 22)) → ¬ fitL w c → Q (Sum.inl none) (lastS S 2)) ∧ (nm r (nI (S0.2.2 22)) → fitL w c → ¬ canL S0 r w c → Q (Sum.inl none) (lastS S 3)) ∧
  (nm r (nI (S0.2.2 22)) → fitL w c → canL S0 r w c → Q (Sum.inl none) (wrI (wrI (lastS S 0) 10 21 r.toNatClampNeg w) 10 22 r.toNatClampNeg c))
def tb_X7_load : Tb := [(0, .aload_n 0, 1, x0), (1, .iload_n 1, 1, x0), (2, .invokevirtual 142, 3, xS 2 0 s_X7_isRigB), (5, .istore 4, 2, x0), (7, .iload_n 2, 1, x0), (8, .iconst 0, 1, xI (0)), (9, .ldc 145, 2, xC 0 0 200000 [952]), (11, .invokestatic 109, 3, xS 3 0 s_X7_inB), (14, .ifCond .eq 17, 3, xN 31), (17, .iload_n 3, 1, x0), (18, .iconst 0, 1, xI (0)), (19, .bipush 80, 2, xI (80)), (21, .invokestatic 109, 3, xS 3 0 s_X7_inB), (24, .ifCond .eq 7, 3, xN 31), (27, .iconst 1, 1, xI (1)), (28, .goto 4, 3, xN 32), (31, .iconst 0, 1, xI (0)), (32, .istore 5, 2, x0), (34, .iload 4, 2, x0), (36, .ifCond .eq 42, 3, xN 78), (39, .iload 5, 2, x0), (41, .ifCond .eq 37, 3, xN 78), (44, .iload_n 2, 1, x0), (45, .ifCond .eq 29, 3, xN 74), (48, .aload_n 0, 1, x0), (49, .iload_n 1, 1, x0), (50, .iload_n 3, 1, x0), (51, .invokevirtual 146, 3, xS 3 0 s_X7_rears), (54, .iconst 0, 1, xI (0)), (55, .aload_n 0, 1, x0), (56, .getfield 50, 3, xF 8 16 [799]), (59, .iload_n 1, 1, x0), (60, .iaload, 1, x0), (61, .aload_n 0, 1, x0), (62, .getfield 53, 3, xF 8 17 [800]), (65, .iload_n 1, 1, x0), (66, .iaload, 1, x0), (67, .imul, 1, x0), (68, .invokestatic 109, 3, xS 3 0 s_X7_inB), (71, .ifCond .eq 7, 3, xN 78), (74, .iconst 1, 1, xI (1)), (75, .goto 4, 3, xN 79), (78, .iconst 0, 1, xI (0)), (79, .istore 6, 2, x0), (81, .aload_n 0, 1, x0), (82, .iload 4, 2, x0), (84, .iload 5, 2, x0), (86, .iload 6, 2, x0), (88, .ifCond .eq 17, 3, xN 105), (91, .aload_n 0, 1, x0), (92, .getfield 74, 3, xF 8 24 [807]), (95, .iload_n 1, 1, x0), (96, .iaload, 1, x0), (97, .iconst (-1), 1, xI (-1)), (98, .if_icmp .ne 7, 3, xN 105), (101, .iconst 1, 1, xI (1)), (102, .goto 4, 3, xN 106), (105, .iconst 0, 1, xI (0)), (106, .invokevirtual 123, 3, xS 4 0 s_X7_goesB), (109, .ifCond .eq 17, 3, xN 126), (112, .aload_n 0, 1, x0), (113, .getfield 68, 3, xF 8 22 [805]), (116, .iload_n 1, 1, x0), (117, .iload_n 2, 1, x0), (118, .iastore, 1, x0), (119, .aload_n 0, 1, x0), (120, .getfield 71, 3, xF 8 23 [806]), (123, .iload_n 1, 1, x0), (124, .iload_n 3, 1, x0), (125, .iastore, 1, x0), (126, .return_, 1, x0)]
theorem chk_X7_load : chkTb cX7_load "HeavyHaulModel" false tb_X7_load = true := by decide +kernel
theorem cal_X7_load {l : Launch} (hl : l.stackTraces = false) (hNL : NewL l) : CallsOK l "HeavyHaulModel" 2 tb_X7_load := callsOK_f ⟨⟨_, _, 2, 1, _, 8, (ct_X7_isRigB hl hNL), ⟨List.mem_of_getElem? (i := 951) (by decide +kernel), List.mem_of_getElem? (i := 44) (by decide +kernel), List.mem_of_getElem? (i := 948) (by decide +kernel), ⟨by decide +kernel, by decide +kernel⟩, by decide +kernel, by decide⟩, List.mem_of_getElem? (i := 950) (by decide +kernel), List.mem_of_getElem? (i := 27) (by decide +kernel), by decide, by decide, rc_X7_isRigB⟩, ⟨_, _, 3, 0, _, (ct_X7_inB hl hNL), ⟨List.mem_of_getElem? (i := 911) (by decide +kernel), List.mem_of_getElem? (i := 44) (by decide +kernel), List.mem_of_getElem? (i := 909) (by decide +kernel), ⟨by decide +kernel, by decide +kernel⟩, by decide +kernel, by decide⟩, List.mem_of_getElem? (i := 910) (by decide +kernel), by decide⟩, ⟨_, _, 3, 0, _, (ct_X7_inB hl hNL), ⟨List.mem_of_getElem? (i := 911) (by decide +kernel), List.mem_of_getElem? (i := 44) (by decide +kernel), List.mem_of_getElem? (i := 909) (by decide +kernel), ⟨by decide +kernel, by decide +kernel⟩, by decide +kernel, by decide⟩, List.mem_of_getElem? (i := 910) (by decide +kernel), by decide⟩, ⟨_, _, 3, 0, _, 8, (ct_X7_rears hl hNL), ⟨List.mem_of_getElem? (i := 956) (by decide +kernel), List.mem_of_getElem? (i := 44) (by decide +kernel), List.mem_of_getElem? (i := 953) (by decide +kernel), ⟨by decide +kernel, by decide +kernel⟩, by decide +kernel, by decide⟩, List.mem_of_getElem? (i := 955) (by decide +kernel), List.mem_of_getElem? (i := 28) (by decide +kernel), by decide, by decide, rc_X7_rears⟩, ⟨_, _, 3, 0, _, (ct_X7_inB hl hNL), ⟨List.mem_of_getElem? (i := 911) (by decide +kernel), List.mem_of_getElem? (i := 44) (by decide +kernel), List.mem_of_getElem? (i := 909) (by decide +kernel), ⟨by decide +kernel, by decide +kernel⟩, by decide +kernel, by decide⟩, List.mem_of_getElem? (i := 910) (by decide +kernel), by decide⟩, ⟨_, _, 4, 0, _, 8, (ct_X7_goesB hl hNL), ⟨List.mem_of_getElem? (i := 915) (by decide +kernel), List.mem_of_getElem? (i := 44) (by decide +kernel), List.mem_of_getElem? (i := 912) (by decide +kernel), ⟨by decide +kernel, by decide +kernel⟩, by decide +kernel, by decide⟩, List.mem_of_getElem? (i := 914) (by decide +kernel), List.mem_of_getElem? (i := 25) (by decide +kernel), by decide, by decide, rc_X7_goesB⟩, trivial⟩
theorem ar_X7_load : ∀ as S P, s_X7_load as S P → as.length ≤ 7 ∧ ∀ a ∈ as, catV a = 1 := fun as S P h => by
  obtain ⟨_, _, _, rfl, _⟩ := o3_ok h
  exact ar_all ⟨Nat.le_of_ble_eq_true rfl, rfl⟩
theorem rc_X7_load : ∀ as S P, s_X7_load as S P → ∃ k i r, as = aR k i :: r ∧ ci k = 8 ∧ (obK k = true ∨ k = 13) := fun as S P h => by
  obtain ⟨_, _, _, rfl, _⟩ := o3_ok h
  exact ⟨_, _, _, rfl, rfl, Or.inl rfl⟩
set_option maxRecDepth 8000 in
theorem vc_X7_load : ∀ (G : Gt) (Q : Out → Sto → Prop) (as : List AV) (S : Sto), s_X7_load as S Q → Seg tb_X7_load G Q 0 0 [] (0, fun _ => 0) → G 0 (argL as 7) [] S 0 := by
  intro G Q as S h hs
  obtain ⟨r, w, c, rfl, S0, hr, h0, h1, h2, h3⟩ := o3_ok h
  have e28 := hr.ct.2.2.1
  have hn := hr.wf.2.1.2.2.1
  have g106 : ∀ p q y : Bool, p = dP (nm r (nI (S0.2.2 22))) → q = dP (fitL w c) → (p = true → q = true → y = dP (canL S0 r w c)) → ∀ z, G 106 [some (aR 1 0), some (aI r), some (aI w), some (aI c), some (aI (bV p)), some (aI (bV q)), z] [aI (bV y), aI (bV q), aI (bV p), aR 1 0] S 0 := fun p q y hp hq hy z => by
    refine hs [] 150 106 _ _ _ _ ?_
    refine ⟨rfl, rfl, p, q, y, rfl, rfl, rfl, fun u => ⟨fun _ => h0 (dP_n hp u), fun w => absurd rfl w⟩, fun u v => ⟨fun _ => h1 (dP_e hp u) (dP_n hq v), fun w => absurd rfl w⟩, fun u v x => ⟨fun _ => h2 (dP_e hp u) (dP_e hq v) (dP_n (hy u v) x), fun w => absurd rfl w⟩, fun u v x => ⟨fun w => absurd w one0, fun _ => ?_⟩⟩
    have hk := dP_e hp u
    have hv : vp_in r 6 := d_in (nm_in hk) hn (by omega)
    exact ⟨hv, hv, h3 hk (dP_e hq v) (dP_e (hy u v) x)⟩
  have g79 : ∀ p q z : Bool, p = dP (nm r (nI (S0.2.2 22))) → q = dP (fitL w c) → (z = true → p = true ∧ q = true) → (p = true → q = true → z = dP (canT S0 r.toNatClampNeg w c)) → G 79 [some (aR 1 0), some (aI r), some (aI w), some (aI c), some (aI (bV p)), some (aI (bV q)), none] [aI (bV z)] S 0 := fun p q z hp hq hz hc => by
    refine hs [106] 150 79 _ _ _ _ ?_
    cases z with
    | false => exact ⟨fun _ => g106 p q false hp hq (fun u v => (dP_f fun x => dP_n (hc u v) rfl x.2).symm) _, fun x => absurd rfl x⟩
    | true =>
      obtain ⟨u, v⟩ := hz rfl
      have hk := dP_e hp u
      have hv : vp_in r 6 := d_in (nm_in hk) hn (by omega)
      have ho : S.1 10 23 r.toNatClampNeg = S0.1 4 9 r.toNatClampNeg := (hr.ri (nm_lt hk (by omega))).2.2.2.2.2.2.2.1
      refine ⟨fun x => absurd x (by decide), fun _ => ⟨hv, ?_⟩⟩
      rw [ho]
      exact ⟨fun x => g106 p q false hp hq (fun _ _ => (dP_f fun y => x y.1).symm) _, fun x => g106 p q true hp hq (fun _ _ => (dP_t ⟨x, dP_e (hc u v) rfl⟩).symm) _⟩
  have g32 : ∀ p q : Bool, p = dP (nm r (nI (S0.2.2 22))) → q = dP (fitL w c) → G 32 [some (aR 1 0), some (aI r), some (aI w), some (aI c), some (aI (bV p)), none, none] [aI (bV q)] S 0 := fun p q hp hq => by
    refine hs [79] 150 32 _ _ _ _ ?_
    cases p with
    | false => exact ⟨fun _ => g79 false q false hp hq (fun z => nomatch z) (fun z => nomatch z), fun x => absurd rfl x⟩
    | true =>
      cases q with
      | false => exact ⟨fun x => absurd x (by decide), fun _ => ⟨fun _ => g79 true false false hp hq (fun z => nomatch z) (fun _ z => nomatch z), fun x => absurd rfl x⟩⟩
      | true =>
        have hk := dP_e hp rfl
        have hv : vp_in r 6 := d_in (nm_in hk) hn (by omega)
        obtain ⟨-, c15, c16, -⟩ := hr.ri (nm_lt hk (by omega))
        have yes : canT S0 r.toNatClampNeg w c → G 79 [some (aR 1 0), some (aI r), some (aI w), some (aI c), some (aI (bV true)), some (aI (bV true)), none] [aI (bV true)] S 0 := fun x => g79 true true true hp hq (fun _ => ⟨rfl, rfl⟩) (fun _ _ => (dP_t x).symm)
        have no : ¬ canT S0 r.toNatClampNeg w c → G 79 [some (aR 1 0), some (aI r), some (aI w), some (aI c), some (aI (bV true)), some (aI (bV true)), none] [aI (bV false)] S 0 := fun x => g79 true true false hp hq (fun z => nomatch z) (fun _ _ => (dP_f x).symm)
        refine ⟨fun x => absurd x (by decide), fun _ => ⟨fun x => absurd x (by decide), fun _ => ⟨fun x => yes (Or.inl x), fun x => ⟨hv, n2z, hv, hv, hv, ?_⟩⟩⟩⟩
        rw [c15, c16]
        exact dz_eq (fun y => no fun z => z.elim x fun z => y z) (fun y => yes (Or.inr y))
  refine hs [32] 150 0 _ _ _ _ ?_
  refine ⟨rfl, rfl, _, e28, by omega, ?_⟩
  exact dz_eq (fun q => g32 (dP (nm r (nI (S0.2.2 22)))) false rfl (dP_f fun z => q z.1).symm) fun q1 => dz_eq (fun q => g32 (dP (nm r (nI (S0.2.2 22)))) false rfl (dP_f fun z => q z.2).symm) fun q2 => g32 (dP (nm r (nI (S0.2.2 22)))) true rfl (dP_t ⟨q1, q2⟩).symm
theorem ct_X7_load {l : Launch} (hl : l.stackTraces = false) (hNL : NewL l) : CT l yX7_load cX7_load 7 none 2 0 s_X7_load := CT_of hl hNL (by decide +kernel) (own := "HeavyHaulModel") rfl (ini := false) (fun q => nomatch q) chk_X7_load (cal_X7_load hl hNL) ar_X7_load vc_X7_load
def knX (S : Sto) (r x : Int32) : Prop := nm r (nI (S.2.2 22)) ∧ nm x (S.1 4 0 r.toNatClampNeg)
def s_X7_axle : SP := fun as S Q => o2 1 as fun r x => ∃ S0, ref S S0 ∧ (¬ knX S0 r x → Q (Sum.inl (some (aI 0))) (lastS S 1)) ∧ (knX S0 r x → Q (Sum.inl (some (aI (wtF (S0.1 4 6 r.toNatClampNeg) (S0.1 4 7 r.toNatClampNeg) (S0.1 4 0 r.toNatClampNeg) x)))) (lastS S 0))
def tb_X7_axle : Tb := [(0, .aload_n 0, 1, x0), (1, .iload_n 1, 1, x0), (2, .invokevirtual 142, 3, xS 2 0 s_X7_isRigB), (5, .ifCond .eq 35, 3, xN 40), (8, .iload_n 2, 1, x0), (9, .iconst 0, 1, xI (0)), (10, .aload_n 0, 1, x0), (11, .getfield 50, 3, xF 8 16 [799]), (14, .aload_n 0, 1, x0), (15, .iload_n 1, 1, x0), (16, .invokevirtual 142, 3, xS 2 0 s_X7_isRigB), (19, .ifCond .eq 7, 3, xN 26), (22, .iload_n 1, 1, x0), (23, .goto 4, 3, xN 27), (26, .iconst 0, 1, xI (0)), (27, .iaload, 1, x0), (28, .iconst 1, 1, xI (1)), (29, .isub, 1, x0), (30, .invokestatic 109, 3, xS 3 0 s_X7_inB), (33, .ifCond .eq 7, 3, xN 40), (36, .iconst 1, 1, xI (1)), (37, .goto 4, 3, xN 41), (40, .iconst 0, 1, xI (0)), (41, .istore_n 3, 1, x0), (42, .aload_n 0, 1, x0), (43, .iload_n 3, 1, x0), (44, .iconst 1, 1, xI (1)), (45, .iconst 1, 1, xI (1)), (46, .invokevirtual 123, 3, xS 4 0 s_X7_goesB), (49, .ifCond .eq 28, 3, xN 77), (52, .aload_n 0, 1, x0), (53, .iload_n 1, 1, x0), (54, .iload_n 2, 1, x0), (55, .aload_n 0, 1, x0), (56, .getfield 50, 3, xF 8 16 [799]), (59, .iload_n 1, 1, x0), (60, .iaload, 1, x0), (61, .iconst 2, 1, xI (2)), (62, .idiv, 1, x0), (63, .if_icmp .lt 7, 3, xN 70), (66, .iconst 1, 1, xI (1)), (67, .goto 4, 3, xN 71), (70, .iconst 0, 1, xI (0)), (71, .invokevirtual 150, 3, xS 3 0 s_X7_bears), (74, .goto 4, 3, xN 78), (77, .iconst 0, 1, xI (0)), (78, .ireturn, 1, x0)]
theorem chk_X7_axle : chkTb cX7_axle "HeavyHaulModel" false tb_X7_axle = true := by decide +kernel
theorem cal_X7_axle {l : Launch} (hl : l.stackTraces = false) (hNL : NewL l) : CallsOK l "HeavyHaulModel" 2 tb_X7_axle := callsOK_f ⟨⟨_, _, 2, 1, _, 8, (ct_X7_isRigB hl hNL), ⟨List.mem_of_getElem? (i := 951) (by decide +kernel), List.mem_of_getElem? (i := 44) (by decide +kernel), List.mem_of_getElem? (i := 948) (by decide +kernel), ⟨by decide +kernel, by decide +kernel⟩, by decide +kernel, by decide⟩, List.mem_of_getElem? (i := 950) (by decide +kernel), List.mem_of_getElem? (i := 27) (by decide +kernel), by decide, by decide, rc_X7_isRigB⟩, ⟨_, _, 2, 1, _, 8, (ct_X7_isRigB hl hNL), ⟨List.mem_of_getElem? (i := 951) (by decide +kernel), List.mem_of_getElem? (i := 44) (by decide +kernel), List.mem_of_getElem? (i := 948) (by decide +kernel), ⟨by decide +kernel, by decide +kernel⟩, by decide +kernel, by decide⟩, List.mem_of_getElem? (i := 950) (by decide +kernel), List.mem_of_getElem? (i := 27) (by decide +kernel), by decide, by decide, rc_X7_isRigB⟩, ⟨_, _, 3, 0, _, (ct_X7_inB hl hNL), ⟨List.mem_of_getElem? (i := 911) (by decide +kernel), List.mem_of_getElem? (i := 44) (by decide +kernel), List.mem_of_getElem? (i := 909) (by decide +kernel), ⟨by decide +kernel, by decide +kernel⟩, by decide +kernel, by decide⟩, List.mem_of_getElem? (i := 910) (by decide +kernel), by decide⟩, ⟨_, _, 4, 0, _, 8, (ct_X7_goesB hl hNL), ⟨List.mem_of_getElem? (i := 915) (by decide +kernel), List.mem_of_getElem? (i := 44) (by decide +kernel), List.mem_of_getElem? (i := 912) (by decide +kernel), ⟨by decide +kernel, by decide +kernel⟩, by decide +kernel, by decide⟩, List.mem_of_getElem? (i := 914) (by decide +kernel), List.mem_of_getElem? (i := 25) (by decide +kernel), by decide, by decide, rc_X7_goesB⟩, ⟨_, _, 8, 1, _, 8, (ct_X7_bears hl hNL), ⟨List.mem_of_getElem? (i := 964) (by decide +kernel), List.mem_of_getElem? (i := 44) (by decide +kernel), List.mem_of_getElem? (i := 961) (by decide +kernel), ⟨by decide +kernel, by decide +kernel⟩, by decide +kernel, by decide⟩, List.mem_of_getElem? (i := 963) (by decide +kernel), List.mem_of_getElem? (i := 29) (by decide +kernel), by decide, by decide, rc_X7_bears⟩, trivial⟩
theorem ar_X7_axle : ∀ as S P, s_X7_axle as S P → as.length ≤ 4 ∧ ∀ a ∈ as, catV a = 1 := fun as S P h => by
  obtain ⟨_, _, rfl, _⟩ := o2_ok h
  exact ar_all ⟨Nat.le_of_ble_eq_true rfl, rfl⟩
theorem rc_X7_axle : ∀ as S P, s_X7_axle as S P → ∃ k i r, as = aR k i :: r ∧ ci k = 8 ∧ (obK k = true ∨ k = 13) := fun as S P h => by
  obtain ⟨_, _, rfl, _⟩ := o2_ok h
  exact ⟨_, _, _, rfl, rfl, Or.inl rfl⟩
set_option maxRecDepth 8000 in
theorem vc_X7_axle : ∀ (G : Gt) (Q : Out → Sto → Prop) (as : List AV) (S : Sto), s_X7_axle as S Q → Seg tb_X7_axle G Q 1 0 [] (0, fun _ => 0) → G 0 (argL as 4) [] S 0 := by
  intro G Q as S h hs
  obtain ⟨r, x, rfl, S0, hr, h0, h1⟩ := o2_ok h
  have e28 := hr.ct.2.2.1
  have hn := hr.wf.2.1.2.2.1
  have g41 : ∀ p : Bool, p = dP (knX S0 r x) → G 41 [some (aR 1 0), some (aI r), some (aI x), none] [aI (bV p)] S 0 := fun p hp => by
    refine hs [] 150 41 _ _ _ _ ?_
    refine ⟨rfl, rfl, p, true, true, rfl, rfl, rfl, fun u => ⟨fun _ => h0 (dP_n hp u), fun w => absurd rfl w⟩, fun _ v => (nomatch v), fun _ _ v => (nomatch v), fun u _ _ => ⟨fun w => absurd w one0, fun _ => ?_⟩⟩
    have hk := dP_e hp u
    have hv : vp_in r 6 := d_in (nm_in hk.1) hn (by omega)
    have h2 := h1 hk
    obtain ⟨-, c15, -⟩ := (onlyM.la (v := 0)).ref hr |>.ri (nm_lt hk.1 (by omega))
    unfold wtF at h2
    refine ⟨hv, n2z, ?_⟩
    rw [c15]
    refine ⟨fun z => ⟨rfl, rfl, S0, onlyM.la.ref hr, nm_in hk.1, ?_⟩, fun z => ⟨rfl, rfl, S0, onlyM.la.ref hr, nm_in hk.1, ?_⟩⟩
    · rw [if_neg (Int32.not_le.mpr z)] at h2
      exact h2
    · rw [if_pos (Int32.not_lt.mp z)] at h2
      exact h2
  refine hs [41] 150 0 _ _ _ _ ?_
  refine ⟨rfl, rfl, _, e28, by omega, dz_eq (fun q => g41 false (dP_f fun z => q z.1).symm) fun q1 => ⟨rfl, rfl, _, e28, by omega, ?_⟩⟩
  have hv : vp_in r 6 := d_in (nm_in q1) hn (by omega)
  have hj := nm_lt q1 (by omega)
  obtain ⟨-, c15, -⟩ := hr.ri hj
  obtain ⟨a, d, p, ea, -, -, a1, a8, -⟩ := hr.wf.2.2.2.2.2.2.2 _ hj
  refine ⟨fun z => absurd z (by rw [dP_t q1]; decide), fun _ => ⟨hv, ?_⟩⟩
  rw [c15]
  have ei : rg x 0 (S0.1 4 0 r.toNatClampNeg - 1) ↔ nm x (S0.1 4 0 r.toNatClampNeg) := by
    rw [ea]
    exact rg_nm (by omega)
  exact dz_eq (fun q => g41 false (dP_f fun z => q (ei.mpr z.2)).symm) fun q2 => g41 true (dP_t ⟨q1, ei.mp q2⟩).symm
theorem ct_X7_axle {l : Launch} (hl : l.stackTraces = false) (hNL : NewL l) : CT l yX7_axle cX7_axle 4 (some .int) 2 0 s_X7_axle := CT_of hl hNL (by decide +kernel) (own := "HeavyHaulModel") rfl (ini := false) (fun q => nomatch q) chk_X7_axle (cal_X7_axle hl hNL) ar_X7_axle vc_X7_axle
def s_X7_greatest : SP := fun as S Q => o3 1 as fun d r isM => ∃ S0, ref S S0 ∧ (¬ knG S0 d r → Q (Sum.inl (some (aI 0))) (lastS S 1)) ∧ (knG S0 d r → Q (Sum.inl (some (aI (greatH S0 d.toNatClampNeg r.toNatClampNeg isM 0)))) (lastS S 0))
def tb_X7_greatest : Tb := [(0, .aload_n 0, 1, x0), (1, .aload_n 0, 1, x0), (2, .iload_n 1, 1, x0), (3, .invokevirtual 130, 3, xS 2 0 s_X7_isRoadB), (6, .ifCond .eq 15, 3, xN 21), (9, .aload_n 0, 1, x0), (10, .iload_n 2, 1, x0), (11, .invokevirtual 142, 3, xS 2 0 s_X7_isRigB), (14, .ifCond .eq 7, 3, xN 21), (17, .iconst 1, 1, xI (1)), (18, .goto 4, 3, xN 22), (21, .iconst 0, 1, xI (0)), (22, .iconst 1, 1, xI (1)), (23, .iconst 1, 1, xI (1)), (24, .invokevirtual 123, 3, xS 4 0 s_X7_goesB), (27, .ifCond .ne 5, 3, xN 32), (30, .iconst 0, 1, xI (0)), (31, .ireturn, 1, x0), (32, .aload_n 0, 1, x0), (33, .getfield 35, 3, xF 8 9 [792]), (36, .iload_n 1, 1, x0), (37, .iaload, 1, x0), (38, .ifCond .ne 7, 3, xN 45), (41, .iconst (-1), 1, xI (-1)), (42, .goto 10, 3, xN 52), (45, .aload_n 0, 1, x0), (46, .iload_n 1, 1, x0), (47, .iload_n 2, 1, x0), (48, .iload_n 3, 1, x0), (49, .invokevirtual 154, 3, xS 4 0 s_X7_tops), (52, .ireturn, 1, x0)]
theorem chk_X7_greatest : chkTb cX7_greatest "HeavyHaulModel" false tb_X7_greatest = true := by decide +kernel
theorem cal_X7_greatest {l : Launch} (hl : l.stackTraces = false) (hNL : NewL l) : CallsOK l "HeavyHaulModel" 3 tb_X7_greatest := callsOK_f ⟨⟨_, _, 2, 1, _, 8, (ct_X7_isRoadB hl hNL), ⟨List.mem_of_getElem? (i := 930) (by decide +kernel), List.mem_of_getElem? (i := 44) (by decide +kernel), List.mem_of_getElem? (i := 927) (by decide +kernel), ⟨by decide +kernel, by decide +kernel⟩, by decide +kernel, by decide⟩, List.mem_of_getElem? (i := 929) (by decide +kernel), List.mem_of_getElem? (i := 26) (by decide +kernel), by decide, by decide, rc_X7_isRoadB⟩, ⟨_, _, 2, 1, _, 8, (ct_X7_isRigB hl hNL), ⟨List.mem_of_getElem? (i := 951) (by decide +kernel), List.mem_of_getElem? (i := 44) (by decide +kernel), List.mem_of_getElem? (i := 948) (by decide +kernel), ⟨by decide +kernel, by decide +kernel⟩, by decide +kernel, by decide⟩, List.mem_of_getElem? (i := 950) (by decide +kernel), List.mem_of_getElem? (i := 27) (by decide +kernel), by decide, by decide, rc_X7_isRigB⟩, ⟨_, _, 4, 0, _, 8, (ct_X7_goesB hl hNL), ⟨List.mem_of_getElem? (i := 915) (by decide +kernel), List.mem_of_getElem? (i := 44) (by decide +kernel), List.mem_of_getElem? (i := 912) (by decide +kernel), ⟨by decide +kernel, by decide +kernel⟩, by decide +kernel, by decide⟩, List.mem_of_getElem? (i := 914) (by decide +kernel), List.mem_of_getElem? (i := 25) (by decide +kernel), by decide, by decide, rc_X7_goesB⟩, ⟨_, _, 14, 2, _, 8, (ct_X7_tops hl hNL), ⟨List.mem_of_getElem? (i := 972) (by decide +kernel), List.mem_of_getElem? (i := 44) (by decide +kernel), List.mem_of_getElem? (i := 969) (by decide +kernel), ⟨by decide +kernel, by decide +kernel⟩, by decide +kernel, by decide⟩, List.mem_of_getElem? (i := 971) (by decide +kernel), List.mem_of_getElem? (i := 30) (by decide +kernel), by decide, by decide, rc_X7_tops⟩, trivial⟩
theorem ar_X7_greatest : ∀ as S P, s_X7_greatest as S P → as.length ≤ 4 ∧ ∀ a ∈ as, catV a = 1 := fun as S P h => by
  obtain ⟨_, _, _, rfl, _⟩ := o3_ok h
  exact ar_all ⟨Nat.le_of_ble_eq_true rfl, rfl⟩
theorem rc_X7_greatest : ∀ as S P, s_X7_greatest as S P → ∃ k i r, as = aR k i :: r ∧ ci k = 8 ∧ (obK k = true ∨ k = 13) := fun as S P h => by
  obtain ⟨_, _, _, rfl, _⟩ := o3_ok h
  exact ⟨_, _, _, rfl, rfl, Or.inl rfl⟩
set_option maxRecDepth 8000 in
theorem vc_X7_greatest : ∀ (G : Gt) (Q : Out → Sto → Prop) (as : List AV) (S : Sto), s_X7_greatest as S Q → Seg tb_X7_greatest G Q 1 0 [] (0, fun _ => 0) → G 0 (argL as 4) [] S 0 := by
  intro G Q as S h hs
  obtain ⟨d, r, isM, rfl, S0, hr, h0, h1⟩ := o3_ok h
  have e12 := hr.ct.1
  have e28 := hr.ct.2.2.1
  have hn := hr.wf.2.1.2.2.1
  have hn20 := hr.wf.2.1.1
  have g22 : ∀ p : Bool, p = dP (knG S0 d r) → G 22 [some (aR 1 0), some (aI d), some (aI r), some (aI isM)] [aI (bV p), aR 1 0] S 0 := fun p hp => by
    refine hs [] 150 22 _ _ _ _ ?_
    refine ⟨rfl, rfl, p, true, true, rfl, rfl, rfl, fun u => ⟨fun w => absurd rfl w, fun _ => h0 (dP_n hp u)⟩, fun _ v => (nomatch v), fun _ _ v => (nomatch v), fun u _ _ => ⟨fun _ => ?_, fun w => absurd w one0⟩⟩
    have hk := dP_e hp u
    have hvd : vp_in d 20 := d_in (nm_in hk.1) hn20 (by omega)
    have hi := nm_lt hk.1 (by omega)
    have h2 := h1 hk
    have hr1 : ref (lastS S 0) S0 := onlyM.la.ref hr
    have c10 := (hr1.ro hi).2.2.2.2.2.2.2.1
    have hs0 := sp_0 (hr.wf.2.2.2.2.2.2.1 _ hi)
    refine ⟨hvd, ?_⟩
    rw [c10]
    refine ⟨fun z => ⟨rfl, rfl, S0, hr1, nm_in hk.1, nm_in hk.2, fun y => z (hs0.mpr y), h2⟩, fun z => ?_⟩
    unfold greatH at h2
    rw [if_pos (hs0.mp z)] at h2
    exact h2
  refine hs [22] 150 0 _ _ _ _ ?_
  exact ⟨rfl, rfl, _, e12, by omega, dz_eq (fun q => g22 false (dP_f fun z => q z.1).symm) fun q1 => ⟨rfl, rfl, _, e28, by omega, dz_eq (fun q => g22 false (dP_f fun z => q z.2).symm) fun q2 => g22 true (dP_t ⟨q1, q2⟩).symm⟩⟩
theorem ct_X7_greatest {l : Launch} (hl : l.stackTraces = false) (hNL : NewL l) : CT l yX7_greatest cX7_greatest 4 (some .int) 3 0 s_X7_greatest := CT_of hl hNL (by decide +kernel) (own := "HeavyHaulModel") rfl (ini := false) (fun q => nomatch q) chk_X7_greatest (cal_X7_greatest hl hNL) ar_X7_greatest vc_X7_greatest
def s_X7_greatestAnew : SP := s_X7_greatest
def tb_X7_greatestAnew : Tb := [(0, .aload_n 0, 1, x0), (1, .iload_n 1, 1, x0), (2, .iload_n 2, 1, x0), (3, .iload_n 3, 1, x0), (4, .invokevirtual 158, 3, xS 4 0 s_X7_greatest), (7, .ireturn, 1, x0)]
theorem chk_X7_greatestAnew : chkTb cX7_greatestAnew "HeavyHaulModel" false tb_X7_greatestAnew = true := by decide +kernel
theorem cal_X7_greatestAnew {l : Launch} (hl : l.stackTraces = false) (hNL : NewL l) : CallsOK l "HeavyHaulModel" 4 tb_X7_greatestAnew := callsOK_f ⟨⟨_, _, 4, 3, _, 8, (ct_X7_greatest hl hNL), ⟨List.mem_of_getElem? (i := 968) (by decide +kernel), List.mem_of_getElem? (i := 44) (by decide +kernel), List.mem_of_getElem? (i := 977) (by decide +kernel), ⟨by decide +kernel, by decide +kernel⟩, by decide +kernel, by decide⟩, List.mem_of_getElem? (i := 966) (by decide +kernel), List.mem_of_getElem? (i := 967) (by decide +kernel), by decide, by decide, rc_X7_greatest⟩, trivial⟩
theorem ar_X7_greatestAnew : ∀ as S P, s_X7_greatestAnew as S P → as.length ≤ 4 ∧ ∀ a ∈ as, catV a = 1 := fun as S P h => by
  obtain ⟨_, _, _, rfl, _⟩ := o3_ok h
  exact ar_all ⟨Nat.le_of_ble_eq_true rfl, rfl⟩
theorem rc_X7_greatestAnew : ∀ as S P, s_X7_greatestAnew as S P → ∃ k i r, as = aR k i :: r ∧ ci k = 8 ∧ (obK k = true ∨ k = 13) := fun as S P h => by
  obtain ⟨_, _, _, rfl, _⟩ := o3_ok h
  exact ⟨_, _, _, rfl, rfl, Or.inl rfl⟩
theorem vc_X7_greatestAnew : ∀ (G : Gt) (Q : Out → Sto → Prop) (as : List AV) (S : Sto), s_X7_greatestAnew as S Q → Seg tb_X7_greatestAnew G Q 1 0 [] (0, fun _ => 0) → G 0 (argL as 4) [] S 0 := by
  intro G Q as S h hs
  obtain ⟨d, r, isM, rfl, S0, hr, h0, h1⟩ := o3_ok h
  refine hs [] 150 0 _ _ _ _ ?_
  exact ⟨rfl, rfl, S0, hr, h0, h1⟩
theorem ct_X7_greatestAnew {l : Launch} (hl : l.stackTraces = false) (hNL : NewL l) : CT l yX7_greatestAnew cX7_greatestAnew 4 (some .int) 4 0 s_X7_greatestAnew := CT_of hl hNL (by decide +kernel) (own := "HeavyHaulModel") rfl (ini := false) (fun q => nomatch q) chk_X7_greatestAnew (cal_X7_greatestAnew hl hNL) ar_X7_greatestAnew vc_X7_greatestAnew
def fitA (n x : Int32) : Prop := rg n 0 999 ∧ rg x 1 99999
def s_X7_authority : SP := fun as S Q => o3 1 as fun a n x => (¬ nm a 4 → Q (Sum.inl none) (lastS S 1)) ∧ (nm a 4 → ¬ fitA n x → Q (Sum.inl none) (lastS S 2)) ∧ (nm a 4 → fitA n x → Q (Sum.inl none) (wrI (wrI (lastS S 0) 10 27 a.toNatClampNeg n) 10 28 a.toNatClampNeg x))
def tb_X7_authority : Tb := [(0, .aload_n 0, 1, x0), (1, .iload_n 1, 1, x0), (2, .invokestatic 127, 3, xS 1 0 s_X7_isAuthorityB), (5, .iload_n 2, 1, x0), (6, .iconst 0, 1, xI (0)), (7, .sipush 999, 3, xI (999)), (10, .invokestatic 109, 3, xS 3 0 s_X7_inB), (13, .ifCond .eq 17, 3, xN 30), (16, .iload_n 3, 1, x0), (17, .iconst 1, 1, xI (1)), (18, .ldc 104, 2, xC 0 0 99999 [782]), (20, .invokestatic 109, 3, xS 3 0 s_X7_inB), (23, .ifCond .eq 7, 3, xN 30), (26, .iconst 1, 1, xI (1)), (27, .goto 4, 3, xN 31), (30, .iconst 0, 1, xI (0)), (31, .iconst 1, 1, xI (1)), (32, .invokevirtual 123, 3, xS 4 0 s_X7_goesB), (35, .ifCond .eq 17, 3, xN 52), (38, .aload_n 0, 1, x0), (39, .getfield 86, 3, xF 8 29 [812]), (42, .iload_n 1, 1, x0), (43, .iload_n 2, 1, x0), (44, .iastore, 1, x0), (45, .aload_n 0, 1, x0), (46, .getfield 89, 3, xF 8 30 [813]), (49, .iload_n 1, 1, x0), (50, .iload_n 3, 1, x0), (51, .iastore, 1, x0), (52, .return_, 1, x0)]
theorem chk_X7_authority : chkTb cX7_authority "HeavyHaulModel" false tb_X7_authority = true := by decide +kernel
theorem cal_X7_authority {l : Launch} (hl : l.stackTraces = false) (hNL : NewL l) : CallsOK l "HeavyHaulModel" 2 tb_X7_authority := callsOK_f ⟨⟨_, _, 1, 1, _, (ct_X7_isAuthorityB hl hNL), ⟨List.mem_of_getElem? (i := 922) (by decide +kernel), List.mem_of_getElem? (i := 44) (by decide +kernel), List.mem_of_getElem? (i := 920) (by decide +kernel), ⟨by decide +kernel, by decide +kernel⟩, by decide +kernel, by decide⟩, List.mem_of_getElem? (i := 921) (by decide +kernel), by decide⟩, ⟨_, _, 3, 0, _, (ct_X7_inB hl hNL), ⟨List.mem_of_getElem? (i := 911) (by decide +kernel), List.mem_of_getElem? (i := 44) (by decide +kernel), List.mem_of_getElem? (i := 909) (by decide +kernel), ⟨by decide +kernel, by decide +kernel⟩, by decide +kernel, by decide⟩, List.mem_of_getElem? (i := 910) (by decide +kernel), by decide⟩, ⟨_, _, 3, 0, _, (ct_X7_inB hl hNL), ⟨List.mem_of_getElem? (i := 911) (by decide +kernel), List.mem_of_getElem? (i := 44) (by decide +kernel), List.mem_of_getElem? (i := 909) (by decide +kernel), ⟨by decide +kernel, by decide +kernel⟩, by decide +kernel, by decide⟩, List.mem_of_getElem? (i := 910) (by decide +kernel), by decide⟩, ⟨_, _, 4, 0, _, 8, (ct_X7_goesB hl hNL), ⟨List.mem_of_getElem? (i := 915) (by decide +kernel), List.mem_of_getElem? (i := 44) (by decide +kernel), List.mem_of_getElem? (i := 912) (by decide +kernel), ⟨by decide +kernel, by decide +kernel⟩, by decide +kernel, by decide⟩, List.mem_of_getElem? (i := 914) (by decide +kernel), List.mem_of_getElem? (i := 25) (by decide +kernel), by decide, by decide, rc_X7_goesB⟩, trivial⟩
theorem ar_X7_authority : ∀ as S P, s_X7_authority as S P → as.length ≤ 4 ∧ ∀ a ∈ as, catV a = 1 := fun as S P h => by
  obtain ⟨_, _, _, rfl, _⟩ := o3_ok h
  exact ar_all ⟨Nat.le_of_ble_eq_true rfl, rfl⟩
theorem rc_X7_authority : ∀ as S P, s_X7_authority as S P → ∃ k i r, as = aR k i :: r ∧ ci k = 8 ∧ (obK k = true ∨ k = 13) := fun as S P h => by
  obtain ⟨_, _, _, rfl, _⟩ := o3_ok h
  exact ⟨_, _, _, rfl, rfl, Or.inl rfl⟩
set_option maxRecDepth 8000 in
theorem vc_X7_authority : ∀ (G : Gt) (Q : Out → Sto → Prop) (as : List AV) (S : Sto), s_X7_authority as S Q → Seg tb_X7_authority G Q 0 0 [] (0, fun _ => 0) → G 0 (argL as 4) [] S 0 := by
  intro G Q as S h hs
  obtain ⟨a, n, x, rfl, h0, h1, h3⟩ := o3_ok h
  have g31 : ∀ q : Bool, q = dP (fitA n x) → G 31 [some (aR 1 0), some (aI a), some (aI n), some (aI x)] [aI (bV q), aI (bV (dP (nm a 4))), aR 1 0] S 0 := fun q hq => by
    refine hs [] 150 31 _ _ _ _ ?_
    refine ⟨rfl, rfl, dP (nm a 4), q, true, rfl, rfl, rfl, fun u => ⟨fun _ => h0 (dP_n rfl u), fun w => absurd rfl w⟩, fun u v => ⟨fun _ => h1 (dP_e rfl u) (dP_n hq v), fun w => absurd rfl w⟩, fun _ _ v => (nomatch v), fun u v _ => ⟨fun w => absurd w one0, fun _ => ?_⟩⟩
    have hk : nm a 4 := dP_e rfl u
    have hv : vp_in a 4 := d_in (n := 4) (nm_in (n := 4) hk) (by omega) (by omega)
    exact ⟨hv, hv, h3 hk (dP_e hq v)⟩
  refine hs [31] 150 0 _ _ _ _ ?_
  exact dz_eq (fun q => g31 false (dP_f fun z => q z.1).symm) fun q1 => dz_eq (fun q => g31 false (dP_f fun z => q z.2).symm) fun q2 => g31 true (dP_t ⟨q1, q2⟩).symm
theorem ct_X7_authority {l : Launch} (hl : l.stackTraces = false) (hNL : NewL l) : CT l yX7_authority cX7_authority 4 none 2 0 s_X7_authority := CT_of hl hNL (by decide +kernel) (own := "HeavyHaulModel") rfl (ini := false) (fun q => nomatch q) chk_X7_authority (cal_X7_authority hl hNL) ar_X7_authority vc_X7_authority
def mkPS (S : Sto) (m r a f t : Int32) : Sto := wrI (wrI (wrI (wrI (wrI (lastS S 0) 10 29 (4 * m).toNatClampNeg r) 10 29 (4 * m + 1).toNatClampNeg a) 10 29 (4 * m + 2).toNatClampNeg f) 10 29 (4 * m + 3).toNatClampNeg t) 1 32 0 (m + 1)
def s_X7_permit : SP := fun as S Q => o4 1 as fun r a f t => ∃ S0, ref S S0 ∧ (¬ knP S0 r a → Q (Sum.inl (some (aI 0))) (lastS S 1)) ∧ (knP S0 r a → ¬ perF f t → Q (Sum.inl (some (aI 0))) (lastS S 2)) ∧ (knP S0 r a → perF f t → ¬ canP S0 a f → Q (Sum.inl (some (aI 0))) (lastS S 3)) ∧
  (knP S0 r a → perF f t → canP S0 a f → Q (Sum.inl (some (aI (S.1 1 32 0 + 1)))) (mkPS S (S.1 1 32 0) r a f t))
def tb_X7_permit : Tb := [(0, .aload_n 0, 1, x0), (1, .iload_n 1, 1, x0), (2, .invokevirtual 142, 3, xS 2 0 s_X7_isRigB), (5, .ifCond .eq 14, 3, xN 19), (8, .iload_n 2, 1, x0), (9, .invokestatic 127, 3, xS 1 0 s_X7_isAuthorityB), (12, .ifCond .eq 7, 3, xN 19), (15, .iconst 1, 1, xI (1)), (16, .goto 4, 3, xN 20), (19, .iconst 0, 1, xI (0)), (20, .istore 5, 2, x0), (22, .iload_n 3, 1, x0), (23, .iload 4, 2, x0), (25, .invokestatic 135, 3, xS 2 0 s_X7_areTensB), (28, .istore 6, 2, x0), (30, .aload_n 0, 1, x0), (31, .iload 5, 2, x0), (33, .iload 6, 2, x0), (35, .iload 5, 2, x0), (37, .ifCond .eq 36, 3, xN 73), (40, .iload 6, 2, x0), (42, .ifCond .eq 31, 3, xN 73), (45, .iload_n 3, 1, x0), (46, .aload_n 0, 1, x0), (47, .getfield 161, 3, xF 8 0 [783]), (50, .aload_n 0, 1, x0), (51, .getfield 86, 3, xF 8 29 [812]), (54, .iload_n 2, 1, x0), (55, .iaload, 1, x0), (56, .iadd, 1, x0), (57, .if_icmp .lt 16, 3, xN 73), (60, .aload_n 0, 1, x0), (61, .getfield 164, 3, xF 8 32 [815]), (64, .bipush 40, 2, xI (40)), (66, .if_icmp .ge 7, 3, xN 73), (69, .iconst 1, 1, xI (1)), (70, .goto 4, 3, xN 74), (73, .iconst 0, 1, xI (0)), (74, .invokevirtual 123, 3, xS 4 0 s_X7_goesB), (77, .ifCond .ne 5, 3, xN 82), (80, .iconst 0, 1, xI (0)), (81, .ireturn, 1, x0), (82, .iconst 4, 1, xI (4)), (83, .aload_n 0, 1, x0), (84, .getfield 164, 3, xF 8 32 [815]), (87, .imul, 1, x0), (88, .istore 7, 2, x0), (90, .aload_n 0, 1, x0), (91, .getfield 92, 3, xF 8 31 [814]), (94, .iload 7, 2, x0), (96, .iload_n 1, 1, x0), (97, .iastore, 1, x0), (98, .aload_n 0, 1, x0), (99, .getfield 92, 3, xF 8 31 [814]), (102, .iload 7, 2, x0), (104, .iconst 1, 1, xI (1)), (105, .iadd, 1, x0), (106, .iload_n 2, 1, x0), (107, .iastore, 1, x0), (108, .aload_n 0, 1, x0), (109, .getfield 92, 3, xF 8 31 [814]), (112, .iload 7, 2, x0), (114, .iconst 2, 1, xI (2)), (115, .iadd, 1, x0), (116, .iload_n 3, 1, x0), (117, .iastore, 1, x0), (118, .aload_n 0, 1, x0), (119, .getfield 92, 3, xF 8 31 [814]), (122, .iload 7, 2, x0), (124, .iconst 3, 1, xI (3)), (125, .iadd, 1, x0), (126, .iload 4, 2, x0), (128, .iastore, 1, x0), (129, .aload_n 0, 1, x0), (130, .dup, 1, x0), (131, .getfield 164, 3, xF 8 32 [815]), (134, .iconst 1, 1, xI (1)), (135, .iadd, 1, x0), (136, .putfield 164, 3, xF 8 32 [815]), (139, .aload_n 0, 1, x0), (140, .getfield 164, 3, xF 8 32 [815]), (143, .ireturn, 1, x0)]
theorem chk_X7_permit : chkTb cX7_permit "HeavyHaulModel" false tb_X7_permit = true := by decide +kernel
theorem cal_X7_permit {l : Launch} (hl : l.stackTraces = false) (hNL : NewL l) : CallsOK l "HeavyHaulModel" 2 tb_X7_permit := callsOK_f ⟨⟨_, _, 2, 1, _, 8, (ct_X7_isRigB hl hNL), ⟨List.mem_of_getElem? (i := 951) (by decide +kernel), List.mem_of_getElem? (i := 44) (by decide +kernel), List.mem_of_getElem? (i := 948) (by decide +kernel), ⟨by decide +kernel, by decide +kernel⟩, by decide +kernel, by decide⟩, List.mem_of_getElem? (i := 950) (by decide +kernel), List.mem_of_getElem? (i := 27) (by decide +kernel), by decide, by decide, rc_X7_isRigB⟩, ⟨_, _, 1, 1, _, (ct_X7_isAuthorityB hl hNL), ⟨List.mem_of_getElem? (i := 922) (by decide +kernel), List.mem_of_getElem? (i := 44) (by decide +kernel), List.mem_of_getElem? (i := 920) (by decide +kernel), ⟨by decide +kernel, by decide +kernel⟩, by decide +kernel, by decide⟩, List.mem_of_getElem? (i := 921) (by decide +kernel), by decide⟩, ⟨_, _, 2, 1, _, (ct_X7_areTensB hl hNL), ⟨List.mem_of_getElem? (i := 939) (by decide +kernel), List.mem_of_getElem? (i := 44) (by decide +kernel), List.mem_of_getElem? (i := 937) (by decide +kernel), ⟨by decide +kernel, by decide +kernel⟩, by decide +kernel, by decide⟩, List.mem_of_getElem? (i := 938) (by decide +kernel), by decide⟩, ⟨_, _, 4, 0, _, 8, (ct_X7_goesB hl hNL), ⟨List.mem_of_getElem? (i := 915) (by decide +kernel), List.mem_of_getElem? (i := 44) (by decide +kernel), List.mem_of_getElem? (i := 912) (by decide +kernel), ⟨by decide +kernel, by decide +kernel⟩, by decide +kernel, by decide⟩, List.mem_of_getElem? (i := 914) (by decide +kernel), List.mem_of_getElem? (i := 25) (by decide +kernel), by decide, by decide, rc_X7_goesB⟩, trivial⟩
theorem ar_X7_permit : ∀ as S P, s_X7_permit as S P → as.length ≤ 8 ∧ ∀ a ∈ as, catV a = 1 := fun as S P h => by
  obtain ⟨_, _, _, _, rfl, _⟩ := o4_ok h
  exact ar_all ⟨Nat.le_of_ble_eq_true rfl, rfl⟩
theorem rc_X7_permit : ∀ as S P, s_X7_permit as S P → ∃ k i r, as = aR k i :: r ∧ ci k = 8 ∧ (obK k = true ∨ k = 13) := fun as S P h => by
  obtain ⟨_, _, _, _, rfl, _⟩ := o4_ok h
  exact ⟨_, _, _, rfl, rfl, Or.inl rfl⟩
set_option maxRecDepth 8000 in
theorem vc_X7_permit : ∀ (G : Gt) (Q : Out → Sto → Prop) (as : List AV) (S : Sto), s_X7_permit as S Q → Seg tb_X7_permit G Q 1 0 [] (0, fun _ => 0) → G 0 (argL as 8) [] S 0 := by
  intro G Q as S h hs
  obtain ⟨r, a, f, t, rfl, S0, hr, h0, h1, h2, h3⟩ := o4_ok h
  have e28 := hr.ct.2.2.1
  have e32 := hr.ct.2.2.2.1
  have e00 : S.1 1 0 0 = S0.1 0 9 0 := hr.ct.2.2.2.2.2
  have e27 : ∀ i, S.1 10 27 i = S0.1 10 0 i := fun i => by
    rw [hr.2.2.1 27 (by decide)]
    exact ((hr.1.2.2.2.2.2.2.2.2.2.1 i).1).symm
  have hn := hr.wf.2.1.2.2.1
  have hn23 := hr.wf.2.1.2.2.2.1
  have g74 : ∀ p q y : Bool, p = dP (knP S0 r a) → q = dP (perF f t) → (p = true → q = true → y = dP (canP S0 a f)) → G 74 [some (aR 1 0), some (aI r), some (aI a), some (aI f), some (aI t), some (aI (bV p)), some (aI (bV q)), none] [aI (bV y), aI (bV q), aI (bV p), aR 1 0] S 0 := fun p q y hp hq hy => by
    refine hs [] 150 74 _ _ _ _ ?_
    refine ⟨rfl, rfl, p, q, y, rfl, rfl, rfl, fun u => ⟨fun w => absurd rfl w, fun _ => h0 (dP_n hp u)⟩, fun u v => ⟨fun w => absurd rfl w, fun _ => h1 (dP_e hp u) (dP_n hq v)⟩, fun u v x => ⟨fun w => absurd rfl w, fun _ => h2 (dP_e hp u) (dP_e hq v) (dP_n (hy u v) x)⟩, fun u v x => ⟨fun _ => ?_, fun w => absurd w one0⟩⟩
    have hc := dP_e (hy u v) x
    have h4 := h3 (dP_e hp u) (dP_e hq v) hc
    have hm : S0.2.2 23 < 40 := (nI_lt2 (by omega) (by omega)).mp hc.2
    have hv : ∀ c, c < 4 → vp_in ((4 : Int32) * S.1 1 32 0 + nI c) 160 := fun c hc => by
      rw [e32]
      exact iv_2 (a := 4) (n := 160) (by omega) (by omega)
    have hv0 : vp_in ((4 : Int32) * S.1 1 32 0) 160 := by
      rw [e32]
      exact iv_1 (a := 4) (n := 160) (by omega) (by omega)
    exact ⟨hv0, hv 1 (by omega), hv 2 (by omega), hv 3 (by omega), h4⟩
  have g20 : ∀ p : Bool, p = dP (knP S0 r a) → G 20 [some (aR 1 0), some (aI r), some (aI a), some (aI f), some (aI t), none, none, none] [aI (bV p)] S 0 := fun p hp => by
    refine hs [74] 150 20 _ _ _ _ ?_
    cases p with
    | false => exact ⟨fun _ => g74 false (dP (perF f t)) false hp rfl (fun z => nomatch z), fun x => absurd rfl x⟩
    | true =>
      have hk := dP_e hp rfl
      have hva : vp_in a 4 := d_in (n := 4) (nm_in (n := 4) hk.2) (by omega) (by omega)
      refine ⟨fun x => absurd x (by decide), fun _ => dz_eq (fun x => g74 true (dP (perF f t)) false hp rfl (fun _ z => absurd (dP_e rfl z) x)) fun x => ⟨hva, fun y => ?_, fun y => ⟨fun z => ?_, fun z => ?_⟩⟩⟩
      · have y' : f < S0.1 0 9 0 + S0.1 10 0 a.toNatClampNeg := by rw [← e00, ← e27]; exact y
        exact g74 true (dP (perF f t)) false hp rfl (fun _ _ => (dP_f fun w => absurd w.1 (Int32.not_le.mpr y')).symm)
      · have z' : nI 40 ≤ nI (S0.2.2 23) := by rw [← e32]; exact z
        exact g74 true (dP (perF f t)) false hp rfl (fun _ _ => (dP_f fun w => absurd w.2 (Int32.not_lt.mpr z')).symm)
      · have y' : ¬ f < S0.1 0 9 0 + S0.1 10 0 a.toNatClampNeg := by rw [← e00, ← e27]; exact y
        have z' : ¬ nI 40 ≤ nI (S0.2.2 23) := by rw [← e32]; exact z
        exact g74 true (dP (perF f t)) true hp rfl (fun _ _ => (dP_t ⟨Int32.not_lt.mp y', Int32.not_le.mp z'⟩).symm)
  refine hs [20] 150 0 _ _ _ _ ?_
  exact ⟨rfl, rfl, _, e28, by omega, dz_eq (fun q => g20 false (dP_f fun z => q z.1).symm) fun q1 => dz_eq (fun q => g20 false (dP_f fun z => q z.2).symm) fun q2 => g20 true (dP_t ⟨q1, q2⟩).symm⟩
theorem ct_X7_permit {l : Launch} (hl : l.stackTraces = false) (hNL : NewL l) : CT l yX7_permit cX7_permit 8 (some .int) 2 0 s_X7_permit := CT_of hl hNL (by decide +kernel) (own := "HeavyHaulModel") rfl (ini := false) (fun q => nomatch q) chk_X7_permit (cal_X7_permit hl hNL) ar_X7_permit vc_X7_permit
def mkES (S : Sto) (m a f t : Int32) : Sto := wrI (wrI (wrI (wrI (lastS S 0) 10 30 (3 * m).toNatClampNeg a) 10 30 (3 * m + 1).toNatClampNeg f) 10 30 (3 * m + 2).toNatClampNeg t) 1 34 0 (m + 1)
def s_X7_embargo : SP := fun as S Q => o3 1 as fun a f t => ∃ S0, ref S S0 ∧ (¬ nm a 4 → Q (Sum.inl (some (aI 0))) (lastS S 1)) ∧ (nm a 4 → ¬ perF f t → Q (Sum.inl (some (aI 0))) (lastS S 2)) ∧ (nm a 4 → perF f t → ¬ S.1 1 34 0 < 20 → Q (Sum.inl (some (aI 0))) (lastS S 3)) ∧
  (nm a 4 → perF f t → S.1 1 34 0 < 20 → Q (Sum.inl (some (aI (S.1 1 34 0 + 1)))) (mkES S (S.1 1 34 0) a f t))
def tb_X7_embargo : Tb := [(0, .aload_n 0, 1, x0), (1, .iload_n 1, 1, x0), (2, .invokestatic 127, 3, xS 1 0 s_X7_isAuthorityB), (5, .iload_n 2, 1, x0), (6, .iload_n 3, 1, x0), (7, .invokestatic 135, 3, xS 2 0 s_X7_areTensB), (10, .aload_n 0, 1, x0), (11, .getfield 167, 3, xF 8 34 [817]), (14, .bipush 20, 2, xI (20)), (16, .if_icmp .ge 7, 3, xN 23), (19, .iconst 1, 1, xI (1)), (20, .goto 4, 3, xN 24), (23, .iconst 0, 1, xI (0)), (24, .invokevirtual 123, 3, xS 4 0 s_X7_goesB), (27, .ifCond .ne 5, 3, xN 32), (30, .iconst 0, 1, xI (0)), (31, .ireturn, 1, x0), (32, .iconst 3, 1, xI (3)), (33, .aload_n 0, 1, x0), (34, .getfield 167, 3, xF 8 34 [817]), (37, .imul, 1, x0), (38, .istore 4, 2, x0), (40, .aload_n 0, 1, x0), (41, .getfield 95, 3, xF 8 33 [816]), (44, .iload 4, 2, x0), (46, .iload_n 1, 1, x0), (47, .iastore, 1, x0), (48, .aload_n 0, 1, x0), (49, .getfield 95, 3, xF 8 33 [816]), (52, .iload 4, 2, x0), (54, .iconst 1, 1, xI (1)), (55, .iadd, 1, x0), (56, .iload_n 2, 1, x0), (57, .iastore, 1, x0), (58, .aload_n 0, 1, x0), (59, .getfield 95, 3, xF 8 33 [816]), (62, .iload 4, 2, x0), (64, .iconst 2, 1, xI (2)), (65, .iadd, 1, x0), (66, .iload_n 3, 1, x0), (67, .iastore, 1, x0), (68, .aload_n 0, 1, x0), (69, .dup, 1, x0), (70, .getfield 167, 3, xF 8 34 [817]), (73, .iconst 1, 1, xI (1)), (74, .iadd, 1, x0), (75, .putfield 167, 3, xF 8 34 [817]), (78, .aload_n 0, 1, x0), (79, .getfield 167, 3, xF 8 34 [817]), (82, .ireturn, 1, x0)]
theorem chk_X7_embargo : chkTb cX7_embargo "HeavyHaulModel" false tb_X7_embargo = true := by decide +kernel
theorem cal_X7_embargo {l : Launch} (hl : l.stackTraces = false) (hNL : NewL l) : CallsOK l "HeavyHaulModel" 2 tb_X7_embargo := callsOK_f ⟨⟨_, _, 1, 1, _, (ct_X7_isAuthorityB hl hNL), ⟨List.mem_of_getElem? (i := 922) (by decide +kernel), List.mem_of_getElem? (i := 44) (by decide +kernel), List.mem_of_getElem? (i := 920) (by decide +kernel), ⟨by decide +kernel, by decide +kernel⟩, by decide +kernel, by decide⟩, List.mem_of_getElem? (i := 921) (by decide +kernel), by decide⟩, ⟨_, _, 2, 1, _, (ct_X7_areTensB hl hNL), ⟨List.mem_of_getElem? (i := 939) (by decide +kernel), List.mem_of_getElem? (i := 44) (by decide +kernel), List.mem_of_getElem? (i := 937) (by decide +kernel), ⟨by decide +kernel, by decide +kernel⟩, by decide +kernel, by decide⟩, List.mem_of_getElem? (i := 938) (by decide +kernel), by decide⟩, ⟨_, _, 4, 0, _, 8, (ct_X7_goesB hl hNL), ⟨List.mem_of_getElem? (i := 915) (by decide +kernel), List.mem_of_getElem? (i := 44) (by decide +kernel), List.mem_of_getElem? (i := 912) (by decide +kernel), ⟨by decide +kernel, by decide +kernel⟩, by decide +kernel, by decide⟩, List.mem_of_getElem? (i := 914) (by decide +kernel), List.mem_of_getElem? (i := 25) (by decide +kernel), by decide, by decide, rc_X7_goesB⟩, trivial⟩
theorem ar_X7_embargo : ∀ as S P, s_X7_embargo as S P → as.length ≤ 5 ∧ ∀ a ∈ as, catV a = 1 := fun as S P h => by
  obtain ⟨_, _, _, rfl, _⟩ := o3_ok h
  exact ar_all ⟨Nat.le_of_ble_eq_true rfl, rfl⟩
theorem rc_X7_embargo : ∀ as S P, s_X7_embargo as S P → ∃ k i r, as = aR k i :: r ∧ ci k = 8 ∧ (obK k = true ∨ k = 13) := fun as S P h => by
  obtain ⟨_, _, _, rfl, _⟩ := o3_ok h
  exact ⟨_, _, _, rfl, rfl, Or.inl rfl⟩
set_option maxRecDepth 8000 in
theorem vc_X7_embargo : ∀ (G : Gt) (Q : Out → Sto → Prop) (as : List AV) (S : Sto), s_X7_embargo as S Q → Seg tb_X7_embargo G Q 1 0 [] (0, fun _ => 0) → G 0 (argL as 5) [] S 0 := by
  intro G Q as S h hs
  obtain ⟨a, f, t, rfl, S0, hr, h0, h1, h2, h3⟩ := o3_ok h
  have e34 := hr.ct.2.2.2.2.1
  have hn24 := hr.wf.2.1.2.2.2.2
  refine hs [] 150 0 _ _ _ _ ?_
  refine ⟨fun z => ⟨rfl, rfl, dP (nm a 4), dP (perF f t), false, rfl, rfl, rfl, fun u => ⟨fun w => absurd rfl w, fun _ => h0 (dP_n rfl u)⟩, fun u v => ⟨fun w => absurd rfl w, fun _ => h1 (dP_e rfl u) (dP_n rfl v)⟩, fun u v _ => ⟨fun w => absurd rfl w, fun _ => h2 (dP_e rfl u) (dP_e rfl v) (Int32.not_lt.mpr z)⟩, fun _ _ w => (nomatch w)⟩, fun z => ⟨rfl, rfl, dP (nm a 4), dP (perF f t), true, rfl, rfl, rfl, fun u => ⟨fun w => absurd rfl w, fun _ => h0 (dP_n rfl u)⟩, fun u v => ⟨fun w => absurd rfl w, fun _ => h1 (dP_e rfl u) (dP_n rfl v)⟩, fun _ _ w => (nomatch w), fun u v _ => ⟨fun _ => ?_, fun w => absurd w one0⟩⟩⟩
  have z' : S.1 1 34 0 < 20 := Int32.not_le.mp z
  have h4 := h3 (dP_e rfl u) (dP_e rfl v) z'
  have hm : S0.2.2 24 < 20 := by
    rw [e34] at z'
    exact (nI_lt2 (by omega) (by omega)).mp z'
  have hv : ∀ c, c < 3 → vp_in ((3 : Int32) * S.1 1 34 0 + nI c) 60 := fun c hc => by
    rw [e34]
    exact iv_2 (a := 3) (n := 60) (by omega) (by omega)
  have hv0 : vp_in ((3 : Int32) * S.1 1 34 0) 60 := by
    rw [e34]
    exact iv_1 (a := 3) (n := 60) (by omega) (by omega)
  exact ⟨hv0, hv 1 (by omega), hv 2 (by omega), h4⟩
theorem ct_X7_embargo {l : Launch} (hl : l.stackTraces = false) (hNL : NewL l) : CT l yX7_embargo cX7_embargo 5 (some .int) 2 0 s_X7_embargo := CT_of hl hNL (by decide +kernel) (own := "HeavyHaulModel") rfl (ini := false) (fun q => nomatch q) chk_X7_embargo (cal_X7_embargo hl hNL) ar_X7_embargo vc_X7_embargo
