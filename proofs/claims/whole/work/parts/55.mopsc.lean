/-! THE MODEL's PUBLIC METHODS: drives -/
def s_X7_why : SP := fun as S Q => o3 1 as fun r d t => ∃ S0, ref S S0 ∧ (¬ knY S0 r d → Q (Sum.inl (some (aI 0))) (lastS S 1)) ∧ (knY S0 r d → ¬ rg t 0 9999 → Q (Sum.inl (some (aI 0))) (lastS S 2)) ∧ (knY S0 r d → rg t 0 9999 → Q (Sum.inl (some (aI (reasonH S0 r d t)))) (lastS S 0))
def tb_X7_why : Tb := [(0, .aload_n 0, 1, x0), (1, .aload_n 0, 1, x0), (2, .iload_n 1, 1, x0), (3, .invokevirtual 142, 3, xS 2 0 s_X7_isRigB), (6, .ifCond .eq 15, 3, xN 21), (9, .aload_n 0, 1, x0), (10, .iload_n 2, 1, x0), (11, .invokevirtual 130, 3, xS 2 0 s_X7_isRoadB), (14, .ifCond .eq 7, 3, xN 21), (17, .iconst 1, 1, xI (1)), (18, .goto 4, 3, xN 22), (21, .iconst 0, 1, xI (0)), (22, .iload_n 3, 1, x0), (23, .iconst 0, 1, xI (0)), (24, .sipush 9999, 3, xI (9999)), (27, .invokestatic 109, 3, xS 3 0 s_X7_inB), (30, .iconst 1, 1, xI (1)), (31, .invokevirtual 123, 3, xS 4 0 s_X7_goesB), (34, .ifCond .ne 5, 3, xN 39), (37, .iconst 0, 1, xI (0)), (38, .ireturn, 1, x0), (39, .aload_n 0, 1, x0), (40, .iload_n 1, 1, x0), (41, .iload_n 2, 1, x0), (42, .iload_n 3, 1, x0), (43, .aload_n 0, 1, x0), (44, .iload_n 1, 1, x0), (45, .iload_n 2, 1, x0), (46, .invokevirtual 180, 3, xS 3 0 s_X7_isBorne), (49, .invokevirtual 183, 3, xS 5 0 s_X7_whyNot), (52, .ireturn, 1, x0)]
theorem chk_X7_why : chkTb cX7_why "HeavyHaulModel" false tb_X7_why = true := by decide +kernel
theorem cal_X7_why {l : Launch} (hl : l.stackTraces = false) (hNL : NewL l) : CallsOK l "HeavyHaulModel" 4 tb_X7_why := callsOK_f ⟨⟨_, _, 2, 1, _, 8, (ct_X7_isRigB hl hNL), ⟨List.mem_of_getElem? (i := 951) (by decide +kernel), List.mem_of_getElem? (i := 44) (by decide +kernel), List.mem_of_getElem? (i := 948) (by decide +kernel), ⟨by decide +kernel, by decide +kernel⟩, by decide +kernel, by decide⟩, List.mem_of_getElem? (i := 950) (by decide +kernel), List.mem_of_getElem? (i := 27) (by decide +kernel), by decide, by decide, rc_X7_isRigB⟩, ⟨_, _, 2, 1, _, 8, (ct_X7_isRoadB hl hNL), ⟨List.mem_of_getElem? (i := 930) (by decide +kernel), List.mem_of_getElem? (i := 44) (by decide +kernel), List.mem_of_getElem? (i := 927) (by decide +kernel), ⟨by decide +kernel, by decide +kernel⟩, by decide +kernel, by decide⟩, List.mem_of_getElem? (i := 929) (by decide +kernel), List.mem_of_getElem? (i := 26) (by decide +kernel), by decide, by decide, rc_X7_isRoadB⟩, ⟨_, _, 3, 0, _, (ct_X7_inB hl hNL), ⟨List.mem_of_getElem? (i := 911) (by decide +kernel), List.mem_of_getElem? (i := 44) (by decide +kernel), List.mem_of_getElem? (i := 909) (by decide +kernel), ⟨by decide +kernel, by decide +kernel⟩, by decide +kernel, by decide⟩, List.mem_of_getElem? (i := 910) (by decide +kernel), by decide⟩, ⟨_, _, 4, 0, _, 8, (ct_X7_goesB hl hNL), ⟨List.mem_of_getElem? (i := 915) (by decide +kernel), List.mem_of_getElem? (i := 44) (by decide +kernel), List.mem_of_getElem? (i := 912) (by decide +kernel), ⟨by decide +kernel, by decide +kernel⟩, by decide +kernel, by decide⟩, List.mem_of_getElem? (i := 914) (by decide +kernel), List.mem_of_getElem? (i := 25) (by decide +kernel), by decide, by decide, rc_X7_goesB⟩, ⟨_, _, 3, 3, _, 8, (ct_X7_isBorne hl hNL), ⟨List.mem_of_getElem? (i := 997) (by decide +kernel), List.mem_of_getElem? (i := 44) (by decide +kernel), List.mem_of_getElem? (i := 994) (by decide +kernel), ⟨by decide +kernel, by decide +kernel⟩, by decide +kernel, by decide⟩, List.mem_of_getElem? (i := 996) (by decide +kernel), List.mem_of_getElem? (i := 31) (by decide +kernel), by decide, by decide, rc_X7_isBorne⟩, ⟨_, _, 5, 2, _, 8, (ct_X7_whyNot hl hNL), ⟨List.mem_of_getElem? (i := 1001) (by decide +kernel), List.mem_of_getElem? (i := 44) (by decide +kernel), List.mem_of_getElem? (i := 998) (by decide +kernel), ⟨by decide +kernel, by decide +kernel⟩, by decide +kernel, by decide⟩, List.mem_of_getElem? (i := 1000) (by decide +kernel), List.mem_of_getElem? (i := 32) (by decide +kernel), by decide, by decide, rc_X7_whyNot⟩, trivial⟩
theorem ar_X7_why : ∀ as S P, s_X7_why as S P → as.length ≤ 4 ∧ ∀ a ∈ as, catV a = 1 := fun as S P h => by
  obtain ⟨_, _, _, rfl, _⟩ := o3_ok h
  exact ar_all ⟨Nat.le_of_ble_eq_true rfl, rfl⟩
theorem rc_X7_why : ∀ as S P, s_X7_why as S P → ∃ k i r, as = aR k i :: r ∧ ci k = 8 ∧ (obK k = true ∨ k = 13) := fun as S P h => by
  obtain ⟨_, _, _, rfl, _⟩ := o3_ok h
  exact ⟨_, _, _, rfl, rfl, Or.inl rfl⟩
set_option maxRecDepth 8000 in
theorem vc_X7_why : ∀ (G : Gt) (Q : Out → Sto → Prop) (as : List AV) (S : Sto), s_X7_why as S Q → Seg tb_X7_why G Q 1 0 [] (0, fun _ => 0) → G 0 (argL as 4) [] S 0 := by
  intro G Q as S h hs
  obtain ⟨r, d, t, rfl, S0, hr, h0, h1, h2⟩ := o3_ok h
  have e12 := hr.ct.1
  have e28 := hr.ct.2.2.1
  have hn := hr.wf.2.1.2.2.1
  have hn20 := hr.wf.2.1.1
  have g22 : ∀ p : Bool, p = dP (knY S0 r d) → G 22 [some (aR 1 0), some (aI r), some (aI d), some (aI t)] [aI (bV p), aR 1 0] S 0 := fun p hp => by
    refine hs [] 150 22 _ _ _ _ ?_
    refine ⟨rfl, rfl, p, dP (rg t 0 9999), true, rfl, rfl, rfl, fun u => ⟨fun w => absurd rfl w, fun _ => h0 (dP_n hp u)⟩, fun u v => ⟨fun w => absurd rfl w, fun _ => h1 (dP_e hp u) (dP_n rfl v)⟩, fun _ _ v => (nomatch v), fun u v _ => ⟨fun _ => ?_, fun w => absurd w one0⟩⟩
    have hk := dP_e hp u
    have h3 := h2 hk (dP_e rfl v)
    rw [← wn_reason] at h3
    exact ⟨rfl, rfl, S0, onlyM.la.ref hr, nm_in hk.1, nm_in hk.2, rfl, rfl, S0, onlyM.la.ref hr, nm_in hk.1, nm_in hk.2, h3⟩
  refine hs [22] 150 0 _ _ _ _ ?_
  exact ⟨rfl, rfl, _, e28, by omega, dz_eq (fun q => g22 false (dP_f fun z => q z.1).symm) fun q1 => ⟨rfl, rfl, _, e12, by omega, dz_eq (fun q => g22 false (dP_f fun z => q z.2).symm) fun q2 => g22 true (dP_t ⟨q1, q2⟩).symm⟩⟩
theorem ct_X7_why {l : Launch} (hl : l.stackTraces = false) (hNL : NewL l) : CT l yX7_why cX7_why 4 (some .int) 4 0 s_X7_why := CT_of hl hNL (by decide +kernel) (own := "HeavyHaulModel") rfl (ini := false) (fun q => nomatch q) chk_X7_why (cal_X7_why hl hNL) ar_X7_why vc_X7_why
def mkDS (S S0 : Sto) (j i : Nat) (d : Int32) : Sto := wrI (wrI (wrI (wrI (lastS S 0) 10 23 j d) 10 24 j (S0.1 0 9 0 + S0.1 2 6 i)) 10 14 j (beyP S0 i (S0.1 4 8 j))) 10 26 j (S0.1 4 12 j + 1)
def s_X7_drive : SP := fun as S Q => o2 1 as fun r d => ∃ S0, ref S S0 ∧ (¬ knY S0 r d → Q (Sum.inl (some (aI 0))) (lastS S 1)) ∧ (knY S0 r d → ¬ canD S0 r d → Q (Sum.inl (some (aI 0))) (lastS S 2)) ∧
  (knY S0 r d → canD S0 r d → Q (Sum.inl (some (aI (S0.1 0 9 0 + S0.1 2 6 d.toNatClampNeg)))) (mkDS S S0 r.toNatClampNeg d.toNatClampNeg d))
def tb_X7_drive : Tb := [(0, .aload_n 0, 1, x0), (1, .iload_n 1, 1, x0), (2, .invokevirtual 142, 3, xS 2 0 s_X7_isRigB), (5, .ifCond .eq 15, 3, xN 20), (8, .aload_n 0, 1, x0), (9, .iload_n 2, 1, x0), (10, .invokevirtual 130, 3, xS 2 0 s_X7_isRoadB), (13, .ifCond .eq 7, 3, xN 20), (16, .iconst 1, 1, xI (1)), (17, .goto 4, 3, xN 21), (20, .iconst 0, 1, xI (0)), (21, .istore_n 3, 1, x0), (22, .iload_n 3, 1, x0), (23, .ifCond .eq 47, 3, xN 70), (26, .aload_n 0, 1, x0), (27, .getfield 74, 3, xF 8 24 [807]), (30, .iload_n 1, 1, x0), (31, .iaload, 1, x0), (32, .iconst (-1), 1, xI (-1)), (33, .if_icmp .ne 37, 3, xN 70), (36, .aload_n 0, 1, x0), (37, .getfield 47, 3, xF 8 15 [798]), (40, .iload_n 1, 1, x0), (41, .iaload, 1, x0), (42, .aload_n 0, 1, x0), (43, .getfield 13, 3, xF 8 2 [785]), (46, .iload_n 2, 1, x0), (47, .iaload, 1, x0), (48, .if_icmp .eq 18, 3, xN 66), (51, .aload_n 0, 1, x0), (52, .getfield 47, 3, xF 8 15 [798]), (55, .iload_n 1, 1, x0), (56, .iaload, 1, x0), (57, .aload_n 0, 1, x0), (58, .getfield 17, 3, xF 8 3 [786]), (61, .iload_n 2, 1, x0), (62, .iaload, 1, x0), (63, .if_icmp .ne 7, 3, xN 70), (66, .iconst 1, 1, xI (1)), (67, .goto 4, 3, xN 71), (70, .iconst 0, 1, xI (0)), (71, .istore 4, 2, x0), (73, .iload 4, 2, x0), (75, .ifCond .eq 34, 3, xN 109), (78, .aload_n 0, 1, x0), (79, .iload_n 1, 1, x0), (80, .iload_n 2, 1, x0), (81, .aload_n 0, 1, x0), (82, .getfield 161, 3, xF 8 0 [783]), (85, .aload_n 0, 1, x0), (86, .iload_n 1, 1, x0), (87, .iload_n 2, 1, x0), (88, .invokevirtual 180, 3, xS 3 0 s_X7_isBorne), (91, .invokevirtual 183, 3, xS 5 0 s_X7_whyNot), (94, .ifCond .ne 15, 3, xN 109), (97, .aload_n 0, 1, x0), (98, .iload_n 2, 1, x0), (99, .invokevirtual 187, 3, xS 2 0 s_X7_isTaken), (102, .ifCond .ne 7, 3, xN 109), (105, .iconst 1, 1, xI (1)), (106, .goto 4, 3, xN 110), (109, .iconst 0, 1, xI (0)), (110, .istore 4, 2, x0), (112, .aload_n 0, 1, x0), (113, .iload_n 3, 1, x0), (114, .iload 4, 2, x0), (116, .iconst 1, 1, xI (1)), (117, .invokevirtual 123, 3, xS 4 0 s_X7_goesB), (120, .ifCond .ne 5, 3, xN 125), (123, .iconst 0, 1, xI (0)), (124, .ireturn, 1, x0), (125, .aload_n 0, 1, x0), (126, .getfield 74, 3, xF 8 24 [807]), (129, .iload_n 1, 1, x0), (130, .iload_n 2, 1, x0), (131, .iastore, 1, x0), (132, .aload_n 0, 1, x0), (133, .getfield 77, 3, xF 8 25 [808]), (136, .iload_n 1, 1, x0), (137, .aload_n 0, 1, x0), (138, .getfield 161, 3, xF 8 0 [783]), (141, .aload_n 0, 1, x0), (142, .getfield 32, 3, xF 8 8 [791]), (145, .iload_n 2, 1, x0), (146, .iaload, 1, x0), (147, .iadd, 1, x0), (148, .iastore, 1, x0), (149, .aload_n 0, 1, x0), (150, .getfield 47, 3, xF 8 15 [798]), (153, .iload_n 1, 1, x0), (154, .aload_n 0, 1, x0), (155, .getfield 47, 3, xF 8 15 [798]), (158, .iload_n 1, 1, x0), (159, .iaload, 1, x0), (160, .aload_n 0, 1, x0), (161, .getfield 13, 3, xF 8 2 [785]), (164, .iload_n 2, 1, x0), (165, .iaload, 1, x0), (166, .if_icmp .ne 12, 3, xN 178), (169, .aload_n 0, 1, x0), (170, .getfield 17, 3, xF 8 3 [786]), (173, .iload_n 2, 1, x0), (174, .iaload, 1, x0), (175, .goto 9, 3, xN 184), (178, .aload_n 0, 1, x0), (179, .getfield 13, 3, xF 8 2 [785]), (182, .iload_n 2, 1, x0), (183, .iaload, 1, x0), (184, .iastore, 1, x0), (185, .aload_n 0, 1, x0), (186, .getfield 83, 3, xF 8 27 [810]), (189, .iload_n 1, 1, x0), (190, .dup2, 1, x0), (191, .iaload, 1, x0), (192, .iconst 1, 1, xI (1)), (193, .iadd, 1, x0), (194, .iastore, 1, x0), (195, .aload_n 0, 1, x0), (196, .getfield 77, 3, xF 8 25 [808]), (199, .iload_n 1, 1, x0), (200, .iaload, 1, x0), (201, .ireturn, 1, x0)]
theorem chk_X7_drive : chkTb cX7_drive "HeavyHaulModel" false tb_X7_drive = true := by decide +kernel
theorem cal_X7_drive {l : Launch} (hl : l.stackTraces = false) (hNL : NewL l) : CallsOK l "HeavyHaulModel" 4 tb_X7_drive := callsOK_f ⟨⟨_, _, 2, 1, _, 8, (ct_X7_isRigB hl hNL), ⟨List.mem_of_getElem? (i := 951) (by decide +kernel), List.mem_of_getElem? (i := 44) (by decide +kernel), List.mem_of_getElem? (i := 948) (by decide +kernel), ⟨by decide +kernel, by decide +kernel⟩, by decide +kernel, by decide⟩, List.mem_of_getElem? (i := 950) (by decide +kernel), List.mem_of_getElem? (i := 27) (by decide +kernel), by decide, by decide, rc_X7_isRigB⟩, ⟨_, _, 2, 1, _, 8, (ct_X7_isRoadB hl hNL), ⟨List.mem_of_getElem? (i := 930) (by decide +kernel), List.mem_of_getElem? (i := 44) (by decide +kernel), List.mem_of_getElem? (i := 927) (by decide +kernel), ⟨by decide +kernel, by decide +kernel⟩, by decide +kernel, by decide⟩, List.mem_of_getElem? (i := 929) (by decide +kernel), List.mem_of_getElem? (i := 26) (by decide +kernel), by decide, by decide, rc_X7_isRoadB⟩, ⟨_, _, 3, 3, _, 8, (ct_X7_isBorne hl hNL), ⟨List.mem_of_getElem? (i := 997) (by decide +kernel), List.mem_of_getElem? (i := 44) (by decide +kernel), List.mem_of_getElem? (i := 994) (by decide +kernel), ⟨by decide +kernel, by decide +kernel⟩, by decide +kernel, by decide⟩, List.mem_of_getElem? (i := 996) (by decide +kernel), List.mem_of_getElem? (i := 31) (by decide +kernel), by decide, by decide, rc_X7_isBorne⟩, ⟨_, _, 5, 2, _, 8, (ct_X7_whyNot hl hNL), ⟨List.mem_of_getElem? (i := 1001) (by decide +kernel), List.mem_of_getElem? (i := 44) (by decide +kernel), List.mem_of_getElem? (i := 998) (by decide +kernel), ⟨by decide +kernel, by decide +kernel⟩, by decide +kernel, by decide⟩, List.mem_of_getElem? (i := 1000) (by decide +kernel), List.mem_of_getElem? (i := 32) (by decide +kernel), by decide, by decide, rc_X7_whyNot⟩, ⟨_, _, 4, 0, _, 8, (ct_X7_isTaken hl hNL), ⟨List.mem_of_getElem? (i := 1021) (by decide +kernel), List.mem_of_getElem? (i := 44) (by decide +kernel), List.mem_of_getElem? (i := 1018) (by decide +kernel), ⟨by decide +kernel, by decide +kernel⟩, by decide +kernel, by decide⟩, List.mem_of_getElem? (i := 1020) (by decide +kernel), List.mem_of_getElem? (i := 36) (by decide +kernel), by decide, by decide, rc_X7_isTaken⟩, ⟨_, _, 4, 0, _, 8, (ct_X7_goesB hl hNL), ⟨List.mem_of_getElem? (i := 915) (by decide +kernel), List.mem_of_getElem? (i := 44) (by decide +kernel), List.mem_of_getElem? (i := 912) (by decide +kernel), ⟨by decide +kernel, by decide +kernel⟩, by decide +kernel, by decide⟩, List.mem_of_getElem? (i := 914) (by decide +kernel), List.mem_of_getElem? (i := 25) (by decide +kernel), by decide, by decide, rc_X7_goesB⟩, trivial⟩
theorem ar_X7_drive : ∀ as S P, s_X7_drive as S P → as.length ≤ 5 ∧ ∀ a ∈ as, catV a = 1 := fun as S P h => by
  obtain ⟨_, _, rfl, _⟩ := o2_ok h
  exact ar_all ⟨Nat.le_of_ble_eq_true rfl, rfl⟩
theorem rc_X7_drive : ∀ as S P, s_X7_drive as S P → ∃ k i r, as = aR k i :: r ∧ ci k = 8 ∧ (obK k = true ∨ k = 13) := fun as S P h => by
  obtain ⟨_, _, rfl, _⟩ := o2_ok h
  exact ⟨_, _, _, rfl, rfl, Or.inl rfl⟩
set_option maxRecDepth 8000 in
theorem vc_X7_drive : ∀ (G : Gt) (Q : Out → Sto → Prop) (as : List AV) (S : Sto), s_X7_drive as S Q → Seg tb_X7_drive G Q 1 0 [] (0, fun _ => 0) → G 0 (argL as 5) [] S 0 := by
  intro G Q as S h hs
  obtain ⟨r, d, rfl, S0, hr, h0, h1, h2⟩ := o2_ok h
  have e12 := hr.ct.1
  have e28 := hr.ct.2.2.1
  have e00 : S.1 1 0 0 = S0.1 0 9 0 := hr.ct.2.2.2.2.2
  have hn := hr.wf.2.1.2.2.1
  have hn20 := hr.wf.2.1.1
  have g110 : ∀ p y : Bool, p = dP (knY S0 r d) → (p = true → y = dP (canD S0 r d)) → ∀ z, G 110 [some (aR 1 0), some (aI r), some (aI d), some (aI (bV p)), z] [aI (bV y)] S 0 := fun p y hp hy z => by
    refine hs [] 150 110 _ _ _ _ ?_
    refine ⟨rfl, rfl, p, y, true, rfl, rfl, rfl, fun u => ⟨fun w => absurd rfl w, fun _ => h0 (dP_n hp u)⟩, fun u v => ⟨fun w => absurd rfl w, fun _ => h1 (dP_e hp u) (dP_n (hy u) v)⟩, fun _ _ v => (nomatch v), fun u v _ => ⟨fun _ => ?_, fun w => absurd w one0⟩⟩
    have hk := dP_e hp u
    have hv : vp_in r 6 := d_in (nm_in hk.1) hn (by omega)
    have hvd : vp_in d 20 := d_in (nm_in hk.2) hn20 (by omega)
    have h3 := h2 hk (dP_e (hy u) v)
    have hr1 : ref (lastS S 0) S0 := onlyM.la.ref hr
    obtain ⟨c3, c4, -, -, -, -, c9, -⟩ := hr1.ro (nm_lt hk.2 (by omega))
    obtain ⟨c14, -, -, -, -, -, -, -, -, -, c26, -⟩ := hr1.ri (nm_lt hk.1 (by omega))
    have e00' : (lastS S 0).1 1 0 0 = S0.1 0 9 0 := hr1.ct.2.2.2.2.2
    unfold mkDS beyP at h3
    rw [← c3, ← c4, ← c9, ← c14, ← c26, ← e00'] at h3
    refine ⟨hv, hvd, hv, hv, hvd, fun w => ⟨hvd, hv, hv, hv, hv, ?_⟩, fun w => ⟨hvd, hv, hv, hv, hv, ?_⟩⟩
    · have w' : ¬ (lastS S 0).1 10 14 r.toNatClampNeg = (lastS S 0).1 10 3 d.toNatClampNeg := w
      rw [if_neg w'] at h3
      refine Q_eq ?_ h3
      rw [wrI_ne fun q => absurd q.2.1 (by decide), wrI_ne fun q => absurd q.2.1 (by decide), wrI_at, if_pos ⟨rfl, rfl, rfl⟩]
      rfl
    · have w' : (lastS S 0).1 10 14 r.toNatClampNeg = (lastS S 0).1 10 3 d.toNatClampNeg := w
      rw [if_pos w'] at h3
      refine Q_eq ?_ h3
      rw [wrI_ne fun q => absurd q.2.1 (by decide), wrI_ne fun q => absurd q.2.1 (by decide), wrI_at, if_pos ⟨rfl, rfl, rfl⟩]
      rfl
  have g71 : ∀ p z : Bool, p = dP (knY S0 r d) → (z = true → p = true) → (p = true → z = dP (S0.1 4 9 r.toNatClampNeg = -1 ∧ endsB S0 d.toNatClampNeg (S0.1 4 8 r.toNatClampNeg))) → G 71 [some (aR 1 0), some (aI r), some (aI d), some (aI (bV p)), none] [aI (bV z)] S 0 := fun p z hp hz hc => by
    refine hs [110] 150 71 _ _ _ _ ?_
    cases z with
    | false => exact ⟨fun _ => g110 p false hp (fun u => (dP_f fun x => dP_n (hc u) rfl ⟨x.1, x.2.1⟩).symm) _, fun x => absurd rfl x⟩
    | true =>
      have u := hz rfl
      have hk := dP_e hp u
      have hcc := dP_e (hc u) rfl
      refine ⟨fun x => absurd x (by decide), fun _ => ⟨rfl, rfl, S0, hr, nm_in hk.1, nm_in hk.2, rfl, rfl, S0, hr, nm_in hk.1, nm_in hk.2, ?_⟩⟩
      rw [wn_reason, e00]
      refine ⟨fun x => g110 p false hp (fun _ => (dP_f fun y => x y.2.2.1).symm) _, fun x => ⟨rfl, rfl, S0, hr, nm_in hk.2, ?_⟩⟩
      cases ha : anyN (onH S0 d) (S0.2.2 22) with
      | false =>
        rw [Bool.false_and]
        exact ⟨fun y => absurd rfl y, fun _ => g110 p true hp (fun _ => (dP_t ⟨hcc.1, hcc.2, x, Or.inr ha⟩).symm) _⟩
      | true =>
        rw [Bool.true_and]
        by_cases hsp : S0.1 2 7 d.toNatClampNeg ≤ 0
        · rw [decide_eq_false fun z => z hsp]
          exact ⟨fun y => absurd rfl y, fun _ => g110 p true hp (fun _ => (dP_t ⟨hcc.1, hcc.2, x, Or.inl hsp⟩).symm) _⟩
        · rw [decide_eq_true hsp]
          refine ⟨fun y => g110 p false hp (fun _ => (dP_f fun w => w.2.2.2.elim hsp fun v => ?_).symm) _, fun y => absurd y (by decide)⟩
          rw [ha] at v
          cases v
  have g21 : ∀ p : Bool, p = dP (knY S0 r d) → G 21 [some (aR 1 0), some (aI r), some (aI d), none, none] [aI (bV p)] S 0 := fun p hp => by
    refine hs [71] 150 21 _ _ _ _ ?_
    cases p with
    | false => exact ⟨fun _ => g71 false false hp (fun z => nomatch z) (fun z => nomatch z), fun x => absurd rfl x⟩
    | true =>
      have hk := dP_e hp rfl
      have hv : vp_in r 6 := d_in (nm_in hk.1) hn (by omega)
      have hvd : vp_in d 20 := d_in (nm_in hk.2) hn20 (by omega)
      obtain ⟨c3, c4, -⟩ := hr.ro (nm_lt hk.2 (by omega))
      obtain ⟨c14, -, -, -, -, -, -, c23, -⟩ := hr.ri (nm_lt hk.1 (by omega))
      refine ⟨fun x => absurd x (by decide), fun _ => ⟨hv, ?_⟩⟩
      rw [c23]
      refine ⟨fun x => g71 true false hp (fun z => nomatch z) (fun _ => (dP_f fun w => x w.1).symm), fun x => ⟨hv, hvd, ?_⟩⟩
      rw [c14, c3]
      refine ⟨fun y => g71 true true hp (fun _ => rfl) (fun _ => (dP_t ⟨x, Or.inl y⟩).symm), fun y => ⟨hv, hvd, ?_⟩⟩
      rw [c14, c4]
      exact ⟨fun z => g71 true false hp (fun z => nomatch z) (fun _ => (dP_f fun w => w.2.elim y z).symm), fun z => g71 true true hp (fun _ => rfl) (fun _ => (dP_t ⟨x, Or.inr z⟩).symm)⟩
  refine hs [21] 150 0 _ _ _ _ ?_
  exact ⟨rfl, rfl, _, e28, by omega, dz_eq (fun q => g21 false (dP_f fun z => q z.1).symm) fun q1 => ⟨rfl, rfl, _, e12, by omega, dz_eq (fun q => g21 false (dP_f fun z => q z.2).symm) fun q2 => g21 true (dP_t ⟨q1, q2⟩).symm⟩⟩
theorem ct_X7_drive {l : Launch} (hl : l.stackTraces = false) (hNL : NewL l) : CT l yX7_drive cX7_drive 5 (some .int) 4 0 s_X7_drive := CT_of hl hNL (by decide +kernel) (own := "HeavyHaulModel") rfl (ini := false) (fun q => nomatch q) chk_X7_drive (cal_X7_drive hl hNL) ar_X7_drive vc_X7_drive
def s_X7_rigIs : SP := fun as S Q => o2 1 as fun r w => ∃ S0, ref S S0 ∧ (¬ nm r (nI (S0.2.2 22)) → Q (Sum.inl (some (aI 0))) (lastS S 1)) ∧ (nm r (nI (S0.2.2 22)) → ¬ rg w 0 4 → Q (Sum.inl (some (aI 0))) (lastS S 2)) ∧ (nm r (nI (S0.2.2 22)) → rg w 0 4 → Q (Sum.inl (some (aI (isH S0 r.toNatClampNeg w)))) (lastS S 0))
def tb_X7_rigIs : Tb := [(0, .aload_n 0, 1, x0), (1, .aload_n 0, 1, x0), (2, .iload_n 1, 1, x0), (3, .invokevirtual 142, 3, xS 2 0 s_X7_isRigB), (6, .iload_n 2, 1, x0), (7, .iconst 0, 1, xI (0)), (8, .iconst 4, 1, xI (4)), (9, .invokestatic 109, 3, xS 3 0 s_X7_inB), (12, .iconst 1, 1, xI (1)), (13, .invokevirtual 123, 3, xS 4 0 s_X7_goesB), (16, .ifCond .ne 5, 3, xN 21), (19, .iconst 0, 1, xI (0)), (20, .ireturn, 1, x0), (21, .iload_n 2, 1, x0), (22, .ifCond .ne 26, 3, xN 48), (25, .aload_n 0, 1, x0), (26, .getfield 74, 3, xF 8 24 [807]), (29, .iload_n 1, 1, x0), (30, .iaload, 1, x0), (31, .iconst (-1), 1, xI (-1)), (32, .if_icmp .ne 12, 3, xN 44), (35, .aload_n 0, 1, x0), (36, .getfield 47, 3, xF 8 15 [798]), (39, .iload_n 1, 1, x0), (40, .iaload, 1, x0), (41, .goto 55, 3, xN 96), (44, .iconst (-1), 1, xI (-1)), (45, .goto 51, 3, xN 96), (48, .iload_n 2, 1, x0), (49, .iconst 1, 1, xI (1)), (50, .if_icmp .ne 12, 3, xN 62), (53, .aload_n 0, 1, x0), (54, .getfield 74, 3, xF 8 24 [807]), (57, .iload_n 1, 1, x0), (58, .iaload, 1, x0), (59, .goto 37, 3, xN 96), (62, .iload_n 2, 1, x0), (63, .iconst 2, 1, xI (2)), (64, .if_icmp .ne 12, 3, xN 76), (67, .aload_n 0, 1, x0), (68, .getfield 77, 3, xF 8 25 [808]), (71, .iload_n 1, 1, x0), (72, .iaload, 1, x0), (73, .goto 23, 3, xN 96), (76, .iload_n 2, 1, x0), (77, .iconst 3, 1, xI (3)), (78, .if_icmp .ne 12, 3, xN 90), (81, .aload_n 0, 1, x0), (82, .getfield 80, 3, xF 8 26 [809]), (85, .iload_n 1, 1, x0), (86, .iaload, 1, x0), (87, .goto 9, 3, xN 96), (90, .aload_n 0, 1, x0), (91, .getfield 83, 3, xF 8 27 [810]), (94, .iload_n 1, 1, x0), (95, .iaload, 1, x0), (96, .ireturn, 1, x0)]
theorem chk_X7_rigIs : chkTb cX7_rigIs "HeavyHaulModel" false tb_X7_rigIs = true := by decide +kernel
theorem cal_X7_rigIs {l : Launch} (hl : l.stackTraces = false) (hNL : NewL l) : CallsOK l "HeavyHaulModel" 2 tb_X7_rigIs := callsOK_f ⟨⟨_, _, 2, 1, _, 8, (ct_X7_isRigB hl hNL), ⟨List.mem_of_getElem? (i := 951) (by decide +kernel), List.mem_of_getElem? (i := 44) (by decide +kernel), List.mem_of_getElem? (i := 948) (by decide +kernel), ⟨by decide +kernel, by decide +kernel⟩, by decide +kernel, by decide⟩, List.mem_of_getElem? (i := 950) (by decide +kernel), List.mem_of_getElem? (i := 27) (by decide +kernel), by decide, by decide, rc_X7_isRigB⟩, ⟨_, _, 3, 0, _, (ct_X7_inB hl hNL), ⟨List.mem_of_getElem? (i := 911) (by decide +kernel), List.mem_of_getElem? (i := 44) (by decide +kernel), List.mem_of_getElem? (i := 909) (by decide +kernel), ⟨by decide +kernel, by decide +kernel⟩, by decide +kernel, by decide⟩, List.mem_of_getElem? (i := 910) (by decide +kernel), by decide⟩, ⟨_, _, 4, 0, _, 8, (ct_X7_goesB hl hNL), ⟨List.mem_of_getElem? (i := 915) (by decide +kernel), List.mem_of_getElem? (i := 44) (by decide +kernel), List.mem_of_getElem? (i := 912) (by decide +kernel), ⟨by decide +kernel, by decide +kernel⟩, by decide +kernel, by decide⟩, List.mem_of_getElem? (i := 914) (by decide +kernel), List.mem_of_getElem? (i := 25) (by decide +kernel), by decide, by decide, rc_X7_goesB⟩, trivial⟩
theorem ar_X7_rigIs : ∀ as S P, s_X7_rigIs as S P → as.length ≤ 3 ∧ ∀ a ∈ as, catV a = 1 := fun as S P h => by
  obtain ⟨_, _, rfl, _⟩ := o2_ok h
  exact ar_all ⟨Nat.le_of_ble_eq_true rfl, rfl⟩
theorem rc_X7_rigIs : ∀ as S P, s_X7_rigIs as S P → ∃ k i r, as = aR k i :: r ∧ ci k = 8 ∧ (obK k = true ∨ k = 13) := fun as S P h => by
  obtain ⟨_, _, rfl, _⟩ := o2_ok h
  exact ⟨_, _, _, rfl, rfl, Or.inl rfl⟩
set_option maxRecDepth 8000 in
theorem vc_X7_rigIs : ∀ (G : Gt) (Q : Out → Sto → Prop) (as : List AV) (S : Sto), s_X7_rigIs as S Q → Seg tb_X7_rigIs G Q 1 0 [] (0, fun _ => 0) → G 0 (argL as 3) [] S 0 := by
  intro G Q as S h hs
  obtain ⟨r, w, rfl, S0, hr, h0, h1, h2⟩ := o2_ok h
  have e28 := hr.ct.2.2.1
  have hn := hr.wf.2.1.2.2.1
  refine hs [] 150 0 _ _ _ _ ?_
  refine ⟨rfl, rfl, _, e28, by omega, rfl, rfl, dP (nm r (nI (S0.2.2 22))), dP (rg w 0 4), true, rfl, rfl, rfl, fun u => ⟨fun w => absurd rfl w, fun _ => h0 (dP_n rfl u)⟩, fun u v => ⟨fun w => absurd rfl w, fun _ => h1 (dP_e rfl u) (dP_n rfl v)⟩, fun _ _ v => (nomatch v), fun u v _ => ⟨fun _ => ?_, fun w => absurd w one0⟩⟩
  have hk : nm r (nI (S0.2.2 22)) := dP_e rfl u
  have h3 := h2 hk (dP_e rfl v)
  have hv : vp_in r 6 := d_in (nm_in hk) hn (by omega)
  have hr1 : ref (lastS S 0) S0 := onlyM.la.ref hr
  obtain ⟨c14, -, -, -, -, -, -, c23, c24, c25, c26, -⟩ := hr1.ri (nm_lt hk (by omega))
  unfold isH at h3
  refine ⟨fun z => ⟨fun z1 => ⟨fun z2 => ⟨fun z3 => ⟨hv, ?_⟩, fun z3 => ⟨hv, ?_⟩⟩, fun z2 => ⟨hv, ?_⟩⟩, fun z1 => ⟨hv, ?_⟩⟩, fun z => ⟨hv, ?_⟩⟩
  · rw [if_neg z, if_neg z1, if_neg z2, if_neg z3] at h3
    rw [c26]
    exact h3
  · rw [if_neg z, if_neg z1, if_neg z2, if_pos z3] at h3
    rw [c25]
    exact h3
  · rw [if_neg z, if_neg z1, if_pos z2] at h3
    rw [c24]
    exact h3
  · rw [if_neg z, if_pos z1] at h3
    rw [c23]
    exact h3
  · rw [if_pos z] at h3
    rw [c23]
    refine ⟨fun y => ?_, fun y => ⟨hv, ?_⟩⟩
    · rw [if_neg y] at h3
      exact h3
    · rw [if_pos y] at h3
      rw [c14]
      exact h3
theorem ct_X7_rigIs {l : Launch} (hl : l.stackTraces = false) (hNL : NewL l) : CT l yX7_rigIs cX7_rigIs 3 (some .int) 2 0 s_X7_rigIs := CT_of hl hNL (by decide +kernel) (own := "HeavyHaulModel") rfl (ini := false) (fun q => nomatch q) chk_X7_rigIs (cal_X7_rigIs hl hNL) ar_X7_rigIs vc_X7_rigIs
