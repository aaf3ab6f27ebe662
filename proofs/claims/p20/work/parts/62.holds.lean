/-! THE LAW's STEPS -/
def s_L_holds : SP := fun as S Q => as = [aR 14 0] ∧ S = S00 ∧ ∀ S', Q (Sum.inl (some (aI 1))) S'
def tb_L_holds : Tb := [(0, .new 32, 3, xF 17 0 [57, 58, 26]), (3, .dup, 1, x0), (4, .invokespecial 101, 3, xS 1 130 s_X6_init), (7, .astore_n 1, 1, x0), (8, .bipush 60, 2, xI (60)), (10, .newarray .int, 2, xF 10 0 [92]), (12, .astore_n 2, 1, x0), (13, .bipush 30, 2, xI (30)), (15, .newarray .int, 2, xF 10 0 [92]), (17, .astore_n 3, 1, x0), (18, .bipush 28, 2, xI (28)), (20, .newarray .int, 2, xF 10 0 [92]), (22, .astore 4, 2, x0), (24, .bipush 48, 2, xI (48)), (26, .newarray .int, 2, xF 10 0 [92]), (28, .astore 5, 2, x0), (30, .bipush 9, 2, xI (9)), (32, .newarray .int, 2, xF 10 0 [92]), (34, .astore 6, 2, x0), (36, .bipush 8, 2, xI (8)), (38, .newarray .int, 2, xF 10 0 [92]), (40, .astore 7, 2, x0), (42, .iconst 5, 1, xI (5)), (43, .newarray .int, 2, xF 10 0 [92]), (45, .astore 8, 2, x0), (47, .aload_n 1, 1, x0), (48, .aload_n 0, 1, x0), (49, .aload_n 2, 1, x0), (50, .aload 4, 2, x0), (52, .invokestatic 102, 3, xS 4 90 s_L_isBegun), (55, .istore 9, 2, x0), (57, .iconst 4, 1, xI (4)), (58, .istore 10, 2, x0), (60, .iload 10, 2, x0), (62, .bipush 8, 2, xI (8)), (64, .if_icmp .ge 16, 3, xN 80), (67, .aload 7, 2, x0), (69, .iload 10, 2, x0), (71, .ldc 65, 2, xC 0 0 99999 [436]), (73, .iastore, 1, x0), (74, .iinc 10 1, 3, xI (1)), (77, .goto (-17), 3, xN 60), (80, .iconst 0, 1, xI (0)), (81, .istore 10, 2, x0), (83, .iload 10, 2, x0), (85, .bipush 56, 2, xI (56)), (87, .if_icmp .ge 321, 3, xN 408), (90, .iload 9, 2, x0), (92, .ifCond .eq 316, 3, xN 408), (95, .aload_n 0, 1, x0), (96, .iconst 2, 1, xI (2)), (97, .iload 10, 2, x0), (99, .imul, 1, x0), (100, .bipush 32, 2, xI (32)), (102, .invokestatic 88, 3, xS 3 0 s_L_from), (105, .istore 11, 2, x0), (107, .aload_n 0, 1, x0), (108, .iconst 2, 1, xI (2)), (109, .iload 10, 2, x0), (111, .imul, 1, x0), (112, .iconst 1, 1, xI (1)), (113, .iadd, 1, x0), (114, .ldc 87, 2, xC 0 0 1000000000 [131]), (116, .invokestatic 88, 3, xS 3 0 s_L_from), (119, .istore 12, 2, x0), (121, .iload 10, 2, x0), (123, .bipush 6, 2, xI (6)), (125, .if_icmp .lt 10, 3, xN 135), (128, .iload 11, 2, x0), (130, .bipush 9, 2, xI (9)), (132, .if_icmp .ge 38, 3, xN 170), (135, .aload_n 1, 1, x0), (136, .aload 5, 2, x0), (138, .aload 6, 2, x0), (140, .aload 7, 2, x0), (142, .aload 8, 2, x0), (144, .iload 10, 2, x0), (146, .iconst 5, 1, xI (5)), (147, .if_icmp .le 12, 3, xN 159), (150, .iload 11, 2, x0), (152, .ifCond .ne 7, 3, xN 159), (155, .iconst 0, 1, xI (0)), (156, .goto 4, 3, xN 160), (159, .iconst 1, 1, xI (1)), (160, .iload 12, 2, x0), (162, .invokestatic 106, 3, xS 7 12 s_L_isAllowed), (165, .istore 9, 2, x0), (167, .goto 200, 3, xN 367), (170, .iload 11, 2, x0), (172, .bipush 14, 2, xI (14)), (174, .if_icmp .ge 36, 3, xN 210), (177, .aload_n 1, 1, x0), (178, .aload_n 2, 1, x0), (179, .aload_n 3, 1, x0), (180, .aload 7, 2, x0), (182, .aload 8, 2, x0), (184, .iload 11, 2, x0), (186, .bipush 11, 2, xI (11)), (188, .if_icmp .ge 7, 3, xN 195), (191, .iconst 0, 1, xI (0)), (192, .goto 8, 3, xN 200), (195, .iload 11, 2, x0), (197, .bipush 10, 2, xI (10)), (199, .isub, 1, x0), (200, .iload 12, 2, x0), (202, .invokestatic 110, 3, xS 7 12 s_L_isTold), (205, .istore 9, 2, x0), (207, .goto 160, 3, xN 367), (210, .iload 11, 2, x0), (212, .bipush 16, 2, xI (16)), (214, .if_icmp .ge 22, 3, xN 236), (217, .aload_n 1, 1, x0), (218, .aload 4, 2, x0), (220, .iload 12, 2, x0), (222, .iconst 2, 1, xI (2)), (223, .irem, 1, x0), (224, .iload 12, 2, x0), (226, .iconst 2, 1, xI (2)), (227, .idiv, 1, x0), (228, .invokestatic 113, 3, xS 4 12 s_L_isLoaded), (231, .istore 9, 2, x0), (233, .goto 134, 3, xN 367), (236, .iload 11, 2, x0), (238, .bipush 27, 2, xI (27)), (240, .if_icmp .ge 35, 3, xN 275), (243, .aload_n 1, 1, x0), (244, .aload_n 2, 1, x0), (245, .aload_n 3, 1, x0), (246, .aload 4, 2, x0), (248, .aload 5, 2, x0), (250, .aload 6, 2, x0), (252, .aload 7, 2, x0), (254, .aload 8, 2, x0), (256, .iload 12, 2, x0), (258, .iconst 2, 1, xI (2)), (259, .irem, 1, x0), (260, .iload 12, 2, x0), (262, .iconst 2, 1, xI (2)), (263, .idiv, 1, x0), (264, .bipush 6, 2, xI (6)), (266, .irem, 1, x0), (267, .invokestatic 117, 3, xS 10 12 s_L_isDriven), (270, .istore 9, 2, x0), (272, .goto 95, 3, xN 367), (275, .iload 11, 2, x0), (277, .bipush 29, 2, xI (29)), (279, .if_icmp .ge 13, 3, xN 292), (282, .iconst 1, 1, xI (1)), (283, .iload 12, 2, x0), (285, .bipush 9, 2, xI (9)), (287, .irem, 1, x0), (288, .iadd, 1, x0), (289, .goto 33, 3, xN 322), (292, .iload 11, 2, x0), (294, .bipush 31, 2, xI (31)), (296, .if_icmp .ge 18, 3, xN 314), (299, .sipush 144, 3, xI (144)), (302, .aload 8, 2, x0), (304, .iconst 0, 1, xI (0)), (305, .iaload, 1, x0), (306, .sipush 144, 3, xI (144)), (309, .irem, 1, x0), (310, .isub, 1, x0), (311, .goto 11, 3, xN 322), (314, .iconst 1, 1, xI (1)), (315, .iload 12, 2, x0), (317, .sipush 144, 3, xI (144)), (320, .irem, 1, x0), (321, .iadd, 1, x0), (322, .istore 13, 2, x0), (324, .iconst 0, 1, xI (0)), (325, .istore 14, 2, x0), (327, .iload 14, 2, x0), (329, .iload 13, 2, x0), (331, .if_icmp .ge 16, 3, xN 347), (334, .aload 4, 2, x0), (336, .aload 8, 2, x0), (338, .invokestatic 121, 3, xS 2 0 s_L_pass), (341, .iinc 14 1, 3, xI (1)), (344, .goto (-17), 3, xN 327), (347, .aload_n 1, 1, x0), (348, .iload 13, 2, x0), (350, .invokevirtual 125, 3, xS 2 2 s_X6_pass), (353, .aload 8, 2, x0), (355, .iconst 0, 1, xI (0)), (356, .iaload, 1, x0), (357, .if_icmp .ne 7, 3, xN 364), (360, .iconst 1, 1, xI (1)), (361, .goto 4, 3, xN 365), (364, .iconst 0, 1, xI (0)), (365, .istore 9, 2, x0), (367, .iload 9, 2, x0), (369, .ifCond .eq 30, 3, xN 399), (372, .aload_n 1, 1, x0), (373, .aload_n 2, 1, x0), (374, .aload_n 3, 1, x0), (375, .aload 4, 2, x0), (377, .aload 5, 2, x0), (379, .aload 6, 2, x0), (381, .aload 7, 2, x0), (383, .aload 8, 2, x0), (385, .iload 12, 2, x0), (387, .iconst 3, 1, xI (3)), (388, .idiv, 1, x0), (389, .invokestatic 128, 3, xS 9 60 s_L_isSame), (392, .ifCond .eq 7, 3, xN 399), (395, .iconst 1, 1, xI (1)), (396, .goto 4, 3, xN 400), (399, .iconst 0, 1, xI (0)), (400, .istore 9, 2, x0), (402, .iinc 10 1, 3, xI (1)), (405, .goto (-322), 3, xN 83), (408, .iload 9, 2, x0), (410, .ireturn, 1, x0)]
theorem chk_L_holds : chkTb cL_holds "HeavyHaulLaw" false tb_L_holds = true := by decide +kernel
theorem cal_L_holds {l : Launch} (hl : l.stackTraces = false) (hNL : NewL l) : CallsOK l "HeavyHaulLaw" 9 tb_L_holds := callsOK_f ⟨⟨_, _, 1, 1, (ct_X6_init hl hNL), ⟨List.mem_of_getElem? (i := 61) (by decide +kernel), List.mem_of_getElem? (i := 26) (by decide +kernel), List.mem_of_getElem? (i := 59) (by decide +kernel), ⟨by decide +kernel, by decide +kernel⟩, by decide +kernel, by decide⟩, List.mem_of_getElem? (i := 60) (by decide +kernel), rfl, by decide, by decide, ri_X6_init⟩, ⟨_, _, 8, 7, _, (ct_L_isBegun hl hNL), ⟨List.mem_of_getElem? (i := 130) (by decide +kernel), List.mem_of_getElem? (i := 25) (by decide +kernel), List.mem_of_getElem? (i := 128) (by decide +kernel), ⟨by decide +kernel, by decide +kernel⟩, by decide +kernel, by decide⟩, List.mem_of_getElem? (i := 129) (by decide +kernel), by decide⟩, ⟨_, _, 4, 0, _, (ct_L_from hl hNL), ⟨List.mem_of_getElem? (i := 134) (by decide +kernel), List.mem_of_getElem? (i := 25) (by decide +kernel), List.mem_of_getElem? (i := 132) (by decide +kernel), ⟨by decide +kernel, by decide +kernel⟩, by decide +kernel, by decide⟩, List.mem_of_getElem? (i := 133) (by decide +kernel), by decide⟩, ⟨_, _, 4, 0, _, (ct_L_from hl hNL), ⟨List.mem_of_getElem? (i := 134) (by decide +kernel), List.mem_of_getElem? (i := 25) (by decide +kernel), List.mem_of_getElem? (i := 132) (by decide +kernel), ⟨by decide +kernel, by decide +kernel⟩, by decide +kernel, by decide⟩, List.mem_of_getElem? (i := 133) (by decide +kernel), by decide⟩, ⟨_, _, 9, 7, _, (ct_L_isAllowed hl hNL), ⟨List.mem_of_getElem? (i := 439) (by decide +kernel), List.mem_of_getElem? (i := 25) (by decide +kernel), List.mem_of_getElem? (i := 437) (by decide +kernel), ⟨by decide +kernel, by decide +kernel⟩, by decide +kernel, by decide⟩, List.mem_of_getElem? (i := 438) (by decide +kernel), by decide⟩, ⟨_, _, 12, 7, _, (ct_L_isTold hl hNL), ⟨List.mem_of_getElem? (i := 501) (by decide +kernel), List.mem_of_getElem? (i := 25) (by decide +kernel), List.mem_of_getElem? (i := 499) (by decide +kernel), ⟨by decide +kernel, by decide +kernel⟩, by decide +kernel, by decide⟩, List.mem_of_getElem? (i := 500) (by decide +kernel), by decide⟩, ⟨_, _, 9, 5, _, (ct_L_isLoaded hl hNL), ⟨List.mem_of_getElem? (i := 570) (by decide +kernel), List.mem_of_getElem? (i := 25) (by decide +kernel), List.mem_of_getElem? (i := 568) (by decide +kernel), ⟨by decide +kernel, by decide +kernel⟩, by decide +kernel, by decide⟩, List.mem_of_getElem? (i := 569) (by decide +kernel), by decide⟩, ⟨_, _, 13, 7, _, (ct_L_isDriven hl hNL), ⟨List.mem_of_getElem? (i := 592) (by decide +kernel), List.mem_of_getElem? (i := 25) (by decide +kernel), List.mem_of_getElem? (i := 590) (by decide +kernel), ⟨by decide +kernel, by decide +kernel⟩, by decide +kernel, by decide⟩, List.mem_of_getElem? (i := 591) (by decide +kernel), by decide⟩, ⟨_, _, 5, 0, _, (ct_L_pass hl hNL), ⟨List.mem_of_getElem? (i := 693) (by decide +kernel), List.mem_of_getElem? (i := 25) (by decide +kernel), List.mem_of_getElem? (i := 691) (by decide +kernel), ⟨by decide +kernel, by decide +kernel⟩, by decide +kernel, by decide⟩, List.mem_of_getElem? (i := 692) (by decide +kernel), by decide⟩, ⟨_, _, 3, 4, _, 7, (ct_X6_pass hl hNL), ⟨List.mem_of_getElem? (i := 697) (by decide +kernel), List.mem_of_getElem? (i := 26) (by decide +kernel), List.mem_of_getElem? (i := 694) (by decide +kernel), ⟨by decide +kernel, by decide +kernel⟩, by decide +kernel, by decide⟩, List.mem_of_getElem? (i := 695) (by decide +kernel), List.mem_of_getElem? (i := 696) (by decide +kernel), by decide, by decide, rc_X6_pass⟩, ⟨_, _, 20, 8, _, (ct_L_isSame hl hNL), ⟨List.mem_of_getElem? (i := 713) (by decide +kernel), List.mem_of_getElem? (i := 25) (by decide +kernel), List.mem_of_getElem? (i := 711) (by decide +kernel), ⟨by decide +kernel, by decide +kernel⟩, by decide +kernel, by decide⟩, List.mem_of_getElem? (i := 712) (by decide +kernel), by decide⟩, trivial⟩
theorem ar_L_holds : ∀ as S P, s_L_holds as S P → as = [aR 14 0] ∧ S = S00 := fun as S P h => ⟨h.1, h.2.1⟩
theorem pas_wf {T n k : Nat} {S S0 : Sto} (hI : LawI T S0) (h : pasK T S0 n k S) : WfH S := by
  obtain ⟨h2, -, -, h4⟩ := h
  have c : ∀ k, k ≠ 10 → S.1 k = S0.1 k := fun k hk => by
    funext f i
    exact h4 k f i (fun q => hk q.1) (fun q => hk q.1)
  have hW := hI.wf
  unfold WfH RoF RiF at hW ⊢
  rw [h2, c 2 (by decide), c 3 (by decide), c 4 (by decide), c 5 (by decide), c 6 (by decide)]
  exact hW
set_option maxRecDepth 8000 in
theorem vc_L_holds : ∀ (G : Gt) (Q : Out → Sto → Prop) (as : List AV) (S : Sto), s_L_holds as S Q → (∀ v, G 8 (hL (aR 0 0)) [] SF v → G 8 (hL (aR 17 0)) [] cHb v) → Seg tb_L_holds G Q 2 5000 [] (0, fun _ => 0) → G 0 (argL as 15) [] S 0 := by
  intro G Q as S h hre hs
  obtain ⟨rfl, rfl, hQ⟩ := h
  have ten9 : (1000000000 : Int32) = nI 1000000000 := rfl
  -- the steps
  have loop : ∀ m k, k + m = 56 → ∀ (T : Nat) (S : Sto) (u : Nat), LawI T S → T ≤ 144 * k → u ≤ 431 + 80 * k → ∀ x11 x12 x13 x14, G 83 [some (aR 14 0), some (aR 0 0), some (aR 10 3), some (aR 10 4), some (aR 10 5), some (aR 10 6), some (aR 10 7), some (aR 10 8), some (aR 10 9), some (aI 1), some (aI (nI k)), x11, x12, x13, x14] [] S u := by
    intro m
    induction m with
    | zero =>
      intro k hk T S u hI hT hu x11 x12 x13 x14
      obtain rfl : k = 56 := hk
      refine hs [83] 60 83 _ _ _ _ ?_
      exact ⟨fun _ => ⟨rfl, hQ S⟩, fun z => absurd (by decide) z⟩
    | succ m ih =>
      intro k hk T S u hI hT hu x11 x12 x13 x14
      have hk56 : k < 56 := by omega
      -- behind a step
      have h367 : ∀ z : Nat, z < 1000000000 → ∀ (T : Nat) (S : Sto) (u2 : Nat) (y11 : Int32) x13 x14, LawI T S → T ≤ 144 * (k + 1) → u2 ≤ u + 12 → G 367 [some (aR 14 0), some (aR 0 0), some (aR 10 3), some (aR 10 4), some (aR 10 5), some (aR 10 6), some (aR 10 7), some (aR 10 8), some (aR 10 9), some (aI 1), some (aI (nI k)), some (aI y11), some (aI (nI z)), x13, x14] [] S u2 := by
        intro z hz T S u2 y11 x13 x14 hI hT hu2
        have ez : nI z / 3 = nI (z / 3) := pk_div (d := 3) (by omega) (by omega) (by omega)
        refine hs [83] 60 367 _ _ _ _ ?_
        refine ⟨fun q => absurd q (by decide), fun _ => ⟨by decide, ?_⟩⟩
        refine bif_ok rfl (by omega) ?_
        refine ⟨⟨rfl, rfl⟩, ⟨rfl, rfl⟩, ⟨rfl, rfl⟩, ⟨rfl, rfl⟩, ⟨rfl, rfl⟩, ⟨rfl, rfl⟩, ⟨rfl, rfl⟩, ⟨rfl, rfl⟩, T, z / 3, hI, by omega, ez, by omega, fun S' hS' => ?_⟩
        refine ⟨fun q => absurd q (by decide), fun _ => ?_⟩
        have h1 := ih (k + 1) (by omega) T S' (u2 + 60) (hS'.inv hI) hT (by omega) (some (aI y11)) (some (aI (nI z))) x13 x14
        rw [← nI_s] at h1
        exact h1
      -- tens pass
      have h324 : ∀ z : Nat, z < 1000000000 → ∀ t : Nat, 1 ≤ t → t ≤ 144 → ∀ (y11 : Int32) x14, G 324 [some (aR 14 0), some (aR 0 0), some (aR 10 3), some (aR 10 4), some (aR 10 5), some (aR 10 6), some (aR 10 7), some (aR 10 8), some (aR 10 9), some (aI 1), some (aI (nI k)), some (aI y11), some (aI (nI z)), some (aI (nI t)), x14] [] S u := by
        intro z hz t t1 t9 y11 x14
        have loopT : ∀ m j, j + m = t → ∀ Sj, pasK T S j 0 Sj → G 327 [some (aR 14 0), some (aR 0 0), some (aR 10 3), some (aR 10 4), some (aR 10 5), some (aR 10 6), some (aR 10 7), some (aR 10 8), some (aR 10 9), some (aI 1), some (aI (nI k)), some (aI y11), some (aI (nI z)), some (aI (nI t)), some (aI (nI j))] [] Sj u := by
          intro m
          induction m with
          | zero =>
            intro j hj Sj hP
            obtain rfl : j = t := hj
            have hinv := inv_pass hI (by omega) hP
            have hWj := pas_wf hI hP
            have k1 : rg (nI j) 1 144 := rgN (a := 1) (b := 144) t1 t9 (by omega)
            have e9 : Sj.1 0 9 0 = nI T := (hP.2.2.2 0 9 0 (fun q => absurd q.1 (by decide)) (fun q => absurd q.1 (by decide))).trans hI.mm.2.1
            have k2 : Sj.1 0 9 0 + nI j ≤ 9999 := by
              rw [e9, nI_add]
              exact (nI_le2 (b := 9999) (by omega) (by omega)).mpr (by omega)
            have cj : (nI j).toNatClampNeg = j := nI_cl (by omega)
            have q1 : (passS Sj j).1 0 9 0 = nI (T + j) := hinv.mm.2.1
            have q2 : (passS Sj j).1 10 9 (0 : Int32).toNatClampNeg = nI (T + j) := hinv.mm.1
            have vm0 : vp_in (0 : Int32) 5 := nI_vin (a := 0) (by omega) (by decide)
            refine hs [327, 367] 60 327 _ _ _ _ ?_
            refine ⟨fun _ => ?_, fun q => (lp_end q).elim⟩
            refine bif_ok rfl (by omega) ?_
            refine ⟨rfl, rfl, hWj, fun q => absurd k1 q, fun _ q => absurd k2 q, fun _ _ => ⟨vm0, ?_⟩⟩
            rw [cj, q1, q2]
            exact ⟨fun q => absurd rfl q, fun _ => h367 z hz _ _ _ _ _ _ hinv (by omega) (by omega)⟩
          | succ m ih2 =>
            intro j hj Sj hP
            refine hs [327] 60 327 _ _ _ _ ?_
            refine ⟨fun q => absurd ((nI_le2 (by omega) (by omega)).mp q) (by omega), fun _ => ?_⟩
            refine bif_ok rfl (by omega) ?_
            refine ⟨rfl, rfl, rfl, rfl, T, j, S, hI, by omega, hP, fun S' hP' => ?_⟩
            have h1 := ih2 (j + 1) (by omega) S' hP'
            rw [← nI_s] at h1
            exact h1
        refine hs [327] 60 324 _ _ _ _ ?_
        refine loopT t 0 (by omega) S ⟨rfl, hI.mm.1, fun i hi => ?_, fun _ _ _ _ _ => rfl⟩
        rw [if_neg (Nat.not_lt_zero _), if_neg (Nat.not_lt_zero _)]
        exact ⟨(hI.ri i hi).1 9 (by decide) (by decide) (by decide), (hI.ri i hi).1 11 (by decide) (by decide) (by decide)⟩
      have h121 : ∀ w : Nat, w < 32 → ∀ z : Nat, z < 1000000000 → G 121 [some (aR 14 0), some (aR 0 0), some (aR 10 3), some (aR 10 4), some (aR 10 5), some (aR 10 6), some (aR 10 7), some (aR 10 8), some (aR 10 9), some (aI 1), some (aI (nI k)), some (aI (nI w)), some (aI (nI z)), x13, x14] [] S u := by
        intro w hw z hz
        have hz2 : ∃ j : Nat, j < 2 ∧ nI z - nI z / 2 * 2 = nI j := remN (q := z) (d := 2) (by omega) (by omega) (by omega)
        obtain ⟨j, hj, ej⟩ := hz2
        obtain ⟨i, hi, ei⟩ : ∃ j : Nat, j < 6 ∧ nI z / 2 - nI z / 2 / 6 * 6 = nI j := drm (q := z) (d := 2) (e := 6) (by omega) (by omega) (by omega) (by omega) (by omega)
        have ez2 : nI z / 2 = nI (z / 2) := pk_div (d := 2) (by omega) (by omega) (by omega)
        have fin : ∀ S' x13 x14, LawI T S' → G 367 [some (aR 14 0), some (aR 0 0), some (aR 10 3), some (aR 10 4), some (aR 10 5), some (aR 10 6), some (aR 10 7), some (aR 10 8), some (aR 10 9), some (aI 1), some (aI (nI k)), some (aI (nI w)), some (aI (nI z)), x13, x14] [] S' (u + 12) := fun S' x13 x14 hI' => h367 z hz T S' (u + 12) (nI w) x13 x14 hI' (by omega) (by omega)
        have h135 : G 135 [some (aR 14 0), some (aR 0 0), some (aR 10 3), some (aR 10 4), some (aR 10 5), some (aR 10 6), some (aR 10 7), some (aR 10 8), some (aR 10 9), some (aI 1), some (aI (nI k)), some (aI (nI w)), some (aI (nI z)), x13, x14] [] S u := by
          have go : ∀ y : Int32, G 160 [some (aR 14 0), some (aR 0 0), some (aR 10 3), some (aR 10 4), some (aR 10 5), some (aR 10 6), some (aR 10 7), some (aR 10 8), some (aR 10 9), some (aI 1), some (aI (nI k)), some (aI (nI w)), some (aI (nI z)), x13, x14] [aI y, aR 10 9, aR 10 8, aR 10 7, aR 10 6, aR 0 0] S u := fun y => by
            refine hs [367] 60 160 _ _ _ _ ?_
            refine bif_ok rfl (by omega) ?_
            exact ⟨⟨rfl, rfl⟩, ⟨rfl, rfl⟩, ⟨rfl, rfl⟩, ⟨rfl, rfl⟩, ⟨rfl, rfl⟩, T, z, hI, by omega, rfl, by omega, fun S' hI' => fin S' _ _ hI'⟩
          refine hs [160] 60 135 _ _ _ _ ?_
          exact ⟨fun _ => go 1, fun _ => ⟨fun _ => go 1, fun _ => go 0⟩⟩
        have h170 : G 170 [some (aR 14 0), some (aR 0 0), some (aR 10 3), some (aR 10 4), some (aR 10 5), some (aR 10 6), some (aR 10 7), some (aR 10 8), some (aR 10 9), some (aI 1), some (aI (nI k)), some (aI (nI w)), some (aI (nI z)), x13, x14] [] S u := by
          have go : ∀ y : Int32, G 200 [some (aR 14 0), some (aR 0 0), some (aR 10 3), some (aR 10 4), some (aR 10 5), some (aR 10 6), some (aR 10 7), some (aR 10 8), some (aR 10 9), some (aI 1), some (aI (nI k)), some (aI (nI w)), some (aI (nI z)), x13, x14] [aI y, aR 10 9, aR 10 8, aR 10 4, aR 10 3, aR 0 0] S u := fun y => by
            refine hs [367] 60 200 _ _ _ _ ?_
            refine bif_ok rfl (by omega) ?_
            exact ⟨⟨rfl, rfl⟩, ⟨rfl, rfl⟩, ⟨rfl, rfl⟩, ⟨rfl, rfl⟩, ⟨rfl, rfl⟩, T, z, hI, by omega, rfl, by omega, fun S' hI' => fin S' _ _ hI'⟩
          have g322 : ∀ t : Nat, 1 ≤ t → t ≤ 144 → ∀ y : Int32, y = nI t → G 322 [some (aR 14 0), some (aR 0 0), some (aR 10 3), some (aR 10 4), some (aR 10 5), some (aR 10 6), some (aR 10 7), some (aR 10 8), some (aR 10 9), some (aI 1), some (aI (nI k)), some (aI (nI w)), some (aI (nI z)), x13, x14] [aI y] S u := fun t t1 t9 y hy => by
            subst hy
            refine hs [324] 60 322 _ _ _ _ ?_
            exact h324 z hz t t1 t9 (nI w) x14
          have vm0 : vp_in (0 : Int32) 5 := nI_vin (a := 0) (by omega) (by decide)
          have m0 : S.1 10 9 (0 : Int32).toNatClampNeg = nI T := hI.mm.1
          refine hs [200, 322, 367] 90 170 _ _ _ _ ?_
          refine ⟨fun _ => ⟨fun _ => ⟨fun _ => ⟨fun _ => ⟨fun _ => ⟨by decide, ?_⟩, fun _ => ⟨vm0, ?_⟩⟩, fun _ => ⟨by decide, ?_⟩⟩, fun _ => ⟨by decide, by decide, by decide, ?_⟩⟩, fun _ => ⟨by decide, by decide, ?_⟩⟩, fun _ => ⟨fun _ => go _, fun _ => go _⟩⟩
          · refine g322 (1 + z % 144) (by omega) (by omega) _ ?_
            rw [show nI z - nI z / 144 * 144 = nI (z % 144) from pk_rem (d := 144) (by omega) (by omega) (by omega)]
            exact nI_add 1 _
          · rw [m0]
            refine ⟨by decide, g322 (144 - T % 144) (by omega) (by omega) _ ?_⟩
            rw [show nI T - nI T / 144 * 144 = nI (T % 144) from pk_rem (d := 144) (by omega) (by omega) (by omega)]
            exact nI_sub (a := 144) (by omega)
          · refine g322 (1 + z % 9) (by omega) (by omega) _ ?_
            rw [show nI z - nI z / 9 * 9 = nI (z % 9) from pk_rem (d := 9) (by omega) (by omega) (by omega)]
            exact nI_add 1 _
          · refine bif_ok rfl (by omega) ?_
            exact ⟨⟨rfl, rfl⟩, ⟨rfl, rfl⟩, ⟨rfl, rfl⟩, ⟨rfl, rfl⟩, ⟨rfl, rfl⟩, ⟨rfl, rfl⟩, ⟨rfl, rfl⟩, ⟨rfl, rfl⟩, T, i, j, hI, by omega, ej, hj, ei, hi, fun S' hI' => fin S' _ _ hI'⟩
          · refine bif_ok rfl (by omega) ?_
            exact ⟨⟨rfl, rfl⟩, ⟨rfl, rfl⟩, T, z / 2, j, hI, ej, hj, ez2, by omega, fun S' hI' => fin S' _ _ hI'⟩
        refine hs [135, 170] 60 121 _ _ _ _ ?_
        exact ⟨fun _ => h135, fun _ => ⟨fun _ => h170, fun _ => h135⟩⟩
      have e2k : (2 : Int32) * nI k = nI (2 * k) := nI_mul 2 k
      have e2k1 : (2 : Int32) * nI k + 1 = nI (2 * k + 1) := by rw [e2k, nI_s]
      refine hs [121] 90 83 _ _ _ _ ?_
      refine ⟨fun q => absurd q (lp_go (n := 56) (by omega) hk56), fun _ => ⟨fun q => absurd q (by decide), fun _ => ?_⟩⟩
      refine bif_ok rfl (by omega) ?_
      refine ⟨rfl, rfl, 2 * k, 32, e2k, by omega, rfl, by omega, by omega, fun w hw => ?_⟩
      refine bif_ok rfl (by omega) ?_
      refine ⟨rfl, rfl, 2 * k + 1, 1000000000, e2k1, by omega, rfl, by omega, by omega, fun z hz => ?_⟩
      exact h121 w hw z hz
  -- the most weights
  have v8 : ∀ k, k < 8 → vp_in (nI k) 8 := fun k hk => nI_vin (by omega) hk
  have step : ∀ k, k < 8 → ∀ (S : Sto) (u : Nat), G 60 [some (aR 14 0), some (aR 0 0), some (aR 10 3), some (aR 10 4), some (aR 10 5), some (aR 10 6), some (aR 10 7), some (aR 10 8), some (aR 10 9), some (aI 1), some (aI (nI (k + 1))), none, none, none, none] [] (wrI S 10 8 k 99999) u → G 60 [some (aR 14 0), some (aR 0 0), some (aR 10 3), some (aR 10 4), some (aR 10 5), some (aR 10 6), some (aR 10 7), some (aR 10 8), some (aR 10 9), some (aI 1), some (aI (nI k)), none, none, none, none] [] S u := by
    intro k hk S u h
    rw [← nI_s] at h
    refine hs [60] 60 60 _ _ _ _ ?_
    refine ⟨fun q => absurd q (lp_go (n := 8) (by omega) hk), fun _ => ⟨v8 k hk, ?_⟩⟩
    rw [nI_cl (by omega)]
    exact h
  have h47 : G 47 [some (aR 14 0), some (aR 0 0), some (aR 10 3), some (aR 10 4), some (aR 10 5), some (aR 10 6), some (aR 10 7), some (aR 10 8), some (aR 10 9), none, none, none, none, none, none] [] SB 341 := by
    refine hs [60] 60 47 _ _ _ _ ?_
    refine ⟨⟨rfl, rfl⟩, ⟨rfl, rfl⟩, ⟨rfl, rfl⟩, ⟨rfl, rfl⟩, beg_SB, fun S' hB => ?_⟩
    have hI := beg_law hB
    have h80 : G 60 [some (aR 14 0), some (aR 0 0), some (aR 10 3), some (aR 10 4), some (aR 10 5), some (aR 10 6), some (aR 10 7), some (aR 10 8), some (aR 10 9), some (aI 1), some (aI (nI 8)), none, none, none, none] [] (wrI (wrI (wrI (wrI S' 10 8 4 99999) 10 8 5 99999) 10 8 6 99999) 10 8 7 99999) 431 := by
      refine hs [83] 60 60 _ _ _ _ ?_
      exact ⟨fun _ => loop 56 0 rfl 0 _ 431 hI (by omega) (by omega) _ _ _ _, fun q => absurd (by decide) q⟩
    exact step 4 (by omega) S' 431 (step 5 (by omega) _ 431 (step 6 (by omega) _ 431 (step 7 (by omega) _ 431 h80)))
  have h8 : G 8 (hL (aR 0 0)) [] SF 131 := by
    refine hs [47] 60 8 _ _ _ _ ?_
    exact ⟨rfl, rfl, rfl, rfl, rfl, rfl, rfl, h47⟩
  have h9 := hre 131 h8
  refine hs [8] 60 0 _ _ _ _ ?_
  exact ⟨rfl, rfl, h9⟩
theorem ct_L_holds {l : Launch} (hl : l.stackTraces = false) (hNL : NewL l) : CT l yL_holds cL_holds 15 (some .boolean) 9 5000 s_L_holds := CT_ofR hl hNL (by decide +kernel) rfl chk_L_holds (cal_L_holds hl hNL) ar_L_holds vc_L_holds
