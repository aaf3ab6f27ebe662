/-! EMBARGOES AND PERMITS, told by the law -/
def alw (as : List AV) (f : Int32 → Int32 → Prop) : Prop := match as with
  | [Sum.inr (Sum.inr (k, i)), Sum.inr (Sum.inr (k1, i1)), Sum.inr (Sum.inr (k2, i2)), Sum.inr (Sum.inr (k3, i3)), Sum.inr (Sum.inr (k4, i4)), Sum.inl a, Sum.inl b] =>
    (k = 0 ∧ i = 0) ∧ (k1 = 10 ∧ i1 = 6) ∧ (k2 = 10 ∧ i2 = 7) ∧ (k3 = 10 ∧ i3 = 8) ∧ (k4 = 10 ∧ i4 = 9) ∧ f a b
  | _ => False
theorem alw_ok {as : List AV} {f : Int32 → Int32 → Prop} (h : alw as f) : ∃ a b, as = [aR 0 0, aR 10 6, aR 10 7, aR 10 8, aR 10 9, aI a, aI b] ∧ f a b := by
  unfold alw at h
  split at h
  · obtain ⟨⟨rfl, rfl⟩, ⟨rfl, rfl⟩, ⟨rfl, rfl⟩, ⟨rfl, rfl⟩, ⟨rfl, rfl⟩, h⟩ := h; exact ⟨_, _, rfl, h⟩
  · exact h.elim
def s_L_isAllowed : SP := fun as S Q => alw as fun _ z => ∃ (T q : Nat), LawI T S ∧ T ≤ 9000 ∧ z = nI q ∧ q < 2 ^ 31 ∧ ∀ S', LawI T S' → Q (Sum.inl (some (aI 1))) S'
def tb_L_isAllowed : Tb := [(0, .iload 6, 2, x0), (2, .iconst 4, 1, xI (4)), (3, .irem, 1, x0), (4, .istore 7, 2, x0), (6, .iload 5, 2, x0), (8, .ifCond .ne 120, 3, xN 128), (11, .aload 4, 2, x0), (13, .iconst 4, 1, xI (4)), (14, .iaload, 1, x0), (15, .iconst 3, 1, xI (3)), (16, .if_icmp .ne 5, 3, xN 21), (19, .iconst 1, 1, xI (1)), (20, .ireturn, 1, x0), (21, .aload_n 2, 1, x0), (22, .iconst 3, 1, xI (3)), (23, .aload 4, 2, x0), (25, .iconst 4, 1, xI (4)), (26, .iaload, 1, x0), (27, .imul, 1, x0), (28, .iload 7, 2, x0), (30, .iastore, 1, x0), (31, .aload_n 2, 1, x0), (32, .iconst 3, 1, xI (3)), (33, .aload 4, 2, x0), (35, .iconst 4, 1, xI (4)), (36, .iaload, 1, x0), (37, .imul, 1, x0), (38, .iconst 1, 1, xI (1)), (39, .iadd, 1, x0), (40, .iload 6, 2, x0), (42, .iconst 4, 1, xI (4)), (43, .idiv, 1, x0), (44, .sipush 400, 3, xI (400)), (47, .irem, 1, x0), (48, .iastore, 1, x0), (49, .aload_n 2, 1, x0), (50, .iconst 3, 1, xI (3)), (51, .aload 4, 2, x0), (53, .iconst 4, 1, xI (4)), (54, .iaload, 1, x0), (55, .imul, 1, x0), (56, .iconst 2, 1, xI (2)), (57, .iadd, 1, x0), (58, .aload_n 2, 1, x0), (59, .iconst 3, 1, xI (3)), (60, .aload 4, 2, x0), (62, .iconst 4, 1, xI (4)), (63, .iaload, 1, x0), (64, .imul, 1, x0), (65, .iconst 1, 1, xI (1)), (66, .iadd, 1, x0), (67, .iaload, 1, x0), (68, .iconst 1, 1, xI (1)), (69, .iadd, 1, x0), (70, .iload 6, 2, x0), (72, .sipush 1600, 3, xI (1600)), (75, .idiv, 1, x0), (76, .bipush 20, 2, xI (20)), (78, .irem, 1, x0), (79, .iadd, 1, x0), (80, .iastore, 1, x0), (81, .aload 4, 2, x0), (83, .iconst 4, 1, xI (4)), (84, .dup2, 1, x0), (85, .iaload, 1, x0), (86, .iconst 1, 1, xI (1)), (87, .iadd, 1, x0), (88, .iastore, 1, x0), (89, .aload_n 0, 1, x0), (90, .iload 7, 2, x0), (92, .aload_n 2, 1, x0), (93, .iconst 3, 1, xI (3)), (94, .aload 4, 2, x0), (96, .iconst 4, 1, xI (4)), (97, .iaload, 1, x0), (98, .imul, 1, x0), (99, .iconst 2, 1, xI (2)), (100, .isub, 1, x0), (101, .iaload, 1, x0), (102, .aload_n 2, 1, x0), (103, .iconst 3, 1, xI (3)), (104, .aload 4, 2, x0), (106, .iconst 4, 1, xI (4)), (107, .iaload, 1, x0), (108, .imul, 1, x0), (109, .iconst 1, 1, xI (1)), (110, .isub, 1, x0), (111, .iaload, 1, x0), (112, .invokevirtual 75, 3, xS 4 10 s_X6_embargo), (115, .aload 4, 2, x0), (117, .iconst 4, 1, xI (4)), (118, .iaload, 1, x0), (119, .if_icmp .ne 7, 3, xN 126), (122, .iconst 1, 1, xI (1)), (123, .goto 4, 3, xN 127), (126, .iconst 0, 1, xI (0)), (127, .ireturn, 1, x0), (128, .aload 4, 2, x0), (130, .iconst 3, 1, xI (3)), (131, .iaload, 1, x0), (132, .bipush 12, 2, xI (12)), (134, .if_icmp .ne 5, 3, xN 139), (137, .iconst 1, 1, xI (1)), (138, .ireturn, 1, x0), (139, .iconst 4, 1, xI (4)), (140, .aload 4, 2, x0), (142, .iconst 3, 1, xI (3)), (143, .iaload, 1, x0), (144, .imul, 1, x0), (145, .istore 8, 2, x0), (147, .aload_n 1, 1, x0), (148, .iload 8, 2, x0), (150, .iload 6, 2, x0), (152, .iconst 4, 1, xI (4)), (153, .idiv, 1, x0), (154, .iconst 2, 1, xI (2)), (155, .irem, 1, x0), (156, .iastore, 1, x0), (157, .aload_n 1, 1, x0), (158, .iload 8, 2, x0), (160, .iconst 1, 1, xI (1)), (161, .iadd, 1, x0), (162, .iload 7, 2, x0), (164, .iastore, 1, x0), (165, .aload_n 1, 1, x0), (166, .iload 8, 2, x0), (168, .iconst 2, 1, xI (2)), (169, .iadd, 1, x0), (170, .aload 4, 2, x0), (172, .iconst 0, 1, xI (0)), (173, .iaload, 1, x0), (174, .aload_n 3, 1, x0), (175, .iload 7, 2, x0), (177, .iaload, 1, x0), (178, .iadd, 1, x0), (179, .iload 6, 2, x0), (181, .bipush 8, 2, xI (8)), (183, .idiv, 1, x0), (184, .bipush 30, 2, xI (30)), (186, .irem, 1, x0), (187, .iadd, 1, x0), (188, .iastore, 1, x0), (189, .aload_n 1, 1, x0), (190, .iload 8, 2, x0), (192, .iconst 3, 1, xI (3)), (193, .iadd, 1, x0), (194, .aload_n 1, 1, x0), (195, .iload 8, 2, x0), (197, .iconst 2, 1, xI (2)), (198, .iadd, 1, x0), (199, .iaload, 1, x0), (200, .iconst 1, 1, xI (1)), (201, .iadd, 1, x0), (202, .iload 6, 2, x0), (204, .sipush 240, 3, xI (240)), (207, .idiv, 1, x0), (208, .sipush 400, 3, xI (400)), (211, .irem, 1, x0), (212, .iadd, 1, x0), (213, .iastore, 1, x0), (214, .aload 4, 2, x0), (216, .iconst 3, 1, xI (3)), (217, .dup2, 1, x0), (218, .iaload, 1, x0), (219, .iconst 1, 1, xI (1)), (220, .iadd, 1, x0), (221, .iastore, 1, x0), (222, .aload_n 0, 1, x0), (223, .aload_n 1, 1, x0), (224, .iload 8, 2, x0), (226, .iaload, 1, x0), (227, .iload 7, 2, x0), (229, .aload_n 1, 1, x0), (230, .iload 8, 2, x0), (232, .iconst 2, 1, xI (2)), (233, .iadd, 1, x0), (234, .iaload, 1, x0), (235, .aload_n 1, 1, x0), (236, .iload 8, 2, x0), (238, .iconst 3, 1, xI (3)), (239, .iadd, 1, x0), (240, .iaload, 1, x0), (241, .invokevirtual 78, 3, xS 5 10 s_X6_permit), (244, .aload 4, 2, x0), (246, .iconst 3, 1, xI (3)), (247, .iaload, 1, x0), (248, .if_icmp .ne 7, 3, xN 255), (251, .iconst 1, 1, xI (1)), (252, .goto 4, 3, xN 256), (255, .iconst 0, 1, xI (0)), (256, .ireturn, 1, x0)]
theorem chk_L_isAllowed : chkTb cL_isAllowed "HeavyHaulLaw" false tb_L_isAllowed = true := by decide +kernel
theorem cal_L_isAllowed {l : Launch} (hl : l.stackTraces = false) (hNL : NewL l) : CallsOK l "HeavyHaulLaw" 7 tb_L_isAllowed := callsOK_f ⟨⟨_, _, 4, 6, _, 7, (ct_X6_embargo hl hNL), ⟨List.mem_of_getElem? (i := 443) (by decide +kernel), List.mem_of_getElem? (i := 26) (by decide +kernel), List.mem_of_getElem? (i := 440) (by decide +kernel), ⟨by decide +kernel, by decide +kernel⟩, by decide +kernel, by decide⟩, List.mem_of_getElem? (i := 441) (by decide +kernel), List.mem_of_getElem? (i := 442) (by decide +kernel), by decide, by decide, rc_X6_embargo⟩, ⟨_, _, 5, 6, _, 7, (ct_X6_permit hl hNL), ⟨List.mem_of_getElem? (i := 478) (by decide +kernel), List.mem_of_getElem? (i := 26) (by decide +kernel), List.mem_of_getElem? (i := 475) (by decide +kernel), ⟨by decide +kernel, by decide +kernel⟩, by decide +kernel, by decide⟩, List.mem_of_getElem? (i := 476) (by decide +kernel), List.mem_of_getElem? (i := 477) (by decide +kernel), by decide, by decide, rc_X6_permit⟩, trivial⟩
theorem ar_L_isAllowed : ∀ as S P, s_L_isAllowed as S P → as.length ≤ 9 ∧ ∀ a ∈ as, catV a = 1 := fun as S P h => by
  obtain ⟨_, _, rfl, _⟩ := alw_ok h
  exact ar_all ⟨Nat.le_of_ble_eq_true rfl, rfl⟩
theorem c4l : (4 : Int32).toNatClampNeg = 4 := nI_cl (n := 4) (by omega)
theorem c3l : (3 : Int32).toNatClampNeg = 3 := nI_cl (n := 3) (by omega)
theorem c2l : (2 : Int32).toNatClampNeg = 2 := nI_cl (n := 2) (by omega)
theorem c1l : (1 : Int32).toNatClampNeg = 1 := nI_cl (n := 1) (by omega)
theorem c0l : (0 : Int32).toNatClampNeg = 0 := nI_cl (n := 0) (by omega)
theorem ix_m (a n c : Nat) (h : c ≤ a * n) : nI a * nI n - nI c = nI (a * n - c) := by rw [nI_mul, nI_sub h]
theorem perN {f t : Nat} (h : f < t) (ht : t ≤ 9999) : perF (nI f) (nI t) := ⟨rgN (a := 0) (b := 9999) (by omega) (by omega) (by omega), by rw [nI_s]; exact rgN (b := 9999) (by omega) ht (by omega)⟩
set_option maxRecDepth 8000 in
theorem vc_L_isAllowed : ∀ (G : Gt) (Q : Out → Sto → Prop) (as : List AV) (S : Sto), s_L_isAllowed as S Q → Seg tb_L_isAllowed G Q 2 12 [] (0, fun _ => 0) → G 0 (argL as 9) [] S 0 := by
  intro G Q as S h hs
  obtain ⟨way, z0, rfl, T, q, hI, hT, rfl, hq, hQ⟩ := alw_ok h
  obtain ⟨h, hh, eh⟩ : ∃ j : Nat, j < 4 ∧ nI q - nI q / 4 * 4 = nI j := remN (q := q) (d := 4) hq (by omega) (by omega)
  obtain ⟨-, -, m2, m3, m4⟩ := hI.mm
  have m00 := hI.mm.1
  have vm0 : vp_in (0 : Int32) 5 := nI_vin (a := 0) (by omega) (by decide)
  have vm3 : vp_in (3 : Int32) 5 := nI_vin (a := 3) (by omega) (by decide)
  have vm4 : vp_in (4 : Int32) 5 := nI_vin (a := 4) (by omega) (by decide)
  have em4 : S.1 10 9 (4 : Int32).toNatClampNeg = nI (S.2.2 24) := m4
  have em3 : S.1 10 9 (3 : Int32).toNatClampNeg = nI (S.2.2 23) := m3
  have hn4 := hI.n.2.2.2.2
  have hn3 := hI.n.2.2.2.1
  have hn22 := hI.n.2.1
  have hh4 : nm (nI h) 4 := nmN (b := 4) hh (by omega)
  -- embargoes
  have h21 : ∀ x8, S.2.2 24 < 3 → G 21 [some (aR 0 0), some (aR 10 6), some (aR 10 7), some (aR 10 8), some (aR 10 9), some (aI way), some (aI (nI q)), some (aI (nI h)), x8] [] S 0 := by
    intro x8 hlt
    obtain ⟨n, hn⟩ : ∃ n, n = S.2.2 24 := ⟨_, rfl⟩
    obtain ⟨f, hf, ef⟩ : ∃ j : Nat, j < 400 ∧ nI q / 4 - nI q / 4 / 400 * 400 = nI j := drm (q := q) (d := 4) (e := 400) hq (by omega) (by omega) (by omega) (by omega)
    obtain ⟨t, ht, et⟩ : ∃ j : Nat, j < 20 ∧ nI q / 1600 - nI q / 1600 / 20 * 20 = nI j := drm (q := q) (d := 1600) (e := 20) hq (by omega) (by omega) (by omega) (by omega)
    have hfin := inv_embargo hI hlt (nI h) (nI f) (nI (f + 1 + t)) ((nI_lt2 (by omega) (by omega)).mpr (by omega))
    have e0 : ((3 : Int32) * nI n).toNatClampNeg = 3 * n := ix_1 3 n (by omega)
    have e1 : ((3 : Int32) * nI n + 1).toNatClampNeg = 3 * n + 1 := ix_2 3 n 1 (by omega)
    have e2 : ((3 : Int32) * nI n + 2).toNatClampNeg = 3 * n + 2 := ix_2 3 n 2 (by omega)
    have v0 : vp_in ((3 : Int32) * nI n) 9 := iv_1 (a := 3) (by omega) (by omega)
    have v1 : vp_in ((3 : Int32) * nI n + 1) 9 := iv_2 (a := 3) (c := 1) (by omega) (by omega)
    have v2 : vp_in ((3 : Int32) * nI n + 2) 9 := iv_2 (a := 3) (c := 2) (by omega) (by omega)
    have y2 : (3 : Int32) * nI (n + 1) - 2 = nI (3 * n + 1) := ix_m 3 (n + 1) 2 (by omega)
    have y1 : (3 : Int32) * nI (n + 1) - 1 = nI (3 * n + 2) := ix_m 3 (n + 1) 1 (by omega)
    rw [← hn] at em4
    unfold lwE at hfin
    rw [← hn] at hfin
    obtain ⟨S1, hS1⟩ : ∃ S1, S1 = wrI S 10 7 (3 * n) (nI h) := ⟨_, rfl⟩
    obtain ⟨S2, hS2⟩ : ∃ S2, S2 = wrI S1 10 7 (3 * n + 1) (nI f) := ⟨_, rfl⟩
    obtain ⟨S3, hS3⟩ : ∃ S3, S3 = wrI S2 10 7 (3 * n + 2) (nI (f + 1 + t)) := ⟨_, rfl⟩
    obtain ⟨S4, hS4⟩ : ∃ S4, S4 = wrI S3 10 9 4 (nI (n + 1)) := ⟨_, rfl⟩
    rw [← hS1, ← hS2, ← hS3, ← hS4] at hfin
    have m1 : S1.1 10 9 (4 : Int32).toNatClampNeg = nI n := by rw [hS1]; exact em4
    have m2 : S2.1 10 9 (4 : Int32).toNatClampNeg = nI n := by rw [hS2]; exact m1
    have m3 : S3.1 10 9 (4 : Int32).toNatClampNeg = nI n := by rw [hS3]; exact m2
    have m4 : S4.1 10 9 (4 : Int32).toNatClampNeg = nI (n + 1) := by rw [hS4, c4l, wrI_at, if_pos ⟨rfl, rfl, rfl⟩]
    have r2 : S2.1 10 7 (3 * n + 1) = nI f := by rw [hS2, wrI_at, if_pos ⟨rfl, rfl, rfl⟩]
    have r41 : S4.1 10 7 (3 * n + 1) = nI f := by rw [hS4, wrI_ne fun z => absurd z.2.1 (by decide), hS3, wrI_ne fun z => by omega]; exact r2
    have r42 : S4.1 10 7 (3 * n + 2) = nI (f + 1 + t) := by rw [hS4, wrI_ne fun z => absurd z.2.1 (by decide), hS3, wrI_at, if_pos ⟨rfl, rfl, rfl⟩]
    have eft : nI f + 1 + nI t = nI (f + 1 + t) := by rw [nI_s, nI_add]
    have hW4 : WfH S4 := by
      rw [hS4, hS3, hS2, hS1]
      exact hI.wf
    have n24 : S4.2.2 24 = n := by
      rw [hS4, hS3, hS2, hS1, hn]
      rfl
    have hc : nI (S4.2.2 24) < 20 := by
      rw [n24]
      exact (nI_lt2 (b := 20) (by omega) (by omega)).mpr (by omega)
    have hc2 : nI ((newE S4 (nI h) (nI f) (nI (f + 1 + t))).2.2 24) = nI (n + 1) := by
      have e : (newE S4 (nI h) (nI f) (nI (f + 1 + t))).2.2 24 = S4.2.2 24 + 1 := rfl
      rw [e, n24]
    have m5 : (newE S4 (nI h) (nI f) (nI (f + 1 + t))).1 10 9 (4 : Int32).toNatClampNeg = nI (n + 1) := m4
    refine hs [] 150 21 _ _ _ _ ?_
    refine ⟨vm4, ?_⟩
    rw [em4]
    refine ⟨v0, vm4, ?_⟩
    rw [e0, ← hS1, m1]
    refine ⟨by decide, by decide, v1, vm4, ?_⟩
    rw [e1, ef, ← hS2, m2]
    refine ⟨vm4, ?_⟩
    rw [m2]
    refine ⟨v1, ?_⟩
    rw [e1, r2]
    refine ⟨by decide, by decide, v2, vm4, ?_⟩
    rw [e2, et, eft, ← hS3, m3]
    refine ⟨vm4, ?_⟩
    rw [nI_s, c4l, ← hS4]
    refine ⟨vm4, ?_⟩
    rw [m4]
    refine ⟨by rw [y2]; exact nI_vin (b := 9) (by omega) (by omega), vm4, ?_⟩
    rw [y2, nI_cl (show 3 * n + 1 < 2 ^ 31 by omega), r41, m4]
    refine ⟨by rw [y1]; exact nI_vin (b := 9) (by omega) (by omega), ?_⟩
    rw [y1, nI_cl (show 3 * n + 2 < 2 ^ 31 by omega), r42]
    refine ⟨rfl, rfl, hW4, fun z => absurd hh4 z, fun _ z => absurd (perN (by omega) (by omega)) z, fun _ _ z => absurd hc z, fun _ _ _ => ⟨vm4, ?_⟩⟩
    rw [m5, hc2]
    exact ⟨fun z => absurd rfl z, fun _ => ⟨rfl, hQ _ hfin⟩⟩
  -- permits
  have h139 : ∀ x8, S.2.2 23 < 12 → G 139 [some (aR 0 0), some (aR 10 6), some (aR 10 7), some (aR 10 8), some (aR 10 9), some (aI way), some (aI (nI q)), some (aI (nI h)), x8] [] S 0 := by
    intro x8 hlt
    obtain ⟨n, hn⟩ : ∃ n, n = S.2.2 23 := ⟨_, rfl⟩
    obtain ⟨r, hr, er⟩ : ∃ j : Nat, j < 2 ∧ nI q / 4 - nI q / 4 / 2 * 2 = nI j := drm (q := q) (d := 4) (e := 2) hq (by omega) (by omega) (by omega) (by omega)
    obtain ⟨f, hf, ef⟩ : ∃ j : Nat, j < 30 ∧ nI q / 8 - nI q / 8 / 30 * 30 = nI j := drm (q := q) (d := 8) (e := 30) hq (by omega) (by omega) (by omega) (by omega)
    obtain ⟨t, ht, et⟩ : ∃ j : Nat, j < 400 ∧ nI q / 240 - nI q / 240 / 400 * 400 = nI j := drm (q := q) (d := 240) (e := 400) hq (by omega) (by omega) (by omega) (by omega)
    obtain ⟨a1, -, x, ax, x39⟩ := hI.au h hh
    have hfin := inv_permit hI hlt (nI r) (nI h) (nI (T + x + f)) (nI (T + x + f + 1 + t))
    have e0 : ((4 : Int32) * nI n).toNatClampNeg = 4 * n := ix_1 4 n (by omega)
    have e1 : ((4 : Int32) * nI n + 1).toNatClampNeg = 4 * n + 1 := ix_2 4 n 1 (by omega)
    have e2 : ((4 : Int32) * nI n + 2).toNatClampNeg = 4 * n + 2 := ix_2 4 n 2 (by omega)
    have e3 : ((4 : Int32) * nI n + 3).toNatClampNeg = 4 * n + 3 := ix_2 4 n 3 (by omega)
    have v0 : vp_in ((4 : Int32) * nI n) 48 := iv_1 (a := 4) (by omega) (by omega)
    have v1 : vp_in ((4 : Int32) * nI n + 1) 48 := iv_2 (a := 4) (c := 1) (by omega) (by omega)
    have v2 : vp_in ((4 : Int32) * nI n + 2) 48 := iv_2 (a := 4) (c := 2) (by omega) (by omega)
    have v3 : vp_in ((4 : Int32) * nI n + 3) 48 := iv_2 (a := 4) (c := 3) (by omega) (by omega)
    have vh : vp_in (nI h) 8 := nI_vin (by omega) (by omega)
    rw [← hn] at em3
    unfold lwP at hfin
    rw [← hn] at hfin
    obtain ⟨S1, hS1⟩ : ∃ S1, S1 = wrI S 10 6 (4 * n) (nI r) := ⟨_, rfl⟩
    obtain ⟨S2, hS2⟩ : ∃ S2, S2 = wrI S1 10 6 (4 * n + 1) (nI h) := ⟨_, rfl⟩
    obtain ⟨S3, hS3⟩ : ∃ S3, S3 = wrI S2 10 6 (4 * n + 2) (nI (T + x + f)) := ⟨_, rfl⟩
    obtain ⟨S4, hS4⟩ : ∃ S4, S4 = wrI S3 10 6 (4 * n + 3) (nI (T + x + f + 1 + t)) := ⟨_, rfl⟩
    obtain ⟨S5, hS5⟩ : ∃ S5, S5 = wrI S4 10 9 3 (nI (n + 1)) := ⟨_, rfl⟩
    rw [← hS1, ← hS2, ← hS3, ← hS4, ← hS5] at hfin
    have z2 : S2.1 10 9 (0 : Int32).toNatClampNeg = nI T := by rw [hS2, hS1]; exact m00
    have a2 : S2.1 10 8 (nI h).toNatClampNeg = nI x := by
      rw [hS2, hS1, nI_cl (by omega)]
      exact a1.trans ax
    have m4 : S4.1 10 9 (3 : Int32).toNatClampNeg = nI n := by rw [hS4, hS3, hS2, hS1]; exact em3
    have r3 : S3.1 10 6 (4 * n + 2) = nI (T + x + f) := by rw [hS3, wrI_at, if_pos ⟨rfl, rfl, rfl⟩]
    have r50 : S5.1 10 6 (4 * n) = nI r := by rw [hS5, wrI_ne fun z => absurd z.2.1 (by decide), hS4, wrI_ne fun z => by omega, hS3, wrI_ne fun z => by omega, hS2, wrI_ne fun z => by omega, hS1, wrI_at, if_pos ⟨rfl, rfl, rfl⟩]
    have r52 : S5.1 10 6 (4 * n + 2) = nI (T + x + f) := by rw [hS5, wrI_ne fun z => absurd z.2.1 (by decide), hS4, wrI_ne fun z => by omega]; exact r3
    have r53 : S5.1 10 6 (4 * n + 3) = nI (T + x + f + 1 + t) := by rw [hS5, wrI_ne fun z => absurd z.2.1 (by decide), hS4, wrI_at, if_pos ⟨rfl, rfl, rfl⟩]
    have eft : nI T + nI x + nI f = nI (T + x + f) := by rw [nI_add, nI_add]
    have eft2 : nI (T + x + f) + 1 + nI t = nI (T + x + f + 1 + t) := by rw [nI_s, nI_add]
    have hW5 : WfH S5 := by
      rw [hS5, hS4, hS3, hS2, hS1]
      exact hI.wf
    have n23 : S5.2.2 23 = n := by
      rw [hS5, hS4, hS3, hS2, hS1, hn]
      rfl
    have n22 : S5.2.2 22 = 2 := by
      rw [hS5, hS4, hS3, hS2, hS1]
      exact hn22
    have hk : knP S5 (nI r) (nI h) := ⟨by rw [n22]; exact nmN hr (by omega), hh4⟩
    have hc : canP S5 (nI h) (nI (T + x + f)) := by
      refine ⟨?_, ?_⟩
      · have q1 : S5.1 0 9 0 = nI T := by rw [hS5, hS4, hS3, hS2, hS1]; exact hI.mm.2.1
        have q2 : S5.1 10 0 (nI h).toNatClampNeg = nI x := by rw [hS5, hS4, hS3, hS2, hS1, nI_cl (by omega)]; exact ax
        rw [q1, q2, nI_add]
        exact (nI_le2 (by omega) (by omega)).mpr (by omega)
      · rw [n23]
        exact (nI_lt2 (b := 40) (by omega) (by omega)).mpr (by omega)
    have hc2 : nI ((newP S5 (nI r) (nI h) (nI (T + x + f)) (nI (T + x + f + 1 + t))).2.2 23) = nI (n + 1) := by
      have e : (newP S5 (nI r) (nI h) (nI (T + x + f)) (nI (T + x + f + 1 + t))).2.2 23 = S5.2.2 23 + 1 := rfl
      rw [e, n23]
    have m5 : (newP S5 (nI r) (nI h) (nI (T + x + f)) (nI (T + x + f + 1 + t))).1 10 9 (3 : Int32).toNatClampNeg = nI (n + 1) := by
      show S5.1 10 9 (3 : Int32).toNatClampNeg = _
      rw [hS5, c3l, wrI_at, if_pos ⟨rfl, rfl, rfl⟩]
    refine hs [] 180 139 _ _ _ _ ?_
    refine ⟨vm3, ?_⟩
    rw [em3]
    refine ⟨by decide, by decide, v0, ?_⟩
    rw [e0, er, ← hS1]
    refine ⟨v1, ?_⟩
    rw [e1, ← hS2]
    refine ⟨vm0, vh, ?_⟩
    rw [z2, a2]
    refine ⟨by decide, by decide, v2, ?_⟩
    rw [e2, ef, eft, ← hS3]
    refine ⟨v2, ?_⟩
    rw [e2, r3]
    refine ⟨by decide, by decide, v3, vm3, ?_⟩
    rw [e3, et, eft2, ← hS4, m4]
    refine ⟨vm3, ?_⟩
    rw [nI_s, c3l, ← hS5]
    refine ⟨v0, ?_⟩
    rw [e0, r50]
    refine ⟨v2, ?_⟩
    rw [e2, r52]
    refine ⟨v3, ?_⟩
    rw [e3, r53]
    refine ⟨rfl, rfl, hW5, fun z => absurd hk z, fun _ z => absurd (perN (by omega) (by omega)) z, fun _ _ z => absurd hc z, fun _ _ _ => ⟨vm3, ?_⟩⟩
    rw [m5, hc2]
    exact ⟨fun z => absurd rfl z, fun _ => ⟨rfl, hQ _ hfin⟩⟩
  have h6 : G 6 [some (aR 0 0), some (aR 10 6), some (aR 10 7), some (aR 10 8), some (aR 10 9), some (aI way), some (aI (nI q)), some (aI (nI h)), none] [] S 0 := by
    refine hs [21, 139] 60 6 _ _ _ _ ?_
    refine ⟨fun _ => ⟨vm3, ?_⟩, fun _ => ⟨vm4, ?_⟩⟩
    · rw [em3]
      refine ⟨fun z => h139 _ ?_, fun _ => ⟨rfl, hQ _ hI⟩⟩
      have : S.2.2 23 ≠ 12 := fun y => z (by rw [y]; rfl)
      omega
    · rw [em4]
      refine ⟨fun z => h21 _ ?_, fun _ => ⟨rfl, hQ _ hI⟩⟩
      have : S.2.2 24 ≠ 3 := fun y => z (by rw [y]; rfl)
      omega
  rw [← eh] at h6
  refine hs [6] 60 0 _ _ _ _ ?_
  exact ⟨by decide, h6⟩
theorem ct_L_isAllowed {l : Launch} (hl : l.stackTraces = false) (hNL : NewL l) : CT l yL_isAllowed cL_isAllowed 9 (some .boolean) 7 12 s_L_isAllowed := CT_of hl hNL (by decide +kernel) (own := "HeavyHaulLaw") rfl (ini := false) (fun q => nomatch q) chk_L_isAllowed (cal_L_isAllowed hl hNL) ar_L_isAllowed vc_L_isAllowed
