/-! THE CLASS ANSWERS AS THE LAW's ROWS SAY -/
def sm (as : List AV) (f : Int32 → Prop) : Prop := match as with
  | [Sum.inr (Sum.inr (k, i)), Sum.inr (Sum.inr (k0, i0)), Sum.inr (Sum.inr (k1, i1)), Sum.inr (Sum.inr (k2, i2)), Sum.inr (Sum.inr (k3, i3)), Sum.inr (Sum.inr (k4, i4)), Sum.inr (Sum.inr (k5, i5)), Sum.inr (Sum.inr (k6, i6)), Sum.inl a] =>
    (k = 0 ∧ i = 0) ∧ (k0 = 10 ∧ i0 = 3) ∧ (k1 = 10 ∧ i1 = 4) ∧ (k2 = 10 ∧ i2 = 5) ∧ (k3 = 10 ∧ i3 = 6) ∧ (k4 = 10 ∧ i4 = 7) ∧ (k5 = 10 ∧ i5 = 8) ∧ (k6 = 10 ∧ i6 = 9) ∧ f a
  | _ => False
theorem sm_ok {as : List AV} {f : Int32 → Prop} (h : sm as f) : ∃ a, as = [aR 0 0, aR 10 3, aR 10 4, aR 10 5, aR 10 6, aR 10 7, aR 10 8, aR 10 9, aI a] ∧ f a := by
  unfold sm at h
  split at h
  · obtain ⟨⟨rfl, rfl⟩, ⟨rfl, rfl⟩, ⟨rfl, rfl⟩, ⟨rfl, rfl⟩, ⟨rfl, rfl⟩, ⟨rfl, rfl⟩, ⟨rfl, rfl⟩, ⟨rfl, rfl⟩, h⟩ := h; exact ⟨_, rfl, h⟩
  · exact h.elim
theorem sameL.arr {S S' : Sto} (h : sameL S S') (r f t n : Int32) : arrH S' r f t n = arrH S r f t n := by
  have e1 : bayH S' = bayH S := by
    funext p
    unfold bayH
    rw [h.k 11 (by decide)]
  have e2 : onN S' = onN S := by
    funext p
    unfold onN
    rw [h.k 2 (by decide)]
  have e3 : otN S' = otN S := by
    funext p
    unfold otN
    rw [h.k 2 (by decide)]
  have e4 : tnN S' = tnN S := by
    funext p
    unfold tnN
    rw [h.k 2 (by decide)]
  have e5 : ∀ j i, fitH S' j i = fitH S j i := fun j i => by
    unfold fitH lastH borneH heavH greatH lastN sumH
    rw [h.k 2 (by decide), h.k 4 (by decide), h.a 1 (by decide)]
  have e6 : ∀ r d t, openH S' r d t = openH S r d t := fun r d t => by
    unfold openH sizeH leaveH gwH gainH permH embH
    rw [h.1 21 (by decide), h.1 23 (by decide), h.1 24 (by decide), h.k 2 (by decide), h.k 3 (by decide), h.k 4 (by decide), h.k 5 (by decide), h.k 6 (by decide), h.k 7 (by decide), h.k 8 (by decide), h.k 9 (by decide)]
  unfold arrH tabH
  rw [e1, e2, e3, e4, h.1 20 (by decide)]
  simp only [e5, e6]
theorem nmN {a b : Nat} (h : a < b) (hb : b < 2 ^ 31) : nm (nI a) (nI b) := ⟨nI_nn (by omega), (nI_lt2 (by omega) hb).mpr h⟩
theorem rgN {a b c : Nat} (h : a ≤ c) (h2 : c ≤ b) (hb : b < 2 ^ 31) : rg (nI c) (nI a) (nI b) := ⟨fun z => absurd ((nI_lt2 (by omega) (by omega)).mp z) (by omega), (nI_le2 (by omega) hb).mpr h2⟩
theorem remN {q d : Nat} (hq : q < 2 ^ 31) (h0 : 0 < d) (hd : d < 2 ^ 31) : ∃ j : Nat, j < d ∧ nI q - nI q / nI d * nI d = nI j := ⟨q % d, Nat.mod_lt q h0, pk_rem hq h0 hd⟩
theorem drm {q d e : Nat} (hq : q < 2 ^ 31) (h0 : 0 < d) (hd : d < 2 ^ 31) (h1 : 0 < e) (he : e < 2 ^ 31) : ∃ j : Nat, j < e ∧ nI q / nI d - nI q / nI d / nI e * nI e = nI j := by
  have := Nat.div_le_self q d
  rw [pk_div hq h0 hd]
  exact remN (by omega) h1 he
def s_L_isSame : SP := fun as S Q => sm as fun z => ∃ (T q : Nat), LawI T S ∧ T ≤ 9000 ∧ z = nI q ∧ q < 2 ^ 31 ∧ ∀ S', sameL S S' → Q (Sum.inl (some (aI 1))) S'
def tb_L_isSame : Tb := [(0, .iload 8, 2, x0), (2, .iconst 2, 1, xI (2)), (3, .irem, 1, x0), (4, .istore 9, 2, x0), (6, .iload 8, 2, x0), (8, .iconst 2, 1, xI (2)), (9, .idiv, 1, x0), (10, .bipush 6, 2, xI (6)), (12, .irem, 1, x0), (13, .istore 10, 2, x0), (15, .bipush 14, 2, xI (14)), (17, .iload 9, 2, x0), (19, .imul, 1, x0), (20, .istore 11, 2, x0), (22, .aload_n 3, 1, x0), (23, .iload 11, 2, x0), (25, .bipush 9, 2, xI (9)), (27, .iadd, 1, x0), (28, .iaload, 1, x0), (29, .ifCond .ge 7, 3, xN 36), (32, .iconst 1, 1, xI (1)), (33, .goto 4, 3, xN 37), (36, .iconst 0, 1, xI (0)), (37, .istore 12, 2, x0), (39, .iload 8, 2, x0), (41, .bipush 12, 2, xI (12)), (43, .idiv, 1, x0), (44, .aload_n 3, 1, x0), (45, .iload 11, 2, x0), (47, .iconst 1, 1, xI (1)), (48, .iadd, 1, x0), (49, .iaload, 1, x0), (50, .irem, 1, x0), (51, .istore 13, 2, x0), (53, .aload_n 0, 1, x0), (54, .iload 9, 2, x0), (56, .iload 13, 2, x0), (58, .invokevirtual 31, 3, xS 3 2 s_X6_axle), (61, .aload_n 3, 1, x0), (62, .iload 9, 2, x0), (64, .iconst 2, 1, xI (2)), (65, .iload 13, 2, x0), (67, .imul, 1, x0), (68, .aload_n 3, 1, x0), (69, .iload 11, 2, x0), (71, .iconst 1, 1, xI (1)), (72, .iadd, 1, x0), (73, .iaload, 1, x0), (74, .if_icmp .lt 7, 3, xN 81), (77, .iconst 1, 1, xI (1)), (78, .goto 4, 3, xN 82), (81, .iconst 0, 1, xI (0)), (82, .invokestatic 9, 3, xS 3 0 s_L_axle), (85, .if_icmp .ne 98, 3, xN 183), (88, .aload_n 0, 1, x0), (89, .iload 9, 2, x0), (91, .iconst 0, 1, xI (0)), (92, .invokevirtual 36, 3, xS 3 2 s_X6_rigIs), (95, .iload 12, 2, x0), (97, .ifCond .eq 10, 3, xN 107), (100, .aload_n 3, 1, x0), (101, .iload 11, 2, x0), (103, .iaload, 1, x0), (104, .goto 4, 3, xN 108), (107, .iconst (-1), 1, xI (-1)), (108, .if_icmp .ne 75, 3, xN 183), (111, .aload_n 0, 1, x0), (112, .iload 9, 2, x0), (114, .iconst 1, 1, xI (1)), (115, .invokevirtual 36, 3, xS 3 2 s_X6_rigIs), (118, .aload_n 3, 1, x0), (119, .iload 11, 2, x0), (121, .bipush 9, 2, xI (9)), (123, .iadd, 1, x0), (124, .iaload, 1, x0), (125, .if_icmp .ne 58, 3, xN 183), (128, .aload_n 0, 1, x0), (129, .iload 9, 2, x0), (131, .iconst 2, 1, xI (2)), (132, .invokevirtual 36, 3, xS 3 2 s_X6_rigIs), (135, .aload_n 3, 1, x0), (136, .iload 11, 2, x0), (138, .bipush 10, 2, xI (10)), (140, .iadd, 1, x0), (141, .iaload, 1, x0), (142, .if_icmp .ne 41, 3, xN 183), (145, .aload_n 0, 1, x0), (146, .iload 9, 2, x0), (148, .iconst 3, 1, xI (3)), (149, .invokevirtual 36, 3, xS 3 2 s_X6_rigIs), (152, .aload_n 3, 1, x0), (153, .iload 11, 2, x0), (155, .bipush 11, 2, xI (11)), (157, .iadd, 1, x0), (158, .iaload, 1, x0), (159, .if_icmp .ne 24, 3, xN 183), (162, .aload_n 0, 1, x0), (163, .iload 9, 2, x0), (165, .iconst 4, 1, xI (4)), (166, .invokevirtual 36, 3, xS 3 2 s_X6_rigIs), (169, .aload_n 3, 1, x0), (170, .iload 11, 2, x0), (172, .bipush 12, 2, xI (12)), (174, .iadd, 1, x0), (175, .iaload, 1, x0), (176, .if_icmp .ne 7, 3, xN 183), (179, .iconst 1, 1, xI (1)), (180, .goto 4, 3, xN 184), (183, .iconst 0, 1, xI (0)), (184, .istore 14, 2, x0), (186, .iload 8, 2, x0), (188, .sipush 192, 3, xI (192)), (191, .idiv, 1, x0), (192, .iconst 2, 1, xI (2)), (193, .irem, 1, x0), (194, .ifCond .ne 7, 3, xN 201), (197, .iconst 1, 1, xI (1)), (198, .goto 4, 3, xN 202), (201, .iconst 0, 1, xI (0)), (202, .istore 15, 2, x0), (204, .aload_n 1, 1, x0), (205, .bipush 10, 2, xI (10)), (207, .iload 10, 2, x0), (209, .imul, 1, x0), (210, .bipush 7, 2, xI (7)), (212, .iadd, 1, x0), (213, .iaload, 1, x0), (214, .ifCond .ne 7, 3, xN 221), (217, .iconst (-1), 1, xI (-1)), (218, .goto 14, 3, xN 232), (221, .aload_n 1, 1, x0), (222, .aload_n 3, 1, x0), (223, .iload 10, 2, x0), (225, .iload 9, 2, x0), (227, .iload 15, 2, x0), (229, .invokestatic 15, 3, xS 5 0 s_L_greatest), (232, .istore 16, 2, x0), (234, .iload 14, 2, x0), (236, .ifCond .eq 37, 3, xN 273), (239, .aload_n 0, 1, x0), (240, .iload 10, 2, x0), (242, .iload 9, 2, x0), (244, .iload 15, 2, x0), (246, .invokevirtual 39, 3, xS 4 2 s_X6_greatest), (249, .iload 16, 2, x0), (251, .if_icmp .ne 22, 3, xN 273), (254, .aload_n 0, 1, x0), (255, .iload 10, 2, x0), (257, .iload 9, 2, x0), (259, .iload 15, 2, x0), (261, .invokevirtual 42, 3, xS 4 2 s_X6_greatestAnew), (264, .iload 16, 2, x0), (266, .if_icmp .ne 7, 3, xN 273), (269, .iconst 1, 1, xI (1)), (270, .goto 4, 3, xN 274), (273, .iconst 0, 1, xI (0)), (274, .istore 14, 2, x0), (276, .iload 8, 2, x0), (278, .sipush 384, 3, xI (384)), (281, .idiv, 1, x0), (282, .iconst 3, 1, xI (3)), (283, .irem, 1, x0), (284, .ifCond .ne 16, 3, xN 300), (287, .iload 8, 2, x0), (289, .sipush 1152, 3, xI (1152)), (292, .idiv, 1, x0), (293, .sipush 500, 3, xI (500)), (296, .irem, 1, x0), (297, .goto 26, 3, xN 323), (300, .aload 7, 2, x0), (302, .iconst 0, 1, xI (0)), (303, .iaload, 1, x0), (304, .sipush 144, 3, xI (144)), (307, .idiv, 1, x0), (308, .sipush 144, 3, xI (144)), (311, .imul, 1, x0), (312, .iload 8, 2, x0), (314, .sipush 1152, 3, xI (1152)), (317, .idiv, 1, x0), (318, .sipush 180, 3, xI (180)), (321, .irem, 1, x0), (322, .iadd, 1, x0), (323, .istore 17, 2, x0), (325, .iload 14, 2, x0), (327, .ifCond .eq 49, 3, xN 376), (330, .aload_n 0, 1, x0), (331, .iload 9, 2, x0), (333, .iload 10, 2, x0), (335, .iload 17, 2, x0), (337, .invokevirtual 45, 3, xS 4 3 s_X6_why), (340, .aload_n 1, 1, x0), (341, .aload_n 2, 1, x0), (342, .aload_n 3, 1, x0), (343, .aload 4, 2, x0), (345, .aload 5, 2, x0), (347, .aload 6, 2, x0), (349, .aload 7, 2, x0), (351, .iload 9, 2, x0), (353, .iload 10, 2, x0), (355, .iload 17, 2, x0), (357, .aload_n 1, 1, x0), (358, .aload_n 3, 1, x0), (359, .iload 10, 2, x0), (361, .iload 9, 2, x0), (363, .invokestatic 27, 3, ((4, 6, 0), [], (0, s_L_isBorne))), (366, .invokestatic 23, 3, xS 11 0 s_L_why), (369, .if_icmp .ne 7, 3, xN 376), (372, .iconst 1, 1, xI (1)), (373, .goto 4, 3, xN 377), (376, .iconst 0, 1, xI (0)), (377, .istore 14, 2, x0), (379, .iload 8, 2, x0), (381, .sipush 500, 3, xI (500)), (384, .idiv, 1, x0), (385, .bipush 8, 2, xI (8)), (387, .irem, 1, x0), (388, .ifCond .ne 76, 3, xN 464), (391, .iload 14, 2, x0), (393, .ifCond .eq 71, 3, xN 464), (396, .iload 8, 2, x0), (398, .sipush 4000, 3, xI (4000)), (401, .idiv, 1, x0), (402, .iconst 5, 1, xI (5)), (403, .irem, 1, x0), (404, .istore 18, 2, x0), (406, .iload 8, 2, x0), (408, .sipush 20000, 3, xI (20000)), (411, .idiv, 1, x0), (412, .iconst 5, 1, xI (5)), (413, .irem, 1, x0), (414, .istore 19, 2, x0), (416, .aload_n 0, 1, x0), (417, .iload 9, 2, x0), (419, .iload 18, 2, x0), (421, .iload 19, 2, x0), (423, .aload 7, 2, x0), (425, .iconst 0, 1, xI (0)), (426, .iaload, 1, x0), (427, .invokevirtual 48, 3, xS 5 4 s_X6_arrives), (430, .aload_n 1, 1, x0), (431, .aload_n 2, 1, x0), (432, .aload_n 3, 1, x0), (433, .aload 4, 2, x0), (435, .aload 5, 2, x0), (437, .aload 6, 2, x0), (439, .aload 7, 2, x0), (441, .iload 9, 2, x0), (443, .iload 18, 2, x0), (445, .iload 19, 2, x0), (447, .aload 7, 2, x0), (449, .iconst 0, 1, xI (0)), (450, .iaload, 1, x0), (451, .invokestatic 52, 3, xS 11 30 s_L_arrives), (454, .if_icmp .ne 7, 3, xN 461), (457, .iconst 1, 1, xI (1)), (458, .goto 4, 3, xN 462), (461, .iconst 0, 1, xI (0)), (462, .istore 14, 2, x0), (464, .iload 14, 2, x0), (466, .ireturn, 1, x0)]
theorem chk_L_isSame : chkTb cL_isSame "HeavyHaulLaw" false tb_L_isSame = true := by decide +kernel
theorem cal_L_isSame {l : Launch} (hl : l.stackTraces = false) (hNL : NewL l) : CallsOK l "HeavyHaulLaw" 8 tb_L_isSame := callsOK_f ⟨⟨_, _, 4, 4, _, 7, (ct_X6_axle hl hNL), ⟨List.mem_of_getElem? (i := 717) (by decide +kernel), List.mem_of_getElem? (i := 26) (by decide +kernel), List.mem_of_getElem? (i := 714) (by decide +kernel), ⟨by decide +kernel, by decide +kernel⟩, by decide +kernel, by decide⟩, List.mem_of_getElem? (i := 715) (by decide +kernel), List.mem_of_getElem? (i := 716) (by decide +kernel), by decide, by decide, rc_X6_axle⟩, ⟨_, _, 10, 0, _, (ct_L_axle hl hNL), ⟨List.mem_of_getElem? (i := 601) (by decide +kernel), List.mem_of_getElem? (i := 25) (by decide +kernel), List.mem_of_getElem? (i := 599) (by decide +kernel), ⟨by decide +kernel, by decide +kernel⟩, by decide +kernel, by decide⟩, List.mem_of_getElem? (i := 600) (by decide +kernel), by decide⟩, ⟨_, _, 4, 4, _, 7, (ct_X6_rigIs hl hNL), ⟨List.mem_of_getElem? (i := 721) (by decide +kernel), List.mem_of_getElem? (i := 26) (by decide +kernel), List.mem_of_getElem? (i := 718) (by decide +kernel), ⟨by decide +kernel, by decide +kernel⟩, by decide +kernel, by decide⟩, List.mem_of_getElem? (i := 719) (by decide +kernel), List.mem_of_getElem? (i := 720) (by decide +kernel), by decide, by decide, rc_X6_rigIs⟩, ⟨_, _, 4, 4, _, 7, (ct_X6_rigIs hl hNL), ⟨List.mem_of_getElem? (i := 721) (by decide +kernel), List.mem_of_getElem? (i := 26) (by decide +kernel), List.mem_of_getElem? (i := 718) (by decide +kernel), ⟨by decide +kernel, by decide +kernel⟩, by decide +kernel, by decide⟩, List.mem_of_getElem? (i := 719) (by decide +kernel), List.mem_of_getElem? (i := 720) (by decide +kernel), by decide, by decide, rc_X6_rigIs⟩, ⟨_, _, 4, 4, _, 7, (ct_X6_rigIs hl hNL), ⟨List.mem_of_getElem? (i := 721) (by decide +kernel), List.mem_of_getElem? (i := 26) (by decide +kernel), List.mem_of_getElem? (i := 718) (by decide +kernel), ⟨by decide +kernel, by decide +kernel⟩, by decide +kernel, by decide⟩, List.mem_of_getElem? (i := 719) (by decide +kernel), List.mem_of_getElem? (i := 720) (by decide +kernel), by decide, by decide, rc_X6_rigIs⟩, ⟨_, _, 4, 4, _, 7, (ct_X6_rigIs hl hNL), ⟨List.mem_of_getElem? (i := 721) (by decide +kernel), List.mem_of_getElem? (i := 26) (by decide +kernel), List.mem_of_getElem? (i := 718) (by decide +kernel), ⟨by decide +kernel, by decide +kernel⟩, by decide +kernel, by decide⟩, List.mem_of_getElem? (i := 719) (by decide +kernel), List.mem_of_getElem? (i := 720) (by decide +kernel), by decide, by decide, rc_X6_rigIs⟩, ⟨_, _, 4, 4, _, 7, (ct_X6_rigIs hl hNL), ⟨List.mem_of_getElem? (i := 721) (by decide +kernel), List.mem_of_getElem? (i := 26) (by decide +kernel), List.mem_of_getElem? (i := 718) (by decide +kernel), ⟨by decide +kernel, by decide +kernel⟩, by decide +kernel, by decide⟩, List.mem_of_getElem? (i := 719) (by decide +kernel), List.mem_of_getElem? (i := 720) (by decide +kernel), by decide, by decide, rc_X6_rigIs⟩, ⟨_, _, 14, 1, _, (ct_L_greatest hl hNL), ⟨List.mem_of_getElem? (i := 598) (by decide +kernel), List.mem_of_getElem? (i := 25) (by decide +kernel), List.mem_of_getElem? (i := 596) (by decide +kernel), ⟨by decide +kernel, by decide +kernel⟩, by decide +kernel, by decide⟩, List.mem_of_getElem? (i := 597) (by decide +kernel), by decide⟩, ⟨_, _, 4, 4, _, 7, (ct_X6_greatest hl hNL), ⟨List.mem_of_getElem? (i := 725) (by decide +kernel), List.mem_of_getElem? (i := 26) (by decide +kernel), List.mem_of_getElem? (i := 722) (by decide +kernel), ⟨by decide +kernel, by decide +kernel⟩, by decide +kernel, by decide⟩, List.mem_of_getElem? (i := 723) (by decide +kernel), List.mem_of_getElem? (i := 724) (by decide +kernel), by decide, by decide, rc_X6_greatest⟩, ⟨_, _, 4, 4, _, 7, (ct_X6_greatestAnew hl hNL), ⟨List.mem_of_getElem? (i := 729) (by decide +kernel), List.mem_of_getElem? (i := 26) (by decide +kernel), List.mem_of_getElem? (i := 726) (by decide +kernel), ⟨by decide +kernel, by decide +kernel⟩, by decide +kernel, by decide⟩, List.mem_of_getElem? (i := 727) (by decide +kernel), List.mem_of_getElem? (i := 728) (by decide +kernel), by decide, by decide, rc_X6_greatestAnew⟩, ⟨_, _, 4, 6, _, 7, (ct_X6_why hl hNL), ⟨List.mem_of_getElem? (i := 733) (by decide +kernel), List.mem_of_getElem? (i := 26) (by decide +kernel), List.mem_of_getElem? (i := 730) (by decide +kernel), ⟨by decide +kernel, by decide +kernel⟩, by decide +kernel, by decide⟩, List.mem_of_getElem? (i := 731) (by decide +kernel), List.mem_of_getElem? (i := 732) (by decide +kernel), by decide, by decide, rc_X6_why⟩, ⟨_, _, 4, 2, _, (ct_L_isBorne hl hNL), ⟨List.mem_of_getElem? (i := 595) (by decide +kernel), List.mem_of_getElem? (i := 25) (by decide +kernel), List.mem_of_getElem? (i := 593) (by decide +kernel), ⟨by decide +kernel, by decide +kernel⟩, by decide +kernel, by decide⟩, List.mem_of_getElem? (i := 594) (by decide +kernel), by decide, by decide⟩, ⟨_, _, 20, 1, _, (ct_L_why hl hNL), ⟨List.mem_of_getElem? (i := 604) (by decide +kernel), List.mem_of_getElem? (i := 25) (by decide +kernel), List.mem_of_getElem? (i := 602) (by decide +kernel), ⟨by decide +kernel, by decide +kernel⟩, by decide +kernel, by decide⟩, List.mem_of_getElem? (i := 603) (by decide +kernel), by decide⟩, ⟨_, _, 9, 7, _, 7, (ct_X6_arrives hl hNL), ⟨List.mem_of_getElem? (i := 737) (by decide +kernel), List.mem_of_getElem? (i := 26) (by decide +kernel), List.mem_of_getElem? (i := 734) (by decide +kernel), ⟨by decide +kernel, by decide +kernel⟩, by decide +kernel, by decide⟩, List.mem_of_getElem? (i := 735) (by decide +kernel), List.mem_of_getElem? (i := 736) (by decide +kernel), by decide, by decide, rc_X6_arrives⟩, ⟨_, _, 18, 4, _, (ct_L_arrives hl hNL), ⟨List.mem_of_getElem? (i := 763) (by decide +kernel), List.mem_of_getElem? (i := 25) (by decide +kernel), List.mem_of_getElem? (i := 761) (by decide +kernel), ⟨by decide +kernel, by decide +kernel⟩, by decide +kernel, by decide⟩, List.mem_of_getElem? (i := 762) (by decide +kernel), by decide⟩, trivial⟩
theorem ar_L_isSame : ∀ as S P, s_L_isSame as S P → as.length ≤ 20 ∧ ∀ a ∈ as, catV a = 1 := fun as S P h => by
  obtain ⟨_, rfl, _⟩ := sm_ok h
  exact ar_all ⟨Nat.le_of_ble_eq_true rfl, rfl⟩
set_option maxRecDepth 8000 in
theorem vc_L_isSame : ∀ (G : Gt) (Q : Out → Sto → Prop) (as : List AV) (S : Sto), s_L_isSame as S Q → Seg tb_L_isSame G Q 2 60 [] (0, fun _ => 0) → G 0 (argL as 20) [] S 0 := by
  intro G Q as S h hs
  obtain ⟨z0, rfl, T, q, hI, hT, rfl, hq, hQ⟩ := sm_ok h
  have hW := hI.wf
  obtain ⟨j, hj, ej⟩ := remN (q := q) (d := 2) hq (by omega) (by omega)
  obtain ⟨i, hi, ei⟩ := drm (q := q) (d := 2) (e := 6) hq (by omega) (by omega) (by omega) (by omega)
  have hj22 := hI.i22 hj
  have hi20 := hI.i20 hi
  have cj : (nI j).toNatClampNeg = j := nI_cl (by omega)
  have ci9 : (nI i).toNatClampNeg = i := nI_cl (by omega)
  have n22 := hI.n.2.1
  have n20 := hI.n.1
  have kj : nm (nI j) (nI (S.2.2 22)) := nmN hj22 (by omega)
  have ki : nm (nI i) (nI (S.2.2 20)) := nmN hi20 (by omega)
  have m0 : S.1 10 9 (0 : Int32).toNatClampNeg = nI T := hI.mm.1
  have vm0 : vp_in (0 : Int32) 5 := nI_vin (a := 0) (by omega) (by decide)
  have vg0 : vp_in ((14 : Int32) * nI j) 28 := vG0 hI hj
  have g0 : S.1 10 5 ((14 : Int32) * nI j).toNatClampNeg = S.1 4 8 j := aG0 hI hj
  have vg1 : vp_in ((14 : Int32) * nI j + 1) 28 := vG hI hj 1 (by decide)
  have g1 : S.1 10 5 ((14 : Int32) * nI j + 1).toNatClampNeg = S.1 4 0 j := aG hI hj 1 (by decide)
  have vg9 : vp_in ((14 : Int32) * nI j + 9) 28 := vG hI hj 9 (by decide)
  have g9 : S.1 10 5 ((14 : Int32) * nI j + 9).toNatClampNeg = S.1 4 9 j := aG hI hj 9 (by decide)
  have vg10 : vp_in ((14 : Int32) * nI j + 10) 28 := vG hI hj 10 (by decide)
  have g10 : S.1 10 5 ((14 : Int32) * nI j + 10).toNatClampNeg = S.1 4 10 j := aG hI hj 10 (by decide)
  have vg11 : vp_in ((14 : Int32) * nI j + 11) 28 := vG hI hj 11 (by decide)
  have g11 : S.1 10 5 ((14 : Int32) * nI j + 11).toNatClampNeg = S.1 4 11 j := aG hI hj 11 (by decide)
  have vg12 : vp_in ((14 : Int32) * nI j + 12) 28 := vG hI hj 12 (by decide)
  have g12 : S.1 10 5 ((14 : Int32) * nI j + 12).toNatClampNeg = S.1 4 12 j := aG hI hj 12 (by decide)
  have va7 : vp_in ((10 : Int32) * nI i + 7) 60 := vA hI hi 7 (by decide)
  have a7 : S.1 10 3 ((10 : Int32) * nI i + 7).toNatClampNeg = S.1 2 7 i := aA hI hi 7 (by decide)
  obtain ⟨a, d, p, ea, ed, -, a1, a8, -⟩ := hW.2.2.2.2.2.2.2 j hj22
  obtain ⟨x, hx, ex⟩ : ∃ x : Nat, x < 2 * a ∧ nI q / 12 - nI q / 12 / nI (2 * a) * nI (2 * a) = nI x := drm (q := q) (d := 12) (e := 2 * a) hq (by omega) (by omega) (by omega) (by omega)
  have h464 : ∀ S' u (y9 y10 y11 y12 y13 : Int32) x15 x16 x17 x18 x19, sameL S S' → G 464 [some (aR 0 0), some (aR 10 3), some (aR 10 4), some (aR 10 5), some (aR 10 6), some (aR 10 7), some (aR 10 8), some (aR 10 9), some (aI (nI q)), some (aI y9), some (aI y10), some (aI y11), some (aI y12), some (aI y13), some (aI 1), x15, x16, x17, x18, x19] [] S' u := fun S' u y9 y10 y11 y12 y13 x15 x16 x17 x18 x19 hS => by
    refine hs [] 60 464 _ _ _ _ ?_
    exact ⟨rfl, hQ S' hS⟩
  -- the earliest arrival
  have h379 : ∀ (y12 y13 y15 y16 y17 : Int32), G 379 [some (aR 0 0), some (aR 10 3), some (aR 10 4), some (aR 10 5), some (aR 10 6), some (aR 10 7), some (aR 10 8), some (aR 10 9), some (aI (nI q)), some (aI (nI j)), some (aI (nI i)), some (aI ((14 : Int32) * nI j)), some (aI y12), some (aI y13), some (aI 1), some (aI y15), some (aI y16), some (aI y17), none, none] [] S 19 := fun y12 y13 y15 y16 y17 => by
    obtain ⟨f, hf, ef⟩ : ∃ f : Nat, f < 5 ∧ nI q / 4000 - nI q / 4000 / 5 * 5 = nI f := drm (q := q) (d := 4000) (e := 5) hq (by omega) (by omega) (by omega) (by omega)
    obtain ⟨o, ho, eo⟩ : ∃ f : Nat, f < 5 ∧ nI q / 20000 - nI q / 20000 / 5 * 5 = nI f := drm (q := q) (d := 20000) (e := 5) hq (by omega) (by omega) (by omega) (by omega)
    have h416 : G 416 [some (aR 0 0), some (aR 10 3), some (aR 10 4), some (aR 10 5), some (aR 10 6), some (aR 10 7), some (aR 10 8), some (aR 10 9), some (aI (nI q)), some (aI (nI j)), some (aI (nI i)), some (aI ((14 : Int32) * nI j)), some (aI y12), some (aI y13), some (aI 1), some (aI y15), some (aI y16), some (aI y17), some (aI (nI f)), some (aI (nI o))] [] S 19 := by
      have hk : knA S (nI j) (nI f) (nI o) := ⟨⟨nI_pos' (by omega), kj.2⟩, ⟨nI_pos' (by omega), (nI_lt2 (by omega) (by omega)).mpr (by omega)⟩, ⟨nI_pos' (by omega), (nI_lt2 (by omega) (by omega)).mpr (by omega)⟩⟩
      have ht : tenA (nI T) := ⟨nI_nn (by omega), fun z => absurd ((nI_lt2 (a := 9999) (by omega) (by omega)).mp z) (by omega)⟩
      refine hs [464] 90 416 _ _ _ _ ?_
      refine ⟨vm0, ?_⟩
      rw [m0]
      refine ⟨rfl, rfl, hW, fun z => absurd hk z, fun _ z => absurd ht z, fun _ _ S1 hO => ?_⟩
      have hs1 : sameL S S1 := sameL.of hO
      have m1 : S1.1 10 9 (0 : Int32).toNatClampNeg = nI T := (hs1.inv hI).mm.1
      refine ⟨vm0, ?_⟩
      rw [m1]
      refine ⟨⟨rfl, rfl⟩, ⟨rfl, rfl⟩, ⟨rfl, rfl⟩, ⟨rfl, rfl⟩, ⟨rfl, rfl⟩, ⟨rfl, rfl⟩, ⟨rfl, rfl⟩, T, j, f, o, T, hs1.inv hI, rfl, hj, rfl, hf, rfl, ho, rfl, by omega, fun S2 hs2 => ?_⟩
      rw [hs1.arr]
      exact ⟨fun z => absurd rfl z, fun _ => h464 S2 _ _ _ _ _ _ _ _ _ _ _ (hs1.tr hs2)⟩
    rw [← ef, ← eo] at h416
    refine hs [416, 464] 90 379 _ _ _ _ ?_
    refine ⟨by decide, by decide, fun _ => h464 S _ _ _ _ _ _ _ _ _ _ _ sameL.rf, fun _ => ⟨fun z => absurd z (by decide), fun _ => ⟨by decide, by decide, by decide, by decide, h416⟩⟩⟩
  -- why
  have h325 : ∀ (y12 y13 y15 y16 : Int32), ∀ n : Nat, n ≤ 9999 → G 325 [some (aR 0 0), some (aR 10 3), some (aR 10 4), some (aR 10 5), some (aR 10 6), some (aR 10 7), some (aR 10 8), some (aR 10 9), some (aI (nI q)), some (aI (nI j)), some (aI (nI i)), some (aI ((14 : Int32) * nI j)), some (aI y12), some (aI y13), some (aI 1), some (aI y15), some (aI y16), some (aI (nI n)), none, none] [] S 16 := fun y12 y13 y15 y16 n hn => by
    refine hs [379] 90 325 _ _ _ _ ?_
    refine ⟨fun z => absurd z (by decide), fun _ => ⟨rfl, rfl, hW, fun z => absurd ⟨kj, ki⟩ z, fun _ z => absurd (rgN (a := 0) (b := 9999) (by omega) hn (by omega)) z, fun _ _ => ?_⟩⟩
    refine ⟨rfl, rfl, rfl, rfl, T, i, j, hI, rfl, hi, rfl, hj, ?_⟩
    refine ⟨⟨rfl, rfl⟩, ⟨rfl, rfl⟩, ⟨rfl, rfl⟩, ⟨rfl, rfl⟩, ⟨rfl, rfl⟩, ⟨rfl, rfl⟩, ⟨rfl, rfl⟩, T, i, j, n, hI, rfl, hj, rfl, hi, rfl, by omega, rfl, ?_⟩
    exact ⟨fun z => absurd rfl z, fun _ => h379 _ _ _ _ _⟩
  -- the ten
  have h276 : ∀ (y12 y13 y15 y16 : Int32), G 276 [some (aR 0 0), some (aR 10 3), some (aR 10 4), some (aR 10 5), some (aR 10 6), some (aR 10 7), some (aR 10 8), some (aR 10 9), some (aI (nI q)), some (aI (nI j)), some (aI (nI i)), some (aI ((14 : Int32) * nI j)), some (aI y12), some (aI y13), some (aI 1), some (aI y15), some (aI y16), none, none, none] [] S 16 := fun y12 y13 y15 y16 => by
    obtain ⟨n1, hn1, en1⟩ : ∃ f : Nat, f < 500 ∧ nI q / 1152 - nI q / 1152 / 500 * 500 = nI f := drm (q := q) (d := 1152) (e := 500) hq (by omega) (by omega) (by omega) (by omega)
    obtain ⟨n2, hn2, en2⟩ : ∃ f : Nat, f < 180 ∧ nI q / 1152 - nI q / 1152 / 180 * 180 = nI f := drm (q := q) (d := 1152) (e := 180) hq (by omega) (by omega) (by omega) (by omega)
    have ha := h325 y12 y13 y15 y16 n1 (by omega)
    have hdv := Nat.div_mul_le_self T 144
    have hb := h325 y12 y13 y15 y16 (T / 144 * 144 + n2) (by omega)
    have eb : nI T / 144 * 144 + (nI q / 1152 - nI q / 1152 / 180 * 180) = nI (T / 144 * 144 + n2) := by
      have e1 : nI T / 144 = nI (T / 144) := pk_div (d := 144) (by omega) (by omega) (by omega)
      rw [en2, e1, show (144 : Int32) = nI 144 from rfl, nI_mul, nI_add]
    rw [← en1] at ha
    rw [← eb] at hb
    refine hs [325] 90 276 _ _ _ _ ?_
    refine ⟨by decide, by decide, fun _ => ⟨vm0, ?_⟩, fun _ => ⟨by decide, by decide, ha⟩⟩
    rw [m0]
    exact ⟨by decide, by decide, by decide, hb⟩
  -- bridges
  have h234 : ∀ (y12 y13 mo : Int32), G 234 [some (aR 0 0), some (aR 10 3), some (aR 10 4), some (aR 10 5), some (aR 10 6), some (aR 10 7), some (aR 10 8), some (aR 10 9), some (aI (nI q)), some (aI (nI j)), some (aI (nI i)), some (aI ((14 : Int32) * nI j)), some (aI y12), some (aI y13), some (aI 1), some (aI mo), some (aI (greatH S i j mo 0)), none, none, none] [] S 12 := fun y12 y13 mo => by
    have hm := greatH_mir hW hi20 hj22 mo
    refine hs [276] 90 234 _ _ _ _ ?_
    refine ⟨fun z => absurd z (by decide), fun _ => ⟨rfl, rfl, hW, fun z => absurd ⟨ki, kj⟩ z, fun _ => ?_⟩⟩
    rw [ci9, cj]
    refine ⟨fun z => absurd rfl z, fun _ => ⟨rfl, rfl, hW, fun z => absurd ⟨ki, kj⟩ z, fun _ => ?_⟩⟩
    rw [ci9, cj, hm]
    exact ⟨fun z => absurd rfl z, fun _ => h276 _ _ _ _⟩
  have h204 : ∀ (y12 y13 mo : Int32), G 204 [some (aR 0 0), some (aR 10 3), some (aR 10 4), some (aR 10 5), some (aR 10 6), some (aR 10 7), some (aR 10 8), some (aR 10 9), some (aI (nI q)), some (aI (nI j)), some (aI (nI i)), some (aI ((14 : Int32) * nI j)), some (aI y12), some (aI y13), some (aI 1), some (aI mo), none, none, none, none] [] S 12 := fun y12 y13 mo => by
    have h2 := h234 y12 y13 mo
    have h0 := sp_0 (hW.2.2.2.2.2.2.1 i hi20)
    refine hs [234] 90 204 _ _ _ _ ?_
    refine ⟨va7, ?_⟩
    rw [a7]
    refine ⟨fun z => ⟨rfl, rfl, rfl, rfl, T, i, j, hI, rfl, hi, rfl, hj, fun y => z (h0.mpr y), h2⟩, fun z => ?_⟩
    have e : greatH S i j mo 0 = -1 := if_pos (h0.mp z)
    rw [e] at h2
    exact h2
  have h186 : ∀ (y12 y13 : Int32), G 186 [some (aR 0 0), some (aR 10 3), some (aR 10 4), some (aR 10 5), some (aR 10 6), some (aR 10 7), some (aR 10 8), some (aR 10 9), some (aI (nI q)), some (aI (nI j)), some (aI (nI i)), some (aI ((14 : Int32) * nI j)), some (aI y12), some (aI y13), some (aI 1), none, none, none, none, none] [] S 12 := fun y12 y13 => by
    refine hs [204] 90 186 _ _ _ _ ?_
    exact ⟨by decide, by decide, fun _ => h204 _ _ 0, fun _ => h204 _ _ 1⟩
  -- the rig
  have h53 : ∀ st : Bool, (st = true ↔ S.1 4 9 j = -1) → G 53 [some (aR 0 0), some (aR 10 3), some (aR 10 4), some (aR 10 5), some (aR 10 6), some (aR 10 7), some (aR 10 8), some (aR 10 9), some (aI (nI q)), some (aI (nI j)), some (aI (nI i)), some (aI ((14 : Int32) * nI j)), some (aI (bV st)), some (aI (nI x)), none, none, none, none, none, none] [] S 0 := fun st hst => by
    have half := (half_ok a a8 a1).1
    have ka : nm (nI x) (S.1 4 0 j) := by
      rw [ea]
      exact nmN hx (by omega)
    have ka' : nm (nI j) (nI (S.2.2 22)) ∧ nm (nI x) (S.1 4 0 (nI j).toNatClampNeg) := ⟨kj, by rw [cj]; exact ka⟩
    have r0 : rg (0 : Int32) 0 4 := rgN (a := 0) (b := 4) (c := 0) (by omega) (by omega) (by omega)
    have r1 : rg (1 : Int32) 0 4 := rgN (a := 0) (b := 4) (c := 1) (by omega) (by omega) (by omega)
    have r2 : rg (2 : Int32) 0 4 := rgN (a := 0) (b := 4) (c := 2) (by omega) (by omega) (by omega)
    have r3 : rg (3 : Int32) 0 4 := rgN (a := 0) (b := 4) (c := 3) (by omega) (by omega) (by omega)
    have r4 : rg (4 : Int32) 0 4 := rgN (a := 0) (b := 4) (c := 4) (by omega) (by omega) (by omega)
    have i0 : isH S (nI j).toNatClampNeg 0 = if S.1 4 9 j = -1 then S.1 4 8 j else -1 := by rw [cj]; rfl
    have i1 : isH S (nI j).toNatClampNeg 1 = S.1 4 9 j := by rw [cj]; rfl
    have i2 : isH S (nI j).toNatClampNeg 2 = S.1 4 10 j := by rw [cj]; rfl
    have i3 : isH S (nI j).toNatClampNeg 3 = S.1 4 11 j := by rw [cj]; rfl
    have i4 : isH S (nI j).toNatClampNeg 4 = S.1 4 12 j := by rw [cj]; rfl
    -- behind the axle
    have h88 : G 88 [some (aR 0 0), some (aR 10 3), some (aR 10 4), some (aR 10 5), some (aR 10 6), some (aR 10 7), some (aR 10 8), some (aR 10 9), some (aI (nI q)), some (aI (nI j)), some (aI (nI i)), some (aI ((14 : Int32) * nI j)), some (aI (bV st)), some (aI (nI x)), none, none, none, none, none, none] [] S 2 := by
      have h111 : G 111 [some (aR 0 0), some (aR 10 3), some (aR 10 4), some (aR 10 5), some (aR 10 6), some (aR 10 7), some (aR 10 8), some (aR 10 9), some (aI (nI q)), some (aI (nI j)), some (aI (nI i)), some (aI ((14 : Int32) * nI j)), some (aI (bV st)), some (aI (nI x)), none, none, none, none, none, none] [] S 4 := by
        refine hs [186] 120 111 _ _ _ _ ?_
        refine ⟨rfl, rfl, hW, fun z => absurd kj z, fun _ z => absurd r1 z, fun _ _ => ⟨vg9, ?_⟩⟩
        rw [i1, g9]
        refine ⟨fun z => absurd rfl z, fun _ => ⟨rfl, rfl, hW, fun z => absurd kj z, fun _ z => absurd r2 z, fun _ _ => ⟨vg10, ?_⟩⟩⟩
        rw [i2, g10]
        refine ⟨fun z => absurd rfl z, fun _ => ⟨rfl, rfl, hW, fun z => absurd kj z, fun _ z => absurd r3 z, fun _ _ => ⟨vg11, ?_⟩⟩⟩
        rw [i3, g11]
        refine ⟨fun z => absurd rfl z, fun _ => ⟨rfl, rfl, hW, fun z => absurd kj z, fun _ z => absurd r4 z, fun _ _ => ⟨vg12, ?_⟩⟩⟩
        rw [i4, g12]
        exact ⟨fun z => absurd rfl z, fun _ => h186 _ _⟩
      refine hs [111] 120 88 _ _ _ _ ?_
      refine ⟨rfl, rfl, hW, fun z => absurd kj z, fun _ z => absurd r0 z, fun _ _ => ?_⟩
      rw [i0]
      cases st with
      | true =>
        rw [if_pos (hst.mp rfl)]
        refine ⟨fun z => absurd z (by decide), fun _ => ⟨vg0, ?_⟩⟩
        rw [g0]
        exact ⟨fun z => absurd rfl z, fun _ => h111⟩
      | false =>
        rw [if_neg fun z => absurd (hst.mpr z) (by decide)]
        exact ⟨fun _ => ⟨fun z => absurd rfl z, fun _ => h111⟩, fun z => absurd rfl z⟩
    refine hs [88] 120 53 _ _ _ _ ?_
    refine ⟨rfl, rfl, hW, fun z => absurd ka' z, fun _ => ⟨vg1, ?_⟩⟩
    have e2 : (2 : Int32) * nI x = nI (2 * x) := nI_mul 2 x
    have wl : wtF (S.1 4 6 (nI j).toNatClampNeg) (S.1 4 7 (nI j).toNatClampNeg) (S.1 4 0 (nI j).toNatClampNeg) (nI x) = if a ≤ x then S.1 4 7 j else S.1 4 6 j := by
      rw [cj, ea]
      unfold wtF
      rw [half]
      by_cases z : a ≤ x
      · rw [if_pos z, if_pos ((nI_le2 (by omega) (by omega)).mpr z)]
      · rw [if_neg z, if_neg fun y => z ((nI_le2 (by omega) (by omega)).mp y)]
    rw [wl, g1, ea]
    refine ⟨fun z => ⟨rfl, rfl, T, j, hI, rfl, hj, ?_⟩, fun z => ⟨rfl, rfl, T, j, hI, rfl, hj, ?_⟩⟩
    · have z' : ¬ a ≤ x := fun y => by
        have z1 : nI (2 * x) < nI (2 * a) := by
          rw [← e2]
          exact z
        have := (nI_lt2 (by omega) (by omega)).mp z1
        omega
      rw [if_neg z']
      unfold brH
      rw [if_pos rfl]
      exact ⟨fun z => absurd rfl z, fun _ => h88⟩
    · have z' : a ≤ x := by
        refine Nat.not_lt.mp fun y => z ?_
        show (2 : Int32) * nI x < nI (2 * a)
        rw [e2]
        exact (nI_lt2 (by omega) (by omega)).mpr (by omega)
      rw [if_pos z']
      unfold brH
      rw [if_neg (by decide)]
      exact ⟨fun z => absurd rfl z, fun _ => h88⟩
  have h39 : ∀ st : Bool, (st = true ↔ S.1 4 9 j = -1) → G 39 [some (aR 0 0), some (aR 10 3), some (aR 10 4), some (aR 10 5), some (aR 10 6), some (aR 10 7), some (aR 10 8), some (aR 10 9), some (aI (nI q)), some (aI (nI j)), some (aI (nI i)), some (aI ((14 : Int32) * nI j)), some (aI (bV st)), none, none, none, none, none, none, none] [] S 0 := fun st hst => by
    have h1 := h53 st hst
    rw [← ex] at h1
    refine hs [53] 90 39 _ _ _ _ ?_
    refine ⟨by decide, vg1, ?_⟩
    rw [g1, ea]
    exact ⟨nI_ne0 (by omega) (by omega), h1⟩
  have h22 : G 22 [some (aR 0 0), some (aR 10 3), some (aR 10 4), some (aR 10 5), some (aR 10 6), some (aR 10 7), some (aR 10 8), some (aR 10 9), some (aI (nI q)), some (aI (nI j)), some (aI (nI i)), some (aI ((14 : Int32) * nI j)), none, none, none, none, none, none, none, none] [] S 0 := by
    obtain ⟨-, -, -, hroad⟩ := hI.ri j hj
    refine hs [39] 90 22 _ _ _ _ ?_
    refine ⟨vg9, ?_⟩
    rw [g9]
    refine ⟨fun z => h39 false ⟨fun y => (nomatch y), fun y => ?_⟩, fun z => h39 true ⟨fun _ => ?_, fun _ => rfl⟩⟩
    · have z' : 0 ≤ S.1 4 9 j := z
      rw [y] at z'
      exact absurd z' (by decide)
    · rcases hroad with h9 | ⟨d9, q9, h9, hd9, -⟩
      · exact h9
      · refine absurd ?_ z
        show 0 ≤ S.1 4 9 j
        rw [h9]
        exact nI_pos' (by omega)
  rw [← ej, ← ei] at h22
  refine hs [22] 90 0 _ _ _ _ ?_
  exact ⟨by decide, by decide, by decide, h22⟩
theorem ct_L_isSame {l : Launch} (hl : l.stackTraces = false) (hNL : NewL l) : CT l yL_isSame cL_isSame 20 (some .boolean) 8 60 s_L_isSame := CT_of hl hNL (by decide +kernel) (own := "HeavyHaulLaw") rfl (ini := false) (fun q => nomatch q) chk_L_isSame (cal_L_isSame hl hNL) ar_L_isSame vc_L_isSame
