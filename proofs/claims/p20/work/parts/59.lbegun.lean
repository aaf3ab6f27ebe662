/-! THE BEGINNING, by the law -/
theorem bif_ok {c a B : Nat} {X : Prop} (hc : Nat.ble c 8 = true) (h : a ≤ B) (x : X) : bif Nat.ble c 8 && Nat.ble a B then X else False := by
  rw [hc, Nat.ble_eq_true_of_le h]
  exact x
def bg (as : List AV) (f : Prop) : Prop := match as with
  | [Sum.inr (Sum.inr (k, i)), Sum.inr (Sum.inr (k0, i0)), Sum.inr (Sum.inr (k1, i1)), Sum.inr (Sum.inr (k2, i2))] => (k = 0 ∧ i = 0) ∧ (k0 = 14 ∧ i0 = 0) ∧ (k1 = 10 ∧ i1 = 3) ∧ (k2 = 10 ∧ i2 = 5) ∧ f
  | _ => False
theorem bg_ok {as : List AV} {f : Prop} (h : bg as f) : as = [aR 0 0, aR 14 0, aR 10 3, aR 10 5] ∧ f := by
  unfold bg at h
  split at h
  · obtain ⟨⟨rfl, rfl⟩, ⟨rfl, rfl⟩, ⟨rfl, rfl⟩, ⟨rfl, rfl⟩, h⟩ := h; exact ⟨rfl, h⟩
  · exact h.elim
def s_L_isBegun : SP := fun as S Q => bg as (BegI 0 0 S ∧ ∀ S', BegI 6 2 S' → Q (Sum.inl (some (aI 1))) S')
def tb_L_isBegun : Tb := [(0, .iconst 1, 1, xI (1)), (1, .istore 4, 2, x0), (3, .iconst 0, 1, xI (0)), (4, .istore 5, 2, x0), (6, .iload 5, 2, x0), (8, .bipush 6, 2, xI (6)), (10, .if_icmp .ge 265, 3, xN 275), (13, .iload 4, 2, x0), (15, .ifCond .eq 260, 3, xN 275), (18, .aload_n 1, 1, x0), (19, .sipush 300, 3, xI (300)), (22, .iload 5, 2, x0), (24, .iadd, 1, x0), (25, .ldc 87, 2, xC 0 0 1000000000 [131]), (27, .invokestatic 88, 3, xS 3 0 s_L_from), (30, .istore 6, 2, x0), (32, .aload_n 2, 1, x0), (33, .bipush 10, 2, xI (10)), (35, .iload 5, 2, x0), (37, .imul, 1, x0), (38, .iload 5, 2, x0), (40, .iconst 4, 1, xI (4)), (41, .if_icmp .ge 8, 3, xN 49), (44, .iload 5, 2, x0), (46, .goto 7, 3, xN 53), (49, .iload 6, 2, x0), (51, .iconst 5, 1, xI (5)), (52, .irem, 1, x0), (53, .iastore, 1, x0), (54, .aload_n 2, 1, x0), (55, .bipush 10, 2, xI (10)), (57, .iload 5, 2, x0), (59, .imul, 1, x0), (60, .iconst 1, 1, xI (1)), (61, .iadd, 1, x0), (62, .iload 5, 2, x0), (64, .iconst 4, 1, xI (4)), (65, .if_icmp .ge 10, 3, xN 75), (68, .iload 5, 2, x0), (70, .iconst 1, 1, xI (1)), (71, .iadd, 1, x0), (72, .goto 21, 3, xN 93), (75, .aload_n 2, 1, x0), (76, .bipush 10, 2, xI (10)), (78, .iload 5, 2, x0), (80, .imul, 1, x0), (81, .iaload, 1, x0), (82, .iconst 1, 1, xI (1)), (83, .iadd, 1, x0), (84, .iload 6, 2, x0), (86, .iconst 5, 1, xI (5)), (87, .idiv, 1, x0), (88, .iconst 4, 1, xI (4)), (89, .irem, 1, x0), (90, .iadd, 1, x0), (91, .iconst 5, 1, xI (5)), (92, .irem, 1, x0), (93, .iastore, 1, x0), (94, .aload_n 2, 1, x0), (95, .bipush 10, 2, xI (10)), (97, .iload 5, 2, x0), (99, .imul, 1, x0), (100, .iconst 2, 1, xI (2)), (101, .iadd, 1, x0), (102, .iload 6, 2, x0), (104, .bipush 20, 2, xI (20)), (106, .idiv, 1, x0), (107, .iconst 4, 1, xI (4)), (108, .irem, 1, x0), (109, .iastore, 1, x0), (110, .aload_n 2, 1, x0), (111, .bipush 10, 2, xI (10)), (113, .iload 5, 2, x0), (115, .imul, 1, x0), (116, .iconst 3, 1, xI (3)), (117, .iadd, 1, x0), (118, .bipush 40, 2, xI (40)), (120, .iload 6, 2, x0), (122, .bipush 80, 2, xI (80)), (124, .idiv, 1, x0), (125, .bipush 60, 2, xI (60)), (127, .irem, 1, x0), (128, .iadd, 1, x0), (129, .iastore, 1, x0), (130, .aload_n 2, 1, x0), (131, .bipush 10, 2, xI (10)), (133, .iload 5, 2, x0), (135, .imul, 1, x0), (136, .iconst 4, 1, xI (4)), (137, .iadd, 1, x0), (138, .bipush 40, 2, xI (40)), (140, .iload 6, 2, x0), (142, .sipush 4800, 3, xI (4800)), (145, .idiv, 1, x0), (146, .bipush 60, 2, xI (60)), (148, .irem, 1, x0), (149, .iadd, 1, x0), (150, .iastore, 1, x0), (151, .aload_n 2, 1, x0), (152, .bipush 10, 2, xI (10)), (154, .iload 5, 2, x0), (156, .imul, 1, x0), (157, .iconst 5, 1, xI (5)), (158, .iadd, 1, x0), (159, .bipush 20, 2, xI (20)), (161, .iload 6, 2, x0), (163, .ldc 92, 2, xC 0 0 288000 [137]), (165, .idiv, 1, x0), (166, .bipush 80, 2, xI (80)), (168, .irem, 1, x0), (169, .iadd, 1, x0), (170, .iastore, 1, x0), (171, .aload_n 2, 1, x0), (172, .bipush 10, 2, xI (10)), (174, .iload 5, 2, x0), (176, .imul, 1, x0), (177, .bipush 6, 2, xI (6)), (179, .iadd, 1, x0), (180, .iconst 1, 1, xI (1)), (181, .iload 6, 2, x0), (183, .bipush 23, 2, xI (23)), (185, .idiv, 1, x0), (186, .bipush 9, 2, xI (9)), (188, .irem, 1, x0), (189, .iadd, 1, x0), (190, .iastore, 1, x0), (191, .aload_n 0, 1, x0), (192, .aload_n 2, 1, x0), (193, .bipush 10, 2, xI (10)), (195, .iload 5, 2, x0), (197, .imul, 1, x0), (198, .iaload, 1, x0), (199, .aload_n 2, 1, x0), (200, .bipush 10, 2, xI (10)), (202, .iload 5, 2, x0), (204, .imul, 1, x0), (205, .iconst 1, 1, xI (1)), (206, .iadd, 1, x0), (207, .iaload, 1, x0), (208, .aload_n 2, 1, x0), (209, .bipush 10, 2, xI (10)), (211, .iload 5, 2, x0), (213, .imul, 1, x0), (214, .iconst 2, 1, xI (2)), (215, .iadd, 1, x0), (216, .iaload, 1, x0), (217, .aload_n 2, 1, x0), (218, .bipush 10, 2, xI (10)), (220, .iload 5, 2, x0), (222, .imul, 1, x0), (223, .iconst 3, 1, xI (3)), (224, .iadd, 1, x0), (225, .iaload, 1, x0), (226, .aload_n 2, 1, x0), (227, .bipush 10, 2, xI (10)), (229, .iload 5, 2, x0), (231, .imul, 1, x0), (232, .iconst 4, 1, xI (4)), (233, .iadd, 1, x0), (234, .iaload, 1, x0), (235, .aload_n 2, 1, x0), (236, .bipush 10, 2, xI (10)), (238, .iload 5, 2, x0), (240, .imul, 1, x0), (241, .iconst 5, 1, xI (5)), (242, .iadd, 1, x0), (243, .iaload, 1, x0), (244, .aload_n 2, 1, x0), (245, .bipush 10, 2, xI (10)), (247, .iload 5, 2, x0), (249, .imul, 1, x0), (250, .bipush 6, 2, xI (6)), (252, .iadd, 1, x0), (253, .iaload, 1, x0), (254, .invokevirtual 93, 3, xS 8 10 s_X6_road), (257, .iload 5, 2, x0), (259, .if_icmp .ne 7, 3, xN 266), (262, .iconst 1, 1, xI (1)), (263, .goto 4, 3, xN 267), (266, .iconst 0, 1, xI (0)), (267, .istore 4, 2, x0), (269, .iinc 5 1, 3, xI (1)), (272, .goto (-266), 3, xN 6), (275, .iconst 0, 1, xI (0)), (276, .istore 5, 2, x0), (278, .iload 5, 2, x0), (280, .iconst 2, 1, xI (2)), (281, .if_icmp .ge 216, 3, xN 497), (284, .iload 4, 2, x0), (286, .ifCond .eq 211, 3, xN 497), (289, .aload_n 1, 1, x0), (290, .sipush 310, 3, xI (310)), (293, .iload 5, 2, x0), (295, .iadd, 1, x0), (296, .ldc 87, 2, xC 0 0 1000000000 [131]), (298, .invokestatic 88, 3, xS 3 0 s_L_from), (301, .istore 6, 2, x0), (303, .bipush 14, 2, xI (14)), (305, .iload 5, 2, x0), (307, .imul, 1, x0), (308, .istore 7, 2, x0), (310, .aload_n 3, 1, x0), (311, .iload 7, 2, x0), (313, .iload 6, 2, x0), (315, .iconst 5, 1, xI (5)), (316, .irem, 1, x0), (317, .iastore, 1, x0), (318, .aload_n 3, 1, x0), (319, .iload 7, 2, x0), (321, .iconst 1, 1, xI (1)), (322, .iadd, 1, x0), (323, .iconst 2, 1, xI (2)), (324, .iconst 2, 1, xI (2)), (325, .iload 6, 2, x0), (327, .iconst 5, 1, xI (5)), (328, .idiv, 1, x0), (329, .bipush 8, 2, xI (8)), (331, .irem, 1, x0), (332, .imul, 1, x0), (333, .iadd, 1, x0), (334, .iastore, 1, x0), (335, .aload_n 3, 1, x0), (336, .iload 7, 2, x0), (338, .iconst 2, 1, xI (2)), (339, .iadd, 1, x0), (340, .iconst 1, 1, xI (1)), (341, .iload 6, 2, x0), (343, .bipush 40, 2, xI (40)), (345, .idiv, 1, x0), (346, .iconst 5, 1, xI (5)), (347, .irem, 1, x0), (348, .iadd, 1, x0), (349, .iastore, 1, x0), (350, .aload_n 3, 1, x0), (351, .iload 7, 2, x0), (353, .iconst 3, 1, xI (3)), (354, .iadd, 1, x0), (355, .iconst 5, 1, xI (5)), (356, .iload 6, 2, x0), (358, .sipush 200, 3, xI (200)), (361, .idiv, 1, x0), (362, .bipush 30, 2, xI (30)), (364, .irem, 1, x0), (365, .iadd, 1, x0), (366, .iastore, 1, x0), (367, .aload_n 3, 1, x0), (368, .iload 7, 2, x0), (370, .iconst 4, 1, xI (4)), (371, .iadd, 1, x0), (372, .bipush 20, 2, xI (20)), (374, .iload 6, 2, x0), (376, .sipush 6000, 3, xI (6000)), (379, .idiv, 1, x0), (380, .bipush 50, 2, xI (50)), (382, .irem, 1, x0), (383, .iadd, 1, x0), (384, .iastore, 1, x0), (385, .aload_n 3, 1, x0), (386, .iload 7, 2, x0), (388, .iconst 5, 1, xI (5)), (389, .iadd, 1, x0), (390, .bipush 20, 2, xI (20)), (392, .iload 6, 2, x0), (394, .ldc 97, 2, xC 0 0 300000 [359]), (396, .idiv, 1, x0), (397, .bipush 50, 2, xI (50)), (399, .irem, 1, x0), (400, .iadd, 1, x0), (401, .iastore, 1, x0), (402, .aload_n 3, 1, x0), (403, .iload 7, 2, x0), (405, .bipush 6, 2, xI (6)), (407, .iadd, 1, x0), (408, .iload 6, 2, x0), (410, .bipush 11, 2, xI (11)), (412, .idiv, 1, x0), (413, .sipush 30000, 3, xI (30000)), (416, .irem, 1, x0), (417, .iastore, 1, x0), (418, .aload_n 3, 1, x0), (419, .iload 7, 2, x0), (421, .bipush 9, 2, xI (9)), (423, .iadd, 1, x0), (424, .iconst (-1), 1, xI (-1)), (425, .iastore, 1, x0), (426, .aload_n 3, 1, x0), (427, .iload 7, 2, x0), (429, .bipush 10, 2, xI (10)), (431, .iadd, 1, x0), (432, .iconst (-1), 1, xI (-1)), (433, .iastore, 1, x0), (434, .aload_n 0, 1, x0), (435, .aload_n 3, 1, x0), (436, .iload 7, 2, x0), (438, .iaload, 1, x0), (439, .aload_n 3, 1, x0), (440, .iload 7, 2, x0), (442, .iconst 1, 1, xI (1)), (443, .iadd, 1, x0), (444, .iaload, 1, x0), (445, .aload_n 3, 1, x0), (446, .iload 7, 2, x0), (448, .iconst 2, 1, xI (2)), (449, .iadd, 1, x0), (450, .iaload, 1, x0), (451, .aload_n 3, 1, x0), (452, .iload 7, 2, x0), (454, .iconst 3, 1, xI (3)), (455, .iadd, 1, x0), (456, .iaload, 1, x0), (457, .aload_n 3, 1, x0), (458, .iload 7, 2, x0), (460, .iconst 4, 1, xI (4)), (461, .iadd, 1, x0), (462, .iaload, 1, x0), (463, .aload_n 3, 1, x0), (464, .iload 7, 2, x0), (466, .iconst 5, 1, xI (5)), (467, .iadd, 1, x0), (468, .iaload, 1, x0), (469, .aload_n 3, 1, x0), (470, .iload 7, 2, x0), (472, .bipush 6, 2, xI (6)), (474, .iadd, 1, x0), (475, .iaload, 1, x0), (476, .invokevirtual 98, 3, xS 8 12 s_X6_rig), (479, .iload 5, 2, x0), (481, .if_icmp .ne 7, 3, xN 488), (484, .iconst 1, 1, xI (1)), (485, .goto 4, 3, xN 489), (488, .iconst 0, 1, xI (0)), (489, .istore 4, 2, x0), (491, .iinc 5 1, 3, xI (1)), (494, .goto (-216), 3, xN 278), (497, .iload 4, 2, x0), (499, .ireturn, 1, x0)]
theorem chk_L_isBegun : chkTb cL_isBegun "HeavyHaulLaw" false tb_L_isBegun = true := by decide +kernel
theorem cal_L_isBegun {l : Launch} (hl : l.stackTraces = false) (hNL : NewL l) : CallsOK l "HeavyHaulLaw" 7 tb_L_isBegun := callsOK_f ⟨⟨_, _, 4, 0, _, (ct_L_from hl hNL), ⟨List.mem_of_getElem? (i := 134) (by decide +kernel), List.mem_of_getElem? (i := 25) (by decide +kernel), List.mem_of_getElem? (i := 132) (by decide +kernel), ⟨by decide +kernel, by decide +kernel⟩, by decide +kernel, by decide⟩, List.mem_of_getElem? (i := 133) (by decide +kernel), by decide⟩, ⟨_, _, 8, 6, _, 7, (ct_X6_road hl hNL), ⟨List.mem_of_getElem? (i := 141) (by decide +kernel), List.mem_of_getElem? (i := 26) (by decide +kernel), List.mem_of_getElem? (i := 138) (by decide +kernel), ⟨by decide +kernel, by decide +kernel⟩, by decide +kernel, by decide⟩, List.mem_of_getElem? (i := 139) (by decide +kernel), List.mem_of_getElem? (i := 140) (by decide +kernel), by decide, by decide, rc_X6_road⟩, ⟨_, _, 4, 0, _, (ct_L_from hl hNL), ⟨List.mem_of_getElem? (i := 134) (by decide +kernel), List.mem_of_getElem? (i := 25) (by decide +kernel), List.mem_of_getElem? (i := 132) (by decide +kernel), ⟨by decide +kernel, by decide +kernel⟩, by decide +kernel, by decide⟩, List.mem_of_getElem? (i := 133) (by decide +kernel), by decide⟩, ⟨_, _, 9, 6, _, 7, (ct_X6_rig hl hNL), ⟨List.mem_of_getElem? (i := 363) (by decide +kernel), List.mem_of_getElem? (i := 26) (by decide +kernel), List.mem_of_getElem? (i := 360) (by decide +kernel), ⟨by decide +kernel, by decide +kernel⟩, by decide +kernel, by decide⟩, List.mem_of_getElem? (i := 361) (by decide +kernel), List.mem_of_getElem? (i := 362) (by decide +kernel), by decide, by decide, rc_X6_rig⟩, trivial⟩
theorem ar_L_isBegun : ∀ as S P, s_L_isBegun as S P → as.length ≤ 8 ∧ ∀ a ∈ as, catV a = 1 := fun as S P h => by
  obtain ⟨rfl, _⟩ := bg_ok h
  exact ar_all ⟨Nat.le_of_ble_eq_true rfl, rfl⟩
set_option maxRecDepth 8000 in
theorem vc_L_isBegun : ∀ (G : Gt) (Q : Out → Sto → Prop) (as : List AV) (S : Sto), s_L_isBegun as S Q → Seg tb_L_isBegun G Q 2 90 [] (0, fun _ => 0) → G 0 (argL as 8) [] S 0 := by
  intro G Q as S h hs
  obtain ⟨rfl, hB, hQ⟩ := bg_ok h
  have ten9 : (1000000000 : Int32) = nI 1000000000 := rfl
  have c5 : ∀ z : Nat, z < 1000000000 → nI z - nI z / 5 * 5 = nI (z % 5) := fun z hz => pk_rem (d := 5) (by omega) (by omega) (by omega)
  -- rigs
  have loop2 : ∀ m k, k + m = 2 → ∀ Sk, BegI 6 k Sk → ∀ u, u ≤ 60 + 12 * k → ∀ x6 x7, G 278 [some (aR 0 0), some (aR 14 0), some (aR 10 3), some (aR 10 5), some (aI 1), some (aI (nI k)), x6, x7] [] Sk u := by
    intro m
    induction m with
    | zero =>
      intro k hk Sk hI u hu x6 x7
      obtain rfl : k = 2 := hk
      refine hs [278] 60 278 _ _ _ _ ?_
      exact ⟨fun _ => ⟨rfl, hQ Sk hI⟩, fun z => absurd (by decide) z⟩
    | succ m ih =>
      intro k hk Sk hI u hu x6 x7
      have hk2 : k < 2 := by omega
      have h303 : ∀ z : Nat, z < 1000000000 → G 303 [some (aR 0 0), some (aR 14 0), some (aR 10 3), some (aR 10 5), some (aI 1), some (aI (nI k)), some (aI (nI z)), x7] [] Sk u := by
        intro z hz
        obtain ⟨p, hp, ep⟩ : ∃ j : Nat, j < 5 ∧ nI z - nI z / 5 * 5 = nI j := remN (q := z) (d := 5) (by omega) (by omega) (by omega)
        obtain ⟨a, ha, ea⟩ : ∃ j : Nat, j < 8 ∧ nI z / 5 - nI z / 5 / 8 * 8 = nI j := drm (q := z) (d := 5) (e := 8) (by omega) (by omega) (by omega) (by omega) (by omega)
        obtain ⟨b, hb, eb⟩ : ∃ j : Nat, j < 5 ∧ nI z / 40 - nI z / 40 / 5 * 5 = nI j := drm (q := z) (d := 40) (e := 5) (by omega) (by omega) (by omega) (by omega) (by omega)
        obtain ⟨c, hc, ec⟩ : ∃ j : Nat, j < 30 ∧ nI z / 200 - nI z / 200 / 30 * 30 = nI j := drm (q := z) (d := 200) (e := 30) (by omega) (by omega) (by omega) (by omega) (by omega)
        obtain ⟨d, hd, ed⟩ : ∃ j : Nat, j < 50 ∧ nI z / 6000 - nI z / 6000 / 50 * 50 = nI j := drm (q := z) (d := 6000) (e := 50) (by omega) (by omega) (by omega) (by omega) (by omega)
        obtain ⟨e, he, ee⟩ : ∃ j : Nat, j < 50 ∧ nI z / 300000 - nI z / 300000 / 50 * 50 = nI j := drm (q := z) (d := 300000) (e := 50) (by omega) (by omega) (by omega) (by omega) (by omega)
        obtain ⟨x, hx, ex⟩ : ∃ j : Nat, j < 30000 ∧ nI z / 11 - nI z / 11 / 30000 * 30000 = nI j := drm (q := z) (d := 11) (e := 30000) (by omega) (by omega) (by omega) (by omega) (by omega)
        have sa : (2 : Int32) + 2 * nI a = nI (2 + 2 * a) := by rw [show (2 : Int32) = nI 2 from rfl, nI_mul, nI_add]
        have sb : (1 : Int32) + nI b = nI (1 + b) := nI_add 1 b
        have sc : (5 : Int32) + nI c = nI (5 + c) := nI_add 5 c
        have sd : (20 : Int32) + nI d = nI (20 + d) := nI_add 20 d
        have se : (20 : Int32) + nI e = nI (20 + e) := nI_add 20 e
        have hf : fitG (nI (2 + 2 * a)) (nI (1 + b)) (nI (5 + c)) (nI (20 + d)) (nI (20 + e)) (nI x) := by
          refine ⟨rgN (a := 2) (b := 16) (by omega) (by omega) (by omega), ?_, rgN (a := 1) (b := 5) (by omega) (by omega) (by omega), rgN (a := 5) (b := 99) (by omega) (by omega) (by omega), rgN (a := 20) (b := 99) (by omega) (by omega) (by omega), rgN (a := 20) (b := 99) (by omega) (by omega) (by omega), rgN (a := 0) (b := 99999) (by omega) (by omega) (by omega)⟩
          unfold evn
          rw [show (2 : Int32) = nI 2 from rfl, pk_rem (by omega) (by omega) (by omega), show (2 + 2 * a) % 2 = 0 by omega]
          rfl
        have hinv := inv_rig hI hk2 hp hf
        unfold lwG at hinv
        obtain ⟨S1, hS1⟩ : ∃ S1, S1 = wrI Sk 10 5 (14 * k) (nI p) := ⟨_, rfl⟩
        obtain ⟨S2, hS2⟩ : ∃ S2, S2 = wrI S1 10 5 (14 * k + 1) (nI (2 + 2 * a)) := ⟨_, rfl⟩
        obtain ⟨S3, hS3⟩ : ∃ S3, S3 = wrI S2 10 5 (14 * k + 2) (nI (1 + b)) := ⟨_, rfl⟩
        obtain ⟨S4, hS4⟩ : ∃ S4, S4 = wrI S3 10 5 (14 * k + 3) (nI (5 + c)) := ⟨_, rfl⟩
        obtain ⟨S5, hS5⟩ : ∃ S5, S5 = wrI S4 10 5 (14 * k + 4) (nI (20 + d)) := ⟨_, rfl⟩
        obtain ⟨S6, hS6⟩ : ∃ S6, S6 = wrI S5 10 5 (14 * k + 5) (nI (20 + e)) := ⟨_, rfl⟩
        obtain ⟨S7, hS7⟩ : ∃ S7, S7 = wrI S6 10 5 (14 * k + 6) (nI x) := ⟨_, rfl⟩
        obtain ⟨S8, hS8⟩ : ∃ S8, S8 = wrI S7 10 5 (14 * k + 9) (-1) := ⟨_, rfl⟩
        obtain ⟨S9, hS9⟩ : ∃ S9, S9 = wrI S8 10 5 (14 * k + 10) (-1) := ⟨_, rfl⟩
        rw [← hS1, ← hS2, ← hS3, ← hS4, ← hS5, ← hS6, ← hS7, ← hS8, ← hS9] at hinv
        have i0 : ((14 : Int32) * nI k).toNatClampNeg = 14 * k := ix_1 14 k (by omega)
        have v0 : vp_in ((14 : Int32) * nI k) 28 := iv_1 (a := 14) (by omega) (by omega)
        have i1 : ((14 : Int32) * nI k + 1).toNatClampNeg = 14 * k + 1 := ix_2 14 k 1 (by omega)
        have v1 : vp_in ((14 : Int32) * nI k + 1) 28 := iv_2 (a := 14) (c := 1) (by omega) (by omega)
        have i2 : ((14 : Int32) * nI k + 2).toNatClampNeg = 14 * k + 2 := ix_2 14 k 2 (by omega)
        have v2 : vp_in ((14 : Int32) * nI k + 2) 28 := iv_2 (a := 14) (c := 2) (by omega) (by omega)
        have i3 : ((14 : Int32) * nI k + 3).toNatClampNeg = 14 * k + 3 := ix_2 14 k 3 (by omega)
        have v3 : vp_in ((14 : Int32) * nI k + 3) 28 := iv_2 (a := 14) (c := 3) (by omega) (by omega)
        have i4 : ((14 : Int32) * nI k + 4).toNatClampNeg = 14 * k + 4 := ix_2 14 k 4 (by omega)
        have v4 : vp_in ((14 : Int32) * nI k + 4) 28 := iv_2 (a := 14) (c := 4) (by omega) (by omega)
        have i5 : ((14 : Int32) * nI k + 5).toNatClampNeg = 14 * k + 5 := ix_2 14 k 5 (by omega)
        have v5 : vp_in ((14 : Int32) * nI k + 5) 28 := iv_2 (a := 14) (c := 5) (by omega) (by omega)
        have i6 : ((14 : Int32) * nI k + 6).toNatClampNeg = 14 * k + 6 := ix_2 14 k 6 (by omega)
        have v6 : vp_in ((14 : Int32) * nI k + 6) 28 := iv_2 (a := 14) (c := 6) (by omega) (by omega)
        have i9 : ((14 : Int32) * nI k + 9).toNatClampNeg = 14 * k + 9 := ix_2 14 k 9 (by omega)
        have v9 : vp_in ((14 : Int32) * nI k + 9) 28 := iv_2 (a := 14) (c := 9) (by omega) (by omega)
        have i10 : ((14 : Int32) * nI k + 10).toNatClampNeg = 14 * k + 10 := ix_2 14 k 10 (by omega)
        have v10 : vp_in ((14 : Int32) * nI k + 10) 28 := iv_2 (a := 14) (c := 10) (by omega) (by omega)
        have r0 : S9.1 10 5 (14 * k) = nI p := by rw [hS9, wrI_ne fun z => by omega, hS8, wrI_ne fun z => by omega, hS7, wrI_ne fun z => by omega, hS6, wrI_ne fun z => by omega, hS5, wrI_ne fun z => by omega, hS4, wrI_ne fun z => by omega, hS3, wrI_ne fun z => by omega, hS2, wrI_ne fun z => by omega, hS1, wrI_at, if_pos ⟨rfl, rfl, rfl⟩]
        have r1 : S9.1 10 5 (14 * k + 1) = nI (2 + 2 * a) := by rw [hS9, wrI_ne fun z => by omega, hS8, wrI_ne fun z => by omega, hS7, wrI_ne fun z => by omega, hS6, wrI_ne fun z => by omega, hS5, wrI_ne fun z => by omega, hS4, wrI_ne fun z => by omega, hS3, wrI_ne fun z => by omega, hS2, wrI_at, if_pos ⟨rfl, rfl, rfl⟩]
        have r2 : S9.1 10 5 (14 * k + 2) = nI (1 + b) := by rw [hS9, wrI_ne fun z => by omega, hS8, wrI_ne fun z => by omega, hS7, wrI_ne fun z => by omega, hS6, wrI_ne fun z => by omega, hS5, wrI_ne fun z => by omega, hS4, wrI_ne fun z => by omega, hS3, wrI_at, if_pos ⟨rfl, rfl, rfl⟩]
        have r3 : S9.1 10 5 (14 * k + 3) = nI (5 + c) := by rw [hS9, wrI_ne fun z => by omega, hS8, wrI_ne fun z => by omega, hS7, wrI_ne fun z => by omega, hS6, wrI_ne fun z => by omega, hS5, wrI_ne fun z => by omega, hS4, wrI_at, if_pos ⟨rfl, rfl, rfl⟩]
        have r4 : S9.1 10 5 (14 * k + 4) = nI (20 + d) := by rw [hS9, wrI_ne fun z => by omega, hS8, wrI_ne fun z => by omega, hS7, wrI_ne fun z => by omega, hS6, wrI_ne fun z => by omega, hS5, wrI_at, if_pos ⟨rfl, rfl, rfl⟩]
        have r5 : S9.1 10 5 (14 * k + 5) = nI (20 + e) := by rw [hS9, wrI_ne fun z => by omega, hS8, wrI_ne fun z => by omega, hS7, wrI_ne fun z => by omega, hS6, wrI_at, if_pos ⟨rfl, rfl, rfl⟩]
        have r6 : S9.1 10 5 (14 * k + 6) = nI x := by rw [hS9, wrI_ne fun z => by omega, hS8, wrI_ne fun z => by omega, hS7, wrI_at, if_pos ⟨rfl, rfl, rfl⟩]
        have n9 : S9.2 = Sk.2 := by
          rw [hS9, hS8, hS7, hS6, hS5, hS4, hS3, hS2, hS1]
          rfl
        have hW9 : WfH S9 := by
          rw [hS9, hS8, hS7, hS6, hS5, hS4, hS3, hS2, hS1]
          exact hI.1
        have kp : nm (nI p) 10 := nmN (b := 10) (by omega) (by omega)
        have hlt : nI (S9.2.2 22) < 6 := by
          rw [n9, hI.2.1.2.1]
          exact (nI_lt2 (b := 6) (by omega) (by omega)).mpr (by omega)
        have hret : nI ((newG S9 (nI p) (nI (2 + 2 * a)) (nI (1 + b)) (nI (5 + c)) (nI (20 + d)) (nI (20 + e)) (nI x)).2.2 22) - 1 = nI k := by
          have e9 : (newG S9 (nI p) (nI (2 + 2 * a)) (nI (1 + b)) (nI (5 + c)) (nI (20 + d)) (nI (20 + e)) (nI x)).2.2 22 = S9.2.2 22 + 1 := rfl
          rw [e9, n9, hI.2.1.2.1, nI_pred]
        have hnext := ih (k + 1) (by omega) _ hinv (u + 0 + 12) (by omega) (some (aI (nI z))) (some (aI ((14 : Int32) * nI k)))
        rw [← nI_s] at hnext
        refine hs [278] 300 303 _ _ _ _ ?_
        refine ⟨by decide, v0, ?_⟩
        rw [i0, ep, ← hS1]
        refine ⟨by decide, by decide, v1, ?_⟩
        rw [i1, ea, sa, ← hS2]
        refine ⟨by decide, by decide, v2, ?_⟩
        rw [i2, eb, sb, ← hS3]
        refine ⟨by decide, by decide, v3, ?_⟩
        rw [i3, ec, sc, ← hS4]
        refine ⟨by decide, by decide, v4, ?_⟩
        rw [i4, ed, sd, ← hS5]
        refine ⟨by decide, by decide, v5, ?_⟩
        rw [i5, ee, se, ← hS6]
        refine ⟨by decide, by decide, v6, ?_⟩
        rw [i6, ex, ← hS7]
        refine ⟨v9, ?_⟩
        rw [i9, ← hS8]
        refine ⟨v10, ?_⟩
        rw [i10, ← hS9]
        refine ⟨v0, ?_⟩
        rw [i0, r0]
        refine ⟨v1, ?_⟩
        rw [i1, r1]
        refine ⟨v2, ?_⟩
        rw [i2, r2]
        refine ⟨v3, ?_⟩
        rw [i3, r3]
        refine ⟨v4, ?_⟩
        rw [i4, r4]
        refine ⟨v5, ?_⟩
        rw [i5, r5]
        refine ⟨v6, ?_⟩
        rw [i6, r6]
        refine bif_ok rfl (by omega) ?_
        refine ⟨rfl, rfl, hW9, fun z => absurd kp z, fun _ z => absurd hf z, fun _ _ z => absurd hlt z, fun _ _ _ => ?_⟩
        rw [hret]
        exact ⟨fun z => absurd rfl z, fun _ => hnext⟩
      refine hs [303] 60 278 _ _ _ _ ?_
      refine ⟨fun z => absurd z (lp_go (n := 2) (by omega) hk2), fun _ => ⟨fun z => absurd z (by decide), fun _ => ?_⟩⟩
      refine bif_ok rfl (by omega) ?_
      refine ⟨rfl, rfl, 310 + k, 1000000000, nI_add 310 k, by omega, rfl, by omega, by omega, fun z hz => ?_⟩
      exact h303 z hz
  -- roads
  have loop1 : ∀ m k, k + m = 6 → ∀ Sk, BegI k 0 Sk → ∀ u, u ≤ 10 * k → ∀ x6 x7, G 6 [some (aR 0 0), some (aR 14 0), some (aR 10 3), some (aR 10 5), some (aI 1), some (aI (nI k)), x6, x7] [] Sk u := by
    intro m
    induction m with
    | zero =>
      intro k hk Sk hI u hu x6 x7
      obtain rfl : k = 6 := hk
      refine hs [6, 278] 60 6 _ _ _ _ ?_
      exact ⟨fun _ => loop2 2 0 rfl Sk hI u (by omega) _ _, fun z => absurd (by decide) z⟩
    | succ m ih =>
      intro k hk Sk hI u hu x6 x7
      have hk6 : k < 6 := by omega
      have h32 : ∀ z : Nat, z < 1000000000 → G 32 [some (aR 0 0), some (aR 14 0), some (aR 10 3), some (aR 10 5), some (aI 1), some (aI (nI k)), some (aI (nI z)), x7] [] Sk u := by
        intro z hz
        obtain ⟨c, hc, ec⟩ : ∃ j : Nat, j < 4 ∧ nI z / 20 - nI z / 20 / 4 * 4 = nI j := drm (q := z) (d := 20) (e := 4) (by omega) (by omega) (by omega) (by omega) (by omega)
        obtain ⟨d, hd, ed⟩ : ∃ j : Nat, j < 60 ∧ nI z / 80 - nI z / 80 / 60 * 60 = nI j := drm (q := z) (d := 80) (e := 60) (by omega) (by omega) (by omega) (by omega) (by omega)
        obtain ⟨e, he, ee⟩ : ∃ j : Nat, j < 60 ∧ nI z / 4800 - nI z / 4800 / 60 * 60 = nI j := drm (q := z) (d := 4800) (e := 60) (by omega) (by omega) (by omega) (by omega) (by omega)
        obtain ⟨x, hx, ex⟩ : ∃ j : Nat, j < 80 ∧ nI z / 288000 - nI z / 288000 / 80 * 80 = nI j := drm (q := z) (d := 288000) (e := 80) (by omega) (by omega) (by omega) (by omega) (by omega)
        obtain ⟨y, hy, ey⟩ : ∃ j : Nat, j < 9 ∧ nI z / 23 - nI z / 23 / 9 * 9 = nI j := drm (q := z) (d := 23) (e := 9) (by omega) (by omega) (by omega) (by omega) (by omega)
        obtain ⟨w, hw, ew⟩ : ∃ j : Nat, j < 4 ∧ nI z / 5 - nI z / 5 / 4 * 4 = nI j := drm (q := z) (d := 5) (e := 4) (by omega) (by omega) (by omega) (by omega) (by omega)
        have sd : (40 : Int32) + nI d = nI (40 + d) := nI_add 40 d
        have se : (40 : Int32) + nI e = nI (40 + e) := nI_add 40 e
        have sx : (20 : Int32) + nI x = nI (20 + x) := nI_add 20 x
        have sy : (1 : Int32) + nI y = nI (1 + y) := nI_add 1 y
        have i0 : ((10 : Int32) * nI k).toNatClampNeg = 10 * k := ix_1 10 k (by omega)
        have v0 : vp_in ((10 : Int32) * nI k) 60 := iv_1 (a := 10) (by omega) (by omega)
        have i1 : ((10 : Int32) * nI k + 1).toNatClampNeg = 10 * k + 1 := ix_2 10 k 1 (by omega)
        have v1 : vp_in ((10 : Int32) * nI k + 1) 60 := iv_2 (a := 10) (c := 1) (by omega) (by omega)
        have i2 : ((10 : Int32) * nI k + 2).toNatClampNeg = 10 * k + 2 := ix_2 10 k 2 (by omega)
        have v2 : vp_in ((10 : Int32) * nI k + 2) 60 := iv_2 (a := 10) (c := 2) (by omega) (by omega)
        have i3 : ((10 : Int32) * nI k + 3).toNatClampNeg = 10 * k + 3 := ix_2 10 k 3 (by omega)
        have v3 : vp_in ((10 : Int32) * nI k + 3) 60 := iv_2 (a := 10) (c := 3) (by omega) (by omega)
        have i4 : ((10 : Int32) * nI k + 4).toNatClampNeg = 10 * k + 4 := ix_2 10 k 4 (by omega)
        have v4 : vp_in ((10 : Int32) * nI k + 4) 60 := iv_2 (a := 10) (c := 4) (by omega) (by omega)
        have i5 : ((10 : Int32) * nI k + 5).toNatClampNeg = 10 * k + 5 := ix_2 10 k 5 (by omega)
        have v5 : vp_in ((10 : Int32) * nI k + 5) 60 := iv_2 (a := 10) (c := 5) (by omega) (by omega)
        have i6 : ((10 : Int32) * nI k + 6).toNatClampNeg = 10 * k + 6 := ix_2 10 k 6 (by omega)
        have v6 : vp_in ((10 : Int32) * nI k + 6) 60 := iv_2 (a := 10) (c := 6) (by omega) (by omega)
        have h93 : ∀ p o : Nat, p < 5 → o < 5 → p ≠ o → ∀ S1, S1 = wrI Sk 10 3 (10 * k) (nI p) → G 93 [some (aR 0 0), some (aR 14 0), some (aR 10 3), some (aR 10 5), some (aI 1), some (aI (nI k)), some (aI (nI z)), x7] [aI (nI o), aI ((10 : Int32) * nI k + 1), aR 10 3] S1 u := by
          intro p o hp ho hpo S1 hS1
          have hinv := inv_road hI hk6 hp ho hpo hc (d := nI (40 + d)) (e := nI (40 + e)) (x := nI (20 + x)) (y := nI (1 + y)) (rgN (a := 1) (b := 9) (by omega) (by omega) (by omega))
          unfold lwR at hinv
          obtain ⟨S2, hS2⟩ : ∃ S2, S2 = wrI S1 10 3 (10 * k + 1) (nI o) := ⟨_, rfl⟩
          obtain ⟨S3, hS3⟩ : ∃ S3, S3 = wrI S2 10 3 (10 * k + 2) (nI c) := ⟨_, rfl⟩
          obtain ⟨S4, hS4⟩ : ∃ S4, S4 = wrI S3 10 3 (10 * k + 3) (nI (40 + d)) := ⟨_, rfl⟩
          obtain ⟨S5, hS5⟩ : ∃ S5, S5 = wrI S4 10 3 (10 * k + 4) (nI (40 + e)) := ⟨_, rfl⟩
          obtain ⟨S6, hS6⟩ : ∃ S6, S6 = wrI S5 10 3 (10 * k + 5) (nI (20 + x)) := ⟨_, rfl⟩
          obtain ⟨S7, hS7⟩ : ∃ S7, S7 = wrI S6 10 3 (10 * k + 6) (nI (1 + y)) := ⟨_, rfl⟩
          rw [← hS1, ← hS2, ← hS3, ← hS4, ← hS5, ← hS6, ← hS7] at hinv
          have r0 : S7.1 10 3 (10 * k) = nI p := by rw [hS7, wrI_ne fun z => by omega, hS6, wrI_ne fun z => by omega, hS5, wrI_ne fun z => by omega, hS4, wrI_ne fun z => by omega, hS3, wrI_ne fun z => by omega, hS2, wrI_ne fun z => by omega, hS1, wrI_at, if_pos ⟨rfl, rfl, rfl⟩]
          have r1 : S7.1 10 3 (10 * k + 1) = nI o := by rw [hS7, wrI_ne fun z => by omega, hS6, wrI_ne fun z => by omega, hS5, wrI_ne fun z => by omega, hS4, wrI_ne fun z => by omega, hS3, wrI_ne fun z => by omega, hS2, wrI_at, if_pos ⟨rfl, rfl, rfl⟩]
          have r2 : S7.1 10 3 (10 * k + 2) = nI c := by rw [hS7, wrI_ne fun z => by omega, hS6, wrI_ne fun z => by omega, hS5, wrI_ne fun z => by omega, hS4, wrI_ne fun z => by omega, hS3, wrI_at, if_pos ⟨rfl, rfl, rfl⟩]
          have r3 : S7.1 10 3 (10 * k + 3) = nI (40 + d) := by rw [hS7, wrI_ne fun z => by omega, hS6, wrI_ne fun z => by omega, hS5, wrI_ne fun z => by omega, hS4, wrI_at, if_pos ⟨rfl, rfl, rfl⟩]
          have r4 : S7.1 10 3 (10 * k + 4) = nI (40 + e) := by rw [hS7, wrI_ne fun z => by omega, hS6, wrI_ne fun z => by omega, hS5, wrI_at, if_pos ⟨rfl, rfl, rfl⟩]
          have r5 : S7.1 10 3 (10 * k + 5) = nI (20 + x) := by rw [hS7, wrI_ne fun z => by omega, hS6, wrI_at, if_pos ⟨rfl, rfl, rfl⟩]
          have r6 : S7.1 10 3 (10 * k + 6) = nI (1 + y) := by rw [hS7, wrI_at, if_pos ⟨rfl, rfl, rfl⟩]
          have n7 : S7.2 = Sk.2 := by
            rw [hS7, hS6, hS5, hS4, hS3, hS2, hS1]
            rfl
          have hW7 : WfH S7 := by
            rw [hS7, hS6, hS5, hS4, hS3, hS2, hS1]
            exact hI.1
          have hkn : knR (nI p) (nI o) (nI c) := ⟨nmN (b := 10) (by omega) (by omega), nmN (b := 10) (by omega) (by omega), nmN (b := 4) (by omega) (by omega)⟩
          have hft : fitR (nI p) (nI o) (nI (40 + d)) (nI (40 + e)) (nI (20 + x)) (nI (1 + y)) := ⟨fun q => hpo ((nI_eq (by omega) (by omega)).mp q), rgN (a := 20) (b := 99) (by omega) (by omega) (by omega), rgN (a := 20) (b := 99) (by omega) (by omega) (by omega), rgN (a := 5) (b := 99) (by omega) (by omega) (by omega), rgN (a := 1) (b := 9) (by omega) (by omega) (by omega)⟩
          have hlt : nI (S7.2.2 20) < 20 := by
            rw [n7, hI.2.1.1]
            exact (nI_lt2 (b := 20) (by omega) (by omega)).mpr (by omega)
          have hret : nI ((newR S7 (nI p) (nI o) (nI c) (nI (40 + d)) (nI (40 + e)) (nI (20 + x)) (nI (1 + y))).2.2 20) - 1 = nI k := by
            have e9 : (newR S7 (nI p) (nI o) (nI c) (nI (40 + d)) (nI (40 + e)) (nI (20 + x)) (nI (1 + y))).2.2 20 = S7.2.2 20 + 1 := rfl
            rw [e9, n7, hI.2.1.1, nI_pred]
          have hnext := ih (k + 1) (by omega) _ hinv (u + 10) (by omega) (some (aI (nI z))) x7
          rw [← nI_s] at hnext
          refine hs [6] 300 93 _ _ _ _ ?_
          refine ⟨v1, ?_⟩
          rw [i1, ← hS2]
          refine ⟨by decide, by decide, v2, ?_⟩
          rw [i2, ec, ← hS3]
          refine ⟨by decide, by decide, v3, ?_⟩
          rw [i3, ed, sd, ← hS4]
          refine ⟨by decide, by decide, v4, ?_⟩
          rw [i4, ee, se, ← hS5]
          refine ⟨by decide, by decide, v5, ?_⟩
          rw [i5, ex, sx, ← hS6]
          refine ⟨by decide, by decide, v6, ?_⟩
          rw [i6, ey, sy, ← hS7]
          refine ⟨v0, ?_⟩
          rw [i0, r0]
          refine ⟨v1, ?_⟩
          rw [i1, r1]
          refine ⟨v2, ?_⟩
          rw [i2, r2]
          refine ⟨v3, ?_⟩
          rw [i3, r3]
          refine ⟨v4, ?_⟩
          rw [i4, r4]
          refine ⟨v5, ?_⟩
          rw [i5, r5]
          refine ⟨v6, ?_⟩
          rw [i6, r6]
          refine bif_ok rfl (by omega) ?_
          refine ⟨rfl, rfl, hW7, fun z => absurd hkn z, fun _ z => absurd hft z, fun _ _ z => absurd hlt z, fun _ _ _ => ?_⟩
          rw [hret]
          exact ⟨fun z => absurd rfl z, fun _ => hnext⟩
        have h53 : ∀ p : Nat, p < 5 → (k < 4 → p = k) → G 53 [some (aR 0 0), some (aR 14 0), some (aR 10 3), some (aR 10 5), some (aI 1), some (aI (nI k)), some (aI (nI z)), x7] [aI (nI p), aI ((10 : Int32) * nI k), aR 10 3] Sk u := by
          intro p hp hpk
          obtain ⟨S1, hS1⟩ : ∃ S1, S1 = wrI Sk 10 3 (10 * k) (nI p) := ⟨_, rfl⟩
          have r0 : S1.1 10 3 (10 * k) = nI p := by rw [hS1, wrI_at, if_pos ⟨rfl, rfl, rfl⟩]
          refine hs [93] 60 53 _ _ _ _ ?_
          refine ⟨v0, ?_⟩
          rw [i0, ← hS1]
          refine ⟨fun q4 => ⟨v0, ?_⟩, fun q4 => ?_⟩
          · rw [i0, r0]
            have h9 := h93 p ((p + 1 + w) % 5) hp (Nat.mod_lt _ (by omega)) (by omega) S1 hS1
            have e9 : nI p + 1 + nI w = nI (p + 1 + w) := by rw [nI_s, nI_add]
            have e8 : nI (p + 1 + w) - nI (p + 1 + w) / 5 * 5 = nI ((p + 1 + w) % 5) := pk_rem (d := 5) (by omega) (by omega) (by omega)
            rw [← e8, ← e9, ← ew] at h9
            exact ⟨by decide, by decide, by decide, h9⟩
          · have k4 : k < 4 := Nat.not_le.mp fun y => q4 ((nI_le2 (a := 4) (by omega) (by omega)).mpr y)
            have h9 := h93 p (k + 1) hp (by omega) (by have := hpk k4; omega) S1 hS1
            rw [← nI_s] at h9
            exact h9
        refine hs [53] 60 32 _ _ _ _ ?_
        refine ⟨fun q4 => ⟨by decide, ?_⟩, fun q4 => ?_⟩
        · have h9 := h53 (z % 5) (Nat.mod_lt _ (by omega)) (fun k4 => absurd ((nI_le2 (a := 4) (by omega) (by omega)).mp q4) (by omega))
          rw [← c5 z hz] at h9
          exact h9
        · have k4 : k < 4 := Nat.not_le.mp fun y => q4 ((nI_le2 (a := 4) (by omega) (by omega)).mpr y)
          exact h53 k (by omega) (fun _ => rfl)
      refine hs [32] 60 6 _ _ _ _ ?_
      refine ⟨fun z => absurd z (lp_go (n := 6) (by omega) hk6), fun _ => ⟨fun z => absurd z (by decide), fun _ => ?_⟩⟩
      refine bif_ok rfl (by omega) ?_
      refine ⟨rfl, rfl, 300 + k, 1000000000, nI_add 300 k, by omega, rfl, by omega, by omega, fun z hz => ?_⟩
      exact h32 z hz
  refine hs [6] 60 0 _ _ _ _ ?_
  exact loop1 6 0 rfl S hB 0 (by omega) none none
theorem ct_L_isBegun {l : Launch} (hl : l.stackTraces = false) (hNL : NewL l) : CT l yL_isBegun cL_isBegun 8 (some .boolean) 7 90 s_L_isBegun := CT_of hl hNL (by decide +kernel) (own := "HeavyHaulLaw") rfl (ini := false) (fun q => nomatch q) chk_L_isBegun (cal_L_isBegun hl hNL) ar_L_isBegun vc_L_isBegun
