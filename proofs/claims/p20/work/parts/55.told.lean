/-! BAYS, BRIDGES, AUTHORITIES, WORKS, told by the law -/
def tl7 (as : List AV) (f : Int32 → Int32 → Prop) : Prop := match as with
  | [Sum.inr (Sum.inr (k, i)), Sum.inr (Sum.inr (k1, i1)), Sum.inr (Sum.inr (k2, i2)), Sum.inr (Sum.inr (k3, i3)), Sum.inr (Sum.inr (k4, i4)), Sum.inl a, Sum.inl b] =>
    (k = 0 ∧ i = 0) ∧ (k1 = 10 ∧ i1 = 3) ∧ (k2 = 10 ∧ i2 = 4) ∧ (k3 = 10 ∧ i3 = 8) ∧ (k4 = 10 ∧ i4 = 9) ∧ f a b
  | _ => False
theorem tl7_ok {as : List AV} {f : Int32 → Int32 → Prop} (h : tl7 as f) : ∃ a b, as = [aR 0 0, aR 10 3, aR 10 4, aR 10 8, aR 10 9, aI a, aI b] ∧ f a b := by
  unfold tl7 at h
  split at h
  · obtain ⟨⟨rfl, rfl⟩, ⟨rfl, rfl⟩, ⟨rfl, rfl⟩, ⟨rfl, rfl⟩, ⟨rfl, rfl⟩, h⟩ := h; exact ⟨_, _, rfl, h⟩
  · exact h.elim
def s_L_isTold : SP := fun as S Q => tl7 as fun _ z => ∃ (T q : Nat), LawI T S ∧ T ≤ 9000 ∧ z = nI q ∧ q < 2 ^ 31 ∧ ∀ S', LawI T S' → Q (Sum.inl (some (aI 1))) S'
def tb_L_isTold : Tb := [(0, .iload 6, 2, x0), (2, .bipush 6, 2, xI (6)), (4, .irem, 1, x0), (5, .istore 7, 2, x0), (7, .bipush 10, 2, xI (10)), (9, .iload 7, 2, x0), (11, .imul, 1, x0), (12, .istore 8, 2, x0), (14, .iload 5, 2, x0), (16, .ifCond .ne 96, 3, xN 112), (19, .iload 6, 2, x0), (21, .iconst 5, 1, xI (5)), (22, .irem, 1, x0), (23, .istore 9, 2, x0), (25, .aload 4, 2, x0), (27, .iconst 1, 1, xI (1)), (28, .iaload, 1, x0), (29, .iload 9, 2, x0), (31, .ishr, 1, x0), (32, .iconst 1, 1, xI (1)), (33, .iand, 1, x0), (34, .iconst 1, 1, xI (1)), (35, .if_icmp .ne 7, 3, xN 42), (38, .iconst 1, 1, xI (1)), (39, .goto 4, 3, xN 43), (42, .iconst 0, 1, xI (0)), (43, .istore 10, 2, x0), (45, .iload 6, 2, x0), (47, .iconst 5, 1, xI (5)), (48, .idiv, 1, x0), (49, .iconst 2, 1, xI (2)), (50, .irem, 1, x0), (51, .ifCond .ne 7, 3, xN 58), (54, .iconst 1, 1, xI (1)), (55, .goto 4, 3, xN 59), (58, .iconst 0, 1, xI (0)), (59, .istore 11, 2, x0), (61, .aload 4, 2, x0), (63, .iconst 1, 1, xI (1)), (64, .iload 11, 2, x0), (66, .ifCond .eq 15, 3, xN 81), (69, .aload 4, 2, x0), (71, .iconst 1, 1, xI (1)), (72, .iaload, 1, x0), (73, .iconst 1, 1, xI (1)), (74, .iload 9, 2, x0), (76, .ishl, 1, x0), (77, .ior, 1, x0), (78, .goto 14, 3, xN 92), (81, .aload 4, 2, x0), (83, .iconst 1, 1, xI (1)), (84, .iaload, 1, x0), (85, .iconst 1, 1, xI (1)), (86, .iload 9, 2, x0), (88, .ishl, 1, x0), (89, .iconst (-1), 1, xI (-1)), (90, .ixor, 1, x0), (91, .iand, 1, x0), (92, .iastore, 1, x0), (93, .aload_n 0, 1, x0), (94, .iload 9, 2, x0), (96, .iload 11, 2, x0), (98, .invokevirtual 55, 3, xS 3 1 s_X6_bay), (101, .iload 10, 2, x0), (103, .if_icmp .ne 7, 3, xN 110), (106, .iconst 1, 1, xI (1)), (107, .goto 4, 3, xN 111), (110, .iconst 0, 1, xI (0)), (111, .ireturn, 1, x0), (112, .iload 5, 2, x0), (114, .iconst 1, 1, xI (1)), (115, .if_icmp .ne 110, 3, xN 225), (118, .aload_n 1, 1, x0), (119, .iload 8, 2, x0), (121, .bipush 7, 2, xI (7)), (123, .iadd, 1, x0), (124, .iaload, 1, x0), (125, .ifCond .le 7, 3, xN 132), (128, .iconst 1, 1, xI (1)), (129, .goto 4, 3, xN 133), (132, .iconst 0, 1, xI (0)), (133, .istore 9, 2, x0), (135, .aload_n 1, 1, x0), (136, .iload 8, 2, x0), (138, .bipush 7, 2, xI (7)), (140, .iadd, 1, x0), (141, .iconst 1, 1, xI (1)), (142, .iload 6, 2, x0), (144, .bipush 6, 2, xI (6)), (146, .idiv, 1, x0), (147, .bipush 40, 2, xI (40)), (149, .irem, 1, x0), (150, .iadd, 1, x0), (151, .iastore, 1, x0), (152, .aload_n 1, 1, x0), (153, .iload 8, 2, x0), (155, .bipush 8, 2, xI (8)), (157, .iadd, 1, x0), (158, .iconst 1, 1, xI (1)), (159, .iload 6, 2, x0), (161, .sipush 240, 3, xI (240)), (164, .idiv, 1, x0), (165, .ldc 59, 2, xC 0 0 90000 [506]), (167, .irem, 1, x0), (168, .iadd, 1, x0), (169, .iastore, 1, x0), (170, .aload_n 1, 1, x0), (171, .iload 8, 2, x0), (173, .bipush 9, 2, xI (9)), (175, .iadd, 1, x0), (176, .iconst 1, 1, xI (1)), (177, .iload 6, 2, x0), (179, .bipush 7, 2, xI (7)), (181, .idiv, 1, x0), (182, .ldc 60, 2, xC 0 0 900000 [507]), (184, .irem, 1, x0), (185, .iadd, 1, x0), (186, .iastore, 1, x0), (187, .aload_n 0, 1, x0), (188, .iload 7, 2, x0), (190, .aload_n 1, 1, x0), (191, .iload 8, 2, x0), (193, .bipush 7, 2, xI (7)), (195, .iadd, 1, x0), (196, .iaload, 1, x0), (197, .aload_n 1, 1, x0), (198, .iload 8, 2, x0), (200, .bipush 8, 2, xI (8)), (202, .iadd, 1, x0), (203, .iaload, 1, x0), (204, .aload_n 1, 1, x0), (205, .iload 8, 2, x0), (207, .bipush 9, 2, xI (9)), (209, .iadd, 1, x0), (210, .iaload, 1, x0), (211, .invokevirtual 61, 3, xS 5 4 s_X6_bridge), (214, .iload 9, 2, x0), (216, .if_icmp .ne 7, 3, xN 223), (219, .iconst 1, 1, xI (1)), (220, .goto 4, 3, xN 224), (223, .iconst 0, 1, xI (0)), (224, .ireturn, 1, x0), (225, .iload 5, 2, x0), (227, .iconst 2, 1, xI (2)), (228, .if_icmp .ne 72, 3, xN 300), (231, .iload 6, 2, x0), (233, .iconst 4, 1, xI (4)), (234, .irem, 1, x0), (235, .istore 9, 2, x0), (237, .aload_n 3, 1, x0), (238, .iload 9, 2, x0), (240, .iload 6, 2, x0), (242, .iconst 4, 1, xI (4)), (243, .idiv, 1, x0), (244, .bipush 40, 2, xI (40)), (246, .irem, 1, x0), (247, .iastore, 1, x0), (248, .aload_n 3, 1, x0), (249, .iconst 4, 1, xI (4)), (250, .iload 9, 2, x0), (252, .iadd, 1, x0), (253, .iload 6, 2, x0), (255, .sipush 160, 3, xI (160)), (258, .idiv, 1, x0), (259, .iconst 3, 1, xI (3)), (260, .irem, 1, x0), (261, .ifCond .ne 18, 3, xN 279), (264, .iconst 1, 1, xI (1)), (265, .iload 6, 2, x0), (267, .sipush 480, 3, xI (480)), (270, .idiv, 1, x0), (271, .sipush 9000, 3, xI (9000)), (274, .irem, 1, x0), (275, .iadd, 1, x0), (276, .goto 5, 3, xN 281), (279, .ldc 65, 2, xC 0 0 99999 [436]), (281, .iastore, 1, x0), (282, .aload_n 0, 1, x0), (283, .iload 9, 2, x0), (285, .aload_n 3, 1, x0), (286, .iload 9, 2, x0), (288, .iaload, 1, x0), (289, .aload_n 3, 1, x0), (290, .iconst 4, 1, xI (4)), (291, .iload 9, 2, x0), (293, .iadd, 1, x0), (294, .iaload, 1, x0), (295, .invokevirtual 66, 3, xS 4 3 s_X6_authority), (298, .iconst 1, 1, xI (1)), (299, .ireturn, 1, x0), (300, .aload 4, 2, x0), (302, .iconst 2, 1, xI (2)), (303, .iaload, 1, x0), (304, .bipush 6, 2, xI (6)), (306, .if_icmp .ne 5, 3, xN 311), (309, .iconst 1, 1, xI (1)), (310, .ireturn, 1, x0), (311, .iload 6, 2, x0), (313, .bipush 6, 2, xI (6)), (315, .idiv, 1, x0), (316, .sipush 300, 3, xI (300)), (319, .irem, 1, x0), (320, .istore 9, 2, x0), (322, .aload_n 2, 1, x0), (323, .iconst 5, 1, xI (5)), (324, .aload 4, 2, x0), (326, .iconst 2, 1, xI (2)), (327, .iaload, 1, x0), (328, .imul, 1, x0), (329, .iload 7, 2, x0), (331, .iastore, 1, x0), (332, .aload_n 2, 1, x0), (333, .iconst 5, 1, xI (5)), (334, .aload 4, 2, x0), (336, .iconst 2, 1, xI (2)), (337, .iaload, 1, x0), (338, .imul, 1, x0), (339, .iconst 1, 1, xI (1)), (340, .iadd, 1, x0), (341, .iload 6, 2, x0), (343, .sipush 1800, 3, xI (1800)), (346, .idiv, 1, x0), (347, .bipush 51, 2, xI (51)), (349, .irem, 1, x0), (350, .iastore, 1, x0), (351, .aload_n 2, 1, x0), (352, .iconst 5, 1, xI (5)), (353, .aload 4, 2, x0), (355, .iconst 2, 1, xI (2)), (356, .iaload, 1, x0), (357, .imul, 1, x0), (358, .iconst 2, 1, xI (2)), (359, .iadd, 1, x0), (360, .iload 6, 2, x0), (362, .ldc 70, 2, xC 0 0 91800 [540]), (364, .idiv, 1, x0), (365, .bipush 51, 2, xI (51)), (367, .irem, 1, x0), (368, .iastore, 1, x0), (369, .aload_n 2, 1, x0), (370, .iconst 5, 1, xI (5)), (371, .aload 4, 2, x0), (373, .iconst 2, 1, xI (2)), (374, .iaload, 1, x0), (375, .imul, 1, x0), (376, .iconst 3, 1, xI (3)), (377, .iadd, 1, x0), (378, .iload 9, 2, x0), (380, .iastore, 1, x0), (381, .aload_n 2, 1, x0), (382, .iconst 5, 1, xI (5)), (383, .aload 4, 2, x0), (385, .iconst 2, 1, xI (2)), (386, .iaload, 1, x0), (387, .imul, 1, x0), (388, .iconst 4, 1, xI (4)), (389, .iadd, 1, x0), (390, .iload 9, 2, x0), (392, .iconst 1, 1, xI (1)), (393, .iadd, 1, x0), (394, .iload 6, 2, x0), (396, .bipush 13, 2, xI (13)), (398, .idiv, 1, x0), (399, .sipush 200, 3, xI (200)), (402, .irem, 1, x0), (403, .iadd, 1, x0), (404, .iastore, 1, x0), (405, .aload 4, 2, x0), (407, .iconst 2, 1, xI (2)), (408, .dup2, 1, x0), (409, .iaload, 1, x0), (410, .iconst 1, 1, xI (1)), (411, .iadd, 1, x0), (412, .iastore, 1, x0), (413, .aload_n 0, 1, x0), (414, .iload 7, 2, x0), (416, .aload_n 2, 1, x0), (417, .iconst 5, 1, xI (5)), (418, .aload 4, 2, x0), (420, .iconst 2, 1, xI (2)), (421, .iaload, 1, x0), (422, .imul, 1, x0), (423, .iconst 4, 1, xI (4)), (424, .isub, 1, x0), (425, .iaload, 1, x0), (426, .aload_n 2, 1, x0), (427, .iconst 5, 1, xI (5)), (428, .aload 4, 2, x0), (430, .iconst 2, 1, xI (2)), (431, .iaload, 1, x0), (432, .imul, 1, x0), (433, .iconst 3, 1, xI (3)), (434, .isub, 1, x0), (435, .iaload, 1, x0), (436, .iload 9, 2, x0), (438, .aload_n 2, 1, x0), (439, .iconst 5, 1, xI (5)), (440, .aload 4, 2, x0), (442, .iconst 2, 1, xI (2)), (443, .iaload, 1, x0), (444, .imul, 1, x0), (445, .iconst 1, 1, xI (1)), (446, .isub, 1, x0), (447, .iaload, 1, x0), (448, .invokevirtual 71, 3, xS 6 10 s_X6_work), (451, .aload 4, 2, x0), (453, .iconst 2, 1, xI (2)), (454, .iaload, 1, x0), (455, .if_icmp .ne 7, 3, xN 462), (458, .iconst 1, 1, xI (1)), (459, .goto 4, 3, xN 463), (462, .iconst 0, 1, xI (0)), (463, .ireturn, 1, x0)]
theorem chk_L_isTold : chkTb cL_isTold "HeavyHaulLaw" false tb_L_isTold = true := by decide +kernel
theorem cal_L_isTold {l : Launch} (hl : l.stackTraces = false) (hNL : NewL l) : CallsOK l "HeavyHaulLaw" 7 tb_L_isTold := callsOK_f ⟨⟨_, _, 4, 1, _, 7, (ct_X6_bay hl hNL), ⟨List.mem_of_getElem? (i := 505) (by decide +kernel), List.mem_of_getElem? (i := 26) (by decide +kernel), List.mem_of_getElem? (i := 502) (by decide +kernel), ⟨by decide +kernel, by decide +kernel⟩, by decide +kernel, by decide⟩, List.mem_of_getElem? (i := 503) (by decide +kernel), List.mem_of_getElem? (i := 504) (by decide +kernel), by decide, by decide, rc_X6_bay⟩, ⟨_, _, 7, 4, _, 7, (ct_X6_bridge hl hNL), ⟨List.mem_of_getElem? (i := 511) (by decide +kernel), List.mem_of_getElem? (i := 26) (by decide +kernel), List.mem_of_getElem? (i := 508) (by decide +kernel), ⟨by decide +kernel, by decide +kernel⟩, by decide +kernel, by decide⟩, List.mem_of_getElem? (i := 509) (by decide +kernel), List.mem_of_getElem? (i := 510) (by decide +kernel), by decide, by decide, rc_X6_bridge⟩, ⟨_, _, 4, 1, _, 7, (ct_X6_authority hl hNL), ⟨List.mem_of_getElem? (i := 539) (by decide +kernel), List.mem_of_getElem? (i := 26) (by decide +kernel), List.mem_of_getElem? (i := 536) (by decide +kernel), ⟨by decide +kernel, by decide +kernel⟩, by decide +kernel, by decide⟩, List.mem_of_getElem? (i := 537) (by decide +kernel), List.mem_of_getElem? (i := 538) (by decide +kernel), by decide, by decide, rc_X6_authority⟩, ⟨_, _, 6, 6, _, 7, (ct_X6_work hl hNL), ⟨List.mem_of_getElem? (i := 544) (by decide +kernel), List.mem_of_getElem? (i := 26) (by decide +kernel), List.mem_of_getElem? (i := 541) (by decide +kernel), ⟨by decide +kernel, by decide +kernel⟩, by decide +kernel, by decide⟩, List.mem_of_getElem? (i := 542) (by decide +kernel), List.mem_of_getElem? (i := 543) (by decide +kernel), by decide, by decide, rc_X6_work⟩, trivial⟩
theorem ar_L_isTold : ∀ as S P, s_L_isTold as S P → as.length ≤ 12 ∧ ∀ a ∈ as, catV a = 1 := fun as S P h => by
  obtain ⟨_, _, rfl, _⟩ := tl7_ok h
  exact ar_all ⟨Nat.le_of_ble_eq_true rfl, rfl⟩
theorem bit_xor (a b : Int32) (p : Nat) : bit (a ^^^ b) p = (bit a p ^^ bit b p) := by
  simp [bit]
theorem bit_m1 : ∀ p, p < 20 → bit (-1) p = true := by decide +kernel
set_option maxRecDepth 8000 in
theorem vc_L_isTold : ∀ (G : Gt) (Q : Out → Sto → Prop) (as : List AV) (S : Sto), s_L_isTold as S Q → Seg tb_L_isTold G Q 2 12 [] (0, fun _ => 0) → G 0 (argL as 12) [] S 0 := by
  intro G Q as S h hs
  obtain ⟨way, z0, rfl, T, q, hI, hT, rfl, hq, hQ⟩ := tl7_ok h
  obtain ⟨d, hd, ed⟩ : ∃ j : Nat, j < 6 ∧ nI q - nI q / 6 * 6 = nI j := remN (q := q) (d := 6) hq (by omega) (by omega)
  obtain ⟨-, -, m2, m3, m4⟩ := hI.mm
  have vm1 : vp_in (1 : Int32) 5 := nI_vin (a := 1) (by omega) (by decide)
  have vm2 : vp_in (2 : Int32) 5 := nI_vin (a := 2) (by omega) (by decide)
  have em2 : S.1 10 9 (2 : Int32).toNatClampNeg = nI (S.2.2 21) := m2
  have hn2 := hI.n.2.2.1
  have hW := hI.wf
  have hd20 := hI.i20 hd
  have n20 := hI.n.1
  have kd : nm (nI d) (nI (S.2.2 20)) := nmN hd20 (by omega)
  -- a bay
  have h19 : ∀ x9 x10 x11, G 19 [some (aR 0 0), some (aR 10 3), some (aR 10 4), some (aR 10 8), some (aR 10 9), some (aI way), some (aI (nI q)), some (aI (nI d)), some (aI ((10 : Int32) * nI d)), x9, x10, x11] [] S 0 := by
    intro x9 x10 x11
    obtain ⟨p, hp, ep⟩ : ∃ j : Nat, j < 5 ∧ nI q - nI q / 5 * 5 = nI j := remN (q := q) (d := 5) hq (by omega) (by omega)
    have hbay : (S.1 10 9 1 >>> (nI p &&& 31)) &&& 1 = 1 ↔ bayH S p = true := by
      rw [← hI.ba.1 p hp]
      exact t_bit _ p (by omega)
    have hone : S.1 11 0 p = bV (bayH S p) := by
      obtain ⟨j, hj, e⟩ := pk_andE (S.1 11 0 p) (m := 1) 1 (by decide)
      rw [hI.ba.2 p] at e
      unfold bayH
      have : j = 0 ∨ j = 1 := by omega
      rcases this with rfl | rfl
      · rw [e]; rfl
      · rw [e]; rfl
    have h61 : ∀ b : Bool, G 61 [some (aR 0 0), some (aR 10 3), some (aR 10 4), some (aR 10 8), some (aR 10 9), some (aI way), some (aI (nI q)), some (aI (nI d)), some (aI ((10 : Int32) * nI d)), some (aI (nI p)), some (aI (bV (bayH S p))), some (aI (bV b))] [] S 0 := fun b => by
      have fin : ∀ mm, (∀ q, q < 5 → bit mm q = if q = p then b else bit (S.1 10 9 1) q) → G 92 [some (aR 0 0), some (aR 10 3), some (aR 10 4), some (aR 10 8), some (aR 10 9), some (aI way), some (aI (nI q)), some (aI (nI d)), some (aI ((10 : Int32) * nI d)), some (aI (nI p)), some (aI (bV (bayH S p))), some (aI (bV b))] [aI mm, aI 1, aR 10 9] S 0 := fun mm hm => by
        have hinv := inv_bay hI hp (bV b) mm (bV_1 b) fun q hq => by
          rw [hm q hq]
          cases b <;> rfl
        have kp : nm (nI p) 10 := nmN (b := 10) (by omega) (by omega)
        refine hs [] 60 92 _ _ _ _ ?_
        refine ⟨vm1, rfl, rfl, bV_1 b, hI.ba.2, fun z => absurd kp z, fun _ => ?_⟩
        rw [c1l, nI_cl (show p < 2 ^ 31 by omega)]
        refine ⟨fun z => absurd hone z, fun _ => ⟨rfl, hQ _ hinv⟩⟩
      have b1 := fun q (hq : q < 5) => bit_1 p (by omega) q (by omega)
      refine hs [92] 60 61 _ _ _ _ ?_
      cases b with
      | true =>
        refine ⟨fun z => absurd z (by decide), fun _ => ⟨vm1, ?_⟩⟩
        rw [c1l]
        refine fin _ fun q hq => ?_
        rw [bit_or, b1 q hq]
        by_cases e : q = p
        · rw [if_pos e, decide_eq_true e, Bool.or_true]
        · rw [if_neg e, decide_eq_false e, Bool.or_false]
      | false =>
        refine ⟨fun _ => ⟨vm1, ?_⟩, fun z => absurd rfl z⟩
        rw [c1l]
        refine fin _ fun q hq => ?_
        rw [bit_and, bit_xor, b1 q hq, bit_m1 q (by omega)]
        by_cases e : q = p
        · rw [if_pos e, decide_eq_true e]
          simp
        · rw [if_neg e, decide_eq_false e]
          simp
    have h45 : G 45 [some (aR 0 0), some (aR 10 3), some (aR 10 4), some (aR 10 8), some (aR 10 9), some (aI way), some (aI (nI q)), some (aI (nI d)), some (aI ((10 : Int32) * nI d)), some (aI (nI p)), some (aI (bV (bayH S p))), x11] [] S 0 := by
      refine hs [61] 60 45 _ _ _ _ ?_
      exact ⟨by decide, by decide, fun _ => h61 false, fun _ => h61 true⟩
    have h25 : G 25 [some (aR 0 0), some (aR 10 3), some (aR 10 4), some (aR 10 8), some (aR 10 9), some (aI way), some (aI (nI q)), some (aI (nI d)), some (aI ((10 : Int32) * nI d)), some (aI (nI p)), x10, x11] [] S 0 := by
      refine hs [45] 60 25 _ _ _ _ ?_
      refine ⟨vm1, ?_⟩
      rw [c1l]
      refine ⟨fun z => ?_, fun z => ?_⟩
      · have hb : bayH S p = false := by
          cases hh : bayH S p with
          | false => rfl
          | true => exact absurd (hbay.mpr hh) z
        rw [hb] at h45
        exact h45
      · have hb := hbay.mp z
        rw [hb] at h45
        exact h45
    rw [← ep] at h25
    refine hs [25] 60 19 _ _ _ _ ?_
    exact ⟨by decide, h25⟩
  -- a bridge
  have h118 : ∀ x9 x10 x11, G 118 [some (aR 0 0), some (aR 10 3), some (aR 10 4), some (aR 10 8), some (aR 10 9), some (aI way), some (aI (nI q)), some (aI (nI d)), some (aI ((10 : Int32) * nI d)), x9, x10, x11] [] S 0 := by
    intro x9 x10 x11
    have va7 : vp_in ((10 : Int32) * nI d + 7) 60 := vA hI hd 7 (by decide)
    have a7 : S.1 10 3 ((10 : Int32) * nI d + 7).toNatClampNeg = S.1 2 7 d := aA hI hd 7 (by decide)
    have va8 : vp_in ((10 : Int32) * nI d + 8) 60 := vA hI hd 8 (by decide)
    have a8 : S.1 10 3 ((10 : Int32) * nI d + 8).toNatClampNeg = S.1 2 8 d := aA hI hd 8 (by decide)
    have va9 : vp_in ((10 : Int32) * nI d + 9) 60 := vA hI hd 9 (by decide)
    have a9 : S.1 10 3 ((10 : Int32) * nI d + 9).toNatClampNeg = S.1 2 9 d := aA hI hd 9 (by decide)
    obtain ⟨a, ha, ea⟩ : ∃ j : Nat, j < 40 ∧ nI q / 6 - nI q / 6 / 40 * 40 = nI j := drm (q := q) (d := 6) (e := 40) hq (by omega) (by omega) (by omega) (by omega)
    obtain ⟨b, hb, eb⟩ : ∃ j : Nat, j < 90000 ∧ nI q / 240 - nI q / 240 / 90000 * 90000 = nI j := drm (q := q) (d := 240) (e := 90000) hq (by omega) (by omega) (by omega) (by omega)
    obtain ⟨c, hc, ec⟩ : ∃ j : Nat, j < 900000 ∧ nI q / 7 - nI q / 7 / 900000 * 900000 = nI j := drm (q := q) (d := 7) (e := 900000) hq (by omega) (by omega) (by omega) (by omega)
    have i7 : ((10 : Int32) * nI d + 7).toNatClampNeg = 10 * d + 7 := ix_2 10 d 7 (by omega)
    have i8 : ((10 : Int32) * nI d + 8).toNatClampNeg = 10 * d + 8 := ix_2 10 d 8 (by omega)
    have i9 : ((10 : Int32) * nI d + 9).toNatClampNeg = 10 * d + 9 := ix_2 10 d 9 (by omega)
    have sa : (1 : Int32) + nI a = nI (1 + a) := nI_add 1 a
    have sb : (1 : Int32) + nI b = nI (1 + b) := nI_add 1 b
    have sc : (1 : Int32) + nI c = nI (1 + c) := nI_add 1 c
    have fa : rg (nI (1 + a)) 1 40 := rgN (a := 1) (b := 40) (by omega) (by omega) (by omega)
    have fb : rg (nI (1 + b)) 1 999999 := rgN (a := 1) (b := 999999) (by omega) (by omega) (by omega)
    have fc : rg (nI (1 + c)) 1 9999999 := rgN (a := 1) (b := 9999999) (by omega) (by omega) (by omega)
    have hinv := inv_bridge hI hd (nI (1 + a)) (nI (1 + b)) (nI (1 + c)) fa
    have h135 : G 135 [some (aR 0 0), some (aR 10 3), some (aR 10 4), some (aR 10 8), some (aR 10 9), some (aI way), some (aI (nI q)), some (aI (nI d)), some (aI ((10 : Int32) * nI d)), some (aI (if S.1 2 7 d ≤ 0 then 0 else 1)), x10, x11] [] S 0 := by
      unfold lwB at hinv
      obtain ⟨S1, hS1⟩ : ∃ S1, S1 = wrI S 10 3 (10 * d + 7) (nI (1 + a)) := ⟨_, rfl⟩
      obtain ⟨S2, hS2⟩ : ∃ S2, S2 = wrI S1 10 3 (10 * d + 8) (nI (1 + b)) := ⟨_, rfl⟩
      obtain ⟨S3, hS3⟩ : ∃ S3, S3 = wrI S2 10 3 (10 * d + 9) (nI (1 + c)) := ⟨_, rfl⟩
      rw [← hS1, ← hS2, ← hS3] at hinv
      have r7 : S3.1 10 3 (10 * d + 7) = nI (1 + a) := by rw [hS3, wrI_ne fun z => by omega, hS2, wrI_ne fun z => by omega, hS1, wrI_at, if_pos ⟨rfl, rfl, rfl⟩]
      have r8 : S3.1 10 3 (10 * d + 8) = nI (1 + b) := by rw [hS3, wrI_ne fun z => by omega, hS2, wrI_at, if_pos ⟨rfl, rfl, rfl⟩]
      have r9 : S3.1 10 3 (10 * d + 9) = nI (1 + c) := by rw [hS3, wrI_at, if_pos ⟨rfl, rfl, rfl⟩]
      have hW3 : WfH S3 := by
        rw [hS3, hS2, hS1]
        exact hW
      have k3 : nm (nI d) (nI (S3.2.2 20)) := by
        rw [hS3, hS2, hS1]
        exact kd
      have o7 : S3.1 2 7 (nI d).toNatClampNeg = S.1 2 7 d := by
        rw [hS3, hS2, hS1, nI_cl (by omega)]
        rfl
      refine hs [] 120 135 _ _ _ _ ?_
      refine ⟨by decide, by decide, va7, ?_⟩
      rw [i7, ea, sa, ← hS1]
      refine ⟨by decide, by decide, va8, ?_⟩
      rw [i8, eb, sb, ← hS2]
      refine ⟨by decide, by decide, va9, ?_⟩
      rw [i9, ec, sc, ← hS3]
      refine ⟨va7, ?_⟩
      rw [i7, r7]
      refine ⟨va8, ?_⟩
      rw [i8, r8]
      refine ⟨va9, ?_⟩
      rw [i9, r9]
      refine ⟨rfl, rfl, hW3, fun z => absurd k3 z, fun _ z => absurd ⟨fa, fb, fc⟩ z, fun _ _ => ?_⟩
      rw [o7, nI_cl (show d < 2 ^ 31 by omega)]
      exact ⟨fun z => absurd rfl z, fun _ => ⟨rfl, hQ _ hinv⟩⟩
    refine hs [135] 60 118 _ _ _ _ ?_
    refine ⟨va7, ?_⟩
    rw [a7]
    refine ⟨fun z => ?_, fun z => ?_⟩
    · rw [if_pos z] at h135
      exact h135
    · rw [if_neg z] at h135
      exact h135
  -- an authority
  have h231 : ∀ x9 x10 x11, G 231 [some (aR 0 0), some (aR 10 3), some (aR 10 4), some (aR 10 8), some (aR 10 9), some (aI way), some (aI (nI q)), some (aI (nI d)), some (aI ((10 : Int32) * nI d)), x9, x10, x11] [] S 0 := by
    intro x9 x10 x11
    obtain ⟨p, hp, ep⟩ : ∃ j : Nat, j < 4 ∧ nI q - nI q / 4 * 4 = nI j := remN (q := q) (d := 4) hq (by omega) (by omega)
    obtain ⟨x, hx, ex⟩ : ∃ j : Nat, j < 40 ∧ nI q / 4 - nI q / 4 / 40 * 40 = nI j := drm (q := q) (d := 4) (e := 40) hq (by omega) (by omega) (by omega) (by omega)
    obtain ⟨y, hy, ey⟩ : ∃ j : Nat, j < 9000 ∧ nI q / 480 - nI q / 480 / 9000 * 9000 = nI j := drm (q := q) (d := 480) (e := 9000) hq (by omega) (by omega) (by omega) (by omega)
    have sy : (1 : Int32) + nI y = nI (1 + y) := nI_add 1 y
    have vp : vp_in (nI p) 8 := nI_vin (by omega) (by omega)
    have e4 : (4 : Int32) + nI p = nI (4 + p) := nI_add 4 p
    have vp4 : vp_in ((4 : Int32) + nI p) 8 := by rw [e4]; exact nI_vin (by omega) (by omega)
    have i4 : ((4 : Int32) + nI p).toNatClampNeg = 4 + p := by rw [e4]; exact nI_cl (by omega)
    have ip : (nI p).toNatClampNeg = p := nI_cl (by omega)
    have kp : nm (nI p) 4 := nmN (b := 4) hp (by omega)
    obtain ⟨S1, hS1⟩ : ∃ S1, S1 = wrI S 10 8 p (nI x) := ⟨_, rfl⟩
    have h281 : ∀ v : Nat, 1 ≤ v → v ≤ 99999 → G 281 [some (aR 0 0), some (aR 10 3), some (aR 10 4), some (aR 10 8), some (aR 10 9), some (aI way), some (aI (nI q)), some (aI (nI d)), some (aI ((10 : Int32) * nI d)), some (aI (nI p)), x10, x11] [aI (nI v), aI ((4 : Int32) + nI p), aR 10 8] S1 0 := fun v hv1 hv2 => by
      have hinv := inv_authority hI hp x (by omega) (nI v)
      rw [← hS1] at hinv
      obtain ⟨S2, hS2⟩ : ∃ S2, S2 = wrI S1 10 8 (4 + p) (nI v) := ⟨_, rfl⟩
      rw [← hS2] at hinv
      have r1 : S2.1 10 8 p = nI x := by rw [hS2, wrI_ne fun z => by omega, hS1, wrI_at, if_pos ⟨rfl, rfl, rfl⟩]
      have r2 : S2.1 10 8 (4 + p) = nI v := by rw [hS2, wrI_at, if_pos ⟨rfl, rfl, rfl⟩]
      have f1 : rg (nI x) 0 999 := rgN (a := 0) (b := 999) (by omega) (by omega) (by omega)
      have f2 : rg (nI v) 1 99999 := rgN (a := 1) (b := 99999) hv1 hv2 (by omega)
      refine hs [] 60 281 _ _ _ _ ?_
      refine ⟨vp4, ?_⟩
      rw [i4, ← hS2]
      refine ⟨vp, ?_⟩
      rw [ip, r1]
      refine ⟨vp4, ?_⟩
      rw [i4, r2]
      refine ⟨rfl, rfl, fun z => absurd kp z, fun _ z => absurd ⟨f1, f2⟩ z, fun _ _ => ?_⟩
      rw [ip]
      exact ⟨rfl, hQ _ hinv⟩
    have h237 : G 237 [some (aR 0 0), some (aR 10 3), some (aR 10 4), some (aR 10 8), some (aR 10 9), some (aI way), some (aI (nI q)), some (aI (nI d)), some (aI ((10 : Int32) * nI d)), some (aI (nI p)), x10, x11] [] S 0 := by
      refine hs [281] 60 237 _ _ _ _ ?_
      refine ⟨by decide, by decide, vp, ?_⟩
      rw [ip, ex, ← hS1]
      refine ⟨by decide, by decide, fun _ => h281 99999 (by omega) (by omega), fun _ => ⟨by decide, by decide, ?_⟩⟩
      have h2 := h281 (1 + y) (by omega) (by omega)
      rw [← sy, ← ey] at h2
      exact h2
    rw [← ep] at h237
    refine hs [237] 60 231 _ _ _ _ ?_
    exact ⟨by decide, h237⟩
  -- a work
  have h311 : ∀ x9 x10 x11, S.2.2 21 < 6 → G 311 [some (aR 0 0), some (aR 10 3), some (aR 10 4), some (aR 10 8), some (aR 10 9), some (aI way), some (aI (nI q)), some (aI (nI d)), some (aI ((10 : Int32) * nI d)), x9, x10, x11] [] S 0 := by
    intro x9 x10 x11 hlt
    obtain ⟨n, hn⟩ : ∃ n, n = S.2.2 21 := ⟨_, rfl⟩
    obtain ⟨f, hf, ef⟩ : ∃ j : Nat, j < 300 ∧ nI q / 6 - nI q / 6 / 300 * 300 = nI j := drm (q := q) (d := 6) (e := 300) hq (by omega) (by omega) (by omega) (by omega)
    obtain ⟨w, hw, ew⟩ : ∃ j : Nat, j < 51 ∧ nI q / 1800 - nI q / 1800 / 51 * 51 = nI j := drm (q := q) (d := 1800) (e := 51) hq (by omega) (by omega) (by omega) (by omega)
    obtain ⟨x, hx, ex⟩ : ∃ j : Nat, j < 51 ∧ nI q / 91800 - nI q / 91800 / 51 * 51 = nI j := drm (q := q) (d := 91800) (e := 51) hq (by omega) (by omega) (by omega) (by omega)
    obtain ⟨t, ht, et⟩ : ∃ j : Nat, j < 200 ∧ nI q / 13 - nI q / 13 / 200 * 200 = nI j := drm (q := q) (d := 13) (e := 200) hq (by omega) (by omega) (by omega) (by omega)
    have hinv := inv_work hI hlt (nI d) (nI w) (nI x) (nI f) (nI (f + 1 + t))
    have e0 : ((5 : Int32) * nI n).toNatClampNeg = 5 * n := ix_1 5 n (by omega)
    have e1 : ((5 : Int32) * nI n + 1).toNatClampNeg = 5 * n + 1 := ix_2 5 n 1 (by omega)
    have e2 : ((5 : Int32) * nI n + 2).toNatClampNeg = 5 * n + 2 := ix_2 5 n 2 (by omega)
    have e3 : ((5 : Int32) * nI n + 3).toNatClampNeg = 5 * n + 3 := ix_2 5 n 3 (by omega)
    have e4 : ((5 : Int32) * nI n + 4).toNatClampNeg = 5 * n + 4 := ix_2 5 n 4 (by omega)
    have v0 : vp_in ((5 : Int32) * nI n) 30 := iv_1 (a := 5) (by omega) (by omega)
    have v1 : vp_in ((5 : Int32) * nI n + 1) 30 := iv_2 (a := 5) (c := 1) (by omega) (by omega)
    have v2 : vp_in ((5 : Int32) * nI n + 2) 30 := iv_2 (a := 5) (c := 2) (by omega) (by omega)
    have v3 : vp_in ((5 : Int32) * nI n + 3) 30 := iv_2 (a := 5) (c := 3) (by omega) (by omega)
    have v4 : vp_in ((5 : Int32) * nI n + 4) 30 := iv_2 (a := 5) (c := 4) (by omega) (by omega)
    have y4 : (5 : Int32) * nI (n + 1) - 4 = nI (5 * n + 1) := ix_m 5 (n + 1) 4 (by omega)
    have y3 : (5 : Int32) * nI (n + 1) - 3 = nI (5 * n + 2) := ix_m 5 (n + 1) 3 (by omega)
    have y1 : (5 : Int32) * nI (n + 1) - 1 = nI (5 * n + 4) := ix_m 5 (n + 1) 1 (by omega)
    have eft : nI f + 1 + nI t = nI (f + 1 + t) := by rw [nI_s, nI_add]
    rw [← hn] at em2
    unfold lwW at hinv
    rw [← hn] at hinv
    obtain ⟨S1, hS1⟩ : ∃ S1, S1 = wrI S 10 4 (5 * n) (nI d) := ⟨_, rfl⟩
    obtain ⟨S2, hS2⟩ : ∃ S2, S2 = wrI S1 10 4 (5 * n + 1) (nI w) := ⟨_, rfl⟩
    obtain ⟨S3, hS3⟩ : ∃ S3, S3 = wrI S2 10 4 (5 * n + 2) (nI x) := ⟨_, rfl⟩
    obtain ⟨S4, hS4⟩ : ∃ S4, S4 = wrI S3 10 4 (5 * n + 3) (nI f) := ⟨_, rfl⟩
    obtain ⟨S5, hS5⟩ : ∃ S5, S5 = wrI S4 10 4 (5 * n + 4) (nI (f + 1 + t)) := ⟨_, rfl⟩
    obtain ⟨S6, hS6⟩ : ∃ S6, S6 = wrI S5 10 9 2 (nI (n + 1)) := ⟨_, rfl⟩
    rw [← hS1, ← hS2, ← hS3, ← hS4, ← hS5, ← hS6] at hinv
    have m1 : S1.1 10 9 (2 : Int32).toNatClampNeg = nI n := by rw [hS1]; exact em2
    have m2 : S2.1 10 9 (2 : Int32).toNatClampNeg = nI n := by rw [hS2]; exact m1
    have m3 : S3.1 10 9 (2 : Int32).toNatClampNeg = nI n := by rw [hS3]; exact m2
    have m4 : S4.1 10 9 (2 : Int32).toNatClampNeg = nI n := by rw [hS4]; exact m3
    have m5 : S5.1 10 9 (2 : Int32).toNatClampNeg = nI n := by rw [hS5]; exact m4
    have m6 : S6.1 10 9 (2 : Int32).toNatClampNeg = nI (n + 1) := by rw [hS6, c2l, wrI_at, if_pos ⟨rfl, rfl, rfl⟩]
    have r1 : S6.1 10 4 (5 * n + 1) = nI w := by rw [hS6, wrI_ne fun z => absurd z.2.1 (by decide), hS5, wrI_ne fun z => by omega, hS4, wrI_ne fun z => by omega, hS3, wrI_ne fun z => by omega, hS2, wrI_at, if_pos ⟨rfl, rfl, rfl⟩]
    have r2 : S6.1 10 4 (5 * n + 2) = nI x := by rw [hS6, wrI_ne fun z => absurd z.2.1 (by decide), hS5, wrI_ne fun z => by omega, hS4, wrI_ne fun z => by omega, hS3, wrI_at, if_pos ⟨rfl, rfl, rfl⟩]
    have r4 : S6.1 10 4 (5 * n + 4) = nI (f + 1 + t) := by rw [hS6, wrI_ne fun z => absurd z.2.1 (by decide), hS5, wrI_at, if_pos ⟨rfl, rfl, rfl⟩]
    have hW6 : WfH S6 := by
      rw [hS6, hS5, hS4, hS3, hS2, hS1]
      exact hW
    have n21 : S6.2.2 21 = n := by
      rw [hS6, hS5, hS4, hS3, hS2, hS1, hn]
      rfl
    have k6 : knW S6 (nI d) := by
      unfold knW
      rw [hS6, hS5, hS4, hS3, hS2, hS1]
      exact kd
    have f6 : fitW (nI w) (nI x) (nI f) (nI (f + 1 + t)) := ⟨rgN (a := 0) (b := 50) (by omega) (by omega) (by omega), rgN (a := 0) (b := 50) (by omega) (by omega) (by omega), perN (by omega) (by omega)⟩
    have hc : nI (S6.2.2 21) < 30 := by
      rw [n21]
      exact (nI_lt2 (b := 30) (by omega) (by omega)).mpr (by omega)
    have hc2 : nI ((newW S6 (nI d) (nI w) (nI x) (nI f) (nI (f + 1 + t))).2.2 21) = nI (n + 1) := by
      have e : (newW S6 (nI d) (nI w) (nI x) (nI f) (nI (f + 1 + t))).2.2 21 = S6.2.2 21 + 1 := rfl
      rw [e, n21]
    have m7 : (newW S6 (nI d) (nI w) (nI x) (nI f) (nI (f + 1 + t))).1 10 9 (2 : Int32).toNatClampNeg = nI (n + 1) := m6
    have h322 : G 322 [some (aR 0 0), some (aR 10 3), some (aR 10 4), some (aR 10 8), some (aR 10 9), some (aI way), some (aI (nI q)), some (aI (nI d)), some (aI ((10 : Int32) * nI d)), some (aI (nI f)), x10, x11] [] S 0 := by
      refine hs [] 200 322 _ _ _ _ ?_
      refine ⟨vm2, ?_⟩
      rw [em2]
      refine ⟨v0, vm2, ?_⟩
      rw [e0, ← hS1, m1]
      refine ⟨by decide, by decide, v1, vm2, ?_⟩
      rw [e1, ew, ← hS2, m2]
      refine ⟨by decide, by decide, v2, vm2, ?_⟩
      rw [e2, ex, ← hS3, m3]
      refine ⟨v3, vm2, ?_⟩
      rw [e3, ← hS4, m4]
      refine ⟨by decide, by decide, v4, vm2, ?_⟩
      rw [e4, et, eft, ← hS5, m5]
      refine ⟨vm2, ?_⟩
      rw [nI_s, c2l, ← hS6]
      refine ⟨vm2, ?_⟩
      rw [m6]
      refine ⟨by rw [y4]; exact nI_vin (b := 30) (by omega) (by omega), vm2, ?_⟩
      rw [y4, nI_cl (show 5 * n + 1 < 2 ^ 31 by omega), r1, m6]
      refine ⟨by rw [y3]; exact nI_vin (b := 30) (by omega) (by omega), vm2, ?_⟩
      rw [y3, nI_cl (show 5 * n + 2 < 2 ^ 31 by omega), r2, m6]
      refine ⟨by rw [y1]; exact nI_vin (b := 30) (by omega) (by omega), ?_⟩
      rw [y1, nI_cl (show 5 * n + 4 < 2 ^ 31 by omega), r4]
      refine ⟨rfl, rfl, hW6, fun z => absurd k6 z, fun _ z => absurd f6 z, fun _ _ z => absurd hc z, fun _ _ _ => ⟨vm2, ?_⟩⟩
      rw [m7, hc2]
      exact ⟨fun z => absurd rfl z, fun _ => ⟨rfl, hQ _ hinv⟩⟩
    rw [← ef] at h322
    refine hs [322] 60 311 _ _ _ _ ?_
    exact ⟨by decide, by decide, h322⟩
  have h14 : G 14 [some (aR 0 0), some (aR 10 3), some (aR 10 4), some (aR 10 8), some (aR 10 9), some (aI way), some (aI (nI q)), some (aI (nI d)), some (aI ((10 : Int32) * nI d)), none, none, none] [] S 0 := by
    refine hs [19, 118, 231, 311] 60 14 _ _ _ _ ?_
    refine ⟨fun _ => ⟨fun _ => ⟨fun _ => ⟨vm2, ?_⟩, fun _ => h231 _ _ _⟩, fun _ => h118 _ _ _⟩, fun _ => h19 _ _ _⟩
    rw [em2]
    refine ⟨fun z => h311 _ _ _ ?_, fun _ => ⟨rfl, hQ _ hI⟩⟩
    have : S.2.2 21 ≠ 6 := fun y => z (by rw [y]; rfl)
    omega
  rw [← ed] at h14
  refine hs [14] 60 0 _ _ _ _ ?_
  exact ⟨by decide, h14⟩
theorem ct_L_isTold {l : Launch} (hl : l.stackTraces = false) (hNL : NewL l) : CT l yL_isTold cL_isTold 12 (some .boolean) 7 12 s_L_isTold := CT_of hl hNL (by decide +kernel) (own := "HeavyHaulLaw") rfl (ini := false) (fun q => nomatch q) chk_L_isTold (cal_L_isTold hl hNL) ar_L_isTold vc_L_isTold
