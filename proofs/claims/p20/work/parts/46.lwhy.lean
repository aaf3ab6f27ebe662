/-! WHY NOT, by the law -/
def wy (as : List AV) (f : Int32 → Int32 → Int32 → Int32 → Prop) : Prop := match as with
  | [Sum.inr (Sum.inr (k0, i0)), Sum.inr (Sum.inr (k1, i1)), Sum.inr (Sum.inr (k2, i2)), Sum.inr (Sum.inr (k3, i3)), Sum.inr (Sum.inr (k4, i4)), Sum.inr (Sum.inr (k5, i5)), Sum.inr (Sum.inr (k6, i6)), Sum.inl a, Sum.inl b, Sum.inl c, Sum.inl d] =>
    (k0 = 10 ∧ i0 = 3) ∧ (k1 = 10 ∧ i1 = 4) ∧ (k2 = 10 ∧ i2 = 5) ∧ (k3 = 10 ∧ i3 = 6) ∧ (k4 = 10 ∧ i4 = 7) ∧ (k5 = 10 ∧ i5 = 8) ∧ (k6 = 10 ∧ i6 = 9) ∧ f a b c d
  | _ => False
theorem wy_ok {as : List AV} {f : Int32 → Int32 → Int32 → Int32 → Prop} (h : wy as f) : ∃ a b c d, as = [aR 10 3, aR 10 4, aR 10 5, aR 10 6, aR 10 7, aR 10 8, aR 10 9, aI a, aI b, aI c, aI d] ∧ f a b c d := by
  unfold wy at h
  split at h
  · obtain ⟨⟨rfl, rfl⟩, ⟨rfl, rfl⟩, ⟨rfl, rfl⟩, ⟨rfl, rfl⟩, ⟨rfl, rfl⟩, ⟨rfl, rfl⟩, ⟨rfl, rfl⟩, h⟩ := h; exact ⟨_, _, _, _, rfl, h⟩
  · exact h.elim
def s_L_why : SP := vS fun as S k => wy as fun r d t b => ∃ (T i j n : Nat), LawI T S ∧ r = nI j ∧ j < 2 ∧ d = nI i ∧ i < 6 ∧ t = nI n ∧ n < 20000 ∧ b = bV (borneH S i j) ∧ k (some (aI (reasonH S (nI j) (nI i) t)))
def tb_L_why : Tb := [(0, .bipush 10, 2, xI (10)), (2, .iload 8, 2, x0), (4, .imul, 1, x0), (5, .istore 11, 2, x0), (7, .iload 9, 2, x0), (9, .aload_n 0, 1, x0), (10, .iload 11, 2, x0), (12, .bipush 6, 2, xI (6)), (14, .iadd, 1, x0), (15, .iaload, 1, x0), (16, .iadd, 1, x0), (17, .istore 12, 2, x0), (19, .iconst 0, 1, xI (0)), (20, .istore 13, 2, x0), (22, .iconst 0, 1, xI (0)), (23, .istore 14, 2, x0), (25, .iconst 0, 1, xI (0)), (26, .istore 15, 2, x0), (28, .iload 15, 2, x0), (30, .aload 6, 2, x0), (32, .iconst 2, 1, xI (2)), (33, .iaload, 1, x0), (34, .if_icmp .ge 102, 3, xN 136), (37, .aload_n 1, 1, x0), (38, .iconst 5, 1, xI (5)), (39, .iload 15, 2, x0), (41, .imul, 1, x0), (42, .iaload, 1, x0), (43, .iload 8, 2, x0), (45, .if_icmp .ne 85, 3, xN 130), (48, .aload_n 1, 1, x0), (49, .iconst 5, 1, xI (5)), (50, .iload 15, 2, x0), (52, .imul, 1, x0), (53, .iconst 3, 1, xI (3)), (54, .iadd, 1, x0), (55, .iaload, 1, x0), (56, .iload 9, 2, x0), (58, .if_icmp .gt 72, 3, xN 130), (61, .aload_n 1, 1, x0), (62, .iconst 5, 1, xI (5)), (63, .iload 15, 2, x0), (65, .imul, 1, x0), (66, .iconst 4, 1, xI (4)), (67, .iadd, 1, x0), (68, .iaload, 1, x0), (69, .iload 12, 2, x0), (71, .if_icmp .lt 59, 3, xN 130), (74, .iload 13, 2, x0), (76, .aload_n 1, 1, x0), (77, .iconst 5, 1, xI (5)), (78, .iload 15, 2, x0), (80, .imul, 1, x0), (81, .iconst 1, 1, xI (1)), (82, .iadd, 1, x0), (83, .iaload, 1, x0), (84, .if_icmp .ge 14, 3, xN 98), (87, .aload_n 1, 1, x0), (88, .iconst 5, 1, xI (5)), (89, .iload 15, 2, x0), (91, .imul, 1, x0), (92, .iconst 1, 1, xI (1)), (93, .iadd, 1, x0), (94, .iaload, 1, x0), (95, .goto 5, 3, xN 100), (98, .iload 13, 2, x0), (100, .istore 13, 2, x0), (102, .iload 14, 2, x0), (104, .aload_n 1, 1, x0), (105, .iconst 5, 1, xI (5)), (106, .iload 15, 2, x0), (108, .imul, 1, x0), (109, .iconst 2, 1, xI (2)), (110, .iadd, 1, x0), (111, .iaload, 1, x0), (112, .if_icmp .ge 14, 3, xN 126), (115, .aload_n 1, 1, x0), (116, .iconst 5, 1, xI (5)), (117, .iload 15, 2, x0), (119, .imul, 1, x0), (120, .iconst 2, 1, xI (2)), (121, .iadd, 1, x0), (122, .iaload, 1, x0), (123, .goto 5, 3, xN 128), (126, .iload 14, 2, x0), (128, .istore 14, 2, x0), (130, .iinc 15 1, 3, xI (1)), (133, .goto (-105), 3, xN 28), (136, .iconst 0, 1, xI (0)), (137, .istore 15, 2, x0), (139, .iconst 0, 1, xI (0)), (140, .istore 16, 2, x0), (142, .iload 16, 2, x0), (144, .aload 6, 2, x0), (146, .iconst 3, 1, xI (3)), (147, .iaload, 1, x0), (148, .if_icmp .ge 75, 3, xN 223), (151, .iload 15, 2, x0), (153, .ifCond .ne 57, 3, xN 210), (156, .aload_n 3, 1, x0), (157, .iconst 4, 1, xI (4)), (158, .iload 16, 2, x0), (160, .imul, 1, x0), (161, .iaload, 1, x0), (162, .iload 7, 2, x0), (164, .if_icmp .ne 50, 3, xN 214), (167, .aload_n 3, 1, x0), (168, .iconst 4, 1, xI (4)), (169, .iload 16, 2, x0), (171, .imul, 1, x0), (172, .iconst 1, 1, xI (1)), (173, .iadd, 1, x0), (174, .iaload, 1, x0), (175, .aload_n 0, 1, x0), (176, .iload 11, 2, x0), (178, .iconst 2, 1, xI (2)), (179, .iadd, 1, x0), (180, .iaload, 1, x0), (181, .if_icmp .ne 33, 3, xN 214), (184, .aload_n 3, 1, x0), (185, .iconst 4, 1, xI (4)), (186, .iload 16, 2, x0), (188, .imul, 1, x0), (189, .iconst 2, 1, xI (2)), (190, .iadd, 1, x0), (191, .iaload, 1, x0), (192, .iload 9, 2, x0), (194, .if_icmp .gt 20, 3, xN 214), (197, .aload_n 3, 1, x0), (198, .iconst 4, 1, xI (4)), (199, .iload 16, 2, x0), (201, .imul, 1, x0), (202, .iconst 3, 1, xI (3)), (203, .iadd, 1, x0), (204, .iaload, 1, x0), (205, .iload 12, 2, x0), (207, .if_icmp .lt 7, 3, xN 214), (210, .iconst 1, 1, xI (1)), (211, .goto 4, 3, xN 215), (214, .iconst 0, 1, xI (0)), (215, .istore 15, 2, x0), (217, .iinc 16 1, 3, xI (1)), (220, .goto (-78), 3, xN 142), (223, .iconst 0, 1, xI (0)), (224, .istore 16, 2, x0), (226, .iconst 0, 1, xI (0)), (227, .istore 17, 2, x0), (229, .iload 17, 2, x0), (231, .aload 6, 2, x0), (233, .iconst 4, 1, xI (4)), (234, .iaload, 1, x0), (235, .if_icmp .ge 82, 3, xN 317), (238, .iload 9, 2, x0), (240, .istore 18, 2, x0), (242, .iload 18, 2, x0), (244, .iload 12, 2, x0), (246, .if_icmp .ge 65, 3, xN 311), (249, .iload 16, 2, x0), (251, .ifCond .ne 47, 3, xN 298), (254, .aload 4, 2, x0), (256, .iconst 3, 1, xI (3)), (257, .iload 17, 2, x0), (259, .imul, 1, x0), (260, .iaload, 1, x0), (261, .aload_n 0, 1, x0), (262, .iload 11, 2, x0), (264, .iconst 2, 1, xI (2)), (265, .iadd, 1, x0), (266, .iaload, 1, x0), (267, .if_icmp .ne 35, 3, xN 302), (270, .aload 4, 2, x0), (272, .iconst 3, 1, xI (3)), (273, .iload 17, 2, x0), (275, .imul, 1, x0), (276, .iconst 1, 1, xI (1)), (277, .iadd, 1, x0), (278, .iaload, 1, x0), (279, .iload 18, 2, x0), (281, .if_icmp .gt 21, 3, xN 302), (284, .iload 18, 2, x0), (286, .aload 4, 2, x0), (288, .iconst 3, 1, xI (3)), (289, .iload 17, 2, x0), (291, .imul, 1, x0), (292, .iconst 2, 1, xI (2)), (293, .iadd, 1, x0), (294, .iaload, 1, x0), (295, .if_icmp .ge 7, 3, xN 302), (298, .iconst 1, 1, xI (1)), (299, .goto 4, 3, xN 303), (302, .iconst 0, 1, xI (0)), (303, .istore 16, 2, x0), (305, .iinc 18 1, 3, xI (1)), (308, .goto (-66), 3, xN 242), (311, .iinc 17 1, 3, xI (1)), (314, .goto (-85), 3, xN 229), (317, .aload_n 2, 1, x0), (318, .iload 7, 2, x0), (320, .iconst 0, 1, xI (0)), (321, .invokestatic 9, 3, xS 3 0 s_L_axle), (324, .aload_n 2, 1, x0), (325, .iload 7, 2, x0), (327, .iconst 1, 1, xI (1)), (328, .invokestatic 9, 3, xS 3 0 s_L_axle), (331, .if_icmp .le 13, 3, xN 344), (334, .aload_n 2, 1, x0), (335, .iload 7, 2, x0), (337, .iconst 0, 1, xI (0)), (338, .invokestatic 9, 3, xS 3 0 s_L_axle), (341, .goto 10, 3, xN 351), (344, .aload_n 2, 1, x0), (345, .iload 7, 2, x0), (347, .iconst 1, 1, xI (1)), (348, .invokestatic 9, 3, xS 3 0 s_L_axle), (351, .istore 17, 2, x0), (353, .iconst 1, 1, xI (1)), (354, .istore 18, 2, x0), (356, .iload 9, 2, x0), (358, .istore 19, 2, x0), (360, .iload 19, 2, x0), (362, .iload 12, 2, x0), (364, .if_icmp .ge 47, 3, xN 411), (367, .iload 18, 2, x0), (369, .ifCond .eq 33, 3, xN 402), (372, .iload 19, 2, x0), (374, .sipush 144, 3, xI (144)), (377, .irem, 1, x0), (378, .bipush 36, 2, xI (36)), (380, .if_icmp .ge 22, 3, xN 402), (383, .iload 19, 2, x0), (385, .sipush 144, 3, xI (144)), (388, .idiv, 1, x0), (389, .iload 9, 2, x0), (391, .sipush 144, 3, xI (144)), (394, .idiv, 1, x0), (395, .if_icmp .ne 7, 3, xN 402), (398, .iconst 1, 1, xI (1)), (399, .goto 4, 3, xN 403), (402, .iconst 0, 1, xI (0)), (403, .istore 18, 2, x0), (405, .iinc 19 1, 3, xI (1)), (408, .goto (-48), 3, xN 360), (411, .aload_n 2, 1, x0), (412, .bipush 14, 2, xI (14)), (414, .iload 7, 2, x0), (416, .imul, 1, x0), (417, .iconst 4, 1, xI (4)), (418, .iadd, 1, x0), (419, .iaload, 1, x0), (420, .aload_n 0, 1, x0), (421, .iload 11, 2, x0), (423, .iconst 3, 1, xI (3)), (424, .iadd, 1, x0), (425, .iaload, 1, x0), (426, .iload 13, 2, x0), (428, .iadd, 1, x0), (429, .if_icmp .le 7, 3, xN 436), (432, .iconst 1, 1, xI (1)), (433, .goto 110, 3, xN 543), (436, .aload_n 2, 1, x0), (437, .bipush 14, 2, xI (14)), (439, .iload 7, 2, x0), (441, .imul, 1, x0), (442, .iconst 5, 1, xI (5)), (443, .iadd, 1, x0), (444, .iaload, 1, x0), (445, .aload_n 0, 1, x0), (446, .iload 11, 2, x0), (448, .iconst 4, 1, xI (4)), (449, .iadd, 1, x0), (450, .iaload, 1, x0), (451, .iload 14, 2, x0), (453, .iadd, 1, x0), (454, .if_icmp .le 7, 3, xN 461), (457, .iconst 2, 1, xI (2)), (458, .goto 85, 3, xN 543), (461, .aload_n 2, 1, x0), (462, .bipush 14, 2, xI (14)), (464, .iload 7, 2, x0), (466, .imul, 1, x0), (467, .iconst 3, 1, xI (3)), (468, .iadd, 1, x0), (469, .iaload, 1, x0), (470, .aload_n 0, 1, x0), (471, .iload 11, 2, x0), (473, .iconst 5, 1, xI (5)), (474, .iadd, 1, x0), (475, .iaload, 1, x0), (476, .if_icmp .le 7, 3, xN 483), (479, .iconst 3, 1, xI (3)), (480, .goto 63, 3, xN 543), (483, .iload 10, 2, x0), (485, .ifCond .ne 7, 3, xN 492), (488, .iconst 4, 1, xI (4)), (489, .goto 54, 3, xN 543), (492, .iload 17, 2, x0), (494, .aload 5, 2, x0), (496, .iconst 4, 1, xI (4)), (497, .aload_n 0, 1, x0), (498, .iload 11, 2, x0), (500, .iconst 2, 1, xI (2)), (501, .iadd, 1, x0), (502, .iaload, 1, x0), (503, .iadd, 1, x0), (504, .iaload, 1, x0), (505, .if_icmp .le 7, 3, xN 512), (508, .iconst 5, 1, xI (5)), (509, .goto 34, 3, xN 543), (512, .iload 15, 2, x0), (514, .ifCond .ne 8, 3, xN 522), (517, .bipush 6, 2, xI (6)), (519, .goto 24, 3, xN 543), (522, .iload 16, 2, x0), (524, .ifCond .eq 8, 3, xN 532), (527, .bipush 7, 2, xI (7)), (529, .goto 14, 3, xN 543), (532, .iload 18, 2, x0), (534, .ifCond .eq 7, 3, xN 541), (537, .iconst 0, 1, xI (0)), (538, .goto 5, 3, xN 543), (541, .bipush 8, 2, xI (8)), (543, .ireturn, 1, x0)]
theorem chk_L_why : chkTb cL_why "HeavyHaulLaw" false tb_L_why = true := by decide +kernel
theorem cal_L_why {l : Launch} (hl : l.stackTraces = false) (hNL : NewL l) : CallsOK l "HeavyHaulLaw" 1 tb_L_why := callsOK_f ⟨⟨_, _, 10, 0, _, (ct_L_axle hl hNL), ⟨List.mem_of_getElem? (i := 601) (by decide +kernel), List.mem_of_getElem? (i := 25) (by decide +kernel), List.mem_of_getElem? (i := 599) (by decide +kernel), ⟨by decide +kernel, by decide +kernel⟩, by decide +kernel, by decide⟩, List.mem_of_getElem? (i := 600) (by decide +kernel), by decide⟩, ⟨_, _, 10, 0, _, (ct_L_axle hl hNL), ⟨List.mem_of_getElem? (i := 601) (by decide +kernel), List.mem_of_getElem? (i := 25) (by decide +kernel), List.mem_of_getElem? (i := 599) (by decide +kernel), ⟨by decide +kernel, by decide +kernel⟩, by decide +kernel, by decide⟩, List.mem_of_getElem? (i := 600) (by decide +kernel), by decide⟩, ⟨_, _, 10, 0, _, (ct_L_axle hl hNL), ⟨List.mem_of_getElem? (i := 601) (by decide +kernel), List.mem_of_getElem? (i := 25) (by decide +kernel), List.mem_of_getElem? (i := 599) (by decide +kernel), ⟨by decide +kernel, by decide +kernel⟩, by decide +kernel, by decide⟩, List.mem_of_getElem? (i := 600) (by decide +kernel), by decide⟩, ⟨_, _, 10, 0, _, (ct_L_axle hl hNL), ⟨List.mem_of_getElem? (i := 601) (by decide +kernel), List.mem_of_getElem? (i := 25) (by decide +kernel), List.mem_of_getElem? (i := 599) (by decide +kernel), ⟨by decide +kernel, by decide +kernel⟩, by decide +kernel, by decide⟩, List.mem_of_getElem? (i := 600) (by decide +kernel), by decide⟩, trivial⟩
theorem ar_L_why : ∀ as S P, s_L_why as S P → as.length ≤ 20 ∧ ∀ a ∈ as, catV a = 1 := fun as S P h => by
  obtain ⟨_, _, _, _, rfl, _⟩ := wy_ok h
  exact ar_all ⟨Nat.le_of_ble_eq_true rfl, rfl⟩
/-- a truth that holds at each ten of a stretch -/
def allN (p : Nat → Bool) : Nat → Bool
  | 0 => true
  | n + 1 => allN p n && p n
theorem allN_t {p : Nat → Bool} {n : Nat} (h : ∀ i, i < n → p i = true) : allN p n = true := by
  induction n with
  | zero => rfl
  | succ n ih =>
    show (allN p n && p n) = true
    rw [ih (fun i hi => h i (by omega)), h n (by omega)]
    rfl
theorem allN_f {p : Nat → Bool} {n j : Nat} (hj : j < n) (h : p j = false) : allN p n = false := by
  induction n with
  | zero => omega
  | succ n ih =>
    show (allN p n && p n) = false
    by_cases e : j = n
    · rw [← e, h, Bool.and_false]
    · rw [ih (by omega), Bool.false_and]
theorem night_all {n t : Nat} (ht : 1 ≤ t) (t9 : t ≤ 9) (hn : n < 20000) : allN (fun q => decide ((n + q) % 144 < 36) && decide ((n + q) / 144 = n / 144)) t = nightH (nI n) (nI t) := by
  have e : nI n - nI n / 144 * 144 = nI (n % 144) := pk_rem (d := 144) (by omega) (by omega) (by omega)
  have h3 : nightH (nI n) (nI t) = decide (n % 144 + t ≤ 36) := by
    unfold nightH
    rw [e, nI_add]
    exact decide_eq_decide.mpr (nI_le2 (b := 36) (by omega) (by omega))
  rw [h3]
  by_cases h : n % 144 + t ≤ 36
  · rw [decide_eq_true h]
    refine allN_t fun i hi => ?_
    rw [decide_eq_true (show (n + i) % 144 < 36 by omega), decide_eq_true (show (n + i) / 144 = n / 144 by omega)]
    rfl
  · rw [decide_eq_false h]
    by_cases h2 : n % 144 < 36
    · refine allN_f (j := 36 - n % 144) (by omega) ?_
      rw [decide_eq_false (show ¬ (n + (36 - n % 144)) % 144 < 36 by omega)]
      rfl
    · refine allN_f (j := 0) (by omega) ?_
      rw [decide_eq_false (show ¬ (n + 0) % 144 < 36 by omega)]
      rfl
/-- an embargo at some ten of a stretch -/
theorem emb_any {S : Sto} {au : Int32} {n t k : Nat} (hn : n < 20000) (ht : t ≤ 9) : anyN (fun q => decide (S.1 6 0 k = au ∧ S.1 9 0 k ≤ nI (n + q) ∧ nI (n + q) < S.1 9 1 k)) t = (embH S au (nI n) (nI (n + t)) k && anyN (fun q => decide (S.1 9 0 k ≤ nI (n + q) ∧ nI (n + q) < S.1 9 1 k)) t) := by
  by_cases h0 : S.1 6 0 k = au
  · cases hb : anyN (fun q => decide (S.1 9 0 k ≤ nI (n + q) ∧ nI (n + q) < S.1 9 1 k)) t with
    | false =>
      rw [Bool.and_false, ← hb]
      refine anyN_c fun i _ => decide_eq_decide.mpr ⟨fun z => z.2, fun z => ⟨h0, z⟩⟩
    | true =>
      have h1 : anyN (fun q => decide (S.1 6 0 k = au ∧ S.1 9 0 k ≤ nI (n + q) ∧ nI (n + q) < S.1 9 1 k)) t = true := by
        rw [← hb]
        exact anyN_c fun i _ => decide_eq_decide.mpr ⟨fun z => z.2, fun z => ⟨h0, z⟩⟩
      obtain ⟨q, hq, h2⟩ : ∃ q, q < t ∧ (S.1 9 0 k ≤ nI (n + q) ∧ nI (n + q) < S.1 9 1 k) := by
        refine Classical.byContradiction fun z => ?_
        have := anyN_f (p := fun q => decide (S.1 9 0 k ≤ nI (n + q) ∧ nI (n + q) < S.1 9 1 k)) (n := t) fun i hi => decide_eq_false fun y => z ⟨i, hi, y⟩
        rw [hb] at this
        cases this
      rw [h1, Bool.and_true]
      refine (decide_eq_true ⟨h0, Int32.lt_of_le_of_lt h2.1 ((nI_lt2 (by omega) (by omega)).mpr (by omega)), Int32.lt_of_le_of_lt ((nI_le2 (by omega) (by omega)).mpr (by omega)) h2.2⟩).symm
  · have h1 : embH S au (nI n) (nI (n + t)) k = false := decide_eq_false fun z => h0 z.1
    rw [h1, Bool.false_and]
    exact anyN_f fun i _ => decide_eq_false fun z => h0 z.1
theorem emb_ten {S : Sto} {au : Int32} {n t k : Nat} (hn : n < 20000) (ht : 1 ≤ t) (t9 : t ≤ 9) (hp : S.1 9 0 k < S.1 9 1 k) : anyN (fun q => decide (S.1 6 0 k = au ∧ S.1 9 0 k ≤ nI (n + q) ∧ nI (n + q) < S.1 9 1 k)) t = embH S au (nI n) (nI (n + t)) k := by
  rw [emb_any hn t9]
  cases he : embH S au (nI n) (nI (n + t)) k with
  | false => rfl
  | true =>
    have h1 : S.1 6 0 k = au ∧ S.1 9 0 k < nI (n + t) ∧ nI n < S.1 9 1 k := of_decide_eq_true he
    rw [Bool.true_and]
    obtain ⟨-, h2, h3⟩ := h1
    rw [Int32.lt_iff_toInt_lt, nI_toInt (by omega)] at h2 h3
    rw [Int32.lt_iff_toInt_lt] at hp
    by_cases hx : (S.1 9 0 k).toInt ≤ n
    · refine anyN_t (j := 0) (by omega) (decide_eq_true ?_)
      rw [Int32.le_iff_toInt_le, Int32.lt_iff_toInt_lt, nI_toInt (by omega)]
      omega
    · refine anyN_t (j := (S.1 9 0 k).toInt.toNat - n) (by omega) (decide_eq_true ?_)
      rw [Int32.le_iff_toInt_le, Int32.lt_iff_toInt_lt, nI_toInt (by omega)]
      omega
