/-! DRIVES, by the law -/
def dr (as : List AV) (f : Int32 → Int32 → Prop) : Prop := match as with
  | [Sum.inr (Sum.inr (k, i)), Sum.inr (Sum.inr (k0, i0)), Sum.inr (Sum.inr (k1, i1)), Sum.inr (Sum.inr (k2, i2)), Sum.inr (Sum.inr (k3, i3)), Sum.inr (Sum.inr (k4, i4)), Sum.inr (Sum.inr (k5, i5)), Sum.inr (Sum.inr (k6, i6)), Sum.inl a, Sum.inl b] =>
    (k = 0 ∧ i = 0) ∧ (k0 = 10 ∧ i0 = 3) ∧ (k1 = 10 ∧ i1 = 4) ∧ (k2 = 10 ∧ i2 = 5) ∧ (k3 = 10 ∧ i3 = 6) ∧ (k4 = 10 ∧ i4 = 7) ∧ (k5 = 10 ∧ i5 = 8) ∧ (k6 = 10 ∧ i6 = 9) ∧ f a b
  | _ => False
theorem dr_ok {as : List AV} {f : Int32 → Int32 → Prop} (h : dr as f) : ∃ a b, as = [aR 0 0, aR 10 3, aR 10 4, aR 10 5, aR 10 6, aR 10 7, aR 10 8, aR 10 9, aI a, aI b] ∧ f a b := by
  unfold dr at h
  split at h
  · obtain ⟨⟨rfl, rfl⟩, ⟨rfl, rfl⟩, ⟨rfl, rfl⟩, ⟨rfl, rfl⟩, ⟨rfl, rfl⟩, ⟨rfl, rfl⟩, ⟨rfl, rfl⟩, ⟨rfl, rfl⟩, h⟩ := h; exact ⟨_, _, rfl, h⟩
  · exact h.elim
theorem rea_of {S S' : Sto} (h2 : S'.2 = S.2) (h1 : ∀ k f i, ¬ (k = 10 ∧ f = 5) → S'.1 k f i = S.1 k f i) (r d t : Int32) : reasonH S' r d t = reasonH S r d t := by
  have c : ∀ k, k ≠ 10 → S'.1 k = S.1 k := fun k hk => by
    funext f i
    exact h1 k f i fun q => hk q.1
  have t1 : S'.1 10 1 = S.1 10 1 := by
    funext i
    exact h1 10 1 i fun q => absurd q.2 (by decide)
  unfold reasonH sizeH leaveH gwH gainH permH embH lastH borneH heavH greatH lastN sumH
  rw [h2, c 2 (by decide), c 3 (by decide), c 4 (by decide), c 5 (by decide), c 6 (by decide), c 7 (by decide), c 8 (by decide), c 9 (by decide), t1]
theorem rea_nn (S : Sto) (r d t : Int32) : 0 ≤ reasonH S r d t := by
  unfold reasonH sizeH lastH leaveH
  repeat' split
  all_goals decide
def s_L_isDriven : SP := fun as S Q => dr as fun r d => ∃ (T i j : Nat), LawI T S ∧ T ≤ 9000 ∧ r = nI j ∧ j < 2 ∧ d = nI i ∧ i < 6 ∧ ∀ S', LawI T S' → Q (Sum.inl (some (aI 1))) S'
def tb_L_isDriven : Tb := [(0, .bipush 14, 2, xI (14)), (2, .iload 8, 2, x0), (4, .imul, 1, x0), (5, .istore 10, 2, x0), (7, .aload_n 3, 1, x0), (8, .iload 10, 2, x0), (10, .iaload, 1, x0), (11, .aload_n 1, 1, x0), (12, .bipush 10, 2, xI (10)), (14, .iload 9, 2, x0), (16, .imul, 1, x0), (17, .iaload, 1, x0), (18, .if_icmp .eq 19, 3, xN 37), (21, .aload_n 3, 1, x0), (22, .iload 10, 2, x0), (24, .iaload, 1, x0), (25, .aload_n 1, 1, x0), (26, .bipush 10, 2, xI (10)), (28, .iload 9, 2, x0), (30, .imul, 1, x0), (31, .iconst 1, 1, xI (1)), (32, .iadd, 1, x0), (33, .iaload, 1, x0), (34, .if_icmp .ne 7, 3, xN 41), (37, .iconst 1, 1, xI (1)), (38, .goto 4, 3, xN 42), (41, .iconst 0, 1, xI (0)), (42, .istore 11, 2, x0), (44, .aload_n 1, 1, x0), (45, .bipush 10, 2, xI (10)), (47, .iload 9, 2, x0), (49, .imul, 1, x0), (50, .bipush 7, 2, xI (7)), (52, .iadd, 1, x0), (53, .iaload, 1, x0), (54, .ifCond .le 25, 3, xN 79), (57, .aload_n 3, 1, x0), (58, .bipush 9, 2, xI (9)), (60, .iaload, 1, x0), (61, .iload 9, 2, x0), (63, .if_icmp .eq 12, 3, xN 75), (66, .aload_n 3, 1, x0), (67, .bipush 23, 2, xI (23)), (69, .iaload, 1, x0), (70, .iload 9, 2, x0), (72, .if_icmp .ne 7, 3, xN 79), (75, .iconst 1, 1, xI (1)), (76, .goto 4, 3, xN 80), (79, .iconst 0, 1, xI (0)), (80, .istore 12, 2, x0), (82, .aload_n 3, 1, x0), (83, .iload 10, 2, x0), (85, .bipush 9, 2, xI (9)), (87, .iadd, 1, x0), (88, .iaload, 1, x0), (89, .ifCond .ge 47, 3, xN 136), (92, .iload 11, 2, x0), (94, .ifCond .eq 42, 3, xN 136), (97, .iload 12, 2, x0), (99, .ifCond .ne 37, 3, xN 136), (102, .aload_n 1, 1, x0), (103, .aload_n 2, 1, x0), (104, .aload_n 3, 1, x0), (105, .aload 4, 2, x0), (107, .aload 5, 2, x0), (109, .aload 6, 2, x0), (111, .aload 7, 2, x0), (113, .iload 8, 2, x0), (115, .iload 9, 2, x0), (117, .aload 7, 2, x0), (119, .iconst 0, 1, xI (0)), (120, .iaload, 1, x0), (121, .aload_n 1, 1, x0), (122, .aload_n 3, 1, x0), (123, .iload 9, 2, x0), (125, .iload 8, 2, x0), (127, .invokestatic 27, 3, ((4, 6, 0), [], (0, s_L_isBorne))), (130, .invokestatic 23, 3, xS 11 0 s_L_why), (133, .ifCond .le 5, 3, xN 138), (136, .iconst 1, 1, xI (1)), (137, .ireturn, 1, x0), (138, .aload_n 3, 1, x0), (139, .iload 10, 2, x0), (141, .bipush 9, 2, xI (9)), (143, .iadd, 1, x0), (144, .iload 9, 2, x0), (146, .iastore, 1, x0), (147, .aload_n 3, 1, x0), (148, .iload 10, 2, x0), (150, .bipush 10, 2, xI (10)), (152, .iadd, 1, x0), (153, .aload 7, 2, x0), (155, .iconst 0, 1, xI (0)), (156, .iaload, 1, x0), (157, .aload_n 1, 1, x0), (158, .bipush 10, 2, xI (10)), (160, .iload 9, 2, x0), (162, .imul, 1, x0), (163, .bipush 6, 2, xI (6)), (165, .iadd, 1, x0), (166, .iaload, 1, x0), (167, .iadd, 1, x0), (168, .iastore, 1, x0), (169, .aload_n 3, 1, x0), (170, .iload 10, 2, x0), (172, .aload_n 3, 1, x0), (173, .iload 10, 2, x0), (175, .iaload, 1, x0), (176, .aload_n 1, 1, x0), (177, .bipush 10, 2, xI (10)), (179, .iload 9, 2, x0), (181, .imul, 1, x0), (182, .iaload, 1, x0), (183, .if_icmp .ne 15, 3, xN 198), (186, .aload_n 1, 1, x0), (187, .bipush 10, 2, xI (10)), (189, .iload 9, 2, x0), (191, .imul, 1, x0), (192, .iconst 1, 1, xI (1)), (193, .iadd, 1, x0), (194, .iaload, 1, x0), (195, .goto 10, 3, xN 205), (198, .aload_n 1, 1, x0), (199, .bipush 10, 2, xI (10)), (201, .iload 9, 2, x0), (203, .imul, 1, x0), (204, .iaload, 1, x0), (205, .iastore, 1, x0), (206, .aload_n 3, 1, x0), (207, .iload 10, 2, x0), (209, .bipush 12, 2, xI (12)), (211, .iadd, 1, x0), (212, .dup2, 1, x0), (213, .iaload, 1, x0), (214, .iconst 1, 1, xI (1)), (215, .iadd, 1, x0), (216, .iastore, 1, x0), (217, .aload_n 0, 1, x0), (218, .iload 8, 2, x0), (220, .iload 9, 2, x0), (222, .invokevirtual 84, 3, xS 3 3 s_X6_drive), (225, .aload_n 3, 1, x0), (226, .iload 10, 2, x0), (228, .bipush 10, 2, xI (10)), (230, .iadd, 1, x0), (231, .iaload, 1, x0), (232, .if_icmp .ne 7, 3, xN 239), (235, .iconst 1, 1, xI (1)), (236, .goto 4, 3, xN 240), (239, .iconst 0, 1, xI (0)), (240, .ireturn, 1, x0)]
theorem chk_L_isDriven : chkTb cL_isDriven "HeavyHaulLaw" false tb_L_isDriven = true := by decide +kernel
theorem cal_L_isDriven {l : Launch} (hl : l.stackTraces = false) (hNL : NewL l) : CallsOK l "HeavyHaulLaw" 7 tb_L_isDriven := callsOK_f ⟨⟨_, _, 4, 2, _, (ct_L_isBorne hl hNL), ⟨List.mem_of_getElem? (i := 595) (by decide +kernel), List.mem_of_getElem? (i := 25) (by decide +kernel), List.mem_of_getElem? (i := 593) (by decide +kernel), ⟨by decide +kernel, by decide +kernel⟩, by decide +kernel, by decide⟩, List.mem_of_getElem? (i := 594) (by decide +kernel), by decide, by decide⟩, ⟨_, _, 20, 1, _, (ct_L_why hl hNL), ⟨List.mem_of_getElem? (i := 604) (by decide +kernel), List.mem_of_getElem? (i := 25) (by decide +kernel), List.mem_of_getElem? (i := 602) (by decide +kernel), ⟨by decide +kernel, by decide +kernel⟩, by decide +kernel, by decide⟩, List.mem_of_getElem? (i := 603) (by decide +kernel), by decide⟩, ⟨_, _, 5, 6, _, 7, (ct_X6_drive hl hNL), ⟨List.mem_of_getElem? (i := 608) (by decide +kernel), List.mem_of_getElem? (i := 26) (by decide +kernel), List.mem_of_getElem? (i := 605) (by decide +kernel), ⟨by decide +kernel, by decide +kernel⟩, by decide +kernel, by decide⟩, List.mem_of_getElem? (i := 606) (by decide +kernel), List.mem_of_getElem? (i := 607) (by decide +kernel), by decide, by decide, rc_X6_drive⟩, trivial⟩
theorem ar_L_isDriven : ∀ as S P, s_L_isDriven as S P → as.length ≤ 13 ∧ ∀ a ∈ as, catV a = 1 := fun as S P h => by
  obtain ⟨_, _, rfl, _⟩ := dr_ok h
  exact ar_all ⟨Nat.le_of_ble_eq_true rfl, rfl⟩
set_option maxRecDepth 8000 in
theorem vc_L_isDriven : ∀ (G : Gt) (Q : Out → Sto → Prop) (as : List AV) (S : Sto), s_L_isDriven as S Q → Seg tb_L_isDriven G Q 2 12 [] (0, fun _ => 0) → G 0 (argL as 13) [] S 0 := by
  intro G Q as S h hs
  obtain ⟨r0, d0, rfl, T, i, j, hI, hT, rfl, hj, rfl, hi, hQ⟩ := dr_ok h
  have vg0 : vp_in ((14 : Int32) * nI j) 28 := vG0 hI hj
  have g0 : S.1 10 5 ((14 : Int32) * nI j).toNatClampNeg = S.1 4 8 j := aG0 hI hj
  have vg9 : vp_in ((14 : Int32) * nI j + 9) 28 := vG hI hj 9 (by decide)
  have g9 : S.1 10 5 ((14 : Int32) * nI j + 9).toNatClampNeg = S.1 4 9 j := aG hI hj 9 (by decide)
  have vg10 : vp_in ((14 : Int32) * nI j + 10) 28 := vG hI hj 10 (by decide)
  have g10 : S.1 10 5 ((14 : Int32) * nI j + 10).toNatClampNeg = S.1 4 10 j := aG hI hj 10 (by decide)
  have vg12 : vp_in ((14 : Int32) * nI j + 12) 28 := vG hI hj 12 (by decide)
  have g12 : S.1 10 5 ((14 : Int32) * nI j + 12).toNatClampNeg = S.1 4 12 j := aG hI hj 12 (by decide)
  have va0 : vp_in ((10 : Int32) * nI i) 60 := vA0 hI hi
  have a0 : S.1 10 3 ((10 : Int32) * nI i).toNatClampNeg = S.1 2 0 i := aA0 hI hi
  have va1 : vp_in ((10 : Int32) * nI i + 1) 60 := vA hI hi 1 (by decide)
  have a1 : S.1 10 3 ((10 : Int32) * nI i + 1).toNatClampNeg = S.1 2 1 i := aA hI hi 1 (by decide)
  have va6 : vp_in ((10 : Int32) * nI i + 6) 60 := vA hI hi 6 (by decide)
  have a6 : S.1 10 3 ((10 : Int32) * nI i + 6).toNatClampNeg = S.1 2 6 i := aA hI hi 6 (by decide)
  have va7 : vp_in ((10 : Int32) * nI i + 7) 60 := vA hI hi 7 (by decide)
  have a7 : S.1 10 3 ((10 : Int32) * nI i + 7).toNatClampNeg = S.1 2 7 i := aA hI hi 7 (by decide)
  have hW := hI.wf
  have hj22 := hI.i22 hj
  have hi20 := hI.i20 hi
  have n22 := hI.n.2.1
  have n20 := hI.n.1
  have cj : (nI j).toNatClampNeg = j := nI_cl (by omega)
  have ci9 : (nI i).toNatClampNeg = i := nI_cl (by omega)
  have kj : nm (nI j) (nI (S.2.2 22)) := nmN hj22 (by omega)
  have ki : nm (nI i) (nI (S.2.2 20)) := nmN hi20 (by omega)
  have vm0 : vp_in (0 : Int32) 5 := nI_vin (a := 0) (by omega) (by decide)
  have m0 : S.1 10 9 (0 : Int32).toNatClampNeg = S.1 0 9 0 := hI.mm.1.trans hI.mm.2.1.symm
  have e00 : S.1 0 9 0 = nI T := hI.mm.2.1
  have v9 : vp_in (9 : Int32) 28 := nI_vin (a := 9) (by omega) (by decide)
  have v23 : vp_in (23 : Int32) 28 := nI_vin (a := 23) (by omega) (by decide)
  have q9 : S.1 10 5 (9 : Int32).toNatClampNeg = S.1 4 9 0 := by
    rw [show (9 : Int32).toNatClampNeg = 9 from nI_cl (n := 9) (by omega)]
    exact (hI.ri 0 (by omega)).1 9 (by decide) (by decide) (by decide)
  have q23 : S.1 10 5 (23 : Int32).toNatClampNeg = S.1 4 9 1 := by
    rw [show (23 : Int32).toNatClampNeg = 23 from nI_cl (n := 23) (by omega)]
    exact (hI.ri 1 (by omega)).1 9 (by decide) (by decide) (by decide)
  -- the drive
  have h138 : S.1 4 9 j = -1 → endsB S i (S.1 4 8 j) → ¬ (0 < S.1 2 7 i ∧ (S.1 4 9 0 = nI i ∨ S.1 4 9 1 = nI i)) → reasonH S (nI j) (nI i) (nI T) = 0 → ∀ y11 y12 : Int32, G 138 [some (aR 0 0), some (aR 10 3), some (aR 10 4), some (aR 10 5), some (aR 10 6), some (aR 10 7), some (aR 10 8), some (aR 10 9), some (aI (nI j)), some (aI (nI i)), some (aI ((14 : Int32) * nI j)), some (aI y11), some (aI y12)] [] S 0 := by
    intro hst hend htk hrea y11 y12
    have hinv := inv_drive hI hT hj hi
    have i0 : ((14 : Int32) * nI j).toNatClampNeg = 14 * j := ix_1 14 j (by omega)
    have i9 : ((14 : Int32) * nI j + 9).toNatClampNeg = 14 * j + 9 := ix_2 14 j 9 (by omega)
    have i10 : ((14 : Int32) * nI j + 10).toNatClampNeg = 14 * j + 10 := ix_2 14 j 10 (by omega)
    have i12 : ((14 : Int32) * nI j + 12).toNatClampNeg = 14 * j + 12 := ix_2 14 j 12 (by omega)
    unfold lwD at hinv
    obtain ⟨S1, hS1⟩ : ∃ S1, S1 = wrI S 10 5 (14 * j + 9) (nI i) := ⟨_, rfl⟩
    obtain ⟨S2, hS2⟩ : ∃ S2, S2 = wrI S1 10 5 (14 * j + 10) (S.1 0 9 0 + S.1 2 6 i) := ⟨_, rfl⟩
    obtain ⟨S3, hS3⟩ : ∃ S3, S3 = wrI S2 10 5 (14 * j) (beyP S i (S.1 4 8 j)) := ⟨_, rfl⟩
    obtain ⟨S4, hS4⟩ : ∃ S4, S4 = wrI S3 10 5 (14 * j + 12) (S.1 4 12 j + 1) := ⟨_, rfl⟩
    rw [← hS1, ← hS2, ← hS3, ← hS4] at hinv
    have o2 : ∀ k f x, ¬ (k = 10 ∧ f = 5) → S2.1 k f x = S.1 k f x := fun k f x hx => by
      rw [hS2, wrI_ne fun z => hx ⟨z.1, z.2.1⟩, hS1, wrI_ne fun z => hx ⟨z.1, z.2.1⟩]
    have o4 : ∀ k f x, ¬ (k = 10 ∧ f = 5) → S4.1 k f x = S.1 k f x := fun k f x hx => by
      rw [hS4, wrI_ne fun z => hx ⟨z.1, z.2.1⟩, hS3, wrI_ne fun z => hx ⟨z.1, z.2.1⟩]
      exact o2 k f x hx
    have n4 : S4.2 = S.2 := by
      rw [hS4, hS3, hS2, hS1]
      rfl
    have b0 : S1.1 10 3 ((10 : Int32) * nI i + 6).toNatClampNeg = S.1 2 6 i := by rw [hS1]; exact a6
    have bm : S1.1 10 9 (0 : Int32).toNatClampNeg = S.1 0 9 0 := by rw [hS1]; exact m0
    have p0 : S2.1 10 5 (14 * j) = S.1 4 8 j := by
      rw [hS2, wrI_ne fun z => by omega, hS1, wrI_ne fun z => by omega, ← i0]
      exact g0
    have pa0 : S2.1 10 3 ((10 : Int32) * nI i).toNatClampNeg = S.1 2 0 i := (o2 _ _ _ (fun z => absurd z.2 (by decide))).trans a0
    have pa1 : S2.1 10 3 ((10 : Int32) * nI i + 1).toNatClampNeg = S.1 2 1 i := (o2 _ _ _ (fun z => absurd z.2 (by decide))).trans a1
    have p12 : S3.1 10 5 (14 * j + 12) = S.1 4 12 j := by
      rw [hS3, wrI_ne fun z => by omega, hS2, wrI_ne fun z => by omega, hS1, wrI_ne fun z => by omega, ← i12]
      exact g12
    have p10 : S4.1 10 5 (14 * j + 10) = S.1 0 9 0 + S.1 2 6 i := by
      rw [hS4, wrI_ne fun z => by omega, hS3, wrI_ne fun z => by omega, hS2, wrI_at, if_pos ⟨rfl, rfl, rfl⟩]
    have hW4 : WfH S4 := by
      rw [hS4, hS3, hS2, hS1]
      exact hW
    have k4 : knY S4 (nI j) (nI i) := by
      unfold knY
      rw [n4]
      exact ⟨kj, ki⟩
    have c4 : canD S4 (nI j) (nI i) := by
      unfold canD
      rw [cj, ci9, rea_of n4 o4, n4, o4 4 9 j (fun z => absurd z.1 (by decide)), o4 4 8 j (fun z => absurd z.1 (by decide)), o4 0 9 0 (fun z => absurd z.1 (by decide)), o4 2 7 i (fun z => absurd z.1 (by decide)), e00]
      refine ⟨hst, ?_, hrea, ?_⟩
      · unfold endsB at hend ⊢
        rw [o4 2 0 i (fun z => absurd z.1 (by decide)), o4 2 1 i (fun z => absurd z.1 (by decide))]
        exact hend
      · by_cases hsp : S.1 2 7 i ≤ 0
        · exact Or.inl hsp
        · right
          rw [n22]
          have no : ∀ x, x < 2 → onH S4 (nI i) x = false := fun x hx => by
            unfold onH
            rw [o4 4 9 x (fun z => absurd z.1 (by decide))]
            refine decide_eq_false fun z => htk ⟨Int32.not_le.mp hsp, ?_⟩
            have hx2 : x = 0 ∨ x = 1 := by omega
            rcases hx2 with rfl | rfl
            · exact Or.inl z
            · exact Or.inr z
          exact anyN_f no
    have fin : ∀ S5, S5 = drvS S4 j i (nI i) → S5.1 10 5 (14 * j + 10) = S.1 0 9 0 + S.1 2 6 i ∧ S5.1 4 10 j = S.1 0 9 0 + S.1 2 6 i := fun S5 h5 => by
      rw [h5]
      refine ⟨?_, ?_⟩
      · show S4.1 10 5 (14 * j + 10) = _
        exact p10
      · unfold drvS
        rw [wrI_ne fun z => absurd z.2.1 (by decide), wrI_at, if_pos ⟨rfl, rfl, rfl⟩, o4 0 9 0 (fun z => absurd z.1 (by decide)), o4 2 6 i (fun z => absurd z.1 (by decide))]
    obtain ⟨f1, f2⟩ := fin _ rfl
    have h205 : G 205 [some (aR 0 0), some (aR 10 3), some (aR 10 4), some (aR 10 5), some (aR 10 6), some (aR 10 7), some (aR 10 8), some (aR 10 9), some (aI (nI j)), some (aI (nI i)), some (aI ((14 : Int32) * nI j)), some (aI y11), some (aI y12)] [aI (beyP S i (S.1 4 8 j)), aI ((14 : Int32) * nI j), aR 10 5] S2 0 := by
      refine hs [] 90 205 _ _ _ _ ?_
      refine ⟨vg0, vg12, ?_⟩
      rw [i0, ← hS3, i12, p12]
      refine ⟨vg12, ?_⟩
      rw [i12, ← hS4]
      refine ⟨rfl, rfl, hW4, fun z => absurd k4 z, fun _ z => absurd c4 z, fun _ _ => ?_⟩
      rw [cj, ci9, f2]
      refine ⟨vg10, ?_⟩
      rw [i10, f1]
      exact ⟨fun z => absurd rfl z, fun _ => ⟨rfl, hQ _ hinv⟩⟩
    refine hs [205] 90 138 _ _ _ _ ?_
    refine ⟨vg9, ?_⟩
    rw [i9, ← hS1]
    refine ⟨vm0, va6, ?_⟩
    rw [b0, bm]
    refine ⟨vg10, vg0, va0, ?_⟩
    rw [i10, ← hS2, i0, p0, pa0]
    refine ⟨fun z => ⟨va0, ?_⟩, fun z => ⟨va1, ?_⟩⟩
    · rw [pa0]
      have e : beyP S i (S.1 4 8 j) = S.1 2 0 i := if_neg z
      rw [e] at h205
      exact h205
    · rw [pa1]
      have e : beyP S i (S.1 4 8 j) = S.1 2 1 i := if_pos z
      rw [e] at h205
      exact h205
  have stay : (1 : Int32) &&& 1 = 1 ∧ Q (Sum.inl (some (aI 1))) S := ⟨rfl, hQ S hI⟩
  have h82 : ∀ E K : Bool, (E = true ↔ endsB S i (S.1 4 8 j)) → (K = true ↔ (0 < S.1 2 7 i ∧ (S.1 4 9 0 = nI i ∨ S.1 4 9 1 = nI i))) → G 82 [some (aR 0 0), some (aR 10 3), some (aR 10 4), some (aR 10 5), some (aR 10 6), some (aR 10 7), some (aR 10 8), some (aR 10 9), some (aI (nI j)), some (aI (nI i)), some (aI ((14 : Int32) * nI j)), some (aI (bV E)), some (aI (bV K))] [] S 0 := by
    intro E K hE hK
    refine hs [138] 90 82 _ _ _ _ ?_
    refine ⟨vg9, ?_⟩
    rw [g9]
    refine ⟨fun _ => stay, fun z => ?_⟩
    have hst : S.1 4 9 j = -1 := (rd_neg hI hj).mp (Int32.not_le.mp z)
    cases E with
    | false => exact ⟨fun _ => stay, fun z => absurd rfl z⟩
    | true =>
      cases K with
      | true => exact ⟨fun z => absurd z (by decide), fun _ => ⟨fun _ => stay, fun z => absurd z (by decide)⟩⟩
      | false =>
        refine ⟨fun z => absurd z (by decide), fun _ => ⟨fun z => absurd rfl z, fun _ => ⟨vm0, ?_⟩⟩⟩
        rw [m0, e00]
        refine ⟨rfl, rfl, rfl, rfl, T, i, j, hI, rfl, hi, rfl, hj, ?_⟩
        refine ⟨⟨rfl, rfl⟩, ⟨rfl, rfl⟩, ⟨rfl, rfl⟩, ⟨rfl, rfl⟩, ⟨rfl, rfl⟩, ⟨rfl, rfl⟩, ⟨rfl, rfl⟩, T, i, j, T, hI, rfl, hj, rfl, hi, rfl, by omega, rfl, ?_⟩
        refine ⟨fun z => h138 hst (hE.mp rfl) (fun y => absurd (hK.mpr y) (by decide)) (Int32.le_antisymm z (rea_nn _ _ _ _)) _ _, fun _ => stay⟩
  have h44 : ∀ E : Bool, (E = true ↔ endsB S i (S.1 4 8 j)) → G 44 [some (aR 0 0), some (aR 10 3), some (aR 10 4), some (aR 10 5), some (aR 10 6), some (aR 10 7), some (aR 10 8), some (aR 10 9), some (aI (nI j)), some (aI (nI i)), some (aI ((14 : Int32) * nI j)), some (aI (bV E)), none] [] S 0 := by
    intro E hE
    refine hs [82] 90 44 _ _ _ _ ?_
    refine ⟨va7, ?_⟩
    rw [a7]
    refine ⟨fun z => h82 E false hE ⟨fun y => (nomatch y), fun y => absurd y.1 (Int32.not_lt.mpr z)⟩, fun z => ⟨v9, ?_⟩⟩
    rw [q9]
    refine ⟨fun y => h82 E true hE ⟨fun _ => ⟨Int32.not_le.mp z, Or.inl y⟩, fun _ => rfl⟩, fun y => ⟨v23, ?_⟩⟩
    rw [q23]
    refine ⟨fun x => h82 E false hE ⟨fun w => (nomatch w), fun w => w.2.elim (fun v => absurd v y) (fun v => absurd v x)⟩, fun x => h82 E true hE ⟨fun _ => ⟨Int32.not_le.mp z, Or.inr x⟩, fun _ => rfl⟩⟩
  refine hs [44] 90 0 _ _ _ _ ?_
  refine ⟨vg0, va0, ?_⟩
  rw [g0, a0]
  refine ⟨fun z => h44 true ⟨fun _ => Or.inl z, fun _ => rfl⟩, fun z => ⟨vg0, va1, ?_⟩⟩
  rw [g0, a1]
  exact ⟨fun y => h44 false ⟨fun w => (nomatch w), fun w => w.elim (fun v => absurd v z) (fun v => absurd v y)⟩, fun y => h44 true ⟨fun _ => Or.inr y, fun _ => rfl⟩⟩
theorem ct_L_isDriven {l : Launch} (hl : l.stackTraces = false) (hNL : NewL l) : CT l yL_isDriven cL_isDriven 13 (some .boolean) 7 12 s_L_isDriven := CT_of hl hNL (by decide +kernel) (own := "HeavyHaulLaw") rfl (ini := false) (fun q => nomatch q) chk_L_isDriven (cal_L_isDriven hl hNL) ar_L_isDriven vc_L_isDriven
