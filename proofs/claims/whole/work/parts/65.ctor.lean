/-! THE TWO CONSTRUCTORS -/
def S00 : Sto := (fun _ _ _ => 0, 0, fun _ => 0)
def cH0 : Sto := mkO S00 17
def cH1 : Sto := wrI (mkA cH0 11) 17 0 0 1
def cH2 : Sto := wrI (mkA cH1 10) 17 1 0 1
def cH3 : Sto := wrI (mkA cH2 10) 17 2 0 1
def cH4 : Sto := wrI (mkL cH3) 17 3 0 1
def cH5 : Sto := wrI (mkL cH4) 17 4 0 1
def cH6 : Sto := wrI (mkL cH5) 17 5 0 1
def cH7 : Sto := wrI (mkL cH6) 17 6 0 1
def cH8 : Sto := wrI (mkL cH7) 17 7 0 1
def cH9 : Sto := wrI (mkA cH8 10) 17 8 0 1
def cHa : Sto := wrI cH9 17 9 0 0
def cHb : Sto := fillS cHa 1 99999 4
def s_X6_init : SP := fun as S Q => as = [aR 17 0] ∧ S = cH0 ∧ Q (Sum.inl none) cHb
def tb_X6_init : Tb := [(0, .aload_n 0, 1, x0), (1, .invokespecial 1, 3, xO), (4, .aload_n 0, 1, x0), (5, .bipush 10, 2, xI (10)), (7, .newarray .boolean, 2, xF 11 0 [96]), (9, .putfield 9, 3, xF 7 0 [102]), (12, .aload_n 0, 1, x0), (13, .iconst 4, 1, xI (4)), (14, .newarray .int, 2, xF 10 0 [97]), (16, .putfield 13, 3, xF 7 1 [103]), (19, .aload_n 0, 1, x0), (20, .iconst 4, 1, xI (4)), (21, .newarray .int, 2, xF 10 0 [97]), (23, .putfield 17, 3, xF 7 2 [104]), (26, .aload_n 0, 1, x0), (27, .new 20, 7, xF 13 0 [70, 22]), (34, .putfield 23, 3, xF 7 3 [105]), (37, .aload_n 0, 1, x0), (38, .new 20, 7, xF 13 0 [70, 22]), (45, .putfield 27, 3, xF 7 4 [106]), (48, .aload_n 0, 1, x0), (49, .new 20, 7, xF 13 0 [70, 22]), (56, .putfield 30, 3, xF 7 5 [107]), (59, .aload_n 0, 1, x0), (60, .new 20, 7, xF 13 0 [70, 22]), (67, .putfield 33, 3, xF 7 6 [108]), (70, .aload_n 0, 1, x0), (71, .new 20, 7, xF 13 0 [70, 22]), (78, .putfield 36, 3, xF 7 7 [109]), (81, .aload_n 0, 1, x0), (82, .sipush 288, 3, xI (288)), (85, .newarray .int, 2, xF 10 0 [97]), (87, .putfield 39, 3, xF 7 8 [110]), (90, .aload_n 0, 1, x0), (91, .iconst 0, 1, xI (0)), (92, .putfield 42, 3, xF 7 9 [111]), (95, .aload_n 0, 1, x0), (96, .getfield 17, 3, xF 7 2 [104]), (99, .ldc 46, 2, xC 0 0 99999 [98]), (101, .invokestatic 47, 3, xS 2 0 s_J7_fill_53178), (104, .return_, 1, x0)]
theorem chk_X6_init : chkTb cX6_init "HeavyHaul" true tb_X6_init = true := by decide +kernel
theorem cal_X6_init {l : Launch} (hl : l.stackTraces = false) (hNL : NewL l) : CallsOK l "HeavyHaul" 1 tb_X6_init := callsOK_f ⟨(List.mem_of_getElem? (i := 67) (by decide +kernel)), ⟨_, _, 4, 0, _, (ct_J7_fill_53178 hl hNL), ⟨List.mem_of_getElem? (i := 101) (by decide +kernel), List.mem_of_getElem? (i := 43) (by decide +kernel), List.mem_of_getElem? (i := 99) (by decide +kernel), ⟨by decide +kernel, by decide +kernel⟩, by decide +kernel, by decide⟩, List.mem_of_getElem? (i := 100) (by decide +kernel), by decide⟩, trivial⟩
theorem ar_X6_init : ∀ as S P, s_X6_init as S P → as.length ≤ 1 ∧ ∀ a ∈ as, catV a = 1 := fun as S P h => by
  obtain ⟨rfl, -⟩ := h
  exact ar_all ⟨Nat.le_of_ble_eq_true rfl, rfl⟩
theorem ri_X6_init : ∀ as S P, s_X6_init as S P → ∃ k i r, as = aR k i :: r ∧ (obK k = true ∨ k = 13) := fun as S P h => by
  obtain ⟨rfl, -⟩ := h
  exact ⟨17, 0, [], rfl, Or.inl rfl⟩
set_option maxRecDepth 20000 in
theorem vc_X6_init : ∀ (G : Gt) (Q : Out → Sto → Prop) (as : List AV) (S : Sto), s_X6_init as S Q → Seg tb_X6_init G Q 0 130 [] (0, fun _ => 0) → G 0 (argL as 1) [] S 0 := by
  intro G Q as S h hs
  obtain ⟨rfl, rfl, hQ⟩ := h
  refine hs [] 100 0 _ _ _ _ ?_
  exact ⟨rfl, rfl, rfl, (by decide : 0 < 5), rfl, (by decide : 1 < 5), rfl, (by decide : 2 < 5), rfl, (by decide : 3 < 5), rfl, (by decide : 4 < 5), rfl, rfl, (by decide : ¬ (1 : Int32) = 0), rfl, (by decide : 1 < 31), hQ⟩
theorem ct_X6_init {l : Launch} (hl : l.stackTraces = false) (hNL : NewL l) : CT l yX6_init cX6_init 1 none 1 130 s_X6_init := CT_of hl hNL (by decide +kernel) (own := "HeavyHaul") rfl (ini := true) (fun _ => rfl) chk_X6_init (cal_X6_init hl hNL) ar_X6_init vc_X6_init
def cM0 : Sto := mkO cHb 18
def cM1 : Sto := wrI (mkA cM0 11) 18 1 0 1
def cM2 : Sto := wrI (mkA cM1 10) 18 2 0 1
def cM3 : Sto := wrI (mkA cM2 10) 18 3 0 1
def cM4 : Sto := wrI (mkA cM3 10) 18 4 0 1
def cM5 : Sto := wrI (mkA cM4 10) 18 5 0 1
def cM6 : Sto := wrI (mkA cM5 10) 18 6 0 1
def cM7 : Sto := wrI (mkA cM6 10) 18 7 0 1
def cM8 : Sto := wrI (mkA cM7 10) 18 8 0 1
def cM9 : Sto := wrI (mkA cM8 10) 18 9 0 1
def cM10 : Sto := wrI (mkA cM9 10) 18 10 0 1
def cM11 : Sto := wrI (mkA cM10 10) 18 11 0 1
def cM12 : Sto := wrI (mkA cM11 10) 18 13 0 1
def cM13 : Sto := wrI (mkA cM12 10) 18 15 0 1
def cM14 : Sto := wrI (mkA cM13 10) 18 16 0 1
def cM15 : Sto := wrI (mkA cM14 10) 18 17 0 1
def cM16 : Sto := wrI (mkA cM15 10) 18 18 0 1
def cM17 : Sto := wrI (mkA cM16 10) 18 19 0 1
def cM18 : Sto := wrI (mkA cM17 10) 18 20 0 1
def cM19 : Sto := wrI (mkA cM18 10) 18 21 0 1
def cM20 : Sto := wrI (mkA cM19 10) 18 22 0 1
def cM21 : Sto := wrI (mkA cM20 10) 18 23 0 1
def cM22 : Sto := wrI (mkA cM21 10) 18 24 0 1
def cM23 : Sto := wrI (mkA cM22 10) 18 25 0 1
def cM24 : Sto := wrI (mkA cM23 10) 18 26 0 1
def cM25 : Sto := wrI (mkA cM24 10) 18 27 0 1
def cM26 : Sto := wrI (mkA cM25 10) 18 29 0 1
def cM27 : Sto := wrI (mkA cM26 10) 18 30 0 1
def cM28 : Sto := wrI (mkA cM27 10) 18 31 0 1
def cM29 : Sto := wrI (mkA cM28 10) 18 33 0 1
def cM30 : Sto := wrI (mkA cM29 11) 18 35 0 1
def cM31 : Sto := wrI (mkA cM30 11) 18 36 0 1
def cMx : Sto := fillS cM31 28 99999 4
def s_X7_init : SP := fun as S Q => as = [aR 18 0] ∧ S = cM0 ∧ Q (Sum.inl none) cMx
def tb_X7_init : Tb := [(0, .aload_n 0, 1, x0), (1, .invokespecial 1, 3, xO), (4, .aload_n 0, 1, x0), (5, .bipush 10, 2, xI (10)), (7, .newarray .boolean, 2, xF 11 0 [96]), (9, .putfield 7, 3, xF 8 1 [784]), (12, .aload_n 0, 1, x0), (13, .bipush 20, 2, xI (20)), (15, .newarray .int, 2, xF 10 0 [97]), (17, .putfield 13, 3, xF 8 2 [785]), (20, .aload_n 0, 1, x0), (21, .bipush 20, 2, xI (20)), (23, .newarray .int, 2, xF 10 0 [97]), (25, .putfield 17, 3, xF 8 3 [786]), (28, .aload_n 0, 1, x0), (29, .bipush 20, 2, xI (20)), (31, .newarray .int, 2, xF 10 0 [97]), (33, .putfield 20, 3, xF 8 4 [787]), (36, .aload_n 0, 1, x0), (37, .bipush 20, 2, xI (20)), (39, .newarray .int, 2, xF 10 0 [97]), (41, .putfield 23, 3, xF 8 5 [788]), (44, .aload_n 0, 1, x0), (45, .bipush 20, 2, xI (20)), (47, .newarray .int, 2, xF 10 0 [97]), (49, .putfield 26, 3, xF 8 6 [789]), (52, .aload_n 0, 1, x0), (53, .bipush 20, 2, xI (20)), (55, .newarray .int, 2, xF 10 0 [97]), (57, .putfield 29, 3, xF 8 7 [790]), (60, .aload_n 0, 1, x0), (61, .bipush 20, 2, xI (20)), (63, .newarray .int, 2, xF 10 0 [97]), (65, .putfield 32, 3, xF 8 8 [791]), (68, .aload_n 0, 1, x0), (69, .bipush 20, 2, xI (20)), (71, .newarray .int, 2, xF 10 0 [97]), (73, .putfield 35, 3, xF 8 9 [792]), (76, .aload_n 0, 1, x0), (77, .bipush 20, 2, xI (20)), (79, .newarray .int, 2, xF 10 0 [97]), (81, .putfield 38, 3, xF 8 10 [793]), (84, .aload_n 0, 1, x0), (85, .bipush 20, 2, xI (20)), (87, .newarray .int, 2, xF 10 0 [97]), (89, .putfield 41, 3, xF 8 11 [794]), (92, .aload_n 0, 1, x0), (93, .sipush 150, 3, xI (150)), (96, .newarray .int, 2, xF 10 0 [97]), (98, .putfield 44, 3, xF 8 13 [796]), (101, .aload_n 0, 1, x0), (102, .bipush 6, 2, xI (6)), (104, .newarray .int, 2, xF 10 0 [97]), (106, .putfield 47, 3, xF 8 15 [798]), (109, .aload_n 0, 1, x0), (110, .bipush 6, 2, xI (6)), (112, .newarray .int, 2, xF 10 0 [97]), (114, .putfield 50, 3, xF 8 16 [799]), (117, .aload_n 0, 1, x0), (118, .bipush 6, 2, xI (6)), (120, .newarray .int, 2, xF 10 0 [97]), (122, .putfield 53, 3, xF 8 17 [800]), (125, .aload_n 0, 1, x0), (126, .bipush 6, 2, xI (6)), (128, .newarray .int, 2, xF 10 0 [97]), (130, .putfield 56, 3, xF 8 18 [801]), (133, .aload_n 0, 1, x0), (134, .bipush 6, 2, xI (6)), (136, .newarray .int, 2, xF 10 0 [97]), (138, .putfield 59, 3, xF 8 19 [802]), (141, .aload_n 0, 1, x0), (142, .bipush 6, 2, xI (6)), (144, .newarray .int, 2, xF 10 0 [97]), (146, .putfield 62, 3, xF 8 20 [803]), (149, .aload_n 0, 1, x0), (150, .bipush 6, 2, xI (6)), (152, .newarray .int, 2, xF 10 0 [97]), (154, .putfield 65, 3, xF 8 21 [804]), (157, .aload_n 0, 1, x0), (158, .bipush 6, 2, xI (6)), (160, .newarray .int, 2, xF 10 0 [97]), (162, .putfield 68, 3, xF 8 22 [805]), (165, .aload_n 0, 1, x0), (166, .bipush 6, 2, xI (6)), (168, .newarray .int, 2, xF 10 0 [97]), (170, .putfield 71, 3, xF 8 23 [806]), (173, .aload_n 0, 1, x0), (174, .bipush 6, 2, xI (6)), (176, .newarray .int, 2, xF 10 0 [97]), (178, .putfield 74, 3, xF 8 24 [807]), (181, .aload_n 0, 1, x0), (182, .bipush 6, 2, xI (6)), (184, .newarray .int, 2, xF 10 0 [97]), (186, .putfield 77, 3, xF 8 25 [808]), (189, .aload_n 0, 1, x0), (190, .bipush 6, 2, xI (6)), (192, .newarray .int, 2, xF 10 0 [97]), (194, .putfield 80, 3, xF 8 26 [809]), (197, .aload_n 0, 1, x0), (198, .bipush 6, 2, xI (6)), (200, .newarray .int, 2, xF 10 0 [97]), (202, .putfield 83, 3, xF 8 27 [810]), (205, .aload_n 0, 1, x0), (206, .iconst 4, 1, xI (4)), (207, .newarray .int, 2, xF 10 0 [97]), (209, .putfield 86, 3, xF 8 29 [812]), (212, .aload_n 0, 1, x0), (213, .iconst 4, 1, xI (4)), (214, .newarray .int, 2, xF 10 0 [97]), (216, .putfield 89, 3, xF 8 30 [813]), (219, .aload_n 0, 1, x0), (220, .sipush 160, 3, xI (160)), (223, .newarray .int, 2, xF 10 0 [97]), (225, .putfield 92, 3, xF 8 31 [814]), (228, .aload_n 0, 1, x0), (229, .bipush 60, 2, xI (60)), (231, .newarray .int, 2, xF 10 0 [97]), (233, .putfield 95, 3, xF 8 33 [816]), (236, .aload_n 0, 1, x0), (237, .sipush 2880, 3, xI (2880)), (240, .newarray .boolean, 2, xF 11 0 [96]), (242, .putfield 98, 3, xF 8 35 [818]), (245, .aload_n 0, 1, x0), (246, .bipush 20, 2, xI (20)), (248, .newarray .boolean, 2, xF 11 0 [96]), (250, .putfield 101, 3, xF 8 36 [819]), (253, .iconst 0, 1, xI (0)), (254, .istore_n 1, 1, x0), (255, .iload_n 1, 1, x0), (256, .iconst 4, 1, xI (4)), (257, .if_icmp .ge 17, 3, xN 274), (260, .aload_n 0, 1, x0), (261, .getfield 89, 3, xF 8 30 [813]), (264, .iload_n 1, 1, x0), (265, .ldc 104, 2, xC 0 0 99999 [782]), (267, .iastore, 1, x0), (268, .iinc 1 1, 3, xI (1)), (271, .goto (-16), 3, xN 255), (274, .return_, 1, x0)]
theorem chk_X7_init : chkTb cX7_init "HeavyHaulModel" true tb_X7_init = true := by decide +kernel
theorem cal_X7_init {l : Launch} (hl : l.stackTraces = false) (hNL : NewL l) : CallsOK l "HeavyHaulModel" 0 tb_X7_init := callsOK_f ⟨(List.mem_of_getElem? (i := 781) (by decide +kernel)), trivial⟩
theorem ar_X7_init : ∀ as S P, s_X7_init as S P → as.length ≤ 2 ∧ ∀ a ∈ as, catV a = 1 := fun as S P h => by
  obtain ⟨rfl, -⟩ := h
  exact ar_all ⟨Nat.le_of_ble_eq_true rfl, rfl⟩
theorem ri_X7_init : ∀ as S P, s_X7_init as S P → ∃ k i r, as = aR k i :: r ∧ (obK k = true ∨ k = 13) := fun as S P h => by
  obtain ⟨rfl, -⟩ := h
  exact ⟨18, 0, [], rfl, Or.inl rfl⟩
theorem fill28 (j : Nat) : (fillS cM31 28 99999 j).1 18 27 0 = 1 ∧ (fillS cM31 28 99999 j).1 18 31 0 = 1 := ⟨rfl, rfl⟩
set_option maxRecDepth 20000 in
theorem vc_X7_init : ∀ (G : Gt) (Q : Out → Sto → Prop) (as : List AV) (S : Sto), s_X7_init as S Q → Seg tb_X7_init G Q 0 940 [] (0, fun _ => 0) → G 0 (argL as 2) [] S 0 := by
  intro G Q as S h hs
  obtain ⟨rfl, rfl, hQ⟩ := h
  have loop : ∀ m j, j + m = 4 → G 255 [some (aR 18 0), some (aI (nI j))] [] (fillS cM31 28 99999 j) 930 := by
    intro m
    induction m with
    | zero =>
      intro j hj
      obtain rfl : j = 4 := hj
      refine hs [255] 60 255 _ _ _ _ ?_
      exact ⟨fun _ => hQ, fun q => absurd (by decide) q⟩
    | succ m ih =>
      intro j hj
      have h1 := ih (j + 1) (by omega)
      rw [← fillS_s, ← nI_s] at h1
      refine hs [255] 60 255 _ _ _ _ ?_
      refine ⟨fun q => absurd q (lp_go (n := 4) (by omega) (by omega)), fun _ => ⟨one0, nI_vin (by omega) (by show j < 4; omega), ?_⟩⟩
      rw [nI_cl (by omega)]
      exact h1
  refine hs [255] 200 0 _ _ _ _ ?_
  have h0 := loop 4 0 (by omega)
  rw [fillS_0] at h0
  exact ⟨rfl, rfl, rfl, rfl, rfl, rfl, rfl, rfl, rfl, rfl, rfl, rfl, rfl, rfl, rfl, rfl, rfl, rfl, rfl, rfl, rfl, rfl, rfl, rfl, rfl, rfl, rfl, rfl, rfl, rfl, rfl, h0⟩
theorem ct_X7_init {l : Launch} (hl : l.stackTraces = false) (hNL : NewL l) : CT l yX7_init cX7_init 2 none 0 940 s_X7_init := CT_of hl hNL (by decide +kernel) (own := "HeavyHaulModel") rfl (ini := true) (fun _ => rfl) chk_X7_init (cal_X7_init hl hNL) ar_X7_init vc_X7_init
