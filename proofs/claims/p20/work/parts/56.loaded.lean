/-! LOADS AND DRIVES, by the law -/
def ld (as : List AV) (f : Int32 → Int32 → Prop) : Prop := match as with
  | [Sum.inr (Sum.inr (k, i)), Sum.inr (Sum.inr (k1, i1)), Sum.inl a, Sum.inl b] => (k = 0 ∧ i = 0) ∧ (k1 = 10 ∧ i1 = 5) ∧ f a b
  | _ => False
theorem ld_ok {as : List AV} {f : Int32 → Int32 → Prop} (h : ld as f) : ∃ a b, as = [aR 0 0, aR 10 5, aI a, aI b] ∧ f a b := by
  unfold ld at h
  split at h
  · obtain ⟨⟨rfl, rfl⟩, ⟨rfl, rfl⟩, h⟩ := h; exact ⟨_, _, rfl, h⟩
  · exact h.elim
def s_L_isLoaded : SP := fun as S Q => ld as fun r z => ∃ (T q j : Nat), LawI T S ∧ r = nI j ∧ j < 2 ∧ z = nI q ∧ q < 2 ^ 31 ∧ ∀ S', LawI T S' → Q (Sum.inl (some (aI 1))) S'
def tb_L_isLoaded : Tb := [(0, .bipush 14, 2, xI (14)), (2, .iload_n 2, 1, x0), (3, .imul, 1, x0), (4, .istore 4, 2, x0), (6, .aload_n 1, 1, x0), (7, .iload 4, 2, x0), (9, .bipush 9, 2, xI (9)), (11, .iadd, 1, x0), (12, .iaload, 1, x0), (13, .ifCond .lt 5, 3, xN 18), (16, .iconst 1, 1, xI (1)), (17, .ireturn, 1, x0), (18, .aload_n 1, 1, x0), (19, .iload 4, 2, x0), (21, .iconst 1, 1, xI (1)), (22, .iadd, 1, x0), (23, .iaload, 1, x0), (24, .iconst 2, 1, xI (2)), (25, .idiv, 1, x0), (26, .istore 5, 2, x0), (28, .iload 5, 2, x0), (30, .iconst 1, 1, xI (1)), (31, .isub, 1, x0), (32, .aload_n 1, 1, x0), (33, .iload 4, 2, x0), (35, .iconst 2, 1, xI (2)), (36, .iadd, 1, x0), (37, .iaload, 1, x0), (38, .imul, 1, x0), (39, .istore 6, 2, x0), (41, .iconst 2, 1, xI (2)), (42, .iload 5, 2, x0), (44, .imul, 1, x0), (45, .aload_n 1, 1, x0), (46, .iload 4, 2, x0), (48, .iconst 2, 1, xI (2)), (49, .iadd, 1, x0), (50, .iaload, 1, x0), (51, .imul, 1, x0), (52, .istore 7, 2, x0), (54, .iload 6, 2, x0), (56, .iconst 1, 1, xI (1)), (57, .iadd, 1, x0), (58, .iconst 2, 1, xI (2)), (59, .idiv, 1, x0), (60, .iload_n 3, 1, x0), (61, .iload 7, 2, x0), (63, .iconst 2, 1, xI (2)), (64, .idiv, 1, x0), (65, .iconst 1, 1, xI (1)), (66, .iadd, 1, x0), (67, .irem, 1, x0), (68, .iadd, 1, x0), (69, .istore 8, 2, x0), (71, .aload_n 1, 1, x0), (72, .iload 4, 2, x0), (74, .bipush 7, 2, xI (7)), (76, .iadd, 1, x0), (77, .iload_n 3, 1, x0), (78, .bipush 97, 2, xI (97)), (80, .idiv, 1, x0), (81, .bipush 6, 2, xI (6)), (83, .irem, 1, x0), (84, .ifCond .ne 7, 3, xN 91), (87, .iconst 0, 1, xI (0)), (88, .goto 13, 3, xN 101), (91, .iconst 1, 1, xI (1)), (92, .iload_n 3, 1, x0), (93, .sipush 582, 3, xI (582)), (96, .idiv, 1, x0), (97, .ldc 59, 2, xC 0 0 90000 [506]), (99, .irem, 1, x0), (100, .iadd, 1, x0), (101, .iastore, 1, x0), (102, .aload_n 1, 1, x0), (103, .iload 4, 2, x0), (105, .bipush 8, 2, xI (8)), (107, .iadd, 1, x0), (108, .iconst 2, 1, xI (2)), (109, .iload 8, 2, x0), (111, .imul, 1, x0), (112, .iload 6, 2, x0), (114, .iload 7, 2, x0), (116, .iadd, 1, x0), (117, .if_icmp .le 12, 3, xN 129), (120, .iload 6, 2, x0), (122, .iconst 1, 1, xI (1)), (123, .iadd, 1, x0), (124, .iconst 2, 1, xI (2)), (125, .idiv, 1, x0), (126, .goto 5, 3, xN 131), (129, .iload 8, 2, x0), (131, .iastore, 1, x0), (132, .aload_n 1, 1, x0), (133, .iload 4, 2, x0), (135, .bipush 8, 2, xI (8)), (137, .iadd, 1, x0), (138, .aload_n 1, 1, x0), (139, .iload 4, 2, x0), (141, .bipush 8, 2, xI (8)), (143, .iadd, 1, x0), (144, .iaload, 1, x0), (145, .bipush 80, 2, xI (80)), (147, .if_icmp .le 8, 3, xN 155), (150, .bipush 80, 2, xI (80)), (152, .goto 10, 3, xN 162), (155, .aload_n 1, 1, x0), (156, .iload 4, 2, x0), (158, .bipush 8, 2, xI (8)), (160, .iadd, 1, x0), (161, .iaload, 1, x0), (162, .iastore, 1, x0), (163, .aload_n 0, 1, x0), (164, .iload_n 2, 1, x0), (165, .aload_n 1, 1, x0), (166, .iload 4, 2, x0), (168, .bipush 7, 2, xI (7)), (170, .iadd, 1, x0), (171, .iaload, 1, x0), (172, .aload_n 1, 1, x0), (173, .iload 4, 2, x0), (175, .bipush 8, 2, xI (8)), (177, .iadd, 1, x0), (178, .iaload, 1, x0), (179, .invokevirtual 81, 3, xS 4 4 s_X6_load), (182, .iconst 1, 1, xI (1)), (183, .ireturn, 1, x0)]
theorem chk_L_isLoaded : chkTb cL_isLoaded "HeavyHaulLaw" false tb_L_isLoaded = true := by decide +kernel
theorem cal_L_isLoaded {l : Launch} (hl : l.stackTraces = false) (hNL : NewL l) : CallsOK l "HeavyHaulLaw" 5 tb_L_isLoaded := callsOK_f ⟨⟨_, _, 5, 4, _, 7, (ct_X6_load hl hNL), ⟨List.mem_of_getElem? (i := 574) (by decide +kernel), List.mem_of_getElem? (i := 26) (by decide +kernel), List.mem_of_getElem? (i := 571) (by decide +kernel), ⟨by decide +kernel, by decide +kernel⟩, by decide +kernel, by decide⟩, List.mem_of_getElem? (i := 572) (by decide +kernel), List.mem_of_getElem? (i := 573) (by decide +kernel), by decide, by decide, rc_X6_load⟩, trivial⟩
theorem ar_L_isLoaded : ∀ as S P, s_L_isLoaded as S P → as.length ≤ 9 ∧ ∀ a ∈ as, catV a = 1 := fun as S P h => by
  obtain ⟨_, _, rfl, _⟩ := ld_ok h
  exact ar_all ⟨Nat.le_of_ble_eq_true rfl, rfl⟩
theorem rd_neg {T : Nat} {S : Sto} (hI : LawI T S) {j : Nat} (hj : j < 2) : S.1 4 9 j < 0 ↔ S.1 4 9 j = -1 := by
  obtain ⟨-, -, -, h9⟩ := hI.ri j hj
  constructor
  · intro z
    rcases h9 with h9 | ⟨d, q, h9, hd, -⟩
    · exact h9
    · rw [h9] at z
      exact absurd z (nI_nn (by omega))
  · intro z
    rw [z]
    decide
set_option maxRecDepth 8000 in
theorem vc_L_isLoaded : ∀ (G : Gt) (Q : Out → Sto → Prop) (as : List AV) (S : Sto), s_L_isLoaded as S Q → Seg tb_L_isLoaded G Q 2 12 [] (0, fun _ => 0) → G 0 (argL as 9) [] S 0 := by
  intro G Q as S h hs
  obtain ⟨r0, z0, rfl, T, q, j, hI, rfl, hj, rfl, hq, hQ⟩ := ld_ok h
  have vg1 : vp_in ((14 : Int32) * nI j + 1) 28 := vG hI hj 1 (by decide)
  have g1 : S.1 10 5 ((14 : Int32) * nI j + 1).toNatClampNeg = S.1 4 0 j := aG hI hj 1 (by decide)
  have vg2 : vp_in ((14 : Int32) * nI j + 2) 28 := vG hI hj 2 (by decide)
  have g2 : S.1 10 5 ((14 : Int32) * nI j + 2).toNatClampNeg = S.1 4 1 j := aG hI hj 2 (by decide)
  have vg7 : vp_in ((14 : Int32) * nI j + 7) 28 := vG hI hj 7 (by decide)
  have g7 : S.1 10 5 ((14 : Int32) * nI j + 7).toNatClampNeg = S.1 10 5 (14 * j + 7) := aG hI hj 7 (by decide)
  have vg8 : vp_in ((14 : Int32) * nI j + 8) 28 := vG hI hj 8 (by decide)
  have g8 : S.1 10 5 ((14 : Int32) * nI j + 8).toNatClampNeg = S.1 10 5 (14 * j + 8) := aG hI hj 8 (by decide)
  have vg9 : vp_in ((14 : Int32) * nI j + 9) 28 := vG hI hj 9 (by decide)
  have g9 : S.1 10 5 ((14 : Int32) * nI j + 9).toNatClampNeg = S.1 4 9 j := aG hI hj 9 (by decide)
  have hW := hI.wf
  have hj22 := hI.i22 hj
  have n22 := hI.n.2.1
  obtain ⟨a, d, p, ea, ed, -, a1, a8, d1, d5, -⟩ := hW.2.2.2.2.2.2.2 j hj22
  have half := (half_ok a a8 a1).1
  have hL9 : (a - 1) * d ≤ 35 := by have := Nat.mul_le_mul (show a - 1 ≤ 7 by omega) d5; omega
  have hP9 : 2 * a * d ≤ 80 := by have := Nat.mul_le_mul (Nat.mul_le_mul (Nat.le_refl 2) a8) d5; omega
  have hP2 : 2 ≤ 2 * a * d := by have := Nat.mul_le_mul (Nat.mul_le_mul (Nat.le_refl 2) a1) d1; omega
  have e2 : (2 : Int32) = nI 2 := rfl
  have e1 : (1 : Int32) = nI 1 := rfl
  have eL : (nI a - 1) * nI d = nI ((a - 1) * d) := by rw [e1, nI_sub a1, nI_mul]
  have eP : (2 : Int32) * nI a * nI d = nI (2 * a * d) := by rw [e2, nI_mul, nI_mul]
  obtain ⟨L, hL⟩ : ∃ L, L = (a - 1) * d := ⟨_, rfl⟩
  obtain ⟨P, hP⟩ : ∃ P, P = 2 * a * d := ⟨_, rfl⟩
  rw [← hL] at hL9 eL
  rw [← hP] at hP9 hP2 eP
  have c7 : ((14 : Int32) * nI j + 7).toNatClampNeg = 14 * j + 7 := ix_2 14 j 7 (by omega)
  have c8 : ((14 : Int32) * nI j + 8).toNatClampNeg = 14 * j + 8 := ix_2 14 j 8 (by omega)
  have hm : nI P / 2 + 1 = nI (P / 2 + 1) := by rw [show nI P / 2 = nI (P / 2) from pk_div (d := 2) (by omega) (by omega) (by omega), nI_s]
  have hl1 : (nI L + 1) / 2 = nI ((L + 1) / 2) := by rw [nI_s]; exact pk_div (d := 2) (by omega) (by omega) (by omega)
  obtain ⟨x, hx, ex⟩ : ∃ x : Nat, x < P / 2 + 1 ∧ nI q - nI q / nI (P / 2 + 1) * nI (P / 2 + 1) = nI x := remN hq (by omega) (by omega)
  -- the load is put on
  have h163 : S.1 4 9 j = -1 → ∀ (w c : Nat) (y5 y6 y7 y8 : Int32), w ≤ 90000 → c ≤ 80 → L ≤ 2 * c → 2 * c ≤ L + P → G 163 [some (aR 0 0), some (aR 10 5), some (aI (nI j)), some (aI (nI q)), some (aI ((14 : Int32) * nI j)), some (aI y5), some (aI y6), some (aI y7), some (aI y8)] [] (lwL S j (nI w) (nI c)) 0 := by
    intro h9 w c y5 y6 y7 y8 hw hc hc1 hc2
    have fw : rg (nI w) 0 200000 := rgN (a := 0) (b := 200000) (by omega) (by omega) (by omega)
    have fc : rg (nI c) 0 80 := rgN (a := 0) (b := 80) (by omega) (by omega) (by omega)
    have hcan : canT S j (nI w) (nI c) := by
      right
      have el : levF S j (nI c) = nI (2 * c - L) := by
        unfold levF
        rw [ea, ed, half, eL, e2, nI_mul, nI_sub hc1]
      have eb : basF S j = nI P := by
        unfold basF
        rw [ea, ed, nI_mul, ← hP]
      rw [el, eb]
      exact ⟨nI_nn (by omega), (nI_le2 (by omega) (by omega)).mpr (by omega)⟩
    have hinv := inv_load hI hj (nI w) (nI c) fw fc hcan
    have r7 : (lwL S j (nI w) (nI c)).1 10 5 (14 * j + 7) = nI w := by
      unfold lwL
      rw [wrI_ne fun z => by omega, wrI_at, if_pos ⟨rfl, rfl, rfl⟩]
    have r8 : (lwL S j (nI w) (nI c)).1 10 5 (14 * j + 8) = nI c := by
      unfold lwL
      rw [wrI_at, if_pos ⟨rfl, rfl, rfl⟩]
    have kj0 : nm (nI j) (nI (S.2.2 22)) := nmN hj22 (by omega)
    have kj : nm (nI j) (nI ((lwL S j (nI w) (nI c)).2.2 22)) := kj0
    have cj : (nI j).toNatClampNeg = j := nI_cl (by omega)
    have hd : (lwL S j (nI w) (nI c)).1 4 9 (nI j).toNatClampNeg = -1 ∧ canT (lwL S j (nI w) (nI c)) (nI j).toNatClampNeg (nI w) (nI c) := by
      rw [cj]
      exact ⟨h9, hcan⟩
    have hW2 : WfH (lwL S j (nI w) (nI c)) := hW
    generalize lwL S j (nI w) (nI c) = S2 at hinv r7 r8 kj hd hW2
    refine hs [] 60 163 _ _ _ _ ?_
    refine ⟨vg7, ?_⟩
    rw [c7, r7]
    refine ⟨vg8, ?_⟩
    rw [c8, r8]
    refine ⟨rfl, rfl, hW2, fun z => absurd kj z, fun _ z => absurd ⟨fw, fc⟩ z, fun _ _ z => absurd hd z, fun _ _ _ => ?_⟩
    rw [cj]
    exact ⟨rfl, hQ _ hinv⟩
  -- the centre
  have h102 : S.1 4 9 j = -1 → ∀ (w : Nat), w ≤ 90000 → G 102 [some (aR 0 0), some (aR 10 5), some (aI (nI j)), some (aI (nI q)), some (aI ((14 : Int32) * nI j)), some (aI (nI a)), some (aI (nI L)), some (aI (nI P)), some (aI (nI ((L + 1) / 2 + x)))] [] (wrI S 10 5 (14 * j + 7) (nI w)) 0 := by
    intro h9 w hw
    obtain ⟨S1, hS1⟩ : ∃ S1, S1 = wrI S 10 5 (14 * j + 7) (nI w) := ⟨_, rfl⟩
    have h131 : ∀ c : Nat, c ≤ 80 → L ≤ 2 * c → 2 * c ≤ L + P → G 131 [some (aR 0 0), some (aR 10 5), some (aI (nI j)), some (aI (nI q)), some (aI ((14 : Int32) * nI j)), some (aI (nI a)), some (aI (nI L)), some (aI (nI P)), some (aI (nI ((L + 1) / 2 + x)))] [aI (nI c), aI ((14 : Int32) * nI j + 8), aR 10 5] S1 0 := by
      intro c hc hc1 hc2
      have h3 := h163 h9 w c (nI a) (nI L) (nI P) (nI ((L + 1) / 2 + x)) hw hc hc1 hc2
      obtain ⟨S2, hS2⟩ : ∃ S2, S2 = wrI S1 10 5 (14 * j + 8) (nI c) := ⟨_, rfl⟩
      have r8 : S2.1 10 5 (14 * j + 8) = nI c := by rw [hS2, wrI_at, if_pos ⟨rfl, rfl, rfl⟩]
      have e3 : lwL S j (nI w) (nI c) = wrI S2 10 5 (14 * j + 8) (nI c) := by
        rw [hS2, wrI_twice, hS1]
        rfl
      rw [e3] at h3
      refine hs [163] 60 131 _ _ _ _ ?_
      refine ⟨vg8, vg8, ?_⟩
      rw [c8, ← hS2, r8]
      refine ⟨fun _ => ⟨vg8, vg8, ?_⟩, fun z => absurd ((nI_le2 (b := 80) (by omega) (by omega)).mpr hc) z⟩
      rw [c8, r8]
      exact h3
    rw [← hS1]
    refine hs [131] 60 102 _ _ _ _ ?_
    have ec : (2 : Int32) * nI ((L + 1) / 2 + x) = nI (2 * ((L + 1) / 2 + x)) := nI_mul 2 _
    have es : nI L + nI P = nI (L + P) := nI_add _ _
    refine ⟨fun z => ?_, fun z => ⟨by decide, ?_⟩⟩
    · have z' : 2 * ((L + 1) / 2 + x) ≤ L + P := by
        have z2 : nI (2 * ((L + 1) / 2 + x)) ≤ nI (L + P) := by
          rw [← ec, ← es]
          exact z
        exact (nI_le2 (by omega) (by omega)).mp z2
      exact h131 _ (by omega) (by omega) z'
    · have h3 := h131 ((L + 1) / 2) (by omega) (by omega) (by omega)
      rw [← hl1] at h3
      exact h3
  have h71 : S.1 4 9 j = -1 → G 71 [some (aR 0 0), some (aR 10 5), some (aI (nI j)), some (aI (nI q)), some (aI ((14 : Int32) * nI j)), some (aI (nI a)), some (aI (nI L)), some (aI (nI P)), some (aI (nI ((L + 1) / 2 + x)))] [] S 0 := by
    intro h9
    obtain ⟨w, hw, ew⟩ : ∃ w : Nat, w < 90000 ∧ nI q / 582 - nI q / 582 / 90000 * 90000 = nI w := drm (q := q) (d := 582) (e := 90000) hq (by omega) (by omega) (by omega) (by omega)
    have ew2 : (1 : Int32) + nI w = nI (1 + w) := nI_add 1 w
    refine hs [102] 60 71 _ _ _ _ ?_
    refine ⟨by decide, by decide, fun _ => ⟨by decide, by decide, vg7, ?_⟩, fun _ => ⟨vg7, ?_⟩⟩
    · rw [c7, ew, ew2]
      exact h102 h9 (1 + w) (by omega)
    · rw [c7]
      exact h102 h9 0 (by omega)
  have h18 : S.1 4 9 j = -1 → G 18 [some (aR 0 0), some (aR 10 5), some (aI (nI j)), some (aI (nI q)), some (aI ((14 : Int32) * nI j)), none, none, none, none] [] S 0 := by
    intro h9
    have h7 := h71 h9
    have hmz : ¬ nI P / 2 + 1 = 0 := by
      rw [hm]
      exact nI_ne0 (by omega) (by omega)
    rw [← nI_add, ← ex, ← hm, ← hl1, ← eL, ← eP] at h7
    refine hs [71] 90 18 _ _ _ _ ?_
    refine ⟨vg1, ?_⟩
    rw [g1, ea]
    refine ⟨by decide, ?_⟩
    rw [half]
    refine ⟨vg2, ?_⟩
    rw [g2, ed]
    refine ⟨vg2, ?_⟩
    rw [g2, ed]
    refine ⟨by decide, by decide, ?_, h7⟩
    rw [eP]
    exact hmz
  refine hs [18] 60 0 _ _ _ _ ?_
  refine ⟨vg9, ?_⟩
  rw [g9]
  exact ⟨fun z => h18 ((rd_neg hI hj).mp z), fun _ => ⟨rfl, hQ _ hI⟩⟩
theorem ct_L_isLoaded {l : Launch} (hl : l.stackTraces = false) (hNL : NewL l) : CT l yL_isLoaded cL_isLoaded 9 (some .boolean) 5 12 s_L_isLoaded := CT_of hl hNL (by decide +kernel) (own := "HeavyHaulLaw") rfl (ini := false) (fun q => nomatch q) chk_L_isLoaded (cal_L_isLoaded hl hNL) ar_L_isLoaded vc_L_isLoaded
