/-! THE EARLIEST ARRIVAL, by the law -/
def s_L_arrives : SP := fun as S Q => wy as fun r fr to t => ∃ (T j f o n : Nat), LawI T S ∧ r = nI j ∧ j < 2 ∧ fr = nI f ∧ f < 5 ∧ to = nI o ∧ o < 5 ∧ t = nI n ∧ n < 10000 ∧ ∀ S', sameL S S' → Q (Sum.inl (some (aI (arrH S (nI j) (nI f) (nI o) (nI n))))) S'
def tb_L_arrives : Tb := [(0, .bipush 25, 2, xI (25)), (2, .newarray .long, 2, xF 12 0 [767]), (4, .astore 11, 2, x0), (6, .aload_n 0, 1, x0), (7, .aload_n 2, 1, x0), (8, .iload 7, 2, x0), (10, .invokestatic 19, 3, xS 3 0 s_L_borne), (13, .istore 12, 2, x0), (15, .aload 11, 2, x0), (17, .iconst 5, 1, xI (5)), (18, .iload 8, 2, x0), (20, .imul, 1, x0), (21, .lconst 1, 1, x0), (22, .lastore, 1, x0), (23, .iconst 0, 1, xI (0)), (24, .istore 13, 2, x0), (26, .iload 13, 2, x0), (28, .sipush 288, 3, xI (288)), (31, .if_icmp .ge 260, 3, xN 291), (34, .iconst 0, 1, xI (0)), (35, .istore 14, 2, x0), (37, .iload 14, 2, x0), (39, .iconst 5, 1, xI (5)), (40, .if_icmp .ge 245, 3, xN 285), (43, .aload 11, 2, x0), (45, .iconst 5, 1, xI (5)), (46, .iload 14, 2, x0), (48, .imul, 1, x0), (49, .iload 13, 2, x0), (51, .bipush 64, 2, xI (64)), (53, .idiv, 1, x0), (54, .iadd, 1, x0), (55, .laload, 1, x0), (56, .iload 13, 2, x0), (58, .bipush 64, 2, xI (64)), (60, .irem, 1, x0), (61, .lshr, 1, x0), (62, .lconst 1, 1, x0), (63, .land, 1, x0), (64, .lconst 1, 1, x0), (65, .lcmp, 1, x0), (66, .ifCond .ne 213, 3, xN 279), (69, .iload 14, 2, x0), (71, .iload 9, 2, x0), (73, .if_icmp .ne 9, 3, xN 82), (76, .iload 10, 2, x0), (78, .iload 13, 2, x0), (80, .iadd, 1, x0), (81, .ireturn, 1, x0), (82, .iconst 0, 1, xI (0)), (83, .istore 15, 2, x0), (85, .iload 15, 2, x0), (87, .bipush 6, 2, xI (6)), (89, .if_icmp .ge 144, 3, xN 233), (92, .aload_n 0, 1, x0), (93, .bipush 10, 2, xI (10)), (95, .iload 15, 2, x0), (97, .imul, 1, x0), (98, .iaload, 1, x0), (99, .iload 14, 2, x0), (101, .if_icmp .ne 15, 3, xN 116), (104, .aload_n 0, 1, x0), (105, .bipush 10, 2, xI (10)), (107, .iload 15, 2, x0), (109, .imul, 1, x0), (110, .iconst 1, 1, xI (1)), (111, .iadd, 1, x0), (112, .iaload, 1, x0), (113, .goto 28, 3, xN 141), (116, .aload_n 0, 1, x0), (117, .bipush 10, 2, xI (10)), (119, .iload 15, 2, x0), (121, .imul, 1, x0), (122, .iconst 1, 1, xI (1)), (123, .iadd, 1, x0), (124, .iaload, 1, x0), (125, .iload 14, 2, x0), (127, .if_icmp .ne 13, 3, xN 140), (130, .aload_n 0, 1, x0), (131, .bipush 10, 2, xI (10)), (133, .iload 15, 2, x0), (135, .imul, 1, x0), (136, .iaload, 1, x0), (137, .goto 4, 3, xN 141), (140, .iconst (-1), 1, xI (-1)), (141, .istore 16, 2, x0), (143, .iload 13, 2, x0), (145, .aload_n 0, 1, x0), (146, .bipush 10, 2, xI (10)), (148, .iload 15, 2, x0), (150, .imul, 1, x0), (151, .bipush 6, 2, xI (6)), (153, .iadd, 1, x0), (154, .iaload, 1, x0), (155, .iadd, 1, x0), (156, .istore 17, 2, x0), (158, .iload 16, 2, x0), (160, .ifCond .lt 67, 3, xN 227), (163, .aload_n 0, 1, x0), (164, .aload_n 1, 1, x0), (165, .aload_n 2, 1, x0), (166, .aload_n 3, 1, x0), (167, .aload 4, 2, x0), (169, .aload 5, 2, x0), (171, .aload 6, 2, x0), (173, .iload 7, 2, x0), (175, .iload 15, 2, x0), (177, .iload 10, 2, x0), (179, .iload 13, 2, x0), (181, .iadd, 1, x0), (182, .iload 12, 2, x0), (184, .iload 15, 2, x0), (186, .ishr, 1, x0), (187, .iconst 1, 1, xI (1)), (188, .iand, 1, x0), (189, .iconst 1, 1, xI (1)), (190, .if_icmp .ne 7, 3, xN 197), (193, .iconst 1, 1, xI (1)), (194, .goto 4, 3, xN 198), (197, .iconst 0, 1, xI (0)), (198, .invokestatic 23, 3, xS 11 0 s_L_why), (201, .ifCond .ne 26, 3, xN 227), (204, .aload 11, 2, x0), (206, .iconst 5, 1, xI (5)), (207, .iload 16, 2, x0), (209, .imul, 1, x0), (210, .iload 17, 2, x0), (212, .bipush 64, 2, xI (64)), (214, .idiv, 1, x0), (215, .iadd, 1, x0), (216, .dup2, 1, x0), (217, .laload, 1, x0), (218, .lconst 1, 1, x0), (219, .iload 17, 2, x0), (221, .bipush 64, 2, xI (64)), (223, .irem, 1, x0), (224, .lshl, 1, x0), (225, .lor, 1, x0), (226, .lastore, 1, x0), (227, .iinc 15 1, 3, xI (1)), (230, .goto (-145), 3, xN 85), (233, .iload 13, 2, x0), (235, .iconst 1, 1, xI (1)), (236, .iadd, 1, x0), (237, .istore 15, 2, x0), (239, .aload 11, 2, x0), (241, .iconst 5, 1, xI (5)), (242, .iload 14, 2, x0), (244, .imul, 1, x0), (245, .iload 15, 2, x0), (247, .bipush 64, 2, xI (64)), (249, .idiv, 1, x0), (250, .iadd, 1, x0), (251, .dup2, 1, x0), (252, .laload, 1, x0), (253, .aload 6, 2, x0), (255, .iconst 1, 1, xI (1)), (256, .iaload, 1, x0), (257, .iload 14, 2, x0), (259, .ishr, 1, x0), (260, .iconst 1, 1, xI (1)), (261, .iand, 1, x0), (262, .iconst 1, 1, xI (1)), (263, .if_icmp .ne 13, 3, xN 276), (266, .lconst 1, 1, x0), (267, .iload 15, 2, x0), (269, .bipush 64, 2, xI (64)), (271, .irem, 1, x0), (272, .lshl, 1, x0), (273, .goto 4, 3, xN 277), (276, .lconst 0, 1, x0), (277, .lor, 1, x0), (278, .lastore, 1, x0), (279, .iinc 14 1, 3, xI (1)), (282, .goto (-245), 3, xN 37), (285, .iinc 13 1, 3, xI (1)), (288, .goto (-262), 3, xN 26), (291, .iconst (-1), 1, xI (-1)), (292, .ireturn, 1, x0)]
theorem chk_L_arrives : chkTb cL_arrives "HeavyHaulLaw" false tb_L_arrives = true := by decide +kernel
theorem cal_L_arrives {l : Launch} (hl : l.stackTraces = false) (hNL : NewL l) : CallsOK l "HeavyHaulLaw" 4 tb_L_arrives := callsOK_f ⟨⟨_, _, 5, 3, _, (ct_L_borne hl hNL), ⟨List.mem_of_getElem? (i := 766) (by decide +kernel), List.mem_of_getElem? (i := 25) (by decide +kernel), List.mem_of_getElem? (i := 764) (by decide +kernel), ⟨by decide +kernel, by decide +kernel⟩, by decide +kernel, by decide⟩, List.mem_of_getElem? (i := 765) (by decide +kernel), by decide⟩, ⟨_, _, 20, 1, _, (ct_L_why hl hNL), ⟨List.mem_of_getElem? (i := 604) (by decide +kernel), List.mem_of_getElem? (i := 25) (by decide +kernel), List.mem_of_getElem? (i := 602) (by decide +kernel), ⟨by decide +kernel, by decide +kernel⟩, by decide +kernel, by decide⟩, List.mem_of_getElem? (i := 603) (by decide +kernel), by decide⟩, trivial⟩
theorem ar_L_arrives : ∀ as S P, s_L_arrives as S P → as.length ≤ 18 ∧ ∀ a ∈ as, catV a = 1 := fun as S P h => by
  obtain ⟨_, _, _, _, rfl, _⟩ := wy_ok h
  exact ar_all ⟨Nat.le_of_ble_eq_true rfl, rfl⟩
theorem ix_64 {q t : Nat} (hq : q < 5) (ht : t < 320) : vp_in ((5 : Int32) * nI q + nI t / 64) 25 ∧ ((5 : Int32) * nI q + nI t / 64).toNatClampNeg = 5 * q + t / 64 ∧ nI t - nI t / 64 * 64 = nI (t % 64) := by
  have e : (5 : Int32) * nI q + nI t / 64 = nI (5 * q + t / 64) := by
    have e1 : nI t / 64 = nI (t / 64) := pk_div (d := 64) (by omega) (by omega) (by omega)
    rw [e1, show (5 : Int32) = nI 5 from rfl, nI_mul, nI_add]
  rw [e]
  exact ⟨nI_vin (by omega) (by omega), nI_cl (by omega), pk_rem (d := 64) (by omega) (by omega) (by omega)⟩
theorem z64 : ¬ (64 : Int32) = 0 := by decide
set_option maxRecDepth 8000 in
theorem vc_L_arrives : ∀ (G : Gt) (Q : Out → Sto → Prop) (as : List AV) (S : Sto), s_L_arrives as S Q → Seg tb_L_arrives G Q 1 30 [] (0, fun _ => 0) → G 0 (argL as 18) [] S 0 := by
  intro G Q as S h hs
  obtain ⟨r, fr, to, t0, rfl, T, j, f, o, n, hI, rfl, hj, rfl, hf, rfl, ho, rfl, hn, hQ⟩ := wy_ok h
  have hW := hI.wf
  have h20 := hI.n.1
  have h5 : ∀ i, i < S.2.2 20 → onN S i < 5 ∧ otN S i < 5 := fun i hi => (hI.ro i (by omega)).2
  unfold arrH at hQ
  rw [nI_cl (show o < 2 ^ 31 by omega)] at hQ
  obtain ⟨Tt, hTt⟩ : ∃ Tt, Tt = tabH S (nI j) (nI f) (nI n) := ⟨_, rfl⟩
  have hT0 : ∀ g p, Tt 0 g p = (decide (g = 0) && decide (p = f)) := fun g p => by
    rw [hTt]
    show (decide (g = 0) && decide (p = (nI f).toNatClampNeg)) = _
    rw [nI_cl (by omega)]
  rw [← hTt] at hQ
  have hrea : ∀ D i k, i < 6 → k < 288 → (reasonH (jS S D) (nI j) (nI i) (nI (n + k)) = 0 ↔ (fitH S (nI j).toNatClampNeg i && openH S (nI j) (nI i) (nI n + nI k)) = true) := fun D i k hi hk => by
    rw [jS_same.rea, reason_open, nI_cl (show i < 2 ^ 31 by omega), nI_add]
  have loop26 : ∀ m t, t + m = 288 → (∀ S', sameL S S' → Q (Sum.inl (some (aI (fstF (fun g => Tt g g o) (nI n) m t)))) S') → ∀ D x14 x15 x16 x17, (∀ g p, g < 320 → p < 5 → lb D g p = Tt t g p) → G 26 [some (aR 10 3), some (aR 10 4), some (aR 10 5), some (aR 10 6), some (aR 10 7), some (aR 10 8), some (aR 10 9), some (aI (nI j)), some (aI (nI f)), some (aI (nI o)), some (aI (nI n)), some (aR 12 (S.2.2 12)), some (aI (mkW (brnN S j) 6)), some (aI (nI t)), x14, x15, x16, x17] [] (jS S D) 30 := by
    intro m
    induction m with
    | zero =>
      intro t ht hq D x14 x15 x16 x17 hD
      obtain rfl : t = 288 := ht
      refine hs [26, 37] 120 26 _ _ _ _ ?_
      exact ⟨fun _ => hq _ jS_same, fun z => absurd (by decide) z⟩
    | succ m ih =>
      intro t ht hq D x14 x15 x16 x17 hD
      have ht2 : t < 288 := by omega
      have loop37 : ∀ m2 q, q + m2 = 5 → (o < q → Tt t t o = false) → ∀ D x15 x16 x17, (∀ g p, g < 320 → p < 5 → lb D g p = tabP S (nI j) (nI n) (Tt t) t q g p) → G 37 [some (aR 10 3), some (aR 10 4), some (aR 10 5), some (aR 10 6), some (aR 10 7), some (aR 10 8), some (aR 10 9), some (aI (nI j)), some (aI (nI f)), some (aI (nI o)), some (aI (nI n)), some (aR 12 (S.2.2 12)), some (aI (mkW (brnN S j) 6)), some (aI (nI t)), some (aI (nI q)), x15, x16, x17] [] (jS S D) 30 := by
        intro m2
        induction m2 with
        | zero =>
          intro q hq2 hno D x15 x16 x17 hD
          obtain rfl : q = 5 := hq2
          have hz := hno ho
          have hq' : ∀ S', sameL S S' → Q (Sum.inl (some (aI (fstF (fun g => Tt g g o) (nI n) m (t + 1))))) S' := fun S' hS' => by
            have h1 := hq S' hS'
            unfold fstF at h1
            rw [if_neg (by rw [hz]; decide)] at h1
            exact h1
          have h1 := ih (t + 1) (by omega) hq' D (some (aI (nI 5))) x15 x16 x17 (fun g p hg hp => by rw [hD g p hg hp, hTt, tabP_5 h5 hp])
          rw [← nI_s] at h1
          refine hs [26, 37] 120 37 _ _ _ _ ?_
          exact ⟨fun _ => h1, fun z => absurd (by decide) z⟩
        | succ m2 ih2 =>
          intro q hq2 hno D x15 x16 x17 hD
          have hq5 : q < 5 := by omega
          obtain ⟨i1, i2, i3⟩ := ix_64 hq5 (show t < 320 by omega)
          have hbit := t_lbit (D (5 * q + t / 64)) (t % 64) (Nat.mod_lt _ (by omega))
          have hrd : (D (5 * q + t / 64)).toBitVec.getLsbD (t % 64) = Tt t t q := by
            have := hD t q (by omega) hq5
            rw [tabP_k hW] at this
            exact this
          rw [hrd] at hbit
          have go279 : ∀ D x15 x16 x17, (q = o → Tt t t o = false) → (∀ g p, g < 320 → p < 5 → lb D g p = tabP S (nI j) (nI n) (Tt t) t (q + 1) g p) → G 279 [some (aR 10 3), some (aR 10 4), some (aR 10 5), some (aR 10 6), some (aR 10 7), some (aR 10 8), some (aR 10 9), some (aI (nI j)), some (aI (nI f)), some (aI (nI o)), some (aI (nI n)), some (aR 12 (S.2.2 12)), some (aI (mkW (brnN S j) 6)), some (aI (nI t)), some (aI (nI q)), x15, x16, x17] [] (jS S D) 30 := fun D x15 x16 x17 hoq hD => by
            have h1 := ih2 (q + 1) (by omega) (fun z => by
              by_cases e : q = o
              · exact hoq e
              · exact hno (by omega)) D x15 x16 x17 hD
            rw [← nI_s] at h1
            refine hs [37] 120 279 _ _ _ _ ?_
            exact h1
          -- the roads from here
          have loop85 : Tt t t q = true → ¬ q = o → ∀ m3 i, i + m3 = 6 → ∀ D x16 x17, (∀ g p, g < 320 → p < 5 → lb D g p = (tabP S (nI j) (nI n) (Tt t) t q g p || lvN S (nI j) (nI n) q t g p i)) → G 85 [some (aR 10 3), some (aR 10 4), some (aR 10 5), some (aR 10 6), some (aR 10 7), some (aR 10 8), some (aR 10 9), some (aI (nI j)), some (aI (nI f)), some (aI (nI o)), some (aI (nI n)), some (aR 12 (S.2.2 12)), some (aI (mkW (brnN S j) 6)), some (aI (nI t)), some (aI (nI q)), some (aI (nI i)), x16, x17] [] (jS S D) 30 := by
            intro hTq hqo m3
            induction m3 with
            | zero =>
              intro i hi D x16 x17 hD
              obtain rfl : i = 6 := hi
              obtain ⟨k1, k2, k3⟩ := ix_64 hq5 (show t + 1 < 320 by omega)
              have hbay : (S.1 10 9 (1 : Int32).toNatClampNeg >>> (nI q &&& 31)) &&& 1 = 1 ↔ bayH S q = true := by
                rw [← hI.ba.1 q hq5]
                exact t_bit _ q (by omega)
              have v1 : vp_in (1 : Int32) 5 := nI_vin (a := 1) (by omega) (by decide)
              have fin : ∀ D', (∀ g p, g < 320 → p < 5 → lb D' g p = (lb D g p || (decide (g = t + 1) && (decide (p = q) && bayH S q)))) → ∀ x15 x16 x17, G 279 [some (aR 10 3), some (aR 10 4), some (aR 10 5), some (aR 10 6), some (aR 10 7), some (aR 10 8), some (aR 10 9), some (aI (nI j)), some (aI (nI f)), some (aI (nI o)), some (aI (nI n)), some (aR 12 (S.2.2 12)), some (aI (mkW (brnN S j) 6)), some (aI (nI t)), some (aI (nI q)), x15, x16, x17] [] (jS S D') 30 := fun D' hD' x15 x16 x17 => by
                refine go279 D' _ _ _ (fun e => absurd e hqo) fun g p hg hp => ?_
                rw [hD' g p hg hp, hD g p hg hp, tabP_t hTq, ← h20]
                cases tabP S (nI j) (nI n) (Tt t) t q g p <;> cases lvN S (nI j) (nI n) q t g p (S.2.2 20) <;> simp
              refine hs [85, 279] 120 85 _ _ _ _ ?_
              refine ⟨fun _ => ⟨z64, ?_⟩, fun z => absurd (by decide) z⟩
              rw [nI_s]
              refine ⟨k1, v1, fun c => ?_, fun c => ⟨z64, ?_⟩⟩
              · have hb : bayH S q = false := by
                  cases hh : bayH S q with
                  | false => rfl
                  | true => exact absurd (hbay.mpr hh) c
                refine ⟨k1, ?_⟩
                rw [k2, jS_rd, jS_wr]
                refine fin _ (fun g p hg hp => ?_) _ _ _
                rw [hb, Bool.and_false, Bool.and_false, Bool.or_false]
                unfold lb
                show (if 5 * p + g / 64 = 5 * q + (t + 1) / 64 then D (5 * q + (t + 1) / 64) ||| 0 else D (5 * p + g / 64)).toBitVec.getLsbD (g % 64) = _
                by_cases e : 5 * p + g / 64 = 5 * q + (t + 1) / 64
                · rw [if_pos e, Int64.or_zero, e]
                · rw [if_neg e]
              · have hb : bayH S q = true := hbay.mp c
                refine ⟨k1, ?_⟩
                rw [k2, k3, jS_rd, jS_wr]
                refine fin _ (fun g p hg hp => ?_) _ _ _
                rw [hb, Bool.and_true]
                exact lb_set (by omega) hg
            | succ m3 ih3 =>
              intro i hi D x16 x17 hD
              have hi6 : i < 6 := by omega
              have hi20 : i < S.2.2 20 := by omega
              have va0 : vp_in ((10 : Int32) * nI i) 60 := vA0 hI hi6
              have a0 : S.1 10 3 ((10 : Int32) * nI i).toNatClampNeg = S.1 2 0 i := aA0 hI hi6
              have va1 : vp_in ((10 : Int32) * nI i + 1) 60 := vA hI hi6 1 (by decide)
              have a1 : S.1 10 3 ((10 : Int32) * nI i + 1).toNatClampNeg = S.1 2 1 i := aA hI hi6 1 (by decide)
              have va6 : vp_in ((10 : Int32) * nI i + 6) 60 := vA hI hi6 6 (by decide)
              have a6 : S.1 10 3 ((10 : Int32) * nI i + 6).toNatClampNeg = S.1 2 6 i := aA hI hi6 6 (by decide)
              obtain ⟨r1, r2, r3, -, -, rne, rt1, rt9⟩ := ro_N hW hi20
              obtain ⟨on5, ot5⟩ := h5 i hi20
              rw [r1] at a0
              rw [r2] at a1
              rw [r3] at a6
              have vi : bit (mkW (brnN S j) 6) i = borneH S i j := by
                rw [bit_mk _ _ _ (by omega) (by omega), decide_eq_true hi6, Bool.true_and]
                rfl
              have hbo : (mkW (brnN S j) 6 >>> (nI i &&& 31)) &&& 1 = 1 ↔ borneH S i j = true := by
                rw [← vi]
                exact t_bit _ i (by omega)
              have go227 : ∀ D x16 x17, (∀ g p, g < 320 → p < 5 → lb D g p = (tabP S (nI j) (nI n) (Tt t) t q g p || lvN S (nI j) (nI n) q t g p (i + 1))) → G 227 [some (aR 10 3), some (aR 10 4), some (aR 10 5), some (aR 10 6), some (aR 10 7), some (aR 10 8), some (aR 10 9), some (aI (nI j)), some (aI (nI f)), some (aI (nI o)), some (aI (nI n)), some (aR 12 (S.2.2 12)), some (aI (mkW (brnN S j) 6)), some (aI (nI t)), some (aI (nI q)), some (aI (nI i)), x16, x17] [] (jS S D) 30 := fun D x16 x17 hD => by
                have h1 := ih3 (i + 1) (by omega) D x16 x17 hD
                rw [← nI_s] at h1
                refine hs [85] 120 227 _ _ _ _ ?_
                exact h1
              have no227 : ∀ x16 x17, (∀ g p, lvC S (nI j) (nI n) q t g p i = false) → G 227 [some (aR 10 3), some (aR 10 4), some (aR 10 5), some (aR 10 6), some (aR 10 7), some (aR 10 8), some (aR 10 9), some (aI (nI j)), some (aI (nI f)), some (aI (nI o)), some (aI (nI n)), some (aR 12 (S.2.2 12)), some (aI (mkW (brnN S j) 6)), some (aI (nI t)), some (aI (nI q)), some (aI (nI i)), x16, x17] [] (jS S D) 30 := fun x16 x17 hf => go227 D x16 x17 fun g p hg hp => by
                rw [hD g p hg hp, lvN_s, hf g p, Bool.or_false]
              have g158 : ∀ X : Nat, X < 5 → (∀ p, ((decide (q = onN S i) && decide (p = otN S i)) || (decide (q = otN S i) && decide (p = onN S i))) = decide (p = X)) → G 158 [some (aR 10 3), some (aR 10 4), some (aR 10 5), some (aR 10 6), some (aR 10 7), some (aR 10 8), some (aR 10 9), some (aI (nI j)), some (aI (nI f)), some (aI (nI o)), some (aI (nI n)), some (aR 12 (S.2.2 12)), some (aI (mkW (brnN S j) 6)), some (aI (nI t)), some (aI (nI q)), some (aI (nI i)), some (aI (nI X)), some (aI (nI (t + tnN S i)))] [] (jS S D) 30 := fun X hX hm => by
                obtain ⟨k1, k2, k3⟩ := ix_64 hX (show t + tnN S i < 320 by omega)
                have hlv : ∀ g p, lvC S (nI j) (nI n) q t g p i = (decide (p = X) && ((fitH S (nI j).toNatClampNeg i && openH S (nI j) (nI i) (nI n + nI t)) && decide (g = t + tnN S i))) := fun g p => by
                  unfold lvC
                  rw [hm p]
                have g201 : G 201 [some (aR 10 3), some (aR 10 4), some (aR 10 5), some (aR 10 6), some (aR 10 7), some (aR 10 8), some (aR 10 9), some (aI (nI j)), some (aI (nI f)), some (aI (nI o)), some (aI (nI n)), some (aR 12 (S.2.2 12)), some (aI (mkW (brnN S j) 6)), some (aI (nI t)), some (aI (nI q)), some (aI (nI i)), some (aI (nI X)), some (aI (nI (t + tnN S i)))] [aI (reasonH (jS S D) (nI j) (nI i) (nI (n + t)))] (jS S D) 30 := by
                  have hr := hrea D i t hi6 ht2
                  refine hs [227] 120 201 _ _ _ _ ?_
                  refine ⟨fun z => no227 _ _ fun g p => ?_, fun z => ⟨z64, k1, z64, k1, ?_⟩⟩
                  · have hf : (fitH S (nI j).toNatClampNeg i && openH S (nI j) (nI i) (nI n + nI t)) = false := by
                      cases hh : (fitH S (nI j).toNatClampNeg i && openH S (nI j) (nI i) (nI n + nI t)) with
                      | false => rfl
                      | true => exact absurd (hr.mpr hh) z
                    rw [hlv, hf, Bool.false_and, Bool.and_false]
                  · rw [k2, k3, jS_rd, jS_wr]
                    refine go227 _ _ _ fun g p hg hp => ?_
                    have e9 := lb_set (D := D) (g := t + tnN S i) (p := X) (g' := g) (p' := p) (by omega) hg
                    refine Eq.trans e9 ?_
                    rw [hD g p hg hp, lvN_s, hlv, hr.mp z, Bool.true_and, Bool.or_assoc, Bool.and_comm (decide (g = _))]
                refine hs [201, 227] 120 158 _ _ _ _ ?_
                refine ⟨fun z => absurd z (nI_nn (by omega)), fun _ => ⟨fun c => ?_, fun c => ?_⟩⟩
                · refine ⟨⟨rfl, rfl⟩, ⟨rfl, rfl⟩, ⟨rfl, rfl⟩, ⟨rfl, rfl⟩, ⟨rfl, rfl⟩, ⟨rfl, rfl⟩, ⟨rfl, rfl⟩, T, i, j, n + t, jS_same.inv hI, rfl, hj, rfl, hi6, nI_add n t, by omega, ?_, ?_⟩
                  · rw [jS_same.bor]
                    cases hh : borneH S i j with
                    | false => rfl
                    | true => exact absurd (hbo.mpr hh) c
                  · rw [nI_add]
                    exact g201
                · refine ⟨⟨rfl, rfl⟩, ⟨rfl, rfl⟩, ⟨rfl, rfl⟩, ⟨rfl, rfl⟩, ⟨rfl, rfl⟩, ⟨rfl, rfl⟩, ⟨rfl, rfl⟩, T, i, j, n + t, jS_same.inv hI, rfl, hj, rfl, hi6, nI_add n t, by omega, ?_, ?_⟩
                  · rw [jS_same.bor, hbo.mp c]
                    rfl
                  · rw [nI_add]
                    exact g201
              have ew : nI t + nI (tnN S i) = nI (t + tnN S i) := nI_add _ _
              refine hs [158, 227] 120 85 _ _ _ _ ?_
              refine ⟨fun z => absurd z (lp_go (n := 6) (by omega) hi6), fun _ => ⟨va0, ?_⟩⟩
              have b0 : (jS S D).1 10 3 ((10 : Int32) * nI i).toNatClampNeg = nI (onN S i) := a0
              have b1 : (jS S D).1 10 3 ((10 : Int32) * nI i + 1).toNatClampNeg = nI (otN S i) := a1
              have b6 : (jS S D).1 10 3 ((10 : Int32) * nI i + 6).toNatClampNeg = nI (tnN S i) := a6
              rw [b0]
              refine ⟨fun c0 => ⟨va1, ?_⟩, fun c0 => ⟨va1, va6, ?_⟩⟩
              · rw [b1]
                have n0 : ¬ q = onN S i := fun e => c0 (by rw [e])
                refine ⟨fun c1 => ⟨va6, ?_⟩, fun c1 => ⟨va0, va6, ?_⟩⟩
                · have n1 : ¬ q = otN S i := fun e => c1 (by rw [e])
                  refine hs [227] 120 158 _ _ _ _ ?_
                  refine ⟨fun _ => no227 _ _ fun g p => ?_, fun z => absurd (by decide) z⟩
                  unfold lvC
                  rw [decide_eq_false n0, decide_eq_false n1]
                  rfl
                · have e1 : q = otN S i := ((nI_eq (by omega) (by omega)).mp c1).symm
                  have r9 := g158 _ on5 fun p => by rw [decide_eq_false n0, decide_eq_true e1, Bool.false_and, Bool.true_and, Bool.false_or]
                  rw [← ew] at r9
                  rw [b0, b6]
                  exact r9
              · have e0 : q = onN S i := ((nI_eq (by omega) (by omega)).mp c0).symm
                have n1 : ¬ q = otN S i := fun e => rne (by omega)
                have r9 := g158 _ ot5 fun p => by rw [decide_eq_true e0, decide_eq_false n1, Bool.false_and, Bool.true_and, Bool.or_false]
                rw [← ew] at r9
                rw [b1, b6]
                exact r9
          refine hs [37, 85, 279] 120 37 _ _ _ _ ?_
          refine ⟨fun z => absurd z (lp_go (n := 5) (by omega) hq5), fun _ => ⟨z64, i1, z64, ?_⟩⟩
          rw [i2, i3, jS_rd]
          refine ⟨fun z => ?_, fun z => ⟨fun c => ?_, fun c => ?_⟩⟩
          · have hz : Tt t t q = false := by
              cases hh : Tt t t q with
              | false => rfl
              | true => exact absurd ((lg_cmp_eq _ _).mpr (hbit.mpr hh)) z
            exact go279 D _ _ _ (fun e => by rw [← e]; exact hz) fun g p hg hp => by rw [hD g p hg hp, tabP_f hz]
          · have hz : Tt t t q = true := hbit.mp ((lg_cmp_eq _ _).mp z)
            refine loop85 hz (fun e => c (by rw [e])) 6 0 rfl D x16 x17 fun g p hg hp => ?_
            rw [hD g p hg hp]
            show _ = (_ || false)
            rw [Bool.or_false]
          · have hz : Tt t t q = true := hbit.mp ((lg_cmp_eq _ _).mp z)
            have e : q = o := (nI_eq (by omega) (by omega)).mp c
            have h1 := hq _ (jS_same (S := S) (D := D))
            unfold fstF at h1
            rw [if_pos (by rw [← e]; exact hz)] at h1
            exact h1
      refine hs [26, 37] 120 26 _ _ _ _ ?_
      refine ⟨fun z => absurd z (lp_go (n := 288) (by omega) ht2), fun _ => ?_⟩
      exact loop37 5 0 rfl (fun z => absurd z (Nat.not_lt_zero _)) D x15 x16 x17 fun g p hg hp => by rw [tabP_0]; exact hD g p hg hp
  have vf : vp_in ((5 : Int32) * nI f) 25 := iv_1 (a := 5) (by omega) (by omega)
  have ef : ((5 : Int32) * nI f).toNatClampNeg = 5 * f := ix_1 5 f (by omega)
  have h0 := loop26 288 0 rfl hQ (D1 f) none none none none fun g p hg hp => by rw [lb_D1 hg, hT0]
  refine hs [26] 120 0 _ _ _ _ ?_
  refine ⟨rfl, rfl, rfl, rfl, rfl, T, j, jS_same.inv hI, rfl, hj, vf, ?_⟩
  rw [ef]
  have e9 : wrJ (jS S fun _ => 0) (S.2.2 12) (5 * f) 1 = jS S (D1 f) := jS_wr
  have e8 : mkW (brnN (jS S fun _ => 0) j) 6 = mkW (brnN S j) 6 := rfl
  rw [← e9] at h0
  exact h0
theorem ct_L_arrives {l : Launch} (hl : l.stackTraces = false) (hNL : NewL l) : CT l yL_arrives cL_arrives 18 (some .int) 4 30 s_L_arrives := CT_of hl hNL (by decide +kernel) (own := "HeavyHaulLaw") rfl (ini := false) (fun q => nomatch q) chk_L_arrives (cal_L_arrives hl hNL) ar_L_arrives vc_L_arrives
