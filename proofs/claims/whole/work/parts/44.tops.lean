/-! THE GREATEST ON A BRIDGE, by the model -/
theorem far_eq (p sp : Int32) {f : Int32} (h : (sp - p ≤ p → f = sp - p) ∧ (¬ sp - p ≤ p → f = p)) : f = if sp - p < p then sp - p else p := by
  by_cases h1 : sp - p < p
  · rw [if_pos h1]
    exact h.1 (Int32.le_of_lt h1)
  · rw [if_neg h1]
    by_cases h2 : sp - p ≤ p
    · rw [h.1 h2]
      exact Int32.le_antisymm h2 (Int32.not_lt.mp h1)
    · exact h.2 h2
def s_X7_tops : SP := vS fun as S k => o3 1 as fun d r isM => ∃ S0, ref S S0 ∧ inN d (S0.2.2 20) ∧ inN r (S0.2.2 22) ∧ ¬ S0.1 2 7 d.toNatClampNeg ≤ 0 ∧ k (some (aI (greatH S0 d.toNatClampNeg r.toNatClampNeg isM 0)))
def tb_X7_tops : Tb := [(0, .aload_n 0, 1, x0), (1, .iload_n 2, 1, x0), (2, .iconst 0, 1, xI (0)), (3, .invokevirtual 150, 3, xS 3 0 s_X7_bears), (6, .istore 4, 2, x0), (8, .aload_n 0, 1, x0), (9, .iload_n 2, 1, x0), (10, .iconst 1, 1, xI (1)), (11, .invokevirtual 150, 3, xS 3 0 s_X7_bears), (14, .istore 5, 2, x0), (16, .iconst 0, 1, xI (0)), (17, .istore 6, 2, x0), (19, .aload_n 0, 1, x0), (20, .getfield 35, 3, xF 8 9 [792]), (23, .iload_n 1, 1, x0), (24, .iaload, 1, x0), (25, .istore 7, 2, x0), (27, .iconst 0, 1, xI (0)), (28, .istore 8, 2, x0), (30, .iload 8, 2, x0), (32, .iload 7, 2, x0), (34, .aload_n 0, 1, x0), (35, .getfield 50, 3, xF 8 16 [799]), (38, .iload_n 2, 1, x0), (39, .iaload, 1, x0), (40, .iconst 1, 1, xI (1)), (41, .isub, 1, x0), (42, .aload_n 0, 1, x0), (43, .getfield 53, 3, xF 8 17 [800]), (46, .iload_n 2, 1, x0), (47, .iaload, 1, x0), (48, .imul, 1, x0), (49, .iadd, 1, x0), (50, .if_icmp .gt 140, 3, xN 190), (53, .iconst 0, 1, xI (0)), (54, .istore 9, 2, x0), (56, .iconst 0, 1, xI (0)), (57, .istore 10, 2, x0), (59, .iload 10, 2, x0), (61, .aload_n 0, 1, x0), (62, .getfield 50, 3, xF 8 16 [799]), (65, .iload_n 2, 1, x0), (66, .iaload, 1, x0), (67, .if_icmp .ge 101, 3, xN 168), (70, .iload 8, 2, x0), (72, .iload 10, 2, x0), (74, .aload_n 0, 1, x0), (75, .getfield 53, 3, xF 8 17 [800]), (78, .iload_n 2, 1, x0), (79, .iaload, 1, x0), (80, .imul, 1, x0), (81, .isub, 1, x0), (82, .istore 11, 2, x0), (84, .iload 10, 2, x0), (86, .aload_n 0, 1, x0), (87, .getfield 50, 3, xF 8 16 [799]), (90, .iload_n 2, 1, x0), (91, .iaload, 1, x0), (92, .iconst 2, 1, xI (2)), (93, .idiv, 1, x0), (94, .if_icmp .ge 8, 3, xN 102), (97, .iload 4, 2, x0), (99, .goto 5, 3, xN 104), (102, .iload 5, 2, x0), (104, .istore 12, 2, x0), (106, .iload 11, 2, x0), (108, .iload 7, 2, x0), (110, .iload 11, 2, x0), (112, .isub, 1, x0), (113, .if_icmp .ge 8, 3, xN 121), (116, .iload 11, 2, x0), (118, .goto 8, 3, xN 126), (121, .iload 7, 2, x0), (123, .iload 11, 2, x0), (125, .isub, 1, x0), (126, .istore 13, 2, x0), (128, .iload 9, 2, x0), (130, .iload 11, 2, x0), (132, .iconst 0, 1, xI (0)), (133, .iload 7, 2, x0), (135, .invokestatic 109, 3, xS 3 0 s_X7_in), (138, .ifCond .eq 20, 3, xN 158), (141, .iload_n 3, 1, x0), (142, .ifCond .eq 11, 3, xN 153), (145, .iload 12, 2, x0), (147, .iload 13, 2, x0), (149, .imul, 1, x0), (150, .goto 9, 3, xN 159), (153, .iload 12, 2, x0), (155, .goto 4, 3, xN 159), (158, .iconst 0, 1, xI (0)), (159, .iadd, 1, x0), (160, .istore 9, 2, x0), (162, .iinc 10 1, 3, xI (1)), (165, .goto (-106), 3, xN 59), (168, .iload 9, 2, x0), (170, .iload 6, 2, x0), (172, .if_icmp .le 8, 3, xN 180), (175, .iload 9, 2, x0), (177, .goto 5, 3, xN 182), (180, .iload 6, 2, x0), (182, .istore 6, 2, x0), (184, .iinc 8 1, 3, xI (1)), (187, .goto (-157), 3, xN 30), (190, .iload 6, 2, x0), (192, .ireturn, 1, x0)]
theorem chk_X7_tops : chkTb cX7_tops "HeavyHaulModel" false tb_X7_tops = true := by decide +kernel
theorem cal_X7_tops {l : Launch} (hl : l.stackTraces = false) (hNL : NewL l) : CallsOK l "HeavyHaulModel" 2 tb_X7_tops := callsOK_f ⟨⟨_, _, 8, 1, _, 8, (ct_X7_bears hl hNL), ⟨List.mem_of_getElem? (i := 964) (by decide +kernel), List.mem_of_getElem? (i := 44) (by decide +kernel), List.mem_of_getElem? (i := 961) (by decide +kernel), ⟨by decide +kernel, by decide +kernel⟩, by decide +kernel, by decide⟩, List.mem_of_getElem? (i := 963) (by decide +kernel), List.mem_of_getElem? (i := 29) (by decide +kernel), by decide, by decide, rc_X7_bears⟩, ⟨_, _, 8, 1, _, 8, (ct_X7_bears hl hNL), ⟨List.mem_of_getElem? (i := 964) (by decide +kernel), List.mem_of_getElem? (i := 44) (by decide +kernel), List.mem_of_getElem? (i := 961) (by decide +kernel), ⟨by decide +kernel, by decide +kernel⟩, by decide +kernel, by decide⟩, List.mem_of_getElem? (i := 963) (by decide +kernel), List.mem_of_getElem? (i := 29) (by decide +kernel), by decide, by decide, rc_X7_bears⟩, ⟨_, _, 3, 0, _, (ct_X7_in hl hNL), ⟨List.mem_of_getElem? (i := 911) (by decide +kernel), List.mem_of_getElem? (i := 44) (by decide +kernel), List.mem_of_getElem? (i := 909) (by decide +kernel), ⟨by decide +kernel, by decide +kernel⟩, by decide +kernel, by decide⟩, List.mem_of_getElem? (i := 910) (by decide +kernel), by decide⟩, trivial⟩
theorem ar_X7_tops : ∀ as S P, s_X7_tops as S P → as.length ≤ 14 ∧ ∀ a ∈ as, catV a = 1 := fun as S P h => by
  obtain ⟨_, _, _, rfl, _⟩ := o3_ok h
  exact ar_all ⟨Nat.le_of_ble_eq_true rfl, rfl⟩
theorem rc_X7_tops : ∀ as S P, s_X7_tops as S P → ∃ k i r, as = aR k i :: r ∧ ci k = 8 ∧ (obK k = true ∨ k = 13) := fun as S P h => by
  obtain ⟨_, _, _, rfl, _⟩ := o3_ok h
  exact ⟨_, _, _, rfl, rfl, Or.inl rfl⟩
set_option maxRecDepth 8000 in
theorem vc_X7_tops : ∀ (G : Gt) (Q : Out → Sto → Prop) (as : List AV) (S : Sto), s_X7_tops as S Q → Seg tb_X7_tops G Q 1 0 [] (0, fun _ => 0) → G 0 (argL as 14) [] S 0 := by
  intro G Q as S h hs
  obtain ⟨d, r, isM, rfl, S0, hr, hd, hri, hsp, hQ⟩ := o3_ok h
  have hn := hr.wf.2.1.2.2.1
  have hn20 := hr.wf.2.1.1
  have hj : r.toNatClampNeg < S0.2.2 22 := inN_lt hri (by omega)
  have hi : d.toNatClampNeg < S0.2.2 20 := inN_lt hd (by omega)
  have hv : vp_in r 6 := d_in hri hn (by omega)
  have hvd : vp_in d 20 := d_in hd hn20 (by omega)
  obtain ⟨-, c15, c16, -⟩ := hr.ri hj
  have c10 := (hr.ro hi).2.2.2.2.2.2.2.1
  obtain ⟨hl, hl2⟩ := lastN_ok hr.wf hi hj
  obtain ⟨a, dd, p, ea, -, -, a1, a8, -⟩ := hr.wf.2.2.2.2.2.2.2 _ hj
  have hA : (S0.1 4 0 r.toNatClampNeg).toNatClampNeg = 2 * a := by rw [ea]; exact nI_cl (by omega)
  unfold greatH at hQ
  rw [if_neg hsp] at hQ
  have hsum : ∀ n, sumH S0 (S0.1 2 7 d.toNatClampNeg) r.toNatClampNeg (nI n) isM 0 = sumF (S0.1 4 6 r.toNatClampNeg) (S0.1 4 7 r.toNatClampNeg) (S0.1 4 0 r.toNatClampNeg) (S0.1 4 1 r.toNatClampNeg) (S0.1 2 7 d.toNatClampNeg) (nI n) isM 0 (2 * a) := fun n => by unfold sumH; rw [hA]
  generalize lastN S0 d.toNatClampNeg r.toNatClampNeg = L at hl hl2 hQ
  generalize hf : (fun n => sumH S0 (S0.1 2 7 d.toNatClampNeg) r.toNatClampNeg (nI n) isM 0) = f at hQ
  have hfn : ∀ n, f n = sumF (S0.1 4 6 r.toNatClampNeg) (S0.1 4 7 r.toNatClampNeg) (S0.1 4 0 r.toNatClampNeg) (S0.1 4 1 r.toNatClampNeg) (S0.1 2 7 d.toNatClampNeg) (nI n) isM 0 (2 * a) := fun n => by rw [← hf]; exact hsum n
  have outer : ∀ m n, n + m = L + 1 → ∀ x9 x10 x11 x12 x13, G 30 [some (aR 1 0), some (aI d), some (aI r), some (aI isM), some (aI (S0.1 4 6 r.toNatClampNeg)), some (aI (S0.1 4 7 r.toNatClampNeg)), some (aI (topF f n)), some (aI (S0.1 2 7 d.toNatClampNeg)), some (aI (nI n)), x9, x10, x11, x12, x13] [] S 0 := by
    intro m
    induction m with
    | zero =>
      intro n hn9 x9 x10 x11 x12 x13
      obtain rfl : n = L + 1 := hn9
      refine hs [30, 59] 120 30 _ _ _ _ ?_
      refine ⟨hv, hv, ?_⟩
      rw [c15, c16]
      exact ⟨fun _ => hQ, fun q => absurd ((nI_lt2 (by omega) (by omega)).mpr (Nat.lt_succ_self L)) (by rw [hl] at q; exact q)⟩
    | succ m ih =>
      intro n hn9 x9 x10 x11 x12 x13
      have inner : ∀ m2 k, k + m2 = 2 * a → ∀ y11 y12 y13, G 59 [some (aR 1 0), some (aI d), some (aI r), some (aI isM), some (aI (S0.1 4 6 r.toNatClampNeg)), some (aI (S0.1 4 7 r.toNatClampNeg)), some (aI (topF f n)), some (aI (S0.1 2 7 d.toNatClampNeg)), some (aI (nI n)), some (aI (sumF (S0.1 4 6 r.toNatClampNeg) (S0.1 4 7 r.toNatClampNeg) (S0.1 4 0 r.toNatClampNeg) (S0.1 4 1 r.toNatClampNeg) (S0.1 2 7 d.toNatClampNeg) (nI n) isM 0 k)), some (aI (nI k)), y11, y12, y13] [] S 0 := by
        intro m2
        induction m2 with
        | zero =>
          intro k hk y11 y12 y13
          obtain rfl : k = 2 * a := hk
          have h1 := ih (n + 1) (by omega) (some (aI (f n))) (some (aI (nI (2 * a)))) y11 y12 y13
          rw [← nI_s] at h1
          have ht : topF f (n + 1) = if topF f n < f n then f n else topF f n := rfl
          rw [ht] at h1
          rw [← hfn n]
          refine hs [30, 59] 120 59 _ _ _ _ ?_
          refine ⟨hv, ?_⟩
          rw [c15]
          refine ⟨fun _ => ⟨fun z => ?_, fun z => ?_⟩, fun q => ?_⟩
          · rw [if_neg (Int32.not_lt.mpr z)] at h1
            exact h1
          · rw [if_pos (Int32.not_le.mp z)] at h1
            exact h1
          · rw [ea] at q
            exact (lp_end q).elim
        | succ m2 ih2 =>
          intro k hk y11 y12 y13
          have key : ∀ v z12 z13, v = sumF (S0.1 4 6 r.toNatClampNeg) (S0.1 4 7 r.toNatClampNeg) (S0.1 4 0 r.toNatClampNeg) (S0.1 4 1 r.toNatClampNeg) (S0.1 2 7 d.toNatClampNeg) (nI n) isM 0 (k + 1) → G 59 [some (aR 1 0), some (aI d), some (aI r), some (aI isM), some (aI (S0.1 4 6 r.toNatClampNeg)), some (aI (S0.1 4 7 r.toNatClampNeg)), some (aI (topF f n)), some (aI (S0.1 2 7 d.toNatClampNeg)), some (aI (nI n)), some (aI v), some (aI (nI k + 1)), some (aI (posF (nI n) (S0.1 4 1 r.toNatClampNeg) k)), z12, z13] [] S 0 := fun v z12 z13 hv9 => by
            rw [hv9, nI_s]
            exact ih2 (k + 1) (by omega) _ z12 z13
          have stp : ∀ w fa, w = wtF (S0.1 4 6 r.toNatClampNeg) (S0.1 4 7 r.toNatClampNeg) (S0.1 4 0 r.toNatClampNeg) (nI k) → fa = (if S0.1 2 7 d.toNatClampNeg - posF (nI n) (S0.1 4 1 r.toNatClampNeg) k < posF (nI n) (S0.1 4 1 r.toNatClampNeg) k then S0.1 2 7 d.toNatClampNeg - posF (nI n) (S0.1 4 1 r.toNatClampNeg) k else posF (nI n) (S0.1 4 1 r.toNatClampNeg) k) →
              ∀ s, s = sumF (S0.1 4 6 r.toNatClampNeg) (S0.1 4 7 r.toNatClampNeg) (S0.1 4 0 r.toNatClampNeg) (S0.1 4 1 r.toNatClampNeg) (S0.1 2 7 d.toNatClampNeg) (nI n) isM 0 k → ((posF (nI n) (S0.1 4 1 r.toNatClampNeg) k < 0 ∨ S0.1 2 7 d.toNatClampNeg < posF (nI n) (S0.1 4 1 r.toNatClampNeg) k) → s + 0 = sumF (S0.1 4 6 r.toNatClampNeg) (S0.1 4 7 r.toNatClampNeg) (S0.1 4 0 r.toNatClampNeg) (S0.1 4 1 r.toNatClampNeg) (S0.1 2 7 d.toNatClampNeg) (nI n) isM 0 (k + 1)) ∧
              (¬ (posF (nI n) (S0.1 4 1 r.toNatClampNeg) k < 0 ∨ S0.1 2 7 d.toNatClampNeg < posF (nI n) (S0.1 4 1 r.toNatClampNeg) k) → (isM = 0 → s + w = sumF (S0.1 4 6 r.toNatClampNeg) (S0.1 4 7 r.toNatClampNeg) (S0.1 4 0 r.toNatClampNeg) (S0.1 4 1 r.toNatClampNeg) (S0.1 2 7 d.toNatClampNeg) (nI n) isM 0 (k + 1)) ∧ (¬ isM = 0 → s + w * fa = sumF (S0.1 4 6 r.toNatClampNeg) (S0.1 4 7 r.toNatClampNeg) (S0.1 4 0 r.toNatClampNeg) (S0.1 4 1 r.toNatClampNeg) (S0.1 2 7 d.toNatClampNeg) (nI n) isM 0 (k + 1))) := fun w fa hw hfa s hs9 => by
            subst hs9
            subst hw
            subst hfa
            refine ⟨fun z => ?_, fun z => ⟨fun y => ?_, fun y => ?_⟩⟩
            · rw [Int32.add_zero]
              exact (if_pos z).symm
            · refine Eq.trans ?_ (if_neg z).symm
              unfold valF
              rw [if_pos y, if_pos rfl]
            · refine Eq.trans ?_ (if_neg z).symm
              unfold valF
              rw [if_neg y, if_pos rfl]
          refine hs [30, 59] 120 59 _ _ _ _ ?_
          refine ⟨hv, ?_⟩
          rw [c15]
          refine ⟨fun q => ?_, fun _ => ⟨hv, ?_⟩⟩
          · rw [ea] at q
            exact absurd q (lp_go (by omega) (by omega))
          · rw [c16]
            refine ⟨hv, n2z, ?_⟩
            rw [c15]
            refine ⟨fun q3 => ⟨fun q4 => ?_, fun q4 => ?_⟩, fun q3 => ⟨fun q4 => ?_, fun q4 => ?_⟩⟩
            · have st := stp _ _ (if_pos q3).symm (far_eq _ _ ⟨fun _ => rfl, fun z => absurd q4 z⟩) _ rfl
              exact ⟨fun t1 => ⟨rfl, fun _ => key _ _ _ (st.1 (Or.inl t1)), fun y => absurd rfl y⟩, fun t1 => ⟨fun t2 => ⟨rfl, fun _ => key _ _ _ (st.1 (Or.inr t2)), fun y => absurd rfl y⟩, fun t2 => ⟨rfl, fun y => absurd y (by decide), fun _ => ⟨fun m0 => key _ _ _ ((st.2 fun z => z.elim t1 t2).1 m0), fun m0 => key _ _ _ ((st.2 fun z => z.elim t1 t2).2 m0)⟩⟩⟩⟩
            · have st := stp _ _ (if_pos q3).symm (far_eq _ _ ⟨fun z => absurd z q4, fun _ => rfl⟩) _ rfl
              exact ⟨fun t1 => ⟨rfl, fun _ => key _ _ _ (st.1 (Or.inl t1)), fun y => absurd rfl y⟩, fun t1 => ⟨fun t2 => ⟨rfl, fun _ => key _ _ _ (st.1 (Or.inr t2)), fun y => absurd rfl y⟩, fun t2 => ⟨rfl, fun y => absurd y (by decide), fun _ => ⟨fun m0 => key _ _ _ ((st.2 fun z => z.elim t1 t2).1 m0), fun m0 => key _ _ _ ((st.2 fun z => z.elim t1 t2).2 m0)⟩⟩⟩⟩
            · have st := stp _ _ (if_neg q3).symm (far_eq _ _ ⟨fun _ => rfl, fun z => absurd q4 z⟩) _ rfl
              exact ⟨fun t1 => ⟨rfl, fun _ => key _ _ _ (st.1 (Or.inl t1)), fun y => absurd rfl y⟩, fun t1 => ⟨fun t2 => ⟨rfl, fun _ => key _ _ _ (st.1 (Or.inr t2)), fun y => absurd rfl y⟩, fun t2 => ⟨rfl, fun y => absurd y (by decide), fun _ => ⟨fun m0 => key _ _ _ ((st.2 fun z => z.elim t1 t2).1 m0), fun m0 => key _ _ _ ((st.2 fun z => z.elim t1 t2).2 m0)⟩⟩⟩⟩
            · have st := stp _ _ (if_neg q3).symm (far_eq _ _ ⟨fun z => absurd z q4, fun _ => rfl⟩) _ rfl
              exact ⟨fun t1 => ⟨rfl, fun _ => key _ _ _ (st.1 (Or.inl t1)), fun y => absurd rfl y⟩, fun t1 => ⟨fun t2 => ⟨rfl, fun _ => key _ _ _ (st.1 (Or.inr t2)), fun y => absurd rfl y⟩, fun t2 => ⟨rfl, fun y => absurd y (by decide), fun _ => ⟨fun m0 => key _ _ _ ((st.2 fun z => z.elim t1 t2).1 m0), fun m0 => key _ _ _ ((st.2 fun z => z.elim t1 t2).2 m0)⟩⟩⟩⟩
      refine hs [30, 59] 120 30 _ _ _ _ ?_
      refine ⟨hv, hv, ?_⟩
      rw [c15, c16]
      exact ⟨fun q => absurd ((nI_lt2 (a := L) (b := n) (by omega) (by omega)).mp (by rw [hl] at q; exact q)) (by omega), fun _ => inner (2 * a) 0 (by omega) x11 x12 x13⟩
  refine hs [30, 59] 120 0 _ _ _ _ ?_
  refine ⟨rfl, rfl, S0, hr, hri, rfl, rfl, S0, hr, hri, hvd, ?_⟩
  rw [c10]
  exact outer (L + 1) 0 (by omega) none none none none none
theorem ct_X7_tops {l : Launch} (hl : l.stackTraces = false) (hNL : NewL l) : CT l yX7_tops cX7_tops 14 (some .int) 2 0 s_X7_tops := CT_of hl hNL (by decide +kernel) (own := "HeavyHaulModel") rfl (ini := false) (fun q => nomatch q) chk_X7_tops (cal_X7_tops hl hNL) ar_X7_tops vc_X7_tops
