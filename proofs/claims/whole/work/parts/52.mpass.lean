/-! TIME, by the model -/
theorem passS_2 {S : Sto} {n : Nat} : (passS S n).2 = S.2 := by
  induction n with
  | zero => rfl
  | succ n ih => exact ih
theorem passS_o {S : Sto} {n k f i : Nat} (h : ¬ (k = 0 ∧ f = 9) ∧ ¬ (k = 4 ∧ f = 9) ∧ ¬ (k = 4 ∧ f = 11)) : (passS S n).1 k f i = S.1 k f i := by
  induction n with
  | zero => rfl
  | succ n ih => exact (tenS_o h).trans ih
theorem passS_now {S : Sto} {n : Nat} : (passS S n).1 0 9 0 = S.1 0 9 0 + nI n := by
  induction n with
  | zero =>
    show S.1 0 9 0 = S.1 0 9 0 + 0
    rw [Int32.add_zero]
  | succ n ih =>
    show (tenS (passS S n) _).1 0 9 0 = _
    rw [tenS_now, ih, Int32.add_assoc, nI_s]
/-- who drives will arrive -/
def drvI (S : Sto) : Prop := ∀ i, i < S.2.2 22 → S.1 4 9 i ≠ -1 → S.1 0 9 0 < S.1 4 10 i
theorem drvI_s {S : Sto} (h : drvI S) (n : Nat) : drvI (passS S n) := by
  induction n with
  | zero => exact h
  | succ n ih =>
    intro i hi hd
    have e2 : (passS S n).2.2 22 = S.2.2 22 := by rw [passS_2]
    have e3 : (passS S (n + 1)).2.2 22 = S.2.2 22 := by rw [passS_2]
    have hi2 : i < (passS S n).2.2 22 := by omega
    have hd' : (tenS (passS S n) ((passS S n).2.2 22)).1 4 9 i ≠ -1 := hd
    show (tenS (passS S n) ((passS S n).2.2 22)).1 0 9 0 < (tenS (passS S n) ((passS S n).2.2 22)).1 4 10 i
    rw [tenS_rd, if_pos hi2] at hd'
    rw [tenS_now, tenS_o (by decide)]
    unfold rdT at hd'
    by_cases h1 : (passS S n).1 4 9 i = -1
    · rw [if_pos h1] at hd'
      exact absurd rfl hd'
    · rw [if_neg h1] at hd'
      by_cases h2 : (passS S n).1 0 9 0 + 1 < (passS S n).1 4 10 i
      · exact h2
      · rw [if_neg h2] at hd'
        exact absurd rfl hd'
/-- behind n tens and, of the next, the rigs below k -/
def pasM (S S0 : Sto) (n k : Nat) (S' : Sto) : Prop := S'.2 = S.2 ∧ S'.1 1 0 0 = (passS S0 n).1 0 9 0 ∧ (∀ i, i < S0.2.2 22 → S'.1 10 23 i = (if i < k then (passS S0 (n + 1)).1 4 9 i else (passS S0 n).1 4 9 i) ∧ S'.1 10 25 i = (if i < k then (passS S0 (n + 1)).1 4 11 i else (passS S0 n).1 4 11 i)) ∧
  ∀ k' f i, ¬ (k' = 1 ∧ f = 0 ∧ i = 0) → ¬ (k' = 10 ∧ f = 23 ∧ i < S0.2.2 22) → ¬ (k' = 10 ∧ f = 25 ∧ i < S0.2.2 22) → S'.1 k' f i = S.1 k' f i
def s_X7_pass : SP := fun as S Q => o1 1 as fun t => ∃ S0, ref S S0 ∧ (¬ rg t 1 144 → Q (Sum.inl (some (aI 0))) (lastS S 1)) ∧ (rg t 1 144 → ¬ (S0.1 0 9 0 + t ≤ 9999) → Q (Sum.inl (some (aI 0))) (lastS S 2)) ∧
  (rg t 1 144 → S0.1 0 9 0 + t ≤ 9999 → ∀ S', pasM (lastS S 0) S0 t.toNatClampNeg 0 S' → Q (Sum.inl (some (aI ((passS S0 t.toNatClampNeg).1 0 9 0)))) S')
def tb_X7_pass : Tb := [(0, .iload_n 1, 1, x0), (1, .iconst 1, 1, xI (1)), (2, .sipush 144, 3, xI (144)), (5, .invokestatic 109, 3, xS 3 0 s_X7_inB), (8, .istore_n 2, 1, x0), (9, .aload_n 0, 1, x0), (10, .iload_n 2, 1, x0), (11, .iload_n 2, 1, x0), (12, .ifCond .eq 19, 3, xN 31), (15, .aload_n 0, 1, x0), (16, .getfield 161, 3, xF 8 0 [783]), (19, .iload_n 1, 1, x0), (20, .iadd, 1, x0), (21, .sipush 9999, 3, xI (9999)), (24, .if_icmp .gt 7, 3, xN 31), (27, .iconst 1, 1, xI (1)), (28, .goto 4, 3, xN 32), (31, .iconst 0, 1, xI (0)), (32, .iconst 1, 1, xI (1)), (33, .invokevirtual 123, 3, xS 4 0 s_X7_goesB), (36, .ifCond .ne 5, 3, xN 41), (39, .iconst 0, 1, xI (0)), (40, .ireturn, 1, x0), (41, .iconst 0, 1, xI (0)), (42, .istore_n 3, 1, x0), (43, .iload_n 3, 1, x0), (44, .iload_n 1, 1, x0), (45, .if_icmp .ge 136, 3, xN 181), (48, .iconst 0, 1, xI (0)), (49, .istore 4, 2, x0), (51, .iload 4, 2, x0), (53, .aload_n 0, 1, x0), (54, .getfield 116, 3, xF 8 28 [811]), (57, .if_icmp .ge 108, 3, xN 165), (60, .aload_n 0, 1, x0), (61, .getfield 80, 3, xF 8 26 [809]), (64, .iload 4, 2, x0), (66, .dup2, 1, x0), (67, .iaload, 1, x0), (68, .aload_n 0, 1, x0), (69, .getfield 74, 3, xF 8 24 [807]), (72, .iload 4, 2, x0), (74, .iaload, 1, x0), (75, .iconst (-1), 1, xI (-1)), (76, .if_icmp .ne 35, 3, xN 111), (79, .aload_n 0, 1, x0), (80, .getfield 161, 3, xF 8 0 [783]), (83, .sipush 144, 3, xI (144)), (86, .irem, 1, x0), (87, .bipush 36, 2, xI (36)), (89, .if_icmp .lt 22, 3, xN 111), (92, .aload_n 0, 1, x0), (93, .getfield 7, 3, xF 8 1 [784]), (96, .aload_n 0, 1, x0), (97, .getfield 47, 3, xF 8 15 [798]), (100, .iload 4, 2, x0), (102, .iaload, 1, x0), (103, .baload, 1, x0), (104, .ifCond .ne 7, 3, xN 111), (107, .iconst 1, 1, xI (1)), (108, .goto 4, 3, xN 112), (111, .iconst 0, 1, xI (0)), (112, .iadd, 1, x0), (113, .iastore, 1, x0), (114, .aload_n 0, 1, x0), (115, .getfield 74, 3, xF 8 24 [807]), (118, .iload 4, 2, x0), (120, .aload_n 0, 1, x0), (121, .getfield 74, 3, xF 8 24 [807]), (124, .iload 4, 2, x0), (126, .iaload, 1, x0), (127, .iconst (-1), 1, xI (-1)), (128, .if_icmp .eq 23, 3, xN 151), (131, .aload_n 0, 1, x0), (132, .getfield 77, 3, xF 8 25 [808]), (135, .iload 4, 2, x0), (137, .iaload, 1, x0), (138, .aload_n 0, 1, x0), (139, .getfield 161, 3, xF 8 0 [783]), (142, .iconst 1, 1, xI (1)), (143, .iadd, 1, x0), (144, .if_icmp .ne 7, 3, xN 151), (147, .iconst (-1), 1, xI (-1)), (148, .goto 10, 3, xN 158), (151, .aload_n 0, 1, x0), (152, .getfield 74, 3, xF 8 24 [807]), (155, .iload 4, 2, x0), (157, .iaload, 1, x0), (158, .iastore, 1, x0), (159, .iinc 4 1, 3, xI (1)), (162, .goto (-111), 3, xN 51), (165, .aload_n 0, 1, x0), (166, .dup, 1, x0), (167, .getfield 161, 3, xF 8 0 [783]), (170, .iconst 1, 1, xI (1)), (171, .iadd, 1, x0), (172, .putfield 161, 3, xF 8 0 [783]), (175, .iinc 3 1, 3, xI (1)), (178, .goto (-135), 3, xN 43), (181, .aload_n 0, 1, x0), (182, .getfield 161, 3, xF 8 0 [783]), (185, .ireturn, 1, x0)]
theorem chk_X7_pass : chkTb cX7_pass "HeavyHaulModel" false tb_X7_pass = true := by decide +kernel
theorem cal_X7_pass {l : Launch} (hl : l.stackTraces = false) (hNL : NewL l) : CallsOK l "HeavyHaulModel" 1 tb_X7_pass := callsOK_f ⟨⟨_, _, 3, 0, _, (ct_X7_inB hl hNL), ⟨List.mem_of_getElem? (i := 911) (by decide +kernel), List.mem_of_getElem? (i := 44) (by decide +kernel), List.mem_of_getElem? (i := 909) (by decide +kernel), ⟨by decide +kernel, by decide +kernel⟩, by decide +kernel, by decide⟩, List.mem_of_getElem? (i := 910) (by decide +kernel), by decide⟩, ⟨_, _, 4, 0, _, 8, (ct_X7_goesB hl hNL), ⟨List.mem_of_getElem? (i := 915) (by decide +kernel), List.mem_of_getElem? (i := 44) (by decide +kernel), List.mem_of_getElem? (i := 912) (by decide +kernel), ⟨by decide +kernel, by decide +kernel⟩, by decide +kernel, by decide⟩, List.mem_of_getElem? (i := 914) (by decide +kernel), List.mem_of_getElem? (i := 25) (by decide +kernel), by decide, by decide, rc_X7_goesB⟩, trivial⟩
theorem ar_X7_pass : ∀ as S P, s_X7_pass as S P → as.length ≤ 5 ∧ ∀ a ∈ as, catV a = 1 := fun as S P h => by
  obtain ⟨_, rfl, _⟩ := o1_ok h
  exact ar_all ⟨Nat.le_of_ble_eq_true rfl, rfl⟩
theorem rc_X7_pass : ∀ as S P, s_X7_pass as S P → ∃ k i r, as = aR k i :: r ∧ ci k = 8 ∧ (obK k = true ∨ k = 13) := fun as S P h => by
  obtain ⟨_, rfl, _⟩ := o1_ok h
  exact ⟨_, _, _, rfl, rfl, Or.inl rfl⟩
set_option maxRecDepth 8000 in
theorem vc_X7_pass : ∀ (G : Gt) (Q : Out → Sto → Prop) (as : List AV) (S : Sto), s_X7_pass as S Q → Seg tb_X7_pass G Q 1 0 [] (0, fun _ => 0) → G 0 (argL as 5) [] S 0 := by
  intro G Q as S h hs
  obtain ⟨t, rfl, S0, hr, h0, h1, h2⟩ := o1_ok h
  have hn22 := hr.wf.2.1.2.2.1
  have hlr : ref (lastS S 0) S0 := onlyM.la.ref hr
  have e00 : S.1 1 0 0 = S0.1 0 9 0 := hr.ct.2.2.2.2.2
  have hdrv : drvI S0 := fun i hi => (hr.ri hi).2.2.2.2.2.2.2.2.2.2.2.2
  obtain ⟨T, hT, hT9⟩ := hr.1.2.2.2.2.2.2.2.2.2.2.2
  have main : rg t 1 144 → S0.1 0 9 0 + t ≤ 9999 → G 41 [some (aR 1 0), some (aI t), some (aI 1), none, none] [] (lastS S 0) 0 := by
    intro hk hle
    have h3 := h2 hk hle
    have htn : ¬ t < 0 := fun q => hk.1 (Int32.lt_trans q (by decide))
    have et : t = nI t.toNatClampNeg := nm_eq (n := 0) htn
    have ht9 : t.toNatClampNeg ≤ 144 := by
      have h9 : nI t.toNatClampNeg ≤ nI 144 := by rw [← et]; exact hk.2
      obtain ⟨q, hq, rfl⟩ := nI_of htn
      rw [nI_cl hq] at h9 ⊢
      exact (nI_le2 hq (by omega)).mp h9
    generalize t.toNatClampNeg = N at et ht9 h3
    subst et
    have hTN : T + N ≤ 9999 := by
      rw [hT, nI_add] at hle
      exact (nI_le2 (a := T + N) (b := 9999) (by omega) (by omega)).mp hle
    have outer : ∀ m n, n + m = N → ∀ Sn, pasM (lastS S 0) S0 n 0 Sn → ∀ x, G 43 [some (aR 1 0), some (aI (nI N)), some (aI 1), some (aI (nI n)), x] [] Sn 0 := by
      intro m
      induction m with
      | zero =>
        intro n hn Sn hP x
        obtain rfl : n = N := hn
        have h4 := h3 Sn hP
        rw [← hP.2.1] at h4
        refine hs [43] 60 43 _ _ _ _ ?_
        exact ⟨fun _ => h4, fun q => (lp_end q).elim⟩
      | succ m ih =>
        intro n hn Sn hP x
        have enow : (passS S0 n).1 0 9 0 = nI (T + n) := by rw [passS_now, hT, nI_add]
        have inner : ∀ m2 k, k + m2 = S0.2.2 22 → ∀ Sk, pasM (lastS S 0) S0 n k Sk → G 51 [some (aR 1 0), some (aI (nI N)), some (aI 1), some (aI (nI n)), some (aI (nI k))] [] Sk 0 := by
          intro m2
          induction m2 with
          | zero =>
            intro k hk Sk hPk
            obtain rfl : k = S0.2.2 22 := hk
            obtain ⟨p1, p2, p3, p4⟩ := hPk
            have e28 : Sk.1 1 28 0 = nI (S0.2.2 22) := (p4 1 28 0 (by decide) (fun q => absurd q.1 (by decide)) (fun q => absurd q.1 (by decide))).trans hlr.ct.2.2.1
            have hP' : pasM (lastS S 0) S0 (n + 1) 0 (wrI Sk 1 0 0 (Sk.1 1 0 0 + 1)) := by
              refine ⟨p1, ?_, fun i hi => ?_, fun k' f i q1 q2 q3 => ?_⟩
              · rw [wrI_at, if_pos ⟨rfl, rfl, rfl⟩, p2, passS_now, passS_now, Int32.add_assoc, nI_s]
              · rw [wrI_ne fun q => absurd q.1 (by decide), wrI_ne fun q => absurd q.1 (by decide), (p3 i hi).1, (p3 i hi).2, if_pos hi, if_pos hi, if_neg (Nat.not_lt_zero _), if_neg (Nat.not_lt_zero _)]
                exact ⟨rfl, rfl⟩
              · rw [wrI_ne q1]
                exact p4 k' f i q1 q2 q3
            have h5 := ih (n + 1) (by omega) _ hP' (some (aI (nI (S0.2.2 22))))
            rw [← nI_s] at h5
            refine hs [43, 51] 60 51 _ _ _ _ ?_
            refine ⟨fun _ => h5, fun q => ?_⟩
            rw [e28] at q
            exact (lp_end q).elim
          | succ m2 ih2 =>
            intro k hk Sk hPk
            have hk2 : k < S0.2.2 22 := by omega
            obtain ⟨p1, p2, p3, p4⟩ := hPk
            have e28 : Sk.1 1 28 0 = nI (S0.2.2 22) := (p4 1 28 0 (by decide) (fun q => absurd q.1 (by decide)) (fun q => absurd q.1 (by decide))).trans hlr.ct.2.2.1
            have hvk : vp_in (nI k) 6 := nI_vin (by omega) (by omega)
            have hvk2 : (nI k).toNatClampNeg = k := nI_cl (by omega)
            obtain ⟨r14, -, -, -, -, -, -, -, r24, -⟩ := hlr.ri hk2
            have e14 : Sk.1 10 14 k = S0.1 4 8 k := (p4 10 14 k (fun q => absurd q.1 (by decide)) (fun q => absurd q.2.1 (by decide)) (fun q => absurd q.2.1 (by decide))).trans r14
            have e24 : Sk.1 10 24 k = S0.1 4 10 k := (p4 10 24 k (fun q => absurd q.1 (by decide)) (fun q => absurd q.2.1 (by decide)) (fun q => absurd q.2.1 (by decide))).trans r24
            have e11 : ∀ i, Sk.1 11 1 i = S0.1 11 0 i := fun i => by
              rw [p4 11 1 i (fun q => absurd q.1 (by decide)) (fun q => absurd q.1 (by decide)) (fun q => absurd q.1 (by decide)), hlr.2.2.2]
              exact ((hr.1.2.2.2.2.2.2.2.2.2.2.1 i).1).symm
            obtain ⟨r23, r25⟩ := p3 k hk2
            rw [if_neg (Nat.lt_irrefl k)] at r23 r25
            obtain ⟨a, d, pl, -, -, epl, -, -, -, -, pl10⟩ := hr.wf.2.2.2.2.2.2.2 k hk2
            have hvp : vp_in (S0.1 4 8 k) 10 := by rw [epl]; exact nI_vin (by omega) pl10
            have o8 : (passS S0 n).1 4 8 k = S0.1 4 8 k := passS_o (by decide)
            have o10 : (passS S0 n).1 4 10 k = S0.1 4 10 k := passS_o (by decide)
            have o11 : ∀ i, (passS S0 n).1 11 0 i = S0.1 11 0 i := fun i => passS_o ⟨fun q => absurd q.1 (by decide), fun q => absurd q.1 (by decide), fun q => absurd q.1 (by decide)⟩
            have n22 : (passS S0 n).2.2 22 = S0.2.2 22 := by rw [passS_2]
            have eR : (passS S0 (n + 1)).1 4 9 k = rdT (passS S0 n) k := by
              show (tenS (passS S0 n) ((passS S0 n).2.2 22)).1 4 9 k = _
              rw [tenS_rd, n22, if_pos hk2]
            have eB : (passS S0 (n + 1)).1 4 11 k = brT (passS S0 n) k := by
              show (tenS (passS S0 n) ((passS S0 n).2.2 22)).1 4 11 k = _
              rw [tenS_br, n22, if_pos hk2]
            -- both cells of the rig k
            have stp : ∀ vb vr, vb = brT (passS S0 n) k → vr = rdT (passS S0 n) k → G 51 [some (aR 1 0), some (aI (nI N)), some (aI 1), some (aI (nI n)), some (aI (nI k + 1))] [] (wrI (wrI Sk 10 25 k vb) 10 23 k vr) 0 := fun vb vr hb hv => by
              rw [nI_s]
              refine ih2 (k + 1) (by omega) _ ⟨p1, ?_, fun i hi => ?_, fun k' f i q1 q2 q3 => ?_⟩
              · rw [wrI_ne fun q => absurd q.1 (by decide), wrI_ne fun q => absurd q.1 (by decide)]
                exact p2
              · by_cases e : i = k
                · have c1 : (wrI (wrI Sk 10 25 k vb) 10 23 k vr).1 10 23 i = vr := by rw [wrI_at]; exact if_pos ⟨rfl, rfl, e⟩
                  have c2 : (wrI (wrI Sk 10 25 k vb) 10 23 k vr).1 10 25 i = vb := by rw [wrI_ne fun q => absurd q.2.1 (by decide), wrI_at]; exact if_pos ⟨rfl, rfl, e⟩
                  rw [c1, c2, if_pos (by omega), if_pos (by omega), e, eR, eB]
                  exact ⟨hv, hb⟩
                · have c1 : (wrI (wrI Sk 10 25 k vb) 10 23 k vr).1 10 23 i = Sk.1 10 23 i := by rw [wrI_ne fun q => e q.2.2, wrI_ne fun q => e q.2.2]
                  have c2 : (wrI (wrI Sk 10 25 k vb) 10 23 k vr).1 10 25 i = Sk.1 10 25 i := by rw [wrI_ne fun q => e q.2.2, wrI_ne fun q => e q.2.2]
                  rw [c1, c2, (p3 i hi).1, (p3 i hi).2]
                  by_cases e2 : i < k
                  · rw [if_pos e2, if_pos e2, if_pos (by omega), if_pos (by omega)]
                    exact ⟨rfl, rfl⟩
                  · rw [if_neg e2, if_neg e2, if_neg (by omega), if_neg (by omega)]
                    exact ⟨rfl, rfl⟩
              · rw [wrI_ne fun q => q2 ⟨q.1, q.2.1, by omega⟩, wrI_ne fun q => q3 ⟨q.1, q.2.1, by omega⟩]
                exact p4 k' f i q1 q2 q3
            -- the second half: the road
            have h114 : ∀ vb, vb = brT (passS S0 n) k → G 114 [some (aR 1 0), some (aI (nI N)), some (aI 1), some (aI (nI n)), some (aI (nI k))] [] (wrI Sk 10 25 k vb) 0 := fun vb hb => by
              have w23 : (wrI Sk 10 25 k vb).1 10 23 k = (passS S0 n).1 4 9 k := by rw [wrI_ne fun q => absurd q.2.1 (by decide)]; exact r23
              have w24 : (wrI Sk 10 25 k vb).1 10 24 k = S0.1 4 10 k := by rw [wrI_ne fun q => absurd q.2.1 (by decide)]; exact e24
              have w0 : (wrI Sk 10 25 k vb).1 1 0 0 = (passS S0 n).1 0 9 0 := by rw [wrI_ne fun q => absurd q.1 (by decide)]; exact p2
              refine hs [51] 60 114 _ _ _ _ ?_
              refine ⟨hvk, ?_⟩
              rw [hvk2, w23]
              refine ⟨fun z => ⟨hvk, hvk, ?_⟩, fun z => ⟨hvk, ?_⟩⟩
              · rw [hvk2, w23]
                refine stp _ _ hb ?_
                unfold rdT
                rw [if_pos z, z]
              · rw [hvk2, w24]
                refine ⟨fun y0 => ⟨hvk, hvk, ?_⟩, fun y0 => ⟨hvk, ?_⟩⟩
                · have y : ¬ S0.1 4 10 k = (passS S0 n).1 0 9 0 + 1 := fun q => y0 (by
                    show S0.1 4 10 k = (wrI Sk 10 25 k vb).1 1 0 0 + 1
                    rw [w0]
                    exact q)
                  rw [hvk2, w23]
                  refine stp _ _ hb ?_
                  unfold rdT
                  have hlt : (passS S0 n).1 0 9 0 < (passS S0 n).1 4 10 k := drvI_s hdrv n k (by omega) z
                  have hlt2 : (passS S0 n).1 0 9 0 + 1 < (passS S0 n).1 4 10 k := by
                    have hy : ¬ (passS S0 n).1 4 10 k = (passS S0 n).1 0 9 0 + 1 := fun q => y (by rw [← q]; exact o10.symm)
                    rw [enow] at hlt hy ⊢
                    rw [nI_s] at hy ⊢
                    rw [Int32.lt_iff_toInt_lt, nI_toInt (by omega)] at hlt ⊢
                    have hy2 : ¬ ((passS S0 n).1 4 10 k).toInt = ((T + n + 1 : Nat) : Int) := fun q => hy (Int32.toInt_inj.mp (q.trans (nI_toInt (by omega)).symm))
                    omega
                  rw [if_neg z, if_pos hlt2]
                · have y : S0.1 4 10 k = (passS S0 n).1 0 9 0 + 1 := by
                    rw [← w0]
                    exact y0
                  rw [hvk2]
                  refine stp _ _ hb ?_
                  unfold rdT
                  have y2 : (passS S0 n).1 4 10 k = (passS S0 n).1 0 9 0 + 1 := o10.trans y
                  rw [if_neg z, if_neg (by rw [y2]; exact Int32.lt_irrefl)]
            have bq : ∀ c : Prop, (c ↔ ((passS S0 n).1 4 9 k = -1 ∧ dayB ((passS S0 n).1 0 9 0) = true ∧ (passS S0 n).1 11 0 ((passS S0 n).1 4 8 k).toNatClampNeg = 0)) → (c → (passS S0 n).1 4 11 k + 1 = brT (passS S0 n) k) ∧ (¬ c → (passS S0 n).1 4 11 k + 0 = brT (passS S0 n) k) := fun c hc => by
              unfold brT
              refine ⟨fun z => (if_pos (hc.mp z)).symm, fun z => ?_⟩
              rw [if_neg fun y => z (hc.mpr y), Int32.add_zero]
            have bq2 := bq _ Iff.rfl
            have rd : ∀ x : Int32, dayB x = true ↔ 36 ≤ x - x / 144 * 144 := fun x => decide_eq_true_iff
            refine hs [114, 51] 60 51 _ _ _ _ ?_
            refine ⟨fun q => ?_, fun _ => ⟨hvk, hvk, ?_⟩⟩
            · rw [e28] at q
              exact absurd q (lp_go (by omega) hk2)
            · rw [hvk2, r25, r23]
              refine ⟨fun z => ⟨hvk, ?_⟩, fun z => ⟨rem144 0, ?_⟩⟩
              · rw [hvk2]
                exact h114 _ (bq2.2 fun y => z y.1)
              · rw [p2]
                refine ⟨fun y => ⟨hvk, ?_⟩, fun y => ⟨hvk, ?_⟩⟩
                · rw [hvk2]
                  exact h114 _ (bq2.2 fun w => absurd ((rd _).mp w.2.1) (Int32.not_le.mpr y))
                · rw [hvk2, e14]
                  refine ⟨hvp, fun w => ⟨hvk, ?_⟩, fun w => ⟨hvk, ?_⟩⟩
                  · rw [hvk2]
                    exact h114 _ (bq2.2 fun v => w (by
                      show Sk.1 11 1 (S0.1 4 8 k).toNatClampNeg = 0
                      rw [e11, ← v.2.2, o8, o11]))
                  · rw [hvk2]
                    exact h114 _ (bq2.1 ⟨z, (rd _).mpr (Int32.not_lt.mp y), by rw [o8, o11, ← e11]; exact w⟩)
        refine hs [51] 60 43 _ _ _ _ ?_
        refine ⟨fun q => absurd q (lp_go (n := N) (by omega) (by omega)), fun _ => ?_⟩
        exact inner (S0.2.2 22) 0 (by omega) Sn hP
    refine hs [43] 60 41 _ _ _ _ ?_
    refine outer N 0 (by omega) _ ⟨rfl, ?_, fun i hi => ?_, fun _ _ _ _ _ _ => rfl⟩ none
    · exact e00
    · rw [if_neg (Nat.not_lt_zero _), if_neg (Nat.not_lt_zero _)]
      obtain ⟨-, -, -, -, -, -, -, r23, -, r25, -⟩ := hlr.ri hi
      exact ⟨r23, r25⟩
  have g32 : ∀ x y : Bool, x = dP (rg t 1 144) → (x = true → y = dP (S0.1 0 9 0 + t ≤ 9999)) → G 32 [some (aR 1 0), some (aI t), some (aI (bV x)), none, none] [aI (bV y), aI (bV x), aR 1 0] S 0 := fun x y hx hy => by
    refine hs [41] 60 32 _ _ _ _ ?_
    refine ⟨rfl, rfl, x, y, true, rfl, rfl, rfl, fun z => ⟨fun w => absurd rfl w, fun _ => h0 fun v => ?_⟩, fun z w => ⟨fun v => absurd rfl v, fun _ => h1 ?_ fun v => ?_⟩, fun _ _ z => (nomatch z), fun z w _ => ⟨fun _ => ?_, fun v => absurd v (by decide)⟩⟩
    · rw [hx, dP_t v] at z
      cases z
    · by_cases v : rg t 1 144
      · exact v
      · rw [hx, dP_f v] at z
        cases z
    · rw [hy z, dP_t v] at w
      cases w
    · subst z
      subst w
      refine main ?_ ?_
      · by_cases v : rg t 1 144
        · exact v
        · rw [dP_f v] at hx
          cases hx
      · by_cases v : S0.1 0 9 0 + t ≤ 9999
        · exact v
        · have := hy rfl
          rw [dP_f v] at this
          cases this
  refine hs [32] 60 0 _ _ _ _ ?_
  refine dz_eq (fun q => ?_) (fun q => ?_)
  · have := g32 false false (dP_f q).symm (fun z => nomatch z)
    rw [dP_f q]
    exact this
  · rw [dP_t q]
    refine ⟨fun z => ?_, fun z => ?_⟩
    · have z' : 9999 < S0.1 0 9 0 + t := by rw [← e00]; exact z
      exact g32 true false (dP_t q).symm (fun _ => (dP_f (Int32.not_le.mpr z')).symm)
    · have z' : ¬ 9999 < S0.1 0 9 0 + t := by rw [← e00]; exact z
      exact g32 true true (dP_t q).symm (fun _ => (dP_t (Int32.not_lt.mp z')).symm)
theorem ct_X7_pass {l : Launch} (hl : l.stackTraces = false) (hNL : NewL l) : CT l yX7_pass cX7_pass 5 (some .int) 1 0 s_X7_pass := CT_of hl hNL (by decide +kernel) (own := "HeavyHaulModel") rfl (ini := false) (fun q => nomatch q) chk_X7_pass (cal_X7_pass hl hNL) ar_X7_pass vc_X7_pass
