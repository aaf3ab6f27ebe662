/-! BRIDGES: the sum at a step, the greatest -/
def posF (st ap : Int32) (k : Nat) : Int32 := st - nI k * ap
def wtF (fr re ax idx : Int32) : Int32 := if ax / 2 ≤ idx then re else fr
def valF (w p sp isM : Int32) : Int32 := if isM = 0 then w else w * (if sp - p < p then sp - p else p)
def sumF (fr re ax ap sp st isM isB : Int32) : Nat → Int32
  | 0 => 0
  | k + 1 => if posF st ap k < 0 ∨ sp < posF st ap k then sumF fr re ax ap sp st isM isB k else sumF fr re ax ap sp st isM isB k + valF (wtF fr re ax (if isB = 0 then nI k else ax - 1 - nI k)) (posF st ap k) sp isM
def topF (f : Nat → Int32) : Nat → Int32
  | 0 => 0
  | n + 1 => if topF f n < f n then f n else topF f n
def sumH (S : Sto) (sp : Int32) (j : Nat) (st isM isB : Int32) : Int32 := sumF (S.1 4 6 j) (S.1 4 7 j) (S.1 4 0 j) (S.1 4 1 j) sp st isM isB (S.1 4 0 j).toNatClampNeg
def lastN (S : Sto) (i j : Nat) : Nat := (S.1 2 7 i + (S.1 4 0 j - 1) * S.1 4 1 j).toNatClampNeg
def greatH (S : Sto) (i j : Nat) (isM isB : Int32) : Int32 := if S.1 2 7 i ≤ 0 then -1 else topF (fun n => sumH S (S.1 2 7 i) j (nI n) isM isB) (lastN S i j + 1)
def s_X6_sumAtStep : SP := vS fun as S k => ir3 as fun s j t a b => WfH S ∧ j < S.2.2 22 ∧ k (some (aI (sumH S s j t a b)))
def tb_X6_sumAtStep : Tb := [(0, .iconst 0, 1, xI (0)), (1, .istore 5, 2, x0), (3, .iconst 0, 1, xI (0)), (4, .istore 6, 2, x0), (6, .iload 6, 2, x0), (8, .aload_n 1, 1, x0), (9, .getfield 142, 3, xF 4 0 [372]), (12, .if_icmp .ge 82, 3, xN 94), (15, .iload_n 2, 1, x0), (16, .iload 6, 2, x0), (18, .aload_n 1, 1, x0), (19, .getfield 238, 3, xF 4 1 [374]), (22, .imul, 1, x0), (23, .isub, 1, x0), (24, .istore 7, 2, x0), (26, .iload 7, 2, x0), (28, .ifCond .lt 60, 3, xN 88), (31, .iload 7, 2, x0), (33, .iload_n 0, 1, x0), (34, .if_icmp .gt 54, 3, xN 88), (37, .aload_n 1, 1, x0), (38, .iload 4, 2, x0), (40, .ifCond .eq 15, 3, xN 55), (43, .aload_n 1, 1, x0), (44, .getfield 142, 3, xF 4 0 [372]), (47, .iconst 1, 1, xI (1)), (48, .isub, 1, x0), (49, .iload 6, 2, x0), (51, .isub, 1, x0), (52, .goto 5, 3, xN 57), (55, .iload 6, 2, x0), (57, .invokevirtual 145, 3, xS 2 0 s_X3_weightOf), (60, .istore 8, 2, x0), (62, .iload 5, 2, x0), (64, .iload_n 3, 1, x0), (65, .ifCond .eq 18, 3, xN 83), (68, .iload 8, 2, x0), (70, .iload 7, 2, x0), (72, .iload_n 0, 1, x0), (73, .iload 7, 2, x0), (75, .isub, 1, x0), (76, .invokestatic 251, 3, (((2, 8, 0), [], (0, sMin)) : Xi)), (79, .imul, 1, x0), (80, .goto 5, 3, xN 85), (83, .iload 8, 2, x0), (85, .iadd, 1, x0), (86, .istore 5, 2, x0), (88, .iinc 6 1, 3, xI (1)), (91, .goto (-85), 3, xN 6), (94, .iload 5, 2, x0), (96, .ireturn, 1, x0)]
theorem chk_X6_sumAtStep : chkTb cX6_sumAtStep "HeavyHaul" false tb_X6_sumAtStep = true := by decide +kernel
theorem cal_X6_sumAtStep {l : Launch} (hl : l.stackTraces = false) (hNL : NewL l) : CallsOK l "HeavyHaul" 1 tb_X6_sumAtStep := callsOK_f ⟨⟨_, _, 2, 0, _, 4, (ct_X3_weightOf hl hNL), ⟨List.mem_of_getElem? (i := 647) (by decide +kernel), List.mem_of_getElem? (i := 41) (by decide +kernel), List.mem_of_getElem? (i := 644) (by decide +kernel), ⟨by decide +kernel, by decide +kernel⟩, by decide +kernel, by decide⟩, List.mem_of_getElem? (i := 645) (by decide +kernel), List.mem_of_getElem? (i := 646) (by decide +kernel), by decide, by decide, rc_X3_weightOf⟩, ⟨List.mem_of_getElem? (i := 648) (by decide +kernel), rfl, rfl, rfl⟩, trivial⟩
theorem ar_X6_sumAtStep : ∀ as S P, s_X6_sumAtStep as S P → as.length ≤ 9 ∧ ∀ a ∈ as, catV a = 1 := fun as S P h => by
  obtain ⟨_, _, _, _, _, rfl, _⟩ := ir3_ok h
  exact ar_all ⟨Nat.le_of_ble_eq_true rfl, rfl⟩
theorem vc_X6_sumAtStep : ∀ (G : Gt) (Q : Out → Sto → Prop) (as : List AV) (S : Sto), s_X6_sumAtStep as S Q → Seg tb_X6_sumAtStep G Q 1 0 [] (0, fun _ => 0) → G 0 (argL as 9) [] S 0 := by
  intro G Q as S h hs
  obtain ⟨sp, j, st, isM, isB, rfl, hW, hj, hQ⟩ := ir3_ok h
  obtain ⟨a, d, p, ha, hd, -, a1, a8, -⟩ := hW.2.2.2.2.2.2.2 j hj
  have hA : (S.1 4 0 j).toNatClampNeg = 2 * a := by rw [ha]; exact nI_cl (by omega)
  unfold sumH at hQ
  rw [hA] at hQ
  have n2 : ¬ (2 : Int32) = 0 := by decide
  have loop : ∀ m k, k + m = 2 * a → ∀ x y, G 6 [some (aI sp), some (aR 4 j), some (aI st), some (aI isM), some (aI isB), some (aI (sumF (S.1 4 6 j) (S.1 4 7 j) (S.1 4 0 j) (S.1 4 1 j) sp st isM isB k)), some (aI (nI k)), x, y] [] S 0 := by
    intro m
    induction m with
    | zero =>
      intro k hk x y
      obtain rfl : k = 2 * a := hk
      refine hs [6] 60 6 _ _ _ _ ?_
      refine ⟨fun _ => hQ, fun q => ?_⟩
      rw [ha] at q
      exact (lp_end q).elim
    | succ m ih =>
      intro k hk x y
      have key : ∀ v y', v = sumF (S.1 4 6 j) (S.1 4 7 j) (S.1 4 0 j) (S.1 4 1 j) sp st isM isB (k + 1) → G 6 [some (aI sp), some (aR 4 j), some (aI st), some (aI isM), some (aI isB), some (aI v), some (aI (nI k + 1)), some (aI (posF st (S.1 4 1 j) k)), y'] [] S 0 := fun v y' hv => by
        have h1 := ih (k + 1) (by omega) (some (aI (posF st (S.1 4 1 j) k))) y'
        rw [hv, nI_s]
        exact h1
      refine hs [6] 60 6 _ _ _ _ ?_
      refine ⟨fun q => ?_, fun _ => ⟨fun q1 => key _ y (if_pos (Or.inl q1)).symm, fun q1 => ⟨fun q2 => key _ y (if_pos (Or.inr q2)).symm, fun q2 => ?_⟩⟩⟩
      · rw [ha] at q
        exact absurd q (lp_go (by omega) (by omega))
      · have hno : ¬ (posF st (S.1 4 1 j) k < 0 ∨ sp < posF st (S.1 4 1 j) k) := fun z => z.elim q1 q2
        have fin : ∀ idx, idx = (if isB = 0 then nI k else S.1 4 0 j - 1 - nI k) → ∀ w, w = wtF (S.1 4 6 j) (S.1 4 7 j) (S.1 4 0 j) idx → ∀ v, v = valF w (posF st (S.1 4 1 j) k) sp isM → sumF (S.1 4 6 j) (S.1 4 7 j) (S.1 4 0 j) (S.1 4 1 j) sp st isM isB k + v = sumF (S.1 4 6 j) (S.1 4 7 j) (S.1 4 0 j) (S.1 4 1 j) sp st isM isB (k + 1) := fun idx hi w hw v hv => by
          subst hi
          subst hw
          subst hv
          exact (if_neg hno).symm
        refine ⟨fun q3 => ⟨n2, fun q4 => ⟨fun q5 => ?_, fun q5 => ?_⟩, fun q4 => ⟨fun q5 => ?_, fun q5 => ?_⟩⟩, fun q3 => ⟨n2, fun q4 => ⟨fun q5 => ?_, fun q5 => ?_⟩, fun q4 => ⟨fun q5 => ?_, fun q5 => ?_⟩⟩⟩
        · exact key _ _ (fin _ (if_pos q3).symm _ (if_pos q4).symm _ (if_pos q5).symm)
        · exact key _ _ (fin _ (if_pos q3).symm _ (if_pos q4).symm _ (if_neg q5).symm)
        · exact key _ _ (fin _ (if_pos q3).symm _ (if_neg q4).symm _ (if_pos q5).symm)
        · exact key _ _ (fin _ (if_pos q3).symm _ (if_neg q4).symm _ (if_neg q5).symm)
        · exact key _ _ (fin _ (if_neg q3).symm _ (if_pos q4).symm _ (if_pos q5).symm)
        · exact key _ _ (fin _ (if_neg q3).symm _ (if_pos q4).symm _ (if_neg q5).symm)
        · exact key _ _ (fin _ (if_neg q3).symm _ (if_neg q4).symm _ (if_pos q5).symm)
        · exact key _ _ (fin _ (if_neg q3).symm _ (if_neg q4).symm _ (if_neg q5).symm)
  exact hs [6] 60 0 _ _ _ _ (loop (2 * a) 0 (by omega) none none)
theorem ct_X6_sumAtStep {l : Launch} (hl : l.stackTraces = false) (hNL : NewL l) : CT l yX6_sumAtStep cX6_sumAtStep 9 (some .int) 1 0 s_X6_sumAtStep := CT_of hl hNL (by decide +kernel) (own := "HeavyHaul") rfl (ini := false) (fun q => nomatch q) chk_X6_sumAtStep (cal_X6_sumAtStep hl hNL) ar_X6_sumAtStep vc_X6_sumAtStep
theorem lastN_ok {S : Sto} (hW : WfH S) {i j : Nat} (hi : i < S.2.2 20) (hj : j < S.2.2 22) : S.1 2 7 i + (S.1 4 0 j - 1) * S.1 4 1 j = nI (lastN S i j) ∧ lastN S i j ≤ 200 := by
  obtain ⟨p, q, a, t, s, -, -, -, -, h1, -, -, -, -, -, -, h2⟩ := hW.2.2.2.2.2.2.1 i hi
  obtain ⟨b, d, r, k1, k2, -, k3, k4, k5, k6, -⟩ := hW.2.2.2.2.2.2.2 j hj
  have e : S.1 2 7 i + (S.1 4 0 j - 1) * S.1 4 1 j = nI (s + (2 * b - 1) * d) := by
    have e1 : (1 : Int32) = nI 1 := rfl
    rw [h1, k1, k2, e1, nI_sub (by omega), nI_mul, nI_add]
  have hb : (2 * b - 1) * d ≤ 15 * 5 := Nat.mul_le_mul (by omega) k6
  have e2 : lastN S i j = s + (2 * b - 1) * d := by
    unfold lastN
    rw [e]
    exact nI_cl (by omega)
  rw [e2]
  exact ⟨e, by omega⟩
def s_X6_greatestOver : SP := vS fun as S k => rr2 as fun i j a b => WfH S ∧ i < S.2.2 20 ∧ j < S.2.2 22 ∧ k (some (aI (greatH S i j a b)))
def tb_X6_greatestOver : Tb := [(0, .aload_n 0, 1, x0), (1, .invokevirtual 90, 3, xS 1 0 s_X4_hasBridge), (4, .ifCond .ne 5, 3, xN 9), (7, .iconst (-1), 1, xI (-1)), (8, .ireturn, 1, x0), (9, .iconst 0, 1, xI (0)), (10, .istore 4, 2, x0), (12, .aload_n 0, 1, x0), (13, .getfield 94, 3, xF 5 7 [277]), (16, .aload_n 1, 1, x0), (17, .getfield 142, 3, xF 4 0 [372]), (20, .iconst 1, 1, xI (1)), (21, .isub, 1, x0), (22, .aload_n 1, 1, x0), (23, .getfield 238, 3, xF 4 1 [374]), (26, .imul, 1, x0), (27, .iadd, 1, x0), (28, .istore 5, 2, x0), (30, .iconst 0, 1, xI (0)), (31, .istore 6, 2, x0), (33, .iload 6, 2, x0), (35, .iload 5, 2, x0), (37, .if_icmp .gt 32, 3, xN 69), (40, .aload_n 0, 1, x0), (41, .getfield 94, 3, xF 5 7 [277]), (44, .aload_n 1, 1, x0), (45, .iload 6, 2, x0), (47, .iload_n 2, 1, x0), (48, .iload_n 3, 1, x0), (49, .invokestatic 241, 3, xS 5 0 s_X6_sumAtStep), (52, .istore 7, 2, x0), (54, .iload 4, 2, x0), (56, .iload 7, 2, x0), (58, .invokestatic 245, 3, (((2, 7, 0), [], (0, sMax)) : Xi)), (61, .istore 4, 2, x0), (63, .iinc 6 1, 3, xI (1)), (66, .goto (-33), 3, xN 33), (69, .iload 4, 2, x0), (71, .ireturn, 1, x0)]
theorem chk_X6_greatestOver : chkTb cX6_greatestOver "HeavyHaul" false tb_X6_greatestOver = true := by decide +kernel
theorem cal_X6_greatestOver {l : Launch} (hl : l.stackTraces = false) (hNL : NewL l) : CallsOK l "HeavyHaul" 2 tb_X6_greatestOver := callsOK_f ⟨⟨_, _, 1, 0, _, 5, (ct_X4_hasBridge hl hNL), ⟨List.mem_of_getElem? (i := 535) (by decide +kernel), List.mem_of_getElem? (i := 37) (by decide +kernel), List.mem_of_getElem? (i := 532) (by decide +kernel), ⟨by decide +kernel, by decide +kernel⟩, by decide +kernel, by decide⟩, List.mem_of_getElem? (i := 533) (by decide +kernel), List.mem_of_getElem? (i := 534) (by decide +kernel), by decide, by decide, rc_X4_hasBridge⟩, ⟨_, _, 9, 1, _, (ct_X6_sumAtStep hl hNL), ⟨List.mem_of_getElem? (i := 643) (by decide +kernel), List.mem_of_getElem? (i := 26) (by decide +kernel), List.mem_of_getElem? (i := 641) (by decide +kernel), ⟨by decide +kernel, by decide +kernel⟩, by decide +kernel, by decide⟩, List.mem_of_getElem? (i := 642) (by decide +kernel), by decide⟩, ⟨List.mem_of_getElem? (i := 630) (by decide +kernel), rfl, rfl, rfl⟩, trivial⟩
theorem ar_X6_greatestOver : ∀ as S P, s_X6_greatestOver as S P → as.length ≤ 8 ∧ ∀ a ∈ as, catV a = 1 := fun as S P h => by
  obtain ⟨_, _, _, _, rfl, _⟩ := rr2_ok h
  exact ar_all ⟨Nat.le_of_ble_eq_true rfl, rfl⟩
theorem vc_X6_greatestOver : ∀ (G : Gt) (Q : Out → Sto → Prop) (as : List AV) (S : Sto), s_X6_greatestOver as S Q → Seg tb_X6_greatestOver G Q 1 0 [] (0, fun _ => 0) → G 0 (argL as 8) [] S 0 := by
  intro G Q as S h hs
  obtain ⟨i, j, isM, isB, rfl, hW, hi, hj, hQ⟩ := rr2_ok h
  obtain ⟨hl, hl2⟩ := lastN_ok hW hi hj
  by_cases hsp : S.1 2 7 i ≤ 0
  · unfold greatH at hQ
    rw [if_pos hsp] at hQ
    refine hs [33] 60 0 _ _ _ _ ?_
    refine ⟨fun _ => ⟨rfl, fun q => absurd rfl q, fun _ => hQ⟩, fun q => absurd hsp q⟩
  · unfold greatH at hQ
    rw [if_neg hsp] at hQ
    generalize lastN S i j = L at hl hl2 hQ
    have loop : ∀ m k, k + m = L + 1 → ∀ x, G 33 [some (aR 2 i), some (aR 4 j), some (aI isM), some (aI isB), some (aI (topF (fun n => sumH S (S.1 2 7 i) j (nI n) isM isB) k)), some (aI (nI L)), some (aI (nI k)), x] [] S 0 := by
      intro m
      induction m with
      | zero =>
        intro k hk x
        obtain rfl : k = L + 1 := hk
        refine hs [33] 60 33 _ _ _ _ ?_
        exact ⟨fun _ => hQ, fun q => absurd ((nI_lt2 (by omega) (by omega)).mpr (Nat.lt_succ_self L)) q⟩
      | succ m ih =>
        intro k hk x
        refine hs [33] 60 33 _ _ _ _ ?_
        refine ⟨fun q => absurd ((nI_lt2 (by omega) (by omega)).mp q) (by omega), fun _ => ⟨rfl, hW, hj, ?_⟩⟩
        have h1 := ih (k + 1) (by omega) (some (aI (sumH S (S.1 2 7 i) j (nI k) isM isB)))
        rw [← nI_s] at h1
        exact h1
    refine hs [33] 60 0 _ _ _ _ ?_
    refine ⟨fun q => absurd q hsp, fun _ => ⟨rfl, fun _ => ?_, fun q => absurd q (by decide)⟩⟩
    have h0 := loop (L + 1) 0 (by omega) none
    rw [← hl] at h0
    exact h0
theorem ct_X6_greatestOver {l : Launch} (hl : l.stackTraces = false) (hNL : NewL l) : CT l yX6_greatestOver cX6_greatestOver 8 (some .int) 2 0 s_X6_greatestOver := CT_of hl hNL (by decide +kernel) (own := "HeavyHaul") rfl (ini := false) (fun q => nomatch q) chk_X6_greatestOver (cal_X6_greatestOver hl hNL) ar_X6_greatestOver vc_X6_greatestOver
def tb_X6_isBorne : Tb := [(0, .aload_n 0, 1, x0), (1, .invokevirtual 90, 3, xS 1 0 s_X4_hasBridge), (4, .ifCond .eq 31, 3, xN 35), (7, .aload_n 0, 1, x0), (8, .aload_n 1, 1, x0), (9, .iconst 0, 1, xI (0)), (10, .iconst 0, 1, xI (0)), (11, .invokestatic 149, 3, xS 4 0 s_X6_greatestOver), (14, .aload_n 0, 1, x0), (15, .getfield 97, 3, xF 5 8 [278]), (18, .if_icmp .gt 21, 3, xN 39), (21, .aload_n 0, 1, x0), (22, .aload_n 1, 1, x0), (23, .iconst 1, 1, xI (1)), (24, .iconst 0, 1, xI (0)), (25, .invokestatic 149, 3, xS 4 0 s_X6_greatestOver), (28, .aload_n 0, 1, x0), (29, .getfield 100, 3, xF 5 9 [279]), (32, .if_icmp .gt 7, 3, xN 39), (35, .iconst 1, 1, xI (1)), (36, .goto 4, 3, xN 40), (39, .iconst 0, 1, xI (0)), (40, .ireturn, 1, x0)]
theorem chk_X6_isBorne : chkTb cX6_isBorne "HeavyHaul" false tb_X6_isBorne = true := by decide +kernel
theorem cal_X6_isBorne {l : Launch} (hl : l.stackTraces = false) (hNL : NewL l) : CallsOK l "HeavyHaul" 3 tb_X6_isBorne := callsOK_f ⟨⟨_, _, 1, 0, _, 5, (ct_X4_hasBridge hl hNL), ⟨List.mem_of_getElem? (i := 535) (by decide +kernel), List.mem_of_getElem? (i := 37) (by decide +kernel), List.mem_of_getElem? (i := 532) (by decide +kernel), ⟨by decide +kernel, by decide +kernel⟩, by decide +kernel, by decide⟩, List.mem_of_getElem? (i := 533) (by decide +kernel), List.mem_of_getElem? (i := 534) (by decide +kernel), by decide, by decide, rc_X4_hasBridge⟩, ⟨_, _, 8, 2, _, (ct_X6_greatestOver hl hNL), ⟨List.mem_of_getElem? (i := 640) (by decide +kernel), List.mem_of_getElem? (i := 26) (by decide +kernel), List.mem_of_getElem? (i := 638) (by decide +kernel), ⟨by decide +kernel, by decide +kernel⟩, by decide +kernel, by decide⟩, List.mem_of_getElem? (i := 639) (by decide +kernel), by decide⟩, ⟨_, _, 8, 2, _, (ct_X6_greatestOver hl hNL), ⟨List.mem_of_getElem? (i := 640) (by decide +kernel), List.mem_of_getElem? (i := 26) (by decide +kernel), List.mem_of_getElem? (i := 638) (by decide +kernel), ⟨by decide +kernel, by decide +kernel⟩, by decide +kernel, by decide⟩, List.mem_of_getElem? (i := 639) (by decide +kernel), by decide⟩, trivial⟩
def s_X6_isBorne : SP := aS tb_X6_isBorne 2 2 2 0
theorem ct_X6_isBorne {l : Launch} (hl : l.stackTraces = false) (hNL : NewL l) : CT l yX6_isBorne cX6_isBorne 2 (some .boolean) 3 0 s_X6_isBorne := CT_of hl hNL (by decide +kernel) (own := "HeavyHaul") rfl (ini := false) (fun q => nomatch q) chk_X6_isBorne (cal_X6_isBorne hl hNL) (aS_args (by decide)) aS_vc
