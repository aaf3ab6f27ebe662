/-! THE CLASS's LOOPS -/
theorem nI_mul (a b : Nat) : nI a * nI b = nI (a * b) := (Int32.ofNat_mul a b).symm
theorem nI_sub {a b : Nat} (h : b ≤ a) : nI a - nI b = nI (a - b) := by
  have e : nI a = nI (a - b) + nI b := by rw [nI_add, Nat.sub_add_cancel h]
  rw [e, Int32.add_sub_cancel]
def s_X6_isPermitted : SP := vS fun as S k => o4 0 as fun rig au first en => WfH S ∧ k (some (aI (bV (anyN (permH S rig au first en) (S.2.2 23)))))
def tb_X6_isPermitted : Tb := [(0, .iconst 0, 1, xI (0)), (1, .istore 5, 2, x0), (3, .iload 5, 2, x0), (5, .aload_n 0, 1, x0), (6, .getfield 33, 3, xF 7 6 [103]), (9, .invokevirtual 68, 3, xS 1 0 s_Jx4a65c_size_8abf5), (12, .if_icmp .ge 57, 3, xN 69), (15, .aload_n 0, 1, x0), (16, .getfield 33, 3, xF 7 6 [103]), (19, .iload 5, 2, x0), (21, .invokevirtual 234, 3, xS 2 0 s_Jx4a65c_get_915e3), (24, .checkcast 155, 3, xF 3 0 [480]), (27, .astore 6, 2, x0), (29, .aload 6, 2, x0), (31, .getfield 320, 3, xF 3 0 [487]), (34, .iload_n 1, 1, x0), (35, .if_icmp .ne 28, 3, xN 63), (38, .aload 6, 2, x0), (40, .getfield 323, 3, xF 3 1 [489]), (43, .iload_n 2, 1, x0), (44, .if_icmp .ne 19, 3, xN 63), (47, .aload 6, 2, x0), (49, .getfield 324, 3, xF 3 2 [491]), (52, .iload_n 3, 1, x0), (53, .iload 4, 2, x0), (55, .invokevirtual 311, 3, xS 3 0 s_X1_hasAll), (58, .ifCond .eq 5, 3, xN 63), (61, .iconst 1, 1, xI (1)), (62, .ireturn, 1, x0), (63, .iinc 5 1, 3, xI (1)), (66, .goto (-63), 3, xN 3), (69, .iconst 0, 1, xI (0)), (70, .ireturn, 1, x0)]
theorem chk_X6_isPermitted : chkTb cX6_isPermitted "HeavyHaul" false tb_X6_isPermitted = true := by decide +kernel
theorem cal_X6_isPermitted {l : Launch} (hl : l.stackTraces = false) (hNL : NewL l) : CallsOK l "HeavyHaul" 3 tb_X6_isPermitted := callsOK_f ⟨⟨_, _, 1, 0, _, 0, (ct_Jx4a65c_size_8abf5 hl hNL), ⟨List.mem_of_getElem? (i := 236) (by decide +kernel), List.mem_of_getElem? (i := 29) (by decide +kernel), List.mem_of_getElem? (i := 233) (by decide +kernel), ⟨by decide +kernel, by decide +kernel⟩, by decide +kernel, by decide⟩, List.mem_of_getElem? (i := 234) (by decide +kernel), List.mem_of_getElem? (i := 235) (by decide +kernel), by decide, by decide, rc_Jx4a65c_size_8abf5⟩, ⟨_, _, 2, 2, _, 0, (ct_Jx4a65c_get_915e3 hl hNL), ⟨List.mem_of_getElem? (i := 519) (by decide +kernel), List.mem_of_getElem? (i := 29) (by decide +kernel), List.mem_of_getElem? (i := 516) (by decide +kernel), ⟨by decide +kernel, by decide +kernel⟩, by decide +kernel, by decide⟩, List.mem_of_getElem? (i := 517) (by decide +kernel), List.mem_of_getElem? (i := 518) (by decide +kernel), by decide, by decide, rc_Jx4a65c_get_915e3⟩, ⟨_, _, 3, 0, _, 2, (ct_X1_hasAll hl hNL), ⟨List.mem_of_getElem? (i := 629) (by decide +kernel), List.mem_of_getElem? (i := 43) (by decide +kernel), List.mem_of_getElem? (i := 626) (by decide +kernel), ⟨by decide +kernel, by decide +kernel⟩, by decide +kernel, by decide⟩, List.mem_of_getElem? (i := 627) (by decide +kernel), List.mem_of_getElem? (i := 628) (by decide +kernel), by decide, by decide, rc_X1_hasAll⟩, trivial⟩
theorem ar_X6_isPermitted : ∀ as S P, s_X6_isPermitted as S P → as.length ≤ 7 ∧ ∀ a ∈ as, catV a = 1 := fun as S P h => by
  obtain ⟨_, _, _, _, rfl, _⟩ := o4_ok h
  exact ar_all ⟨Nat.le_of_ble_eq_true rfl, rfl⟩
theorem rc_X6_isPermitted : ∀ as S P, s_X6_isPermitted as S P → ∃ k i r, as = aR k i :: r ∧ ci k = 7 ∧ (obK k = true ∨ k = 13) := fun as S P h => by
  obtain ⟨_, _, _, _, rfl, _⟩ := o4_ok h
  exact ⟨_, _, _, rfl, rfl, Or.inl rfl⟩
theorem vc_X6_isPermitted : ∀ (G : Gt) (Q : Out → Sto → Prop) (as : List AV) (S : Sto), s_X6_isPermitted as S Q → Seg tb_X6_isPermitted G Q 2 0 [] (0, fun _ => 0) → G 0 (argL as 7) [] S 0 := by
  intro G Q as S h hs
  obtain ⟨rig, au, first, en, rfl, hW, hQ⟩ := o4_ok h
  obtain ⟨w13, ⟨-, -, -, w23, -⟩, -, -, wf, -⟩ := hW
  have loop : ∀ m j, j + m = S.2.2 23 → (∀ i, i < j → permH S rig au first en i = false) → ∀ x, G 3 [some (aR 0 0), some (aI rig), some (aI au), some (aI first), some (aI en), some (aI (nI j)), x] [] S 0 := by
    intro m
    induction m with
    | zero =>
      intro j hj hf x
      obtain rfl : j = S.2.2 23 := hj
      rw [anyN_f hf] at hQ
      refine hs [3] 60 3 _ _ _ _ ?_
      exact ⟨rfl, by omega, fun _ => ⟨rfl, hQ⟩, fun q => (lp_end q).elim⟩
    | succ m ih =>
      intro j hj hf x
      have hn : S.2.2 23 ≤ 1000 := by omega
      have hj2 : j < S.2.2 23 := by omega
      refine hs [3] 60 3 _ _ _ _ ?_
      refine ⟨rfl, by omega, fun q => absurd q (lp_go hn hj2), fun _ => ⟨rfl, by omega, lp_nn hn hj2, lp_in hn hj2, ?_⟩⟩
      rw [lp_cl hn hj2]
      have key : ¬ (S.1 5 0 j = rig ∧ S.1 5 1 j = au ∧ S.1 8 0 j ≤ first ∧ en ≤ S.1 8 1 j) → G 3 [some (aR 0 0), some (aI rig), some (aI au), some (aI first), some (aI en), some (aI (nI j + 1)), some (aR 5 j)] [] S 0 := fun hv => by
        have h1 := ih (j + 1) (by omega) (fun i hi => by
          by_cases e : i = j
          · rw [e]; exact decide_eq_false hv
          · exact hf i (by omega)) (some (aR 5 j))
        rw [nI_s]
        exact h1
      refine ⟨fun q1 => key fun z => q1 z.1, fun q1 => ⟨fun q2 => key fun z => q2 z.2.1, fun q2 => ⟨wf j (by omega), ?_⟩⟩⟩
      refine ⟨fun q3 => ⟨rfl, fun _ => key fun z => absurd z.2.2.1 (Int32.not_le.mpr q3), fun q => absurd rfl q⟩, fun q3 => ⟨fun q4 => ⟨rfl, fun _ => key fun z => absurd z.2.2.2 (Int32.not_le.mpr q4), fun q => absurd rfl q⟩, fun q4 => ⟨rfl, fun q => absurd q (by decide), fun _ => ?_⟩⟩⟩
      have ht : anyN (permH S rig au first en) (S.2.2 23) = true := anyN_t hj2 (decide_eq_true ⟨q1, q2, Int32.not_lt.mp q3, Int32.not_lt.mp q4⟩)
      rw [ht] at hQ
      exact ⟨rfl, hQ⟩
  exact hs [3] 60 0 _ _ _ _ (loop (S.2.2 23) 0 (by omega) (fun i hi => absurd hi (by omega)) none)
theorem ct_X6_isPermitted {l : Launch} (hl : l.stackTraces = false) (hNL : NewL l) : CT l yX6_isPermitted cX6_isPermitted 7 (some .boolean) 3 0 s_X6_isPermitted := CT_of hl hNL (by decide +kernel) (own := "HeavyHaul") rfl (ini := false) (fun q => nomatch q) chk_X6_isPermitted (cal_X6_isPermitted hl hNL) ar_X6_isPermitted vc_X6_isPermitted
def s_X6_isEmbargoed : SP := vS fun as S k => o3 0 as fun au first en => WfH S ∧ k (some (aI (bV (anyN (embH S au first en) (S.2.2 24)))))
def tb_X6_isEmbargoed : Tb := [(0, .iconst 0, 1, xI (0)), (1, .istore 4, 2, x0), (3, .iload 4, 2, x0), (5, .aload_n 0, 1, x0), (6, .getfield 36, 3, xF 7 7 [104]), (9, .invokevirtual 68, 3, xS 1 0 s_Jx4a65c_size_8abf5), (12, .if_icmp .ge 47, 3, xN 59), (15, .aload_n 0, 1, x0), (16, .getfield 36, 3, xF 7 7 [104]), (19, .iload 4, 2, x0), (21, .invokevirtual 234, 3, xS 2 0 s_Jx4a65c_get_915e3), (24, .checkcast 160, 3, xF 1 0 [447]), (27, .astore 5, 2, x0), (29, .aload 5, 2, x0), (31, .getfield 325, 3, xF 1 0 [467]), (34, .iload_n 1, 1, x0), (35, .if_icmp .ne 18, 3, xN 53), (38, .aload 5, 2, x0), (40, .getfield 326, 3, xF 1 1 [469]), (43, .iload_n 2, 1, x0), (44, .iload_n 3, 1, x0), (45, .invokevirtual 327, 3, xS 3 0 s_X1_hasAny), (48, .ifCond .eq 5, 3, xN 53), (51, .iconst 1, 1, xI (1)), (52, .ireturn, 1, x0), (53, .iinc 4 1, 3, xI (1)), (56, .goto (-53), 3, xN 3), (59, .iconst 0, 1, xI (0)), (60, .ireturn, 1, x0)]
theorem chk_X6_isEmbargoed : chkTb cX6_isEmbargoed "HeavyHaul" false tb_X6_isEmbargoed = true := by decide +kernel
theorem cal_X6_isEmbargoed {l : Launch} (hl : l.stackTraces = false) (hNL : NewL l) : CallsOK l "HeavyHaul" 3 tb_X6_isEmbargoed := callsOK_f ⟨⟨_, _, 1, 0, _, 0, (ct_Jx4a65c_size_8abf5 hl hNL), ⟨List.mem_of_getElem? (i := 236) (by decide +kernel), List.mem_of_getElem? (i := 29) (by decide +kernel), List.mem_of_getElem? (i := 233) (by decide +kernel), ⟨by decide +kernel, by decide +kernel⟩, by decide +kernel, by decide⟩, List.mem_of_getElem? (i := 234) (by decide +kernel), List.mem_of_getElem? (i := 235) (by decide +kernel), by decide, by decide, rc_Jx4a65c_size_8abf5⟩, ⟨_, _, 2, 2, _, 0, (ct_Jx4a65c_get_915e3 hl hNL), ⟨List.mem_of_getElem? (i := 519) (by decide +kernel), List.mem_of_getElem? (i := 29) (by decide +kernel), List.mem_of_getElem? (i := 516) (by decide +kernel), ⟨by decide +kernel, by decide +kernel⟩, by decide +kernel, by decide⟩, List.mem_of_getElem? (i := 517) (by decide +kernel), List.mem_of_getElem? (i := 518) (by decide +kernel), by decide, by decide, rc_Jx4a65c_get_915e3⟩, ⟨_, _, 3, 0, _, 2, (ct_X1_hasAny hl hNL), ⟨List.mem_of_getElem? (i := 673) (by decide +kernel), List.mem_of_getElem? (i := 43) (by decide +kernel), List.mem_of_getElem? (i := 670) (by decide +kernel), ⟨by decide +kernel, by decide +kernel⟩, by decide +kernel, by decide⟩, List.mem_of_getElem? (i := 671) (by decide +kernel), List.mem_of_getElem? (i := 672) (by decide +kernel), by decide, by decide, rc_X1_hasAny⟩, trivial⟩
theorem ar_X6_isEmbargoed : ∀ as S P, s_X6_isEmbargoed as S P → as.length ≤ 6 ∧ ∀ a ∈ as, catV a = 1 := fun as S P h => by
  obtain ⟨_, _, _, rfl, _⟩ := o3_ok h
  exact ar_all ⟨Nat.le_of_ble_eq_true rfl, rfl⟩
theorem rc_X6_isEmbargoed : ∀ as S P, s_X6_isEmbargoed as S P → ∃ k i r, as = aR k i :: r ∧ ci k = 7 ∧ (obK k = true ∨ k = 13) := fun as S P h => by
  obtain ⟨_, _, _, rfl, _⟩ := o3_ok h
  exact ⟨_, _, _, rfl, rfl, Or.inl rfl⟩
theorem vc_X6_isEmbargoed : ∀ (G : Gt) (Q : Out → Sto → Prop) (as : List AV) (S : Sto), s_X6_isEmbargoed as S Q → Seg tb_X6_isEmbargoed G Q 2 0 [] (0, fun _ => 0) → G 0 (argL as 6) [] S 0 := by
  intro G Q as S h hs
  obtain ⟨au, first, en, rfl, hW, hQ⟩ := o3_ok h
  obtain ⟨w13, ⟨-, -, -, -, w24⟩, -, -, -, wf, -⟩ := hW
  have loop : ∀ m j, j + m = S.2.2 24 → (∀ i, i < j → embH S au first en i = false) → ∀ x, G 3 [some (aR 0 0), some (aI au), some (aI first), some (aI en), some (aI (nI j)), x] [] S 0 := by
    intro m
    induction m with
    | zero =>
      intro j hj hf x
      obtain rfl : j = S.2.2 24 := hj
      rw [anyN_f hf] at hQ
      refine hs [3] 60 3 _ _ _ _ ?_
      exact ⟨rfl, by omega, fun _ => ⟨rfl, hQ⟩, fun q => (lp_end q).elim⟩
    | succ m ih =>
      intro j hj hf x
      have hn : S.2.2 24 ≤ 1000 := by omega
      have hj2 : j < S.2.2 24 := by omega
      refine hs [3] 60 3 _ _ _ _ ?_
      refine ⟨rfl, by omega, fun q => absurd q (lp_go hn hj2), fun _ => ⟨rfl, by omega, lp_nn hn hj2, lp_in hn hj2, ?_⟩⟩
      rw [lp_cl hn hj2]
      have key : ¬ (S.1 6 0 j = au ∧ S.1 9 0 j < en ∧ first < S.1 9 1 j) → G 3 [some (aR 0 0), some (aI au), some (aI first), some (aI en), some (aI (nI j + 1)), some (aR 6 j)] [] S 0 := fun hv => by
        have h1 := ih (j + 1) (by omega) (fun i hi => by
          by_cases e : i = j
          · rw [e]; exact decide_eq_false hv
          · exact hf i (by omega)) (some (aR 6 j))
        rw [nI_s]
        exact h1
      refine ⟨fun q1 => key fun z => q1 z.1, fun q1 => ⟨wf j (by omega), ?_⟩⟩
      refine ⟨fun q3 => ⟨rfl, fun _ => key fun z => absurd z.2.1 (Int32.not_lt.mpr q3), fun q => absurd rfl q⟩, fun q3 => ⟨fun q4 => ⟨rfl, fun _ => key fun z => absurd z.2.2 (Int32.not_lt.mpr q4), fun q => absurd rfl q⟩, fun q4 => ⟨rfl, fun q => absurd q (by decide), fun _ => ?_⟩⟩⟩
      have ht : anyN (embH S au first en) (S.2.2 24) = true := anyN_t hj2 (decide_eq_true ⟨q1, Int32.not_le.mp q3, Int32.not_le.mp q4⟩)
      rw [ht] at hQ
      exact ⟨rfl, hQ⟩
  exact hs [3] 60 0 _ _ _ _ (loop (S.2.2 24) 0 (by omega) (fun i hi => absurd hi (by omega)) none)
theorem ct_X6_isEmbargoed {l : Launch} (hl : l.stackTraces = false) (hNL : NewL l) : CT l yX6_isEmbargoed cX6_isEmbargoed 6 (some .boolean) 3 0 s_X6_isEmbargoed := CT_of hl hNL (by decide +kernel) (own := "HeavyHaul") rfl (ini := false) (fun q => nomatch q) chk_X6_isEmbargoed (cal_X6_isEmbargoed hl hNL) ar_X6_isEmbargoed vc_X6_isEmbargoed
def s_X6_isAnyRigOn : SP := vS fun as S k => o1 0 as fun road => WfH S ∧ k (some (aI (bV (anyN (onH S road) (S.2.2 22)))))
def tb_X6_isAnyRigOn : Tb := [(0, .iconst 0, 1, xI (0)), (1, .istore_n 2, 1, x0), (2, .iload_n 2, 1, x0), (3, .aload_n 0, 1, x0), (4, .getfield 30, 3, xF 7 5 [102]), (7, .invokevirtual 68, 3, xS 1 0 s_Jx4a65c_size_8abf5), (10, .if_icmp .ge 29, 3, xN 39), (13, .aload_n 0, 1, x0), (14, .getfield 30, 3, xF 7 5 [102]), (17, .iload_n 2, 1, x0), (18, .invokevirtual 234, 3, xS 2 0 s_Jx4a65c_get_915e3), (21, .checkcast 117, 3, xF 4 0 [365]), (24, .getfield 211, 3, xF 4 9 [387]), (27, .iload_n 1, 1, x0), (28, .if_icmp .ne 5, 3, xN 33), (31, .iconst 1, 1, xI (1)), (32, .ireturn, 1, x0), (33, .iinc 2 1, 3, xI (1)), (36, .goto (-34), 3, xN 2), (39, .iconst 0, 1, xI (0)), (40, .ireturn, 1, x0)]
theorem chk_X6_isAnyRigOn : chkTb cX6_isAnyRigOn "HeavyHaul" false tb_X6_isAnyRigOn = true := by decide +kernel
theorem cal_X6_isAnyRigOn {l : Launch} (hl : l.stackTraces = false) (hNL : NewL l) : CallsOK l "HeavyHaul" 3 tb_X6_isAnyRigOn := callsOK_f ⟨⟨_, _, 1, 0, _, 0, (ct_Jx4a65c_size_8abf5 hl hNL), ⟨List.mem_of_getElem? (i := 236) (by decide +kernel), List.mem_of_getElem? (i := 29) (by decide +kernel), List.mem_of_getElem? (i := 233) (by decide +kernel), ⟨by decide +kernel, by decide +kernel⟩, by decide +kernel, by decide⟩, List.mem_of_getElem? (i := 234) (by decide +kernel), List.mem_of_getElem? (i := 235) (by decide +kernel), by decide, by decide, rc_Jx4a65c_size_8abf5⟩, ⟨_, _, 2, 2, _, 0, (ct_Jx4a65c_get_915e3 hl hNL), ⟨List.mem_of_getElem? (i := 519) (by decide +kernel), List.mem_of_getElem? (i := 29) (by decide +kernel), List.mem_of_getElem? (i := 516) (by decide +kernel), ⟨by decide +kernel, by decide +kernel⟩, by decide +kernel, by decide⟩, List.mem_of_getElem? (i := 517) (by decide +kernel), List.mem_of_getElem? (i := 518) (by decide +kernel), by decide, by decide, rc_Jx4a65c_get_915e3⟩, trivial⟩
theorem ar_X6_isAnyRigOn : ∀ as S P, s_X6_isAnyRigOn as S P → as.length ≤ 3 ∧ ∀ a ∈ as, catV a = 1 := fun as S P h => by
  obtain ⟨_, rfl, _⟩ := o1_ok h
  exact ar_all ⟨Nat.le_of_ble_eq_true rfl, rfl⟩
theorem rc_X6_isAnyRigOn : ∀ as S P, s_X6_isAnyRigOn as S P → ∃ k i r, as = aR k i :: r ∧ ci k = 7 ∧ (obK k = true ∨ k = 13) := fun as S P h => by
  obtain ⟨_, rfl, _⟩ := o1_ok h
  exact ⟨_, _, _, rfl, rfl, Or.inl rfl⟩
theorem vc_X6_isAnyRigOn : ∀ (G : Gt) (Q : Out → Sto → Prop) (as : List AV) (S : Sto), s_X6_isAnyRigOn as S Q → Seg tb_X6_isAnyRigOn G Q 2 0 [] (0, fun _ => 0) → G 0 (argL as 3) [] S 0 := by
  intro G Q as S h hs
  obtain ⟨road, rfl, hW, hQ⟩ := o1_ok h
  obtain ⟨w13, ⟨-, -, w22, -, -⟩, -⟩ := hW
  have loop : ∀ m j, j + m = S.2.2 22 → (∀ i, i < j → onH S road i = false) → G 2 [some (aR 0 0), some (aI road), some (aI (nI j))] [] S 0 := by
    intro m
    induction m with
    | zero =>
      intro j hj hf
      obtain rfl : j = S.2.2 22 := hj
      rw [anyN_f hf] at hQ
      refine hs [2] 60 2 _ _ _ _ ?_
      exact ⟨rfl, by omega, fun _ => ⟨rfl, hQ⟩, fun q => (lp_end q).elim⟩
    | succ m ih =>
      intro j hj hf
      have hn : S.2.2 22 ≤ 1000 := by omega
      have hj2 : j < S.2.2 22 := by omega
      refine hs [2] 60 2 _ _ _ _ ?_
      refine ⟨rfl, by omega, fun q => absurd q (lp_go hn hj2), fun _ => ⟨rfl, by omega, lp_nn hn hj2, lp_in hn hj2, ?_⟩⟩
      rw [lp_cl hn hj2]
      refine ⟨fun q1 => ?_, fun q1 => ?_⟩
      · have h1 := ih (j + 1) (by omega) (fun i hi => by
          by_cases e : i = j
          · rw [e]; exact decide_eq_false q1
          · exact hf i (by omega))
        rw [← nI_s] at h1
        exact h1
      · have ht : anyN (onH S road) (S.2.2 22) = true := anyN_t hj2 (decide_eq_true q1)
        rw [ht] at hQ
        exact ⟨rfl, hQ⟩
  exact hs [2] 60 0 _ _ _ _ (loop (S.2.2 22) 0 (by omega) (fun i hi => absurd hi (by omega)))
theorem ct_X6_isAnyRigOn {l : Launch} (hl : l.stackTraces = false) (hNL : NewL l) : CT l yX6_isAnyRigOn cX6_isAnyRigOn 3 (some .boolean) 3 0 s_X6_isAnyRigOn := CT_of hl hNL (by decide +kernel) (own := "HeavyHaul") rfl (ini := false) (fun q => nomatch q) chk_X6_isAnyRigOn (cal_X6_isAnyRigOn hl hNL) ar_X6_isAnyRigOn vc_X6_isAnyRigOn
