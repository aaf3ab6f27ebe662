/-! WHETHER A BRIDGE BEARS A RIG, by the law -/
theorem bV_1 : ∀ b : Bool, bV b &&& 1 = bV b := by decide
theorem sp_0 {S : Sto} {i : Nat} (h : RoF S i) : S.1 2 7 i = 0 ↔ S.1 2 7 i ≤ 0 := by
  obtain ⟨p, q, a, t, s, -, -, -, -, hs, -, -, -, -, -, -, hs4⟩ := h
  rw [hs]
  constructor
  · intro z
    rw [z]
    exact Int32.le_refl _
  · intro z
    have := (nI_le2 (b := 0) (by omega) (by omega)).mp z
    obtain rfl : s = 0 := by omega
    rfl
theorem LawI.i20 {T : Nat} {S : Sto} (h : LawI T S) {i : Nat} (hi : i < 6) : i < S.2.2 20 := by rw [h.n.1]; exact hi
theorem LawI.i22 {T : Nat} {S : Sto} (h : LawI T S) {j : Nat} (hj : j < 2) : j < S.2.2 22 := by rw [h.n.2.1]; exact hj
def s_L_isBorne : SP := vS fun as S k => ag2 as fun d r => ∃ (T i j : Nat), LawI T S ∧ d = nI i ∧ i < 6 ∧ r = nI j ∧ j < 2 ∧ k (some (aI (bV (borneH S i j))))
def tb_L_isBorne : Tb := [(0, .aload_n 0, 1, x0), (1, .bipush 10, 2, xI (10)), (3, .iload_n 2, 1, x0), (4, .imul, 1, x0), (5, .bipush 7, 2, xI (7)), (7, .iadd, 1, x0), (8, .iaload, 1, x0), (9, .ifCond .eq 43, 3, xN 52), (12, .aload_n 0, 1, x0), (13, .aload_n 1, 1, x0), (14, .iload_n 2, 1, x0), (15, .iload_n 3, 1, x0), (16, .iconst 0, 1, xI (0)), (17, .invokestatic 15, 3, xS 5 0 s_L_greatest), (20, .aload_n 0, 1, x0), (21, .bipush 10, 2, xI (10)), (23, .iload_n 2, 1, x0), (24, .imul, 1, x0), (25, .bipush 8, 2, xI (8)), (27, .iadd, 1, x0), (28, .iaload, 1, x0), (29, .if_icmp .gt 27, 3, xN 56), (32, .aload_n 0, 1, x0), (33, .aload_n 1, 1, x0), (34, .iload_n 2, 1, x0), (35, .iload_n 3, 1, x0), (36, .iconst 1, 1, xI (1)), (37, .invokestatic 15, 3, xS 5 0 s_L_greatest), (40, .aload_n 0, 1, x0), (41, .bipush 10, 2, xI (10)), (43, .iload_n 2, 1, x0), (44, .imul, 1, x0), (45, .bipush 9, 2, xI (9)), (47, .iadd, 1, x0), (48, .iaload, 1, x0), (49, .if_icmp .gt 7, 3, xN 56), (52, .iconst 1, 1, xI (1)), (53, .goto 4, 3, xN 57), (56, .iconst 0, 1, xI (0)), (57, .ireturn, 1, x0)]
theorem chk_L_isBorne : chkTb cL_isBorne "HeavyHaulLaw" false tb_L_isBorne = true := by decide +kernel
theorem cal_L_isBorne {l : Launch} (hl : l.stackTraces = false) (hNL : NewL l) : CallsOK l "HeavyHaulLaw" 2 tb_L_isBorne := callsOK_f ⟨⟨_, _, 14, 1, _, (ct_L_greatest hl hNL), ⟨List.mem_of_getElem? (i := 598) (by decide +kernel), List.mem_of_getElem? (i := 25) (by decide +kernel), List.mem_of_getElem? (i := 596) (by decide +kernel), ⟨by decide +kernel, by decide +kernel⟩, by decide +kernel, by decide⟩, List.mem_of_getElem? (i := 597) (by decide +kernel), by decide⟩, ⟨_, _, 14, 1, _, (ct_L_greatest hl hNL), ⟨List.mem_of_getElem? (i := 598) (by decide +kernel), List.mem_of_getElem? (i := 25) (by decide +kernel), List.mem_of_getElem? (i := 596) (by decide +kernel), ⟨by decide +kernel, by decide +kernel⟩, by decide +kernel, by decide⟩, List.mem_of_getElem? (i := 597) (by decide +kernel), by decide⟩, trivial⟩
theorem ar_L_isBorne : ∀ as S P, s_L_isBorne as S P → as.length ≤ 4 ∧ ∀ a ∈ as, catV a = 1 := fun as S P h => by
  obtain ⟨_, _, rfl, _⟩ := ag2_ok h
  exact ar_all ⟨Nat.le_of_ble_eq_true rfl, rfl⟩
theorem vc_L_isBorne : ∀ (G : Gt) (Q : Out → Sto → Prop) (as : List AV) (S : Sto), s_L_isBorne as S Q → Seg tb_L_isBorne G Q 2 0 [] (0, fun _ => 0) → G 0 (argL as 4) [] S 0 := by
  intro G Q as S h hs
  obtain ⟨d, r, rfl, T, i, j, hI, rfl, hi, rfl, hj, hQ⟩ := ag2_ok h
  have va7 : vp_in ((10 : Int32) * nI i + 7) 60 := vA hI hi 7 (by decide)
  have a7 : S.1 10 3 ((10 : Int32) * nI i + 7).toNatClampNeg = S.1 2 7 i := aA hI hi 7 (by decide)
  have va8 : vp_in ((10 : Int32) * nI i + 8) 60 := vA hI hi 8 (by decide)
  have a8 : S.1 10 3 ((10 : Int32) * nI i + 8).toNatClampNeg = S.1 2 8 i := aA hI hi 8 (by decide)
  have va9 : vp_in ((10 : Int32) * nI i + 9) 60 := vA hI hi 9 (by decide)
  have a9 : S.1 10 3 ((10 : Int32) * nI i + 9).toNatClampNeg = S.1 2 9 i := aA hI hi 9 (by decide)
  have h0 := sp_0 (hI.wf.2.2.2.2.2.2.1 i (hI.i20 hi))
  have yes : borneH S i j = true → (1 : Int32) &&& 1 = 1 ∧ Q (Sum.inl (some (aI 1))) S := fun z => by
    rw [z] at hQ
    exact ⟨rfl, hQ⟩
  have no : borneH S i j = false → (0 : Int32) &&& 1 = 0 ∧ Q (Sum.inl (some (aI 0))) S := fun z => by
    rw [z] at hQ
    exact ⟨rfl, hQ⟩
  refine hs [] 90 0 _ _ _ _ ?_
  refine ⟨va7, ?_⟩
  rw [a7]
  refine ⟨fun z => yes ?_, fun z => ?_⟩
  · unfold borneH
    rw [decide_eq_true (h0.mp z)]
    rfl
  · have hz : ¬ S.1 2 7 i ≤ 0 := fun y => z (h0.mpr y)
    have e1 : ∀ b, (decide (greatH S i j 0 0 ≤ S.1 2 8 i) && decide (greatH S i j 1 0 ≤ S.1 2 9 i)) = b → borneH S i j = b := fun b hb => by
      unfold borneH
      rw [decide_eq_false hz, Bool.false_or]
      exact hb
    refine ⟨rfl, rfl, rfl, rfl, T, i, j, hI, rfl, hi, rfl, hj, hz, va8, ?_⟩
    rw [a8]
    refine ⟨fun y => no (e1 false ?_), fun y => ⟨rfl, rfl, rfl, rfl, T, i, j, hI, rfl, hi, rfl, hj, hz, va9, ?_⟩⟩
    · rw [decide_eq_false (Int32.not_le.mpr y)]
      rfl
    · rw [a9]
      refine ⟨fun x => no (e1 false ?_), fun x => yes (e1 true ?_)⟩
      · rw [decide_eq_false (Int32.not_le.mpr x), Bool.and_false]
      · rw [decide_eq_true (Int32.not_lt.mp y), decide_eq_true (Int32.not_lt.mp x)]
        rfl
theorem ct_L_isBorne {l : Launch} (hl : l.stackTraces = false) (hNL : NewL l) : CT l yL_isBorne cL_isBorne 4 (some .boolean) 2 0 s_L_isBorne := CT_of hl hNL (by decide +kernel) (own := "HeavyHaulLaw") rfl (ini := false) (fun q => nomatch q) chk_L_isBorne (cal_L_isBorne hl hNL) ar_L_isBorne vc_L_isBorne
def brnN (S : Sto) (j : Nat) (i : Nat) : Bool := borneH S i j
def s_L_borne : SP := vS fun as S k => ag1 as fun r => ∃ (T j : Nat), LawI T S ∧ r = nI j ∧ j < 2 ∧ k (some (aI (mkW (brnN S j) 6)))
def tb_L_borne : Tb := [(0, .iconst 0, 1, xI (0)), (1, .istore_n 3, 1, x0), (2, .iconst 0, 1, xI (0)), (3, .istore 4, 2, x0), (5, .iload 4, 2, x0), (7, .bipush 6, 2, xI (6)), (9, .if_icmp .ge 31, 3, xN 40), (12, .iload_n 3, 1, x0), (13, .aload_n 0, 1, x0), (14, .aload_n 1, 1, x0), (15, .iload 4, 2, x0), (17, .iload_n 2, 1, x0), (18, .invokestatic 27, 3, xS 4 0 s_L_isBorne), (21, .ifCond .eq 10, 3, xN 31), (24, .iconst 1, 1, xI (1)), (25, .iload 4, 2, x0), (27, .ishl, 1, x0), (28, .goto 4, 3, xN 32), (31, .iconst 0, 1, xI (0)), (32, .ior, 1, x0), (33, .istore_n 3, 1, x0), (34, .iinc 4 1, 3, xI (1)), (37, .goto (-32), 3, xN 5), (40, .iload_n 3, 1, x0), (41, .ireturn, 1, x0)]
theorem chk_L_borne : chkTb cL_borne "HeavyHaulLaw" false tb_L_borne = true := by decide +kernel
theorem cal_L_borne {l : Launch} (hl : l.stackTraces = false) (hNL : NewL l) : CallsOK l "HeavyHaulLaw" 3 tb_L_borne := callsOK_f ⟨⟨_, _, 4, 2, _, (ct_L_isBorne hl hNL), ⟨List.mem_of_getElem? (i := 595) (by decide +kernel), List.mem_of_getElem? (i := 25) (by decide +kernel), List.mem_of_getElem? (i := 593) (by decide +kernel), ⟨by decide +kernel, by decide +kernel⟩, by decide +kernel, by decide⟩, List.mem_of_getElem? (i := 594) (by decide +kernel), by decide⟩, trivial⟩
theorem ar_L_borne : ∀ as S P, s_L_borne as S P → as.length ≤ 5 ∧ ∀ a ∈ as, catV a = 1 := fun as S P h => by
  obtain ⟨_, rfl, _⟩ := ag1_ok h
  exact ar_all ⟨Nat.le_of_ble_eq_true rfl, rfl⟩
theorem vc_L_borne : ∀ (G : Gt) (Q : Out → Sto → Prop) (as : List AV) (S : Sto), s_L_borne as S Q → Seg tb_L_borne G Q 1 0 [] (0, fun _ => 0) → G 0 (argL as 5) [] S 0 := by
  intro G Q as S h hs
  obtain ⟨r, rfl, T, j, hI, rfl, hj, hQ⟩ := ag1_ok h
  have loop : ∀ m k, k + m = 6 → G 5 [some (aR 10 3), some (aR 10 5), some (aI (nI j)), some (aI (mkW (brnN S j) k)), some (aI (nI k))] [] S 0 := by
    intro m
    induction m with
    | zero =>
      intro k hk
      obtain rfl : k = 6 := hk
      refine hs [5] 60 5 _ _ _ _ ?_
      exact ⟨fun _ => hQ, fun q => absurd (by decide) q⟩
    | succ m ih =>
      intro k hk
      have h1 := ih (k + 1) (by omega)
      rw [← nI_s] at h1
      refine hs [5] 60 5 _ _ _ _ ?_
      refine ⟨fun q => absurd q (lp_go (n := 6) (by omega) (by omega)), fun _ => ⟨rfl, rfl, rfl, rfl, T, k, j, hI, rfl, by omega, rfl, hj, ?_⟩⟩
      cases hb : borneH S k j with
      | false =>
        have e : mkW (brnN S j) (k + 1) = mkW (brnN S j) k ||| 0 := by
          rw [Int32.or_zero]
          exact if_neg (by unfold brnN; rw [hb]; decide)
        rw [e] at h1
        exact ⟨fun _ => h1, fun z => absurd rfl z⟩
      | true =>
        have e : mkW (brnN S j) (k + 1) = mkW (brnN S j) k ||| (1 : Int32) <<< (nI k &&& 31) := if_pos hb
        rw [e] at h1
        exact ⟨fun z => absurd z (by decide), fun _ => h1⟩
  exact hs [5] 60 0 _ _ _ _ (loop 6 0 rfl)
theorem ct_L_borne {l : Launch} (hl : l.stackTraces = false) (hNL : NewL l) : CT l yL_borne cL_borne 5 (some .int) 3 0 s_L_borne := CT_of hl hNL (by decide +kernel) (own := "HeavyHaulLaw") rfl (ini := false) (fun q => nomatch q) chk_L_borne (cal_L_borne hl hNL) ar_L_borne vc_L_borne
