/-! THE CLASS AND THE MODEL, column by column -/
def LoF (S : Sto) (i : Nat) (L C : Int32) : Prop := (∃ l c o : Nat, L = nI l ∧ C = nI c ∧ S.1 4 5 i = nI o ∧ l ≤ 200000 ∧ c ≤ 80 ∧ o ≤ 99999) ∧ canT S i L C ∧ S.1 4 6 i = shrF S i (L - reaF S i L C) ∧ S.1 4 7 i = shrF S i (reaF S i L C)
def InvS (S : Sto) : Prop := WfH S ∧
  (S.1 1 12 0 = nI (S.2.2 20) ∧ S.1 1 14 0 = nI (S.2.2 21) ∧ S.1 1 28 0 = nI (S.2.2 22) ∧ S.1 1 32 0 = nI (S.2.2 23) ∧ S.1 1 34 0 = nI (S.2.2 24) ∧ S.1 1 0 0 = S.1 0 9 0) ∧
  (∀ i, i < S.2.2 20 → S.1 10 3 i = S.1 2 0 i ∧ S.1 10 4 i = S.1 2 1 i ∧ S.1 10 5 i = S.1 2 2 i ∧ S.1 10 6 i = S.1 2 3 i ∧ S.1 10 7 i = S.1 2 4 i ∧ S.1 10 8 i = S.1 2 5 i ∧ S.1 10 9 i = S.1 2 6 i ∧ S.1 10 10 i = S.1 2 7 i ∧ S.1 10 11 i = S.1 2 8 i ∧ S.1 10 12 i = S.1 2 9 i) ∧
  (∀ i, S.2.2 20 ≤ i → S.1 10 10 i = 0 ∧ S.1 10 11 i = 0 ∧ S.1 10 12 i = 0) ∧
  (∀ i, i < S.2.2 21 → S.1 10 13 (5 * i) = S.1 3 0 i ∧ S.1 10 13 (5 * i + 1) = S.1 3 1 i ∧ S.1 10 13 (5 * i + 2) = S.1 3 2 i ∧ S.1 10 13 (5 * i + 3) = S.1 7 0 i ∧ S.1 10 13 (5 * i + 4) = S.1 7 1 i) ∧
  (∀ i, i < S.2.2 23 → S.1 10 29 (4 * i) = S.1 5 0 i ∧ S.1 10 29 (4 * i + 1) = S.1 5 1 i ∧ S.1 10 29 (4 * i + 2) = S.1 8 0 i ∧ S.1 10 29 (4 * i + 3) = S.1 8 1 i) ∧
  (∀ i, i < S.2.2 24 → S.1 10 30 (3 * i) = S.1 6 0 i ∧ S.1 10 30 (3 * i + 1) = S.1 9 0 i ∧ S.1 10 30 (3 * i + 2) = S.1 9 1 i) ∧
  (∀ i, i < S.2.2 22 → S.1 10 14 i = S.1 4 8 i ∧ S.1 10 15 i = S.1 4 0 i ∧ S.1 10 16 i = S.1 4 1 i ∧ S.1 10 17 i = S.1 4 2 i ∧ S.1 10 18 i = S.1 4 3 i ∧ S.1 10 19 i = S.1 4 4 i ∧ S.1 10 20 i = S.1 4 5 i ∧ S.1 10 23 i = S.1 4 9 i ∧ S.1 10 24 i = S.1 4 10 i ∧ S.1 10 25 i = S.1 4 11 i ∧ S.1 10 26 i = S.1 4 12 i ∧ LoF S i (S.1 10 21 i) (S.1 10 22 i) ∧ (S.1 4 9 i ≠ -1 → S.1 0 9 0 < S.1 4 10 i)) ∧
  (∀ i, S.2.2 22 ≤ i → S.1 10 21 i = 0 ∧ S.1 10 22 i = 0 ∧ S.1 10 25 i = 0 ∧ S.1 10 26 i = 0) ∧
  (∀ i, S.1 10 0 i = S.1 10 27 i ∧ S.1 10 1 i = S.1 10 28 i) ∧
  (∀ i, S.1 11 0 i = S.1 11 1 i ∧ S.1 11 0 i &&& 1 = S.1 11 0 i) ∧
  (∃ T : Nat, S.1 0 9 0 = nI T ∧ T ≤ 9999)
/-- the model's part of S is as in S0 -/
def ref (S S0 : Sto) : Prop := InvS S0 ∧ (∀ f, f ≠ 37 → S.1 1 f = S0.1 1 f) ∧ (∀ a, 3 ≤ a → S.1 10 a = S0.1 10 a) ∧ S.1 11 1 = S0.1 11 1
theorem ref.rf {S : Sto} (h : InvS S) : ref S S := ⟨h, fun _ _ => rfl, fun _ _ => rfl, rfl⟩
theorem ref.ro {S S0 : Sto} (h : ref S S0) {i : Nat} (hi : i < S0.2.2 20) : S.1 10 3 i = S0.1 2 0 i ∧ S.1 10 4 i = S0.1 2 1 i ∧ S.1 10 5 i = S0.1 2 2 i ∧ S.1 10 6 i = S0.1 2 3 i ∧ S.1 10 7 i = S0.1 2 4 i ∧ S.1 10 8 i = S0.1 2 5 i ∧ S.1 10 9 i = S0.1 2 6 i ∧ S.1 10 10 i = S0.1 2 7 i ∧ S.1 10 11 i = S0.1 2 8 i ∧ S.1 10 12 i = S0.1 2 9 i := by
  have e := h.2.2.1
  rw [e 3 (by decide), e 4 (by decide), e 5 (by decide), e 6 (by decide), e 7 (by decide), e 8 (by decide), e 9 (by decide), e 10 (by decide), e 11 (by decide), e 12 (by decide)]
  exact h.1.2.2.1 i hi
theorem ref.wo {S S0 : Sto} (h : ref S S0) {i : Nat} (hi : i < S0.2.2 21) : S.1 10 13 (5 * i) = S0.1 3 0 i ∧ S.1 10 13 (5 * i + 1) = S0.1 3 1 i ∧ S.1 10 13 (5 * i + 2) = S0.1 3 2 i ∧ S.1 10 13 (5 * i + 3) = S0.1 7 0 i ∧ S.1 10 13 (5 * i + 4) = S0.1 7 1 i := by
  rw [h.2.2.1 13 (by decide)]
  exact h.1.2.2.2.2.1 i hi
theorem ref.pe {S S0 : Sto} (h : ref S S0) {i : Nat} (hi : i < S0.2.2 23) : S.1 10 29 (4 * i) = S0.1 5 0 i ∧ S.1 10 29 (4 * i + 1) = S0.1 5 1 i ∧ S.1 10 29 (4 * i + 2) = S0.1 8 0 i ∧ S.1 10 29 (4 * i + 3) = S0.1 8 1 i := by
  rw [h.2.2.1 29 (by decide)]
  exact h.1.2.2.2.2.2.1 i hi
theorem ref.em {S S0 : Sto} (h : ref S S0) {i : Nat} (hi : i < S0.2.2 24) : S.1 10 30 (3 * i) = S0.1 6 0 i ∧ S.1 10 30 (3 * i + 1) = S0.1 9 0 i ∧ S.1 10 30 (3 * i + 2) = S0.1 9 1 i := by
  rw [h.2.2.1 30 (by decide)]
  exact h.1.2.2.2.2.2.2.1 i hi
theorem ref.ri {S S0 : Sto} (h : ref S S0) {i : Nat} (hi : i < S0.2.2 22) : S.1 10 14 i = S0.1 4 8 i ∧ S.1 10 15 i = S0.1 4 0 i ∧ S.1 10 16 i = S0.1 4 1 i ∧ S.1 10 17 i = S0.1 4 2 i ∧ S.1 10 18 i = S0.1 4 3 i ∧ S.1 10 19 i = S0.1 4 4 i ∧ S.1 10 20 i = S0.1 4 5 i ∧ S.1 10 23 i = S0.1 4 9 i ∧ S.1 10 24 i = S0.1 4 10 i ∧ S.1 10 25 i = S0.1 4 11 i ∧ S.1 10 26 i = S0.1 4 12 i ∧ LoF S0 i (S.1 10 21 i) (S.1 10 22 i) ∧ (S0.1 4 9 i ≠ -1 → S0.1 0 9 0 < S0.1 4 10 i) := by
  have e := h.2.2.1
  rw [e 14 (by decide), e 15 (by decide), e 16 (by decide), e 17 (by decide), e 18 (by decide), e 19 (by decide), e 20 (by decide), e 21 (by decide), e 22 (by decide), e 23 (by decide), e 24 (by decide), e 25 (by decide), e 26 (by decide)]
  exact h.1.2.2.2.2.2.2.2.1 i hi
theorem ref.ct {S S0 : Sto} (h : ref S S0) : S.1 1 12 0 = nI (S0.2.2 20) ∧ S.1 1 14 0 = nI (S0.2.2 21) ∧ S.1 1 28 0 = nI (S0.2.2 22) ∧ S.1 1 32 0 = nI (S0.2.2 23) ∧ S.1 1 34 0 = nI (S0.2.2 24) ∧ S.1 1 0 0 = S0.1 0 9 0 := by
  have e := h.2.1
  rw [e 12 (by decide), e 14 (by decide), e 28 (by decide), e 32 (by decide), e 34 (by decide), e 0 (by decide)]
  exact h.1.2.1
theorem ref.wf {S S0 : Sto} (h : ref S S0) : WfH S0 := h.1.1
def s_X7_isTaken : SP := vS fun as S k => o1 1 as fun d => ∃ S0, ref S S0 ∧ inN d (S0.2.2 20) ∧ k (some (aI (bV (anyN (onH S0 d) (S0.2.2 22) && decide (¬ S0.1 2 7 d.toNatClampNeg ≤ 0)))))
def tb_X7_isTaken : Tb := [(0, .iconst 0, 1, xI (0)), (1, .istore_n 2, 1, x0), (2, .iconst 0, 1, xI (0)), (3, .istore_n 3, 1, x0), (4, .iload_n 3, 1, x0), (5, .aload_n 0, 1, x0), (6, .getfield 116, 3, xF 8 28 [811]), (9, .if_icmp .ge 29, 3, xN 38), (12, .iload_n 2, 1, x0), (13, .ifCond .ne 13, 3, xN 26), (16, .aload_n 0, 1, x0), (17, .getfield 74, 3, xF 8 24 [807]), (20, .iload_n 3, 1, x0), (21, .iaload, 1, x0), (22, .iload_n 1, 1, x0), (23, .if_icmp .ne 7, 3, xN 30), (26, .iconst 1, 1, xI (1)), (27, .goto 4, 3, xN 31), (30, .iconst 0, 1, xI (0)), (31, .istore_n 2, 1, x0), (32, .iinc 3 1, 3, xI (1)), (35, .goto (-31), 3, xN 4), (38, .iload_n 2, 1, x0), (39, .ifCond .eq 16, 3, xN 55), (42, .aload_n 0, 1, x0), (43, .getfield 35, 3, xF 8 9 [792]), (46, .iload_n 1, 1, x0), (47, .iaload, 1, x0), (48, .ifCond .le 7, 3, xN 55), (51, .iconst 1, 1, xI (1)), (52, .goto 4, 3, xN 56), (55, .iconst 0, 1, xI (0)), (56, .ireturn, 1, x0)]
theorem chk_X7_isTaken : chkTb cX7_isTaken "HeavyHaulModel" false tb_X7_isTaken = true := by decide +kernel
theorem cal_X7_isTaken {l : Launch} (hl : l.stackTraces = false) (hNL : NewL l) : CallsOK l "HeavyHaulModel" 0 tb_X7_isTaken := callsOK_f trivial
theorem ar_X7_isTaken : ∀ as S P, s_X7_isTaken as S P → as.length ≤ 4 ∧ ∀ a ∈ as, catV a = 1 := fun as S P h => by
  obtain ⟨_, rfl, _⟩ := o1_ok h
  exact ar_all ⟨Nat.le_of_ble_eq_true rfl, rfl⟩
theorem rc_X7_isTaken : ∀ as S P, s_X7_isTaken as S P → ∃ k i r, as = aR k i :: r ∧ ci k = 8 ∧ (obK k = true ∨ k = 13) := fun as S P h => by
  obtain ⟨_, rfl, _⟩ := o1_ok h
  exact ⟨_, _, _, rfl, rfl, Or.inl rfl⟩
theorem vc_X7_isTaken : ∀ (G : Gt) (Q : Out → Sto → Prop) (as : List AV) (S : Sto), s_X7_isTaken as S Q → Seg tb_X7_isTaken G Q 2 0 [] (0, fun _ => 0) → G 0 (argL as 4) [] S 0 := by
  intro G Q as S h hs
  obtain ⟨d, rfl, S0, hr, hd, hQ⟩ := o1_ok h
  have hn : S0.2.2 22 ≤ 6 := hr.wf.2.1.2.2.1
  have hd2 : d.toNatClampNeg < S0.2.2 20 := inN_lt hd (by have := hr.wf.2.1.1; omega)
  have e28 := hr.ct.2.2.1
  have loop : ∀ m k, k + m = S0.2.2 22 → G 4 [some (aR 1 0), some (aI d), some (aI (bV (anyN (onH S0 d) k))), some (aI (nI k))] [] S 0 := by
    intro m
    induction m with
    | zero =>
      intro k hk
      obtain rfl : k = S0.2.2 22 := hk
      refine hs [4] 60 4 _ _ _ _ ?_
      refine ⟨fun _ => ?_, fun q => ?_⟩
      · have hsp := (hr.ro hd2).2.2.2.2.2.2.2.1
        have hw20 := hr.wf.2.1.1
        have hv : vp_in d (al 10 10) := fun z => z.elim (fun z => absurd z (Int32.not_lt.mpr hd.1)) fun z => by
          have z' : 20 ≤ d.toNatClampNeg := z
          omega
        cases ha : anyN (onH S0 d) (S0.2.2 22) with
        | false =>
          rw [ha] at hQ
          exact ⟨fun _ => ⟨rfl, hQ⟩, fun z => absurd rfl z⟩
        | true =>
          rw [ha] at hQ
          refine ⟨fun z => absurd z (by decide), fun _ => ⟨hv, fun z => ⟨rfl, ?_⟩, fun z => ⟨rfl, ?_⟩⟩⟩
          · have z' : S0.1 2 7 d.toNatClampNeg ≤ 0 := by rw [← hsp]; exact z
            rw [decide_eq_false (fun w => w z')] at hQ
            exact hQ
          · have z' : ¬ S0.1 2 7 d.toNatClampNeg ≤ 0 := by rw [← hsp]; exact z
            rw [decide_eq_true z'] at hQ
            exact hQ
      · rw [e28] at q
        exact (lp_end q).elim
    | succ m ih =>
      intro k hk
      have hk2 : k < S0.2.2 22 := by omega
      have ho := (hr.ri hk2).2.2.2.2.2.2.2.1
      have h1 := ih (k + 1) (by omega)
      rw [← nI_s] at h1
      have hs1 : anyN (onH S0 d) (k + 1) = (anyN (onH S0 d) k || onH S0 d k) := rfl
      refine hs [4] 60 4 _ _ _ _ ?_
      refine ⟨fun q => ?_, fun _ => ?_⟩
      · rw [e28] at q
        exact absurd q (lp_go (by omega) hk2)
      · cases ha : anyN (onH S0 d) k with
        | true =>
          rw [hs1, ha, Bool.true_or] at h1
          exact ⟨fun _ => h1, fun z => absurd z (by decide)⟩
        | false =>
          rw [hs1, ha, Bool.false_or] at h1
          refine ⟨fun z => absurd rfl z, fun _ => ⟨nI_vin (b := 6) (by omega) (by omega), fun z => ?_, fun z => ?_⟩⟩
          · rw [nI_cl (by omega), ho] at z
            have e : onH S0 d k = false := decide_eq_false z
            rw [e] at h1
            exact h1
          · rw [nI_cl (by omega), ho] at z
            have e : onH S0 d k = true := decide_eq_true z
            rw [e] at h1
            exact h1
  exact hs [4] 60 0 _ _ _ _ (loop (S0.2.2 22) 0 (by omega))
theorem ct_X7_isTaken {l : Launch} (hl : l.stackTraces = false) (hNL : NewL l) : CT l yX7_isTaken cX7_isTaken 4 (some .boolean) 0 0 s_X7_isTaken := CT_of hl hNL (by decide +kernel) (own := "HeavyHaulModel") rfl (ini := false) (fun q => nomatch q) chk_X7_isTaken (cal_X7_isTaken hl hNL) ar_X7_isTaken vc_X7_isTaken
