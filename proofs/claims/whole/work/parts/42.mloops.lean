/-! THE MODEL's LOOPS over its rows -/
theorem ix_1 (a k : Nat) (h : a * k < 2 ^ 31) : (nI a * nI k).toNatClampNeg = a * k := by
  rw [nI_mul]
  exact nI_cl h
theorem ix_2 (a k c : Nat) (h : a * k + c < 2 ^ 31) : (nI a * nI k + nI c).toNatClampNeg = a * k + c := by
  rw [nI_mul, nI_add]
  exact nI_cl h
theorem iv_1 {a k n : Nat} (hn : n ≤ 3000) (h : a * k < n) : vp_in (nI a * nI k) n := by
  rw [nI_mul]
  exact nI_vin (by omega) h
theorem iv_2 {a k c n : Nat} (hn : n ≤ 3000) (h : a * k + c < n) : vp_in (nI a * nI k + nI c) n := by
  rw [nI_mul, nI_add]
  exact nI_vin (by omega) h
theorem d_in {d : Int32} {n m : Nat} (h : inN d n) (hn : n ≤ m) (hm : m ≤ 1000) : vp_in d m := fun z => z.elim (fun z => absurd z (Int32.not_lt.mpr h.1)) fun z => absurd (inN_lt h (by omega)) (by omega)
def wiF (w : Int32) : Int32 := if w = 1 then 0 else 1
def s_X7_more : SP := vS fun as S k => o3 1 as fun d w t => ∃ S0, ref S S0 ∧ inN d (S0.2.2 20) ∧ (w = 1 ∨ w = 2) ∧ k (some (aI (gwH S0 d.toNatClampNeg d (wiF w) t)))
def tb_X7_more : Tb := [(0, .iconst 0, 1, xI (0)), (1, .istore 4, 2, x0), (3, .iconst 0, 1, xI (0)), (4, .istore 5, 2, x0), (6, .iload 5, 2, x0), (8, .aload_n 0, 1, x0), (9, .getfield 139, 3, xF 8 14 [797]), (12, .if_icmp .ge 105, 3, xN 117), (15, .aload_n 0, 1, x0), (16, .getfield 44, 3, xF 8 13 [796]), (19, .iconst 5, 1, xI (5)), (20, .iload 5, 2, x0), (22, .imul, 1, x0), (23, .iaload, 1, x0), (24, .iload_n 1, 1, x0), (25, .if_icmp .ne 44, 3, xN 69), (28, .aload_n 0, 1, x0), (29, .getfield 44, 3, xF 8 13 [796]), (32, .iconst 5, 1, xI (5)), (33, .iload 5, 2, x0), (35, .imul, 1, x0), (36, .iconst 3, 1, xI (3)), (37, .iadd, 1, x0), (38, .iaload, 1, x0), (39, .iload_n 3, 1, x0), (40, .if_icmp .gt 29, 3, xN 69), (43, .aload_n 0, 1, x0), (44, .getfield 44, 3, xF 8 13 [796]), (47, .iconst 5, 1, xI (5)), (48, .iload 5, 2, x0), (50, .imul, 1, x0), (51, .iconst 4, 1, xI (4)), (52, .iadd, 1, x0), (53, .iaload, 1, x0), (54, .iload_n 3, 1, x0), (55, .aload_n 0, 1, x0), (56, .getfield 32, 3, xF 8 8 [791]), (59, .iload_n 1, 1, x0), (60, .iaload, 1, x0), (61, .iadd, 1, x0), (62, .if_icmp .lt 7, 3, xN 69), (65, .iconst 1, 1, xI (1)), (66, .goto 4, 3, xN 70), (69, .iconst 0, 1, xI (0)), (70, .istore 6, 2, x0), (72, .iload 6, 2, x0), (74, .ifCond .eq 33, 3, xN 107), (77, .aload_n 0, 1, x0), (78, .getfield 44, 3, xF 8 13 [796]), (81, .iconst 5, 1, xI (5)), (82, .iload 5, 2, x0), (84, .imul, 1, x0), (85, .iload_n 2, 1, x0), (86, .iadd, 1, x0), (87, .iaload, 1, x0), (88, .iload 4, 2, x0), (90, .if_icmp .le 17, 3, xN 107), (93, .aload_n 0, 1, x0), (94, .getfield 44, 3, xF 8 13 [796]), (97, .iconst 5, 1, xI (5)), (98, .iload 5, 2, x0), (100, .imul, 1, x0), (101, .iload_n 2, 1, x0), (102, .iadd, 1, x0), (103, .iaload, 1, x0), (104, .goto 5, 3, xN 109), (107, .iload 4, 2, x0), (109, .istore 4, 2, x0), (111, .iinc 5 1, 3, xI (1)), (114, .goto (-108), 3, xN 6), (117, .iload 4, 2, x0), (119, .ireturn, 1, x0)]
theorem chk_X7_more : chkTb cX7_more "HeavyHaulModel" false tb_X7_more = true := by decide +kernel
theorem cal_X7_more {l : Launch} (hl : l.stackTraces = false) (hNL : NewL l) : CallsOK l "HeavyHaulModel" 0 tb_X7_more := callsOK_f trivial
theorem ar_X7_more : ∀ as S P, s_X7_more as S P → as.length ≤ 7 ∧ ∀ a ∈ as, catV a = 1 := fun as S P h => by
  obtain ⟨_, _, _, rfl, _⟩ := o3_ok h
  exact ar_all ⟨Nat.le_of_ble_eq_true rfl, rfl⟩
theorem rc_X7_more : ∀ as S P, s_X7_more as S P → ∃ k i r, as = aR k i :: r ∧ ci k = 8 ∧ (obK k = true ∨ k = 13) := fun as S P h => by
  obtain ⟨_, _, _, rfl, _⟩ := o3_ok h
  exact ⟨_, _, _, rfl, rfl, Or.inl rfl⟩
theorem vc_X7_more : ∀ (G : Gt) (Q : Out → Sto → Prop) (as : List AV) (S : Sto), s_X7_more as S Q → Seg tb_X7_more G Q 1 0 [] (0, fun _ => 0) → G 0 (argL as 7) [] S 0 := by
  intro G Q as S h hs
  obtain ⟨d, w, t, rfl, S0, hr, hd, hw, hQ⟩ := o3_ok h
  have hn : S0.2.2 21 ≤ 30 := hr.wf.2.1.2.1
  have hn20 := hr.wf.2.1.1
  have hd2 : d.toNatClampNeg < S0.2.2 20 := inN_lt hd (by omega)
  have ht9 := (hr.ro hd2).2.2.2.2.2.2.1
  have e14 := hr.ct.2.1
  have hvd : vp_in d (al 10 9) := d_in (m := 20) hd hn20 (by omega)
  unfold gwH at hQ
  obtain ⟨en, hen⟩ : ∃ en, en = t + S0.1 2 6 d.toNatClampNeg := ⟨_, rfl⟩
  rw [← hen] at hQ
  have loop : ∀ m k, k + m = S0.2.2 21 → ∀ x, G 6 [some (aR 1 0), some (aI d), some (aI w), some (aI t), some (aI (gainH S0 d (wiF w) t en k)), some (aI (nI k)), x] [] S 0 := by
    intro m
    induction m with
    | zero =>
      intro k hk x
      obtain rfl : k = S0.2.2 21 := hk
      refine hs [6] 90 6 _ _ _ _ ?_
      refine ⟨fun _ => hQ, fun q => ?_⟩
      rw [e14] at q
      exact (lp_end q).elim
    | succ m ih =>
      intro k hk x
      have hk2 : k < S0.2.2 21 := by omega
      obtain ⟨c0, c1, c2, c3, c4⟩ := hr.wo hk2
      have key : ∀ v y, v = gainH S0 d (wiF w) t en (k + 1) → G 6 [some (aR 1 0), some (aI d), some (aI w), some (aI t), some (aI v), some (aI (nI k + 1)), y] [] S 0 := fun v y hv => by
        rw [hv, nI_s]
        exact ih (k + 1) (by omega) y
      refine hs [6] 90 6 _ _ _ _ ?_
      refine ⟨fun q => ?_, fun _ => ⟨iv_1 (a := 5) (n := 150) (by omega) (by omega), ?_⟩⟩
      · rw [e14] at q
        exact absurd q (lp_go (by omega) hk2)
      · have i0 : ((5 : Int32) * nI k).toNatClampNeg = 5 * k := ix_1 5 k (by omega)
        have i1 : ((5 : Int32) * nI k + 1).toNatClampNeg = 5 * k + 1 := ix_2 5 k 1 (by omega)
        have i2 : ((5 : Int32) * nI k + 2).toNatClampNeg = 5 * k + 2 := ix_2 5 k 2 (by omega)
        have i3 : ((5 : Int32) * nI k + 3).toNatClampNeg = 5 * k + 3 := ix_2 5 k 3 (by omega)
        have i4 : ((5 : Int32) * nI k + 4).toNatClampNeg = 5 * k + 4 := ix_2 5 k 4 (by omega)
        rw [i0, c0]
        refine ⟨fun z => ⟨fun _ => key _ _ (if_neg fun y => z y.1).symm, fun y => absurd rfl y⟩, fun z0 => ⟨iv_2 (a := 5) (c := 3) (n := 150) (by omega) (by omega), ?_⟩⟩
        rw [i3, c3]
        refine ⟨fun z => ⟨fun _ => key _ _ (if_neg fun y => absurd y.2.1 (Int32.not_le.mpr z)).symm, fun y => absurd rfl y⟩, fun z3 => ⟨iv_2 (a := 5) (c := 4) (n := 150) (by omega) (by omega), hvd, ?_⟩⟩
        rw [i4, c4, ht9]
        refine ⟨fun z => ⟨fun _ => key _ _ (if_neg fun y => absurd y.2.2 (Int32.not_le.mpr (by rw [hen]; exact z))).symm, fun y => absurd rfl y⟩, fun z4 => ⟨fun y => absurd y (by decide), fun _ => ?_⟩⟩
        have hc : S0.1 3 0 k = d ∧ S0.1 7 0 k ≤ t ∧ en ≤ S0.1 7 1 k := ⟨z0, Int32.not_lt.mp z3, by rw [hen]; exact Int32.not_lt.mp z4⟩
        rcases hw with rfl | rfl
        · have g1 := gainH_s (isH := wiF 1) hc (vl := S0.1 3 1) (if_pos rfl)
          refine ⟨iv_2 (a := 5) (c := 1) (n := 150) (by omega) (by omega), ?_⟩
          rw [i1, c1]
          refine ⟨fun z => key _ _ ?_, fun z => ⟨iv_2 (a := 5) (c := 1) (n := 150) (by omega) (by omega), ?_⟩⟩
          · rw [← g1, if_neg (Int32.not_lt.mpr z)]
          · rw [i1, c1]
            refine key _ _ ?_
            rw [← g1, if_pos (Int32.not_le.mp z)]
        · have g1 := gainH_s (isH := wiF 2) hc (vl := S0.1 3 2) (if_neg (by decide))
          refine ⟨iv_2 (a := 5) (c := 2) (n := 150) (by omega) (by omega), ?_⟩
          rw [i2, c2]
          refine ⟨fun z => key _ _ ?_, fun z => ⟨iv_2 (a := 5) (c := 2) (n := 150) (by omega) (by omega), ?_⟩⟩
          · rw [← g1, if_neg (Int32.not_lt.mpr z)]
          · rw [i2, c2]
            refine key _ _ ?_
            rw [← g1, if_pos (Int32.not_le.mp z)]
  exact hs [6] 90 0 _ _ _ _ (loop (S0.2.2 21) 0 (by omega) none)
theorem ct_X7_more {l : Launch} (hl : l.stackTraces = false) (hNL : NewL l) : CT l yX7_more cX7_more 7 (some .int) 0 0 s_X7_more := CT_of hl hNL (by decide +kernel) (own := "HeavyHaulModel") rfl (ini := false) (fun q => nomatch q) chk_X7_more (cal_X7_more hl hNL) ar_X7_more vc_X7_more
def s_X7_isPermitted : SP := vS fun as S k => o3 1 as fun r d t => ∃ S0, ref S S0 ∧ inN d (S0.2.2 20) ∧ k (some (aI (bV (anyN (permH S0 r (S0.1 2 2 d.toNatClampNeg) t (t + S0.1 2 6 d.toNatClampNeg)) (S0.2.2 23)))))
def tb_X7_isPermitted : Tb := [(0, .iconst 0, 1, xI (0)), (1, .istore 4, 2, x0), (3, .iconst 0, 1, xI (0)), (4, .istore 5, 2, x0), (6, .iload 5, 2, x0), (8, .aload_n 0, 1, x0), (9, .getfield 164, 3, xF 8 32 [815]), (12, .if_icmp .ge 91, 3, xN 103), (15, .iload 4, 2, x0), (17, .ifCond .ne 73, 3, xN 90), (20, .aload_n 0, 1, x0), (21, .getfield 92, 3, xF 8 31 [814]), (24, .iconst 4, 1, xI (4)), (25, .iload 5, 2, x0), (27, .imul, 1, x0), (28, .iaload, 1, x0), (29, .iload_n 1, 1, x0), (30, .if_icmp .ne 64, 3, xN 94), (33, .aload_n 0, 1, x0), (34, .getfield 92, 3, xF 8 31 [814]), (37, .iconst 4, 1, xI (4)), (38, .iload 5, 2, x0), (40, .imul, 1, x0), (41, .iconst 1, 1, xI (1)), (42, .iadd, 1, x0), (43, .iaload, 1, x0), (44, .aload_n 0, 1, x0), (45, .getfield 20, 3, xF 8 4 [787]), (48, .iload_n 2, 1, x0), (49, .iaload, 1, x0), (50, .if_icmp .ne 44, 3, xN 94), (53, .aload_n 0, 1, x0), (54, .getfield 92, 3, xF 8 31 [814]), (57, .iconst 4, 1, xI (4)), (58, .iload 5, 2, x0), (60, .imul, 1, x0), (61, .iconst 2, 1, xI (2)), (62, .iadd, 1, x0), (63, .iaload, 1, x0), (64, .iload_n 3, 1, x0), (65, .if_icmp .gt 29, 3, xN 94), (68, .aload_n 0, 1, x0), (69, .getfield 92, 3, xF 8 31 [814]), (72, .iconst 4, 1, xI (4)), (73, .iload 5, 2, x0), (75, .imul, 1, x0), (76, .iconst 3, 1, xI (3)), (77, .iadd, 1, x0), (78, .iaload, 1, x0), (79, .iload_n 3, 1, x0), (80, .aload_n 0, 1, x0), (81, .getfield 32, 3, xF 8 8 [791]), (84, .iload_n 2, 1, x0), (85, .iaload, 1, x0), (86, .iadd, 1, x0), (87, .if_icmp .lt 7, 3, xN 94), (90, .iconst 1, 1, xI (1)), (91, .goto 4, 3, xN 95), (94, .iconst 0, 1, xI (0)), (95, .istore 4, 2, x0), (97, .iinc 5 1, 3, xI (1)), (100, .goto (-94), 3, xN 6), (103, .iload 4, 2, x0), (105, .ireturn, 1, x0)]
theorem chk_X7_isPermitted : chkTb cX7_isPermitted "HeavyHaulModel" false tb_X7_isPermitted = true := by decide +kernel
theorem cal_X7_isPermitted {l : Launch} (hl : l.stackTraces = false) (hNL : NewL l) : CallsOK l "HeavyHaulModel" 0 tb_X7_isPermitted := callsOK_f trivial
theorem ar_X7_isPermitted : ∀ as S P, s_X7_isPermitted as S P → as.length ≤ 6 ∧ ∀ a ∈ as, catV a = 1 := fun as S P h => by
  obtain ⟨_, _, _, rfl, _⟩ := o3_ok h
  exact ar_all ⟨Nat.le_of_ble_eq_true rfl, rfl⟩
theorem rc_X7_isPermitted : ∀ as S P, s_X7_isPermitted as S P → ∃ k i r, as = aR k i :: r ∧ ci k = 8 ∧ (obK k = true ∨ k = 13) := fun as S P h => by
  obtain ⟨_, _, _, rfl, _⟩ := o3_ok h
  exact ⟨_, _, _, rfl, rfl, Or.inl rfl⟩
theorem bV_1 : ∀ b : Bool, bV b &&& 1 = bV b := by decide
theorem vc_X7_isPermitted : ∀ (G : Gt) (Q : Out → Sto → Prop) (as : List AV) (S : Sto), s_X7_isPermitted as S Q → Seg tb_X7_isPermitted G Q 2 0 [] (0, fun _ => 0) → G 0 (argL as 6) [] S 0 := by
  intro G Q as S h hs
  obtain ⟨r, d, t, rfl, S0, hr, hd, hQ⟩ := o3_ok h
  have hn : S0.2.2 23 ≤ 40 := hr.wf.2.1.2.2.2.1
  have hn20 := hr.wf.2.1.1
  have hd2 : d.toNatClampNeg < S0.2.2 20 := inN_lt hd (by omega)
  have hau := (hr.ro hd2).2.2.1
  have ht9 := (hr.ro hd2).2.2.2.2.2.2.1
  have e32 := hr.ct.2.2.2.1
  have hvd : vp_in d 20 := d_in (m := 20) hd hn20 (by omega)
  have loop : ∀ m k, k + m = S0.2.2 23 → G 6 [some (aR 1 0), some (aI r), some (aI d), some (aI t), some (aI (bV (anyN (permH S0 r (S0.1 2 2 d.toNatClampNeg) t (t + S0.1 2 6 d.toNatClampNeg)) k))), some (aI (nI k))] [] S 0 := by
    intro m
    induction m with
    | zero =>
      intro k hk
      obtain rfl : k = S0.2.2 23 := hk
      refine hs [6] 90 6 _ _ _ _ ?_
      refine ⟨fun _ => ⟨bV_1 _, hQ⟩, fun q => ?_⟩
      rw [e32] at q
      exact (lp_end q).elim
    | succ m ih =>
      intro k hk
      have hk2 : k < S0.2.2 23 := by omega
      obtain ⟨c0, c1, c2, c3⟩ := hr.pe hk2
      have h1 := ih (k + 1) (by omega)
      rw [← nI_s] at h1
      have hs1 : anyN (permH S0 r (S0.1 2 2 d.toNatClampNeg) t (t + S0.1 2 6 d.toNatClampNeg)) (k + 1) = (anyN (permH S0 r (S0.1 2 2 d.toNatClampNeg) t (t + S0.1 2 6 d.toNatClampNeg)) k || permH S0 r (S0.1 2 2 d.toNatClampNeg) t (t + S0.1 2 6 d.toNatClampNeg) k) := rfl
      rw [hs1] at h1
      refine hs [6] 90 6 _ _ _ _ ?_
      refine ⟨fun q => ?_, fun _ => ?_⟩
      · rw [e32] at q
        exact absurd q (lp_go (by omega) hk2)
      · cases ha : anyN (permH S0 r (S0.1 2 2 d.toNatClampNeg) t (t + S0.1 2 6 d.toNatClampNeg)) k with
        | true =>
          rw [ha, Bool.true_or] at h1
          exact ⟨fun _ => h1, fun z => absurd z (by decide)⟩
        | false =>
          rw [ha, Bool.false_or] at h1
          have no : ¬ (S0.1 5 0 k = r ∧ S0.1 5 1 k = S0.1 2 2 d.toNatClampNeg ∧ S0.1 8 0 k ≤ t ∧ t + S0.1 2 6 d.toNatClampNeg ≤ S0.1 8 1 k) → G 6 [some (aR 1 0), some (aI r), some (aI d), some (aI t), some (aI 0), some (aI (nI k + 1))] [] S 0 := fun z => by
            have e : permH S0 r (S0.1 2 2 d.toNatClampNeg) t (t + S0.1 2 6 d.toNatClampNeg) k = false := decide_eq_false z
            rw [e] at h1
            exact h1
          have i0 : ((4 : Int32) * nI k).toNatClampNeg = 4 * k := ix_1 4 k (by omega)
          have i1 : ((4 : Int32) * nI k + 1).toNatClampNeg = 4 * k + 1 := ix_2 4 k 1 (by omega)
          have i2 : ((4 : Int32) * nI k + 2).toNatClampNeg = 4 * k + 2 := ix_2 4 k 2 (by omega)
          have i3 : ((4 : Int32) * nI k + 3).toNatClampNeg = 4 * k + 3 := ix_2 4 k 3 (by omega)
          refine ⟨fun z => absurd rfl z, fun _ => ⟨iv_1 (a := 4) (n := 160) (by omega) (by omega), ?_⟩⟩
          rw [i0, c0]
          refine ⟨fun z => no fun y => z y.1, fun z0 => ⟨iv_2 (a := 4) (c := 1) (n := 160) (by omega) (by omega), hvd, ?_⟩⟩
          rw [i1, c1, hau]
          refine ⟨fun z => no fun y => z y.2.1, fun z1 => ⟨iv_2 (a := 4) (c := 2) (n := 160) (by omega) (by omega), ?_⟩⟩
          rw [i2, c2]
          refine ⟨fun z => no fun y => absurd y.2.2.1 (Int32.not_le.mpr z), fun z2 => ⟨iv_2 (a := 4) (c := 3) (n := 160) (by omega) (by omega), hvd, ?_⟩⟩
          rw [i3, c3, ht9]
          refine ⟨fun z => no fun y => absurd y.2.2.2 (Int32.not_le.mpr z), fun z3 => ?_⟩
          have e : permH S0 r (S0.1 2 2 d.toNatClampNeg) t (t + S0.1 2 6 d.toNatClampNeg) k = true := decide_eq_true ⟨z0, z1, Int32.not_lt.mp z2, Int32.not_lt.mp z3⟩
          rw [e] at h1
          exact h1
  exact hs [6] 90 0 _ _ _ _ (loop (S0.2.2 23) 0 (by omega))
theorem ct_X7_isPermitted {l : Launch} (hl : l.stackTraces = false) (hNL : NewL l) : CT l yX7_isPermitted cX7_isPermitted 6 (some .boolean) 0 0 s_X7_isPermitted := CT_of hl hNL (by decide +kernel) (own := "HeavyHaulModel") rfl (ini := false) (fun q => nomatch q) chk_X7_isPermitted (cal_X7_isPermitted hl hNL) ar_X7_isPermitted vc_X7_isPermitted
def s_X7_isBarred : SP := vS fun as S k => o2 1 as fun d t => ∃ S0, ref S S0 ∧ inN d (S0.2.2 20) ∧ k (some (aI (bV (anyN (embH S0 (S0.1 2 2 d.toNatClampNeg) t (t + S0.1 2 6 d.toNatClampNeg)) (S0.2.2 24)))))
def tb_X7_isBarred : Tb := [(0, .iconst 0, 1, xI (0)), (1, .istore_n 3, 1, x0), (2, .iconst 0, 1, xI (0)), (3, .istore 4, 2, x0), (5, .iload 4, 2, x0), (7, .aload_n 0, 1, x0), (8, .getfield 167, 3, xF 8 34 [817]), (11, .if_icmp .ge 74, 3, xN 85), (14, .iload_n 3, 1, x0), (15, .ifCond .ne 58, 3, xN 73), (18, .aload_n 0, 1, x0), (19, .getfield 95, 3, xF 8 33 [816]), (22, .iconst 3, 1, xI (3)), (23, .iload 4, 2, x0), (25, .imul, 1, x0), (26, .iaload, 1, x0), (27, .aload_n 0, 1, x0), (28, .getfield 20, 3, xF 8 4 [787]), (31, .iload_n 1, 1, x0), (32, .iaload, 1, x0), (33, .if_icmp .ne 44, 3, xN 77), (36, .aload_n 0, 1, x0), (37, .getfield 95, 3, xF 8 33 [816]), (40, .iconst 3, 1, xI (3)), (41, .iload 4, 2, x0), (43, .imul, 1, x0), (44, .iconst 1, 1, xI (1)), (45, .iadd, 1, x0), (46, .iaload, 1, x0), (47, .iload_n 2, 1, x0), (48, .aload_n 0, 1, x0), (49, .getfield 32, 3, xF 8 8 [791]), (52, .iload_n 1, 1, x0), (53, .iaload, 1, x0), (54, .iadd, 1, x0), (55, .if_icmp .ge 22, 3, xN 77), (58, .aload_n 0, 1, x0), (59, .getfield 95, 3, xF 8 33 [816]), (62, .iconst 3, 1, xI (3)), (63, .iload 4, 2, x0), (65, .imul, 1, x0), (66, .iconst 2, 1, xI (2)), (67, .iadd, 1, x0), (68, .iaload, 1, x0), (69, .iload_n 2, 1, x0), (70, .if_icmp .le 7, 3, xN 77), (73, .iconst 1, 1, xI (1)), (74, .goto 4, 3, xN 78), (77, .iconst 0, 1, xI (0)), (78, .istore_n 3, 1, x0), (79, .iinc 4 1, 3, xI (1)), (82, .goto (-77), 3, xN 5), (85, .iload_n 3, 1, x0), (86, .ireturn, 1, x0)]
theorem chk_X7_isBarred : chkTb cX7_isBarred "HeavyHaulModel" false tb_X7_isBarred = true := by decide +kernel
theorem cal_X7_isBarred {l : Launch} (hl : l.stackTraces = false) (hNL : NewL l) : CallsOK l "HeavyHaulModel" 0 tb_X7_isBarred := callsOK_f trivial
theorem ar_X7_isBarred : ∀ as S P, s_X7_isBarred as S P → as.length ≤ 5 ∧ ∀ a ∈ as, catV a = 1 := fun as S P h => by
  obtain ⟨_, _, rfl, _⟩ := o2_ok h
  exact ar_all ⟨Nat.le_of_ble_eq_true rfl, rfl⟩
theorem rc_X7_isBarred : ∀ as S P, s_X7_isBarred as S P → ∃ k i r, as = aR k i :: r ∧ ci k = 8 ∧ (obK k = true ∨ k = 13) := fun as S P h => by
  obtain ⟨_, _, rfl, _⟩ := o2_ok h
  exact ⟨_, _, _, rfl, rfl, Or.inl rfl⟩
theorem vc_X7_isBarred : ∀ (G : Gt) (Q : Out → Sto → Prop) (as : List AV) (S : Sto), s_X7_isBarred as S Q → Seg tb_X7_isBarred G Q 2 0 [] (0, fun _ => 0) → G 0 (argL as 5) [] S 0 := by
  intro G Q as S h hs
  obtain ⟨d, t, rfl, S0, hr, hd, hQ⟩ := o2_ok h
  have hn : S0.2.2 24 ≤ 20 := hr.wf.2.1.2.2.2.2
  have hn20 := hr.wf.2.1.1
  have hd2 : d.toNatClampNeg < S0.2.2 20 := inN_lt hd (by omega)
  have hau := (hr.ro hd2).2.2.1
  have ht9 := (hr.ro hd2).2.2.2.2.2.2.1
  have e34 := hr.ct.2.2.2.2.1
  have hvd : vp_in d 20 := d_in (m := 20) hd hn20 (by omega)
  have loop : ∀ m k, k + m = S0.2.2 24 → G 5 [some (aR 1 0), some (aI d), some (aI t), some (aI (bV (anyN (embH S0 (S0.1 2 2 d.toNatClampNeg) t (t + S0.1 2 6 d.toNatClampNeg)) k))), some (aI (nI k))] [] S 0 := by
    intro m
    induction m with
    | zero =>
      intro k hk
      obtain rfl : k = S0.2.2 24 := hk
      refine hs [5] 90 5 _ _ _ _ ?_
      refine ⟨fun _ => ⟨bV_1 _, hQ⟩, fun q => ?_⟩
      rw [e34] at q
      exact (lp_end q).elim
    | succ m ih =>
      intro k hk
      have hk2 : k < S0.2.2 24 := by omega
      obtain ⟨c0, c1, c2⟩ := hr.em hk2
      have h1 := ih (k + 1) (by omega)
      rw [← nI_s] at h1
      have hs1 : anyN (embH S0 (S0.1 2 2 d.toNatClampNeg) t (t + S0.1 2 6 d.toNatClampNeg)) (k + 1) = (anyN (embH S0 (S0.1 2 2 d.toNatClampNeg) t (t + S0.1 2 6 d.toNatClampNeg)) k || embH S0 (S0.1 2 2 d.toNatClampNeg) t (t + S0.1 2 6 d.toNatClampNeg) k) := rfl
      rw [hs1] at h1
      refine hs [5] 90 5 _ _ _ _ ?_
      refine ⟨fun q => ?_, fun _ => ?_⟩
      · rw [e34] at q
        exact absurd q (lp_go (by omega) hk2)
      · cases ha : anyN (embH S0 (S0.1 2 2 d.toNatClampNeg) t (t + S0.1 2 6 d.toNatClampNeg)) k with
        | true =>
          rw [ha, Bool.true_or] at h1
          exact ⟨fun _ => h1, fun z => absurd z (by decide)⟩
        | false =>
          rw [ha, Bool.false_or] at h1
          have no : ¬ (S0.1 6 0 k = S0.1 2 2 d.toNatClampNeg ∧ S0.1 9 0 k < t + S0.1 2 6 d.toNatClampNeg ∧ t < S0.1 9 1 k) → G 5 [some (aR 1 0), some (aI d), some (aI t), some (aI 0), some (aI (nI k + 1))] [] S 0 := fun z => by
            have e : embH S0 (S0.1 2 2 d.toNatClampNeg) t (t + S0.1 2 6 d.toNatClampNeg) k = false := decide_eq_false z
            rw [e] at h1
            exact h1
          have i0 : ((3 : Int32) * nI k).toNatClampNeg = 3 * k := ix_1 3 k (by omega)
          have i1 : ((3 : Int32) * nI k + 1).toNatClampNeg = 3 * k + 1 := ix_2 3 k 1 (by omega)
          have i2 : ((3 : Int32) * nI k + 2).toNatClampNeg = 3 * k + 2 := ix_2 3 k 2 (by omega)
          refine ⟨fun z => absurd rfl z, fun _ => ⟨iv_1 (a := 3) (n := 60) (by omega) (by omega), hvd, ?_⟩⟩
          rw [i0, c0, hau]
          refine ⟨fun z => no fun y => z y.1, fun z0 => ⟨iv_2 (a := 3) (c := 1) (n := 60) (by omega) (by omega), hvd, ?_⟩⟩
          rw [i1, c1, ht9]
          refine ⟨fun z => no fun y => absurd y.2.1 (Int32.not_lt.mpr z), fun z1 => ⟨iv_2 (a := 3) (c := 2) (n := 60) (by omega) (by omega), ?_⟩⟩
          rw [i2, c2]
          refine ⟨fun z => no fun y => absurd y.2.2 (Int32.not_lt.mpr z), fun z2 => ?_⟩
          have e : embH S0 (S0.1 2 2 d.toNatClampNeg) t (t + S0.1 2 6 d.toNatClampNeg) k = true := decide_eq_true ⟨z0, Int32.not_le.mp z1, Int32.not_le.mp z2⟩
          rw [e] at h1
          exact h1
  exact hs [5] 90 0 _ _ _ _ (loop (S0.2.2 24) 0 (by omega))
theorem ct_X7_isBarred {l : Launch} (hl : l.stackTraces = false) (hNL : NewL l) : CT l yX7_isBarred cX7_isBarred 5 (some .boolean) 0 0 s_X7_isBarred := CT_of hl hNL (by decide +kernel) (own := "HeavyHaulModel") rfl (ini := false) (fun q => nomatch q) chk_X7_isBarred (cal_X7_isBarred hl hNL) ar_X7_isBarred vc_X7_isBarred
