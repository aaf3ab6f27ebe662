/-! WHY NOT, by the model -/
def bornH (S : Sto) (d r : Int32) : Bool := borneH S d.toNatClampNeg r.toNatClampNeg
def s_X7_isBorne : SP := vS fun as S k => o2 1 as fun r d => ∃ S0, ref S S0 ∧ inN r (S0.2.2 22) ∧ inN d (S0.2.2 20) ∧ k (some (aI (bV (bornH S0 d r))))
def tb_X7_isBorne : Tb := [(0, .aload_n 0, 1, x0), (1, .getfield 35, 3, xF 8 9 [792]), (4, .iload_n 2, 1, x0), (5, .iaload, 1, x0), (6, .ifCond .eq 35, 3, xN 41), (9, .aload_n 0, 1, x0), (10, .iload_n 2, 1, x0), (11, .iload_n 1, 1, x0), (12, .iconst 0, 1, xI (0)), (13, .invokevirtual 154, 3, xS 4 0 s_X7_tops), (16, .aload_n 0, 1, x0), (17, .getfield 38, 3, xF 8 10 [793]), (20, .iload_n 2, 1, x0), (21, .iaload, 1, x0), (22, .if_icmp .gt 23, 3, xN 45), (25, .aload_n 0, 1, x0), (26, .iload_n 2, 1, x0), (27, .iload_n 1, 1, x0), (28, .iconst 1, 1, xI (1)), (29, .invokevirtual 154, 3, xS 4 0 s_X7_tops), (32, .aload_n 0, 1, x0), (33, .getfield 41, 3, xF 8 11 [794]), (36, .iload_n 2, 1, x0), (37, .iaload, 1, x0), (38, .if_icmp .gt 7, 3, xN 45), (41, .iconst 1, 1, xI (1)), (42, .goto 4, 3, xN 46), (45, .iconst 0, 1, xI (0)), (46, .ireturn, 1, x0)]
theorem chk_X7_isBorne : chkTb cX7_isBorne "HeavyHaulModel" false tb_X7_isBorne = true := by decide +kernel
theorem cal_X7_isBorne {l : Launch} (hl : l.stackTraces = false) (hNL : NewL l) : CallsOK l "HeavyHaulModel" 3 tb_X7_isBorne := callsOK_f ⟨⟨_, _, 14, 2, _, 8, (ct_X7_tops hl hNL), ⟨List.mem_of_getElem? (i := 972) (by decide +kernel), List.mem_of_getElem? (i := 44) (by decide +kernel), List.mem_of_getElem? (i := 969) (by decide +kernel), ⟨by decide +kernel, by decide +kernel⟩, by decide +kernel, by decide⟩, List.mem_of_getElem? (i := 971) (by decide +kernel), List.mem_of_getElem? (i := 30) (by decide +kernel), by decide, by decide, rc_X7_tops⟩, ⟨_, _, 14, 2, _, 8, (ct_X7_tops hl hNL), ⟨List.mem_of_getElem? (i := 972) (by decide +kernel), List.mem_of_getElem? (i := 44) (by decide +kernel), List.mem_of_getElem? (i := 969) (by decide +kernel), ⟨by decide +kernel, by decide +kernel⟩, by decide +kernel, by decide⟩, List.mem_of_getElem? (i := 971) (by decide +kernel), List.mem_of_getElem? (i := 30) (by decide +kernel), by decide, by decide, rc_X7_tops⟩, trivial⟩
theorem ar_X7_isBorne : ∀ as S P, s_X7_isBorne as S P → as.length ≤ 3 ∧ ∀ a ∈ as, catV a = 1 := fun as S P h => by
  obtain ⟨_, _, rfl, _⟩ := o2_ok h
  exact ar_all ⟨Nat.le_of_ble_eq_true rfl, rfl⟩
theorem rc_X7_isBorne : ∀ as S P, s_X7_isBorne as S P → ∃ k i r, as = aR k i :: r ∧ ci k = 8 ∧ (obK k = true ∨ k = 13) := fun as S P h => by
  obtain ⟨_, _, rfl, _⟩ := o2_ok h
  exact ⟨_, _, _, rfl, rfl, Or.inl rfl⟩
theorem sp_0 {S : Sto} {i : Nat} (h : RoF S i) : S.1 2 7 i = 0 ↔ S.1 2 7 i ≤ 0 := by
  obtain ⟨p, q, a, t, s, -, -, -, -, hs, -, -, -, -, -, -, hs4⟩ := h
  rw [hs]
  constructor
  · intro z
    rw [z]
    exact Int32.le_refl _
  · intro z
    have := (nI_le2 (b := 0) (by omega) (by omega)).mp z
    obtain rfl : s = 0 := by omega
    rfl
theorem vc_X7_isBorne : ∀ (G : Gt) (Q : Out → Sto → Prop) (as : List AV) (S : Sto), s_X7_isBorne as S Q → Seg tb_X7_isBorne G Q 2 0 [] (0, fun _ => 0) → G 0 (argL as 3) [] S 0 := by
  intro G Q as S h hs
  obtain ⟨r, d, rfl, S0, hr, hri, hd, hQ⟩ := o2_ok h
  have hn20 := hr.wf.2.1.1
  have hi : d.toNatClampNeg < S0.2.2 20 := inN_lt hd (by omega)
  have hvd : vp_in d 20 := d_in hd hn20 (by omega)
  have c10 := (hr.ro hi).2.2.2.2.2.2.2.1
  have c11 := (hr.ro hi).2.2.2.2.2.2.2.2.1
  have c12 := (hr.ro hi).2.2.2.2.2.2.2.2.2
  have h0 := sp_0 (hr.wf.2.2.2.2.2.2.1 _ hi)
  have yes : bornH S0 d r = true → (1 : Int32) &&& 1 = 1 ∧ Q (Sum.inl (some (aI 1))) S := fun z => by
    rw [z] at hQ
    exact ⟨rfl, hQ⟩
  have no : bornH S0 d r = false → (0 : Int32) &&& 1 = 0 ∧ Q (Sum.inl (some (aI 0))) S := fun z => by
    rw [z] at hQ
    exact ⟨rfl, hQ⟩
  refine hs [] 90 0 _ _ _ _ ?_
  refine ⟨hvd, ?_⟩
  rw [c10]
  refine ⟨fun z => yes ?_, fun z => ?_⟩
  · unfold bornH borneH
    rw [decide_eq_true (h0.mp z)]
    rfl
  · have hz : ¬ S0.1 2 7 d.toNatClampNeg ≤ 0 := fun y => z (h0.mpr y)
    have e1 : ∀ b, (decide (greatH S0 d.toNatClampNeg r.toNatClampNeg 0 0 ≤ S0.1 2 8 d.toNatClampNeg) && decide (greatH S0 d.toNatClampNeg r.toNatClampNeg 1 0 ≤ S0.1 2 9 d.toNatClampNeg)) = b → bornH S0 d r = b := fun b hb => by
      unfold bornH borneH
      rw [decide_eq_false hz, Bool.false_or]
      exact hb
    refine ⟨rfl, rfl, S0, hr, hd, hri, hz, hvd, ?_⟩
    rw [c11]
    refine ⟨fun y => no (e1 false ?_), fun y => ⟨rfl, rfl, S0, hr, hd, hri, hz, hvd, ?_⟩⟩
    · rw [decide_eq_false (Int32.not_le.mpr y)]
      rfl
    · rw [c12]
      refine ⟨fun x => no (e1 false ?_), fun x => yes (e1 true ?_)⟩
      · rw [decide_eq_false (Int32.not_le.mpr x), Bool.and_false]
      · rw [decide_eq_true (Int32.not_lt.mp y), decide_eq_true (Int32.not_lt.mp x)]
        rfl
theorem ct_X7_isBorne {l : Launch} (hl : l.stackTraces = false) (hNL : NewL l) : CT l yX7_isBorne cX7_isBorne 3 (some .boolean) 3 0 s_X7_isBorne := CT_of hl hNL (by decide +kernel) (own := "HeavyHaulModel") rfl (ini := false) (fun q => nomatch q) chk_X7_isBorne (cal_X7_isBorne hl hNL) ar_X7_isBorne vc_X7_isBorne
def wnH (S : Sto) (r d t b : Int32) : Int32 := if sizeH S r.toNatClampNeg d.toNatClampNeg d t = 0 then (if S.1 2 5 d.toNatClampNeg < S.1 4 2 r.toNatClampNeg then 3 else if b = 0 then 4 else if S.1 10 1 (S.1 2 2 d.toNatClampNeg).toNatClampNeg < heavH S r.toNatClampNeg then 5 else leaveH S d.toNatClampNeg r t) else sizeH S r.toNatClampNeg d.toNatClampNeg d t
def s_X7_whyNot : SP := vS fun as S k => o4 1 as fun r d t b => ∃ S0, ref S S0 ∧ inN r (S0.2.2 22) ∧ inN d (S0.2.2 20) ∧ k (some (aI (wnH S0 r d t b)))
def tb_X7_whyNot : Tb := [(0, .aload_n 0, 1, x0), (1, .getfield 59, 3, xF 8 19 [802]), (4, .iload_n 1, 1, x0), (5, .iaload, 1, x0), (6, .aload_n 0, 1, x0), (7, .getfield 23, 3, xF 8 5 [788]), (10, .iload_n 2, 1, x0), (11, .iaload, 1, x0), (12, .aload_n 0, 1, x0), (13, .iload_n 2, 1, x0), (14, .iconst 1, 1, xI (1)), (15, .iload_n 3, 1, x0), (16, .invokevirtual 170, 3, xS 4 0 s_X7_more), (19, .iadd, 1, x0), (20, .if_icmp .le 5, 3, xN 25), (23, .iconst 1, 1, xI (1)), (24, .ireturn, 1, x0), (25, .aload_n 0, 1, x0), (26, .getfield 62, 3, xF 8 20 [803]), (29, .iload_n 1, 1, x0), (30, .iaload, 1, x0), (31, .aload_n 0, 1, x0), (32, .getfield 26, 3, xF 8 6 [789]), (35, .iload_n 2, 1, x0), (36, .iaload, 1, x0), (37, .aload_n 0, 1, x0), (38, .iload_n 2, 1, x0), (39, .iconst 2, 1, xI (2)), (40, .iload_n 3, 1, x0), (41, .invokevirtual 170, 3, xS 4 0 s_X7_more), (44, .iadd, 1, x0), (45, .if_icmp .le 5, 3, xN 50), (48, .iconst 2, 1, xI (2)), (49, .ireturn, 1, x0), (50, .aload_n 0, 1, x0), (51, .getfield 56, 3, xF 8 18 [801]), (54, .iload_n 1, 1, x0), (55, .iaload, 1, x0), (56, .aload_n 0, 1, x0), (57, .getfield 29, 3, xF 8 7 [790]), (60, .iload_n 2, 1, x0), (61, .iaload, 1, x0), (62, .if_icmp .le 5, 3, xN 67), (65, .iconst 3, 1, xI (3)), (66, .ireturn, 1, x0), (67, .iload 4, 2, x0), (69, .ifCond .ne 5, 3, xN 74), (72, .iconst 4, 1, xI (4)), (73, .ireturn, 1, x0), (74, .aload_n 0, 1, x0), (75, .iload_n 1, 1, x0), (76, .iconst 0, 1, xI (0)), (77, .invokevirtual 150, 3, xS 3 0 s_X7_bears), (80, .aload_n 0, 1, x0), (81, .getfield 89, 3, xF 8 30 [813]), (84, .aload_n 0, 1, x0), (85, .getfield 20, 3, xF 8 4 [787]), (88, .iload_n 2, 1, x0), (89, .iaload, 1, x0), (90, .iaload, 1, x0), (91, .if_icmp .gt 23, 3, xN 114), (94, .aload_n 0, 1, x0), (95, .iload_n 1, 1, x0), (96, .iconst 1, 1, xI (1)), (97, .invokevirtual 150, 3, xS 3 0 s_X7_bears), (100, .aload_n 0, 1, x0), (101, .getfield 89, 3, xF 8 30 [813]), (104, .aload_n 0, 1, x0), (105, .getfield 20, 3, xF 8 4 [787]), (108, .iload_n 2, 1, x0), (109, .iaload, 1, x0), (110, .iaload, 1, x0), (111, .if_icmp .le 5, 3, xN 116), (114, .iconst 5, 1, xI (5)), (115, .ireturn, 1, x0), (116, .aload_n 0, 1, x0), (117, .iload_n 1, 1, x0), (118, .iload_n 2, 1, x0), (119, .iload_n 3, 1, x0), (120, .invokevirtual 174, 3, xS 4 0 s_X7_isPermitted), (123, .ifCond .ne 6, 3, xN 129), (126, .bipush 6, 2, xI (6)), (128, .ireturn, 1, x0), (129, .aload_n 0, 1, x0), (130, .iload_n 2, 1, x0), (131, .iload_n 3, 1, x0), (132, .invokevirtual 177, 3, xS 3 0 s_X7_isBarred), (135, .ifCond .eq 8, 3, xN 143), (138, .bipush 7, 2, xI (7)), (140, .goto 26, 3, xN 166), (143, .iload_n 3, 1, x0), (144, .sipush 144, 3, xI (144)), (147, .irem, 1, x0), (148, .aload_n 0, 1, x0), (149, .getfield 32, 3, xF 8 8 [791]), (152, .iload_n 2, 1, x0), (153, .iaload, 1, x0), (154, .iadd, 1, x0), (155, .bipush 36, 2, xI (36)), (157, .if_icmp .le 8, 3, xN 165), (160, .bipush 8, 2, xI (8)), (162, .goto 4, 3, xN 166), (165, .iconst 0, 1, xI (0)), (166, .ireturn, 1, x0)]
theorem chk_X7_whyNot : chkTb cX7_whyNot "HeavyHaulModel" false tb_X7_whyNot = true := by decide +kernel
theorem cal_X7_whyNot {l : Launch} (hl : l.stackTraces = false) (hNL : NewL l) : CallsOK l "HeavyHaulModel" 2 tb_X7_whyNot := callsOK_f ⟨⟨_, _, 7, 0, _, 8, (ct_X7_more hl hNL), ⟨List.mem_of_getElem? (i := 1005) (by decide +kernel), List.mem_of_getElem? (i := 44) (by decide +kernel), List.mem_of_getElem? (i := 1002) (by decide +kernel), ⟨by decide +kernel, by decide +kernel⟩, by decide +kernel, by decide⟩, List.mem_of_getElem? (i := 1004) (by decide +kernel), List.mem_of_getElem? (i := 33) (by decide +kernel), by decide, by decide, rc_X7_more⟩, ⟨_, _, 7, 0, _, 8, (ct_X7_more hl hNL), ⟨List.mem_of_getElem? (i := 1005) (by decide +kernel), List.mem_of_getElem? (i := 44) (by decide +kernel), List.mem_of_getElem? (i := 1002) (by decide +kernel), ⟨by decide +kernel, by decide +kernel⟩, by decide +kernel, by decide⟩, List.mem_of_getElem? (i := 1004) (by decide +kernel), List.mem_of_getElem? (i := 33) (by decide +kernel), by decide, by decide, rc_X7_more⟩, ⟨_, _, 8, 1, _, 8, (ct_X7_bears hl hNL), ⟨List.mem_of_getElem? (i := 964) (by decide +kernel), List.mem_of_getElem? (i := 44) (by decide +kernel), List.mem_of_getElem? (i := 961) (by decide +kernel), ⟨by decide +kernel, by decide +kernel⟩, by decide +kernel, by decide⟩, List.mem_of_getElem? (i := 963) (by decide +kernel), List.mem_of_getElem? (i := 29) (by decide +kernel), by decide, by decide, rc_X7_bears⟩, ⟨_, _, 8, 1, _, 8, (ct_X7_bears hl hNL), ⟨List.mem_of_getElem? (i := 964) (by decide +kernel), List.mem_of_getElem? (i := 44) (by decide +kernel), List.mem_of_getElem? (i := 961) (by decide +kernel), ⟨by decide +kernel, by decide +kernel⟩, by decide +kernel, by decide⟩, List.mem_of_getElem? (i := 963) (by decide +kernel), List.mem_of_getElem? (i := 29) (by decide +kernel), by decide, by decide, rc_X7_bears⟩, ⟨_, _, 6, 0, _, 8, (ct_X7_isPermitted hl hNL), ⟨List.mem_of_getElem? (i := 1009) (by decide +kernel), List.mem_of_getElem? (i := 44) (by decide +kernel), List.mem_of_getElem? (i := 1006) (by decide +kernel), ⟨by decide +kernel, by decide +kernel⟩, by decide +kernel, by decide⟩, List.mem_of_getElem? (i := 1008) (by decide +kernel), List.mem_of_getElem? (i := 34) (by decide +kernel), by decide, by decide, rc_X7_isPermitted⟩, ⟨_, _, 5, 0, _, 8, (ct_X7_isBarred hl hNL), ⟨List.mem_of_getElem? (i := 1013) (by decide +kernel), List.mem_of_getElem? (i := 44) (by decide +kernel), List.mem_of_getElem? (i := 1010) (by decide +kernel), ⟨by decide +kernel, by decide +kernel⟩, by decide +kernel, by decide⟩, List.mem_of_getElem? (i := 1012) (by decide +kernel), List.mem_of_getElem? (i := 35) (by decide +kernel), by decide, by decide, rc_X7_isBarred⟩, trivial⟩
theorem ar_X7_whyNot : ∀ as S P, s_X7_whyNot as S P → as.length ≤ 5 ∧ ∀ a ∈ as, catV a = 1 := fun as S P h => by
  obtain ⟨_, _, _, _, rfl, _⟩ := o4_ok h
  exact ar_all ⟨Nat.le_of_ble_eq_true rfl, rfl⟩
theorem rc_X7_whyNot : ∀ as S P, s_X7_whyNot as S P → ∃ k i r, as = aR k i :: r ∧ ci k = 8 ∧ (obK k = true ∨ k = 13) := fun as S P h => by
  obtain ⟨_, _, _, _, rfl, _⟩ := o4_ok h
  exact ⟨_, _, _, rfl, rfl, Or.inl rfl⟩
set_option maxRecDepth 8000 in
theorem vc_X7_whyNot : ∀ (G : Gt) (Q : Out → Sto → Prop) (as : List AV) (S : Sto), s_X7_whyNot as S Q → Seg tb_X7_whyNot G Q 1 0 [] (0, fun _ => 0) → G 0 (argL as 5) [] S 0 := by
  intro G Q as S h hs
  obtain ⟨r, d, t, b, rfl, S0, hr, hri, hd, hQ⟩ := o4_ok h
  have hn := hr.wf.2.1.2.2.1
  have hn20 := hr.wf.2.1.1
  have hj : r.toNatClampNeg < S0.2.2 22 := inN_lt hri (by omega)
  have hi : d.toNatClampNeg < S0.2.2 20 := inN_lt hd (by omega)
  have hv : vp_in r 6 := d_in hri hn (by omega)
  have hvd : vp_in d 20 := d_in hd hn20 (by omega)
  obtain ⟨-, -, -, c17, c18, c19, -⟩ := hr.ri hj
  obtain ⟨-, -, c5, c6, c7, c8, c9, -⟩ := hr.ro hi
  obtain ⟨p, q, au, tt, s, -, -, eau, -, -, -, -, -, au4, -⟩ := hr.wf.2.2.2.2.2.2.1 _ hi
  have hva : vp_in (S0.1 2 2 d.toNatClampNeg) 4 := by rw [eau]; exact nI_vin (by omega) au4
  have c28 : S.1 10 28 = S0.1 10 1 := by
    rw [hr.2.2.1 28 (by decide)]
    funext i
    exact ((hr.1.2.2.2.2.2.2.2.2.2.1 i).2).symm
  have hva2 : vp_in (S.1 10 5 d.toNatClampNeg) 4 := by rw [c5]; exact hva
  have s1 : S0.1 2 3 d.toNatClampNeg + gwH S0 d.toNatClampNeg d 0 t < S0.1 4 3 r.toNatClampNeg → Q (Sum.inl (some (aI 1))) S := fun z => by
    have e : sizeH S0 r.toNatClampNeg d.toNatClampNeg d t = 1 := if_pos z
    unfold wnH at hQ
    rw [e, if_neg (by decide)] at hQ
    exact hQ
  have s2 : ¬ S0.1 2 3 d.toNatClampNeg + gwH S0 d.toNatClampNeg d 0 t < S0.1 4 3 r.toNatClampNeg → S0.1 2 4 d.toNatClampNeg + gwH S0 d.toNatClampNeg d 1 t < S0.1 4 4 r.toNatClampNeg → Q (Sum.inl (some (aI 2))) S := fun z y => by
    have e : sizeH S0 r.toNatClampNeg d.toNatClampNeg d t = 2 := (if_neg z).trans (if_pos y)
    unfold wnH at hQ
    rw [e, if_neg (by decide)] at hQ
    exact hQ
  have s0 : ¬ S0.1 2 3 d.toNatClampNeg + gwH S0 d.toNatClampNeg d 0 t < S0.1 4 3 r.toNatClampNeg → ¬ S0.1 2 4 d.toNatClampNeg + gwH S0 d.toNatClampNeg d 1 t < S0.1 4 4 r.toNatClampNeg → Q (Sum.inl (some (aI (if S0.1 2 5 d.toNatClampNeg < S0.1 4 2 r.toNatClampNeg then 3 else if b = 0 then 4 else if S0.1 10 1 (S0.1 2 2 d.toNatClampNeg).toNatClampNeg < heavH S0 r.toNatClampNeg then 5 else leaveH S0 d.toNatClampNeg r t)))) S := fun z y => by
    have e : sizeH S0 r.toNatClampNeg d.toNatClampNeg d t = 0 := (if_neg z).trans (if_neg y)
    unfold wnH at hQ
    rw [e, if_pos rfl] at hQ
    exact hQ
  refine hs [] 150 0 _ _ _ _ ?_
  refine ⟨hv, hvd, rfl, rfl, S0, hr, hd, Or.inl rfl, ?_⟩
  rw [c18, c6]
  refine ⟨fun q1 => ⟨hv, hvd, rfl, rfl, S0, hr, hd, Or.inr rfl, ?_⟩, fun q1 => s1 (Int32.not_le.mp q1)⟩
  rw [c19, c7]
  refine ⟨fun q2 => ⟨hv, hvd, ?_⟩, fun q2 => s2 (Int32.not_lt.mpr q1) (Int32.not_le.mp q2)⟩
  have h0 := s0 (Int32.not_lt.mpr q1) (Int32.not_lt.mpr q2)
  rw [c17, c8]
  refine ⟨fun q3 => ⟨fun q4 => ⟨rfl, rfl, S0, hr, hri, hvd, hva2, ?_⟩, fun q4 => ?_⟩, fun q3 => ?_⟩
  · rw [if_neg (Int32.not_lt.mpr q3), if_neg q4] at h0
    rw [c28, c5]
    have hl : ∀ x y : Int32, ∀ m : Int32, (m < x ∨ m < y) ↔ m < (if x < y then y else x) := fun x y m => by
      by_cases h : x < y
      · rw [if_pos h]
        exact ⟨fun z => z.elim (fun z => Int32.lt_trans z h) id, Or.inr⟩
      · rw [if_neg h]
        exact ⟨fun z => z.elim id (fun z => Int32.lt_of_lt_of_le z (Int32.not_lt.mp h)), Or.inl⟩
    have hh := hl (S0.1 4 6 r.toNatClampNeg) (S0.1 4 7 r.toNatClampNeg) (S0.1 10 1 (S0.1 2 2 d.toNatClampNeg).toNatClampNeg)
    have five : (S0.1 10 1 (S0.1 2 2 d.toNatClampNeg).toNatClampNeg < S0.1 4 6 r.toNatClampNeg ∨ S0.1 10 1 (S0.1 2 2 d.toNatClampNeg).toNatClampNeg < S0.1 4 7 r.toNatClampNeg) → Q (Sum.inl (some (aI 5))) S := fun z => by
      rw [if_pos (show _ < heavH S0 r.toNatClampNeg from hh.mp z)] at h0
      exact h0
    refine ⟨fun f1 => five (Or.inl f1), fun f1 => ⟨rfl, rfl, S0, hr, hri, hvd, hva2, ?_⟩⟩
    rw [c28, c5]
    refine ⟨fun f2 => ?_, fun f2 => five (Or.inr (Int32.not_le.mp f2))⟩
    rw [if_neg (show ¬ _ < heavH S0 r.toNatClampNeg from fun z => (hh.mpr z).elim f1 (Int32.not_lt.mpr f2))] at h0
    unfold leaveH at h0
    refine ⟨rfl, rfl, S0, hr, hd, ?_⟩
    cases hp : anyN (permH S0 r (S0.1 2 2 d.toNatClampNeg) t (t + S0.1 2 6 d.toNatClampNeg)) (S0.2.2 23) with
    | false =>
      rw [if_neg (by rw [hp]; decide)] at h0
      exact ⟨fun z => absurd rfl z, fun _ => h0⟩
    | true =>
      rw [if_pos hp] at h0
      refine ⟨fun _ => ⟨rfl, rfl, S0, hr, hd, ?_⟩, fun z => absurd z (by decide)⟩
      cases he : anyN (embH S0 (S0.1 2 2 d.toNatClampNeg) t (t + S0.1 2 6 d.toNatClampNeg)) (S0.2.2 24) with
      | true =>
        rw [if_pos he] at h0
        exact ⟨fun z => absurd z (by decide), fun _ => h0⟩
      | false =>
        rw [if_neg (by rw [he]; decide)] at h0
        refine ⟨fun _ => ⟨rem144 t, hvd, ?_⟩, fun z => absurd rfl z⟩
        rw [c9]
        refine ⟨fun z => ?_, fun z => ?_⟩
        · rw [if_pos (show nightH t (S0.1 2 6 d.toNatClampNeg) = true from decide_eq_true z)] at h0
          exact h0
        · rw [if_neg (by unfold nightH; rw [decide_eq_false z]; decide)] at h0
          exact h0
  · rw [if_neg (Int32.not_lt.mpr q3), if_pos q4] at h0
    exact h0
  · rw [if_pos (Int32.not_le.mp q3)] at h0
    exact h0
theorem ct_X7_whyNot {l : Launch} (hl : l.stackTraces = false) (hNL : NewL l) : CT l yX7_whyNot cX7_whyNot 5 (some .int) 2 0 s_X7_whyNot := CT_of hl hNL (by decide +kernel) (own := "HeavyHaulModel") rfl (ini := false) (fun q => nomatch q) chk_X7_whyNot (cal_X7_whyNot hl hNL) ar_X7_whyNot vc_X7_whyNot
