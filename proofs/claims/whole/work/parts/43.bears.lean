/-! WHAT AN AXLE BEARS, by the model -/
theorem lN_div {a b : Nat} (ha : a < 2 ^ 31) (h0 : 0 < b) (hb : b < 2 ^ 31) : lN a / lN b = lN (a / b) := by
  refine Int64.toInt_inj.mp ?_
  have h1 : a / b ≤ a := Nat.div_le_self a b
  rw [Jvm.Kit.i64_div (by rw [lN_toInt ha]; omega), lN_toInt ha, lN_toInt hb, lN_toInt (by omega)]
  rfl
theorem num32 {x o h : Nat} (hx : x ≤ 300000) (ho : o ≤ 99999) (h1 : 1 ≤ h) (h8 : h ≤ 8) : (nI x + nI o / 2 + nI h - 1) / nI h = nI ((x + o / 2 + h - 1) / h) := by
  have e2 : (2 : Int32) = nI 2 := rfl
  have e1 : (1 : Int32) = nI 1 := rfl
  have h3 : o / 2 ≤ o := Nat.div_le_self o 2
  rw [e2, e1, pk_div (by omega) (by omega) (by omega), nI_add, nI_add, nI_sub (by omega), pk_div (by omega) (by omega) (by omega)]
theorem num64 {x o h : Nat} (hx : x ≤ 300000) (ho : o ≤ 99999) (h1 : 1 ≤ h) (h8 : h ≤ 8) : ((lN x + (nI o / 2).toInt64 + (nI h).toInt64 - 1) / (nI h).toInt64).toInt32 = (nI x + nI o / 2 + nI h - 1) / nI h := by
  rw [num32 hx ho h1 h8]
  have e2 : (2 : Int32) = nI 2 := rfl
  have e1 : (1 : Int64) = lN 1 := rfl
  have h3 : o / 2 ≤ o := Nat.div_le_self o 2
  rw [e2, e1, pk_div (by omega) (by omega) (by omega), nI_l (by omega), nI_l (by omega), lN_add, lN_add, lN_sub (by omega), lN_div (by omega) (by omega) (by omega), lN_i]
def brH (S : Sto) (j : Nat) (rear : Int32) : Int32 := if rear = 0 then S.1 4 6 j else S.1 4 7 j
theorem Q_eq {Q : Out → Sto → Prop} {S : Sto} {x y : Int32} (h : x = y) (hq : Q (Sum.inl (some (aI y))) S) : Q (Sum.inl (some (aI x))) S := by
  rw [h]
  exact hq
def s_X7_bears : SP := vS fun as S k => o2 1 as fun r re => ∃ S0, ref S S0 ∧ inN r (S0.2.2 22) ∧ k (some (aI (brH S0 r.toNatClampNeg re)))
def tb_X7_bears : Tb := [(0, .aload_n 0, 1, x0), (1, .getfield 68, 3, xF 8 22 [805]), (4, .iload_n 1, 1, x0), (5, .iaload, 1, x0), (6, .i2l, 1, x0), (7, .aload_n 0, 1, x0), (8, .iload_n 1, 1, x0), (9, .aload_n 0, 1, x0), (10, .getfield 71, 3, xF 8 23 [806]), (13, .iload_n 1, 1, x0), (14, .iaload, 1, x0), (15, .invokevirtual 146, 3, xS 3 0 s_X7_rears), (18, .i2l, 1, x0), (19, .lmul, 1, x0), (20, .aload_n 0, 1, x0), (21, .getfield 50, 3, xF 8 16 [799]), (24, .iload_n 1, 1, x0), (25, .iaload, 1, x0), (26, .aload_n 0, 1, x0), (27, .getfield 53, 3, xF 8 17 [800]), (30, .iload_n 1, 1, x0), (31, .iaload, 1, x0), (32, .imul, 1, x0), (33, .i2l, 1, x0), (34, .ldiv, 1, x0), (35, .lstore_n 3, 1, x0), (36, .aload_n 0, 1, x0), (37, .getfield 68, 3, xF 8 22 [805]), (40, .iload_n 1, 1, x0), (41, .iaload, 1, x0), (42, .ifCond .ne 7, 3, xN 49), (45, .lconst 0, 1, x0), (46, .goto 20, 3, xN 66), (49, .iload_n 2, 1, x0), (50, .ifCond .eq 7, 3, xN 57), (53, .lload_n 3, 1, x0), (54, .goto 12, 3, xN 66), (57, .aload_n 0, 1, x0), (58, .getfield 68, 3, xF 8 22 [805]), (61, .iload_n 1, 1, x0), (62, .iaload, 1, x0), (63, .i2l, 1, x0), (64, .lload_n 3, 1, x0), (65, .lsub, 1, x0), (66, .lstore 5, 2, x0), (68, .lload 5, 2, x0), (70, .aload_n 0, 1, x0), (71, .getfield 65, 3, xF 8 21 [804]), (74, .iload_n 1, 1, x0), (75, .iaload, 1, x0), (76, .iconst 2, 1, xI (2)), (77, .idiv, 1, x0), (78, .i2l, 1, x0), (79, .ladd, 1, x0), (80, .lstore 5, 2, x0), (82, .aload_n 0, 1, x0), (83, .getfield 50, 3, xF 8 16 [799]), (86, .iload_n 1, 1, x0), (87, .iaload, 1, x0), (88, .iconst 2, 1, xI (2)), (89, .idiv, 1, x0), (90, .istore 7, 2, x0), (92, .lload 5, 2, x0), (94, .iload 7, 2, x0), (96, .i2l, 1, x0), (97, .ladd, 1, x0), (98, .lconst 1, 1, x0), (99, .lsub, 1, x0), (100, .iload 7, 2, x0), (102, .i2l, 1, x0), (103, .ldiv, 1, x0), (104, .l2i, 1, x0), (105, .ireturn, 1, x0)]
theorem chk_X7_bears : chkTb cX7_bears "HeavyHaulModel" false tb_X7_bears = true := by decide +kernel
theorem cal_X7_bears {l : Launch} (hl : l.stackTraces = false) (hNL : NewL l) : CallsOK l "HeavyHaulModel" 1 tb_X7_bears := callsOK_f ⟨⟨_, _, 3, 0, _, 8, (ct_X7_rears hl hNL), ⟨List.mem_of_getElem? (i := 956) (by decide +kernel), List.mem_of_getElem? (i := 44) (by decide +kernel), List.mem_of_getElem? (i := 953) (by decide +kernel), ⟨by decide +kernel, by decide +kernel⟩, by decide +kernel, by decide⟩, List.mem_of_getElem? (i := 955) (by decide +kernel), List.mem_of_getElem? (i := 28) (by decide +kernel), by decide, by decide, rc_X7_rears⟩, trivial⟩
theorem ar_X7_bears : ∀ as S P, s_X7_bears as S P → as.length ≤ 8 ∧ ∀ a ∈ as, catV a = 1 := fun as S P h => by
  obtain ⟨_, _, rfl, _⟩ := o2_ok h
  exact ar_all ⟨Nat.le_of_ble_eq_true rfl, rfl⟩
theorem rc_X7_bears : ∀ as S P, s_X7_bears as S P → ∃ k i r, as = aR k i :: r ∧ ci k = 8 ∧ (obK k = true ∨ k = 13) := fun as S P h => by
  obtain ⟨_, _, rfl, _⟩ := o2_ok h
  exact ⟨_, _, _, rfl, rfl, Or.inl rfl⟩
set_option maxRecDepth 8000 in
theorem vc_X7_bears : ∀ (G : Gt) (Q : Out → Sto → Prop) (as : List AV) (S : Sto), s_X7_bears as S Q → Seg tb_X7_bears G Q 1 0 [] (0, fun _ => 0) → G 0 (argL as 8) [] S 0 := by
  intro G Q as S h hs
  obtain ⟨r, re, rfl, S0, hr, hri, hQ⟩ := o2_ok h
  have hn := hr.wf.2.1.2.2.1
  have hj : r.toNatClampNeg < S0.2.2 22 := inN_lt hri (by omega)
  have hv : vp_in r 6 := d_in hri hn (by omega)
  obtain ⟨-, c15, c16, -, -, -, c20, -, -, -, -, hL, -⟩ := hr.ri hj
  obtain ⟨⟨l, c, o, eL, eC, eo, l2, c8, o9⟩, hcan, e6, e7⟩ := hL
  obtain ⟨a, d, p, ea, ed, -, a1, a8, d1, d5, -⟩ := hr.wf.2.2.2.2.2.2.2 _ hj
  obtain ⟨ha1, ha2, ha3⟩ := half_ok a a8 a1
  obtain ⟨hb1, hb2⟩ := base_ok a a8 d d5 a1 d1
  have hb3 : 2 * a * d ≤ 80 := by have := Nat.mul_le_mul (Nat.mul_le_mul (Nat.le_refl 2) a8) d5; omega
  have hb4 : 0 < 2 * a * d := Nat.mul_pos (by omega) (by omega)
  have hbas : basF S0 r.toNatClampNeg = nI (2 * a * d) := by unfold basF; rw [ea, ed, nI_mul]
  have z64 : ¬ (S.1 10 15 r.toNatClampNeg * S.1 10 16 r.toNatClampNeg).toInt64 = 0 := by
    rw [c15, c16, ea, ed, nI_mul, nI_l (by omega)]
    intro z
    have := (lN_eq (by omega) (by omega)).mp (show lN (2 * a * d) = lN 0 from z)
    omega
  have h64 : ¬ (S.1 10 15 r.toNatClampNeg / 2).toInt64 = 0 := by
    rw [c15, ea, ha1, nI_l (by omega)]
    intro z
    have := (lN_eq (by omega) (by omega)).mp (show lN a = lN 0 from z)
    omega
  have sh : ∀ x : Nat, x ≤ 300000 → ∀ y : Int32, y = nI x → ((lN x + (S.1 10 20 r.toNatClampNeg / 2).toInt64 + (S.1 10 15 r.toNatClampNeg / 2).toInt64 - 1) / (S.1 10 15 r.toNatClampNeg / 2).toInt64).toInt32 = shrF S0 r.toNatClampNeg y := fun x hx y hy => by
    unfold shrF
    rw [hy, c20, c15, eo, ea, ha1]
    exact num64 hx o9 (by omega) (by omega)
  have hp : ¬ S.1 10 21 r.toNatClampNeg = 0 → ∃ q : Nat, q ≤ l ∧ (S.1 10 21 r.toNatClampNeg).toInt64 * ((2 : Int32) * S.1 10 22 r.toNatClampNeg - (S.1 10 15 r.toNatClampNeg / 2 - 1) * S.1 10 16 r.toNatClampNeg).toInt64 / (S.1 10 15 r.toNatClampNeg * S.1 10 16 r.toNatClampNeg).toInt64 = lN q ∧ reaF S0 r.toNatClampNeg (S.1 10 21 r.toNatClampNeg) (S.1 10 22 r.toNatClampNeg) = nI q := fun hz => by
    obtain ⟨v0, v1⟩ := hcan.resolve_left hz
    have e : (2 : Int32) * S.1 10 22 r.toNatClampNeg - (S.1 10 15 r.toNatClampNeg / 2 - 1) * S.1 10 16 r.toNatClampNeg = levF S0 r.toNatClampNeg (S.1 10 22 r.toNatClampNeg) := by
      unfold levF
      rw [c15, c16]
    obtain ⟨v, hv2, ev⟩ := nI_of v0
    rw [ev, hbas] at v1
    have hvb : v ≤ 2 * a * d := (nI_le2 hv2 (by omega)).mp v1
    have hlv : l * v ≤ 200000 * 80 := Nat.mul_le_mul l2 (by omega)
    refine ⟨l * v / (2 * a * d), Nat.div_le_of_le_mul (by rw [Nat.mul_comm]; exact Nat.mul_le_mul hvb (Nat.le_refl l)), ?_, ?_⟩
    · rw [e, ev, c15, c16, ea, ed, eL, nI_mul, nI_l (by omega), nI_l (by omega), nI_l (by omega), lN_mul, lN_div (by omega) hb4 (by omega)]
    · unfold reaF
      rw [hbas, ev, eL, nI_mul, pk_div (by omega) hb4 (by omega)]
  have hz0 : S.1 10 21 r.toNatClampNeg = 0 → reaF S0 r.toNatClampNeg (S.1 10 21 r.toNatClampNeg) (S.1 10 22 r.toNatClampNeg) = nI 0 ∧ S.1 10 21 r.toNatClampNeg - reaF S0 r.toNatClampNeg (S.1 10 21 r.toNatClampNeg) (S.1 10 22 r.toNatClampNeg) = nI 0 := fun hz => by
    have e : reaF S0 r.toNatClampNeg (S.1 10 21 r.toNatClampNeg) (S.1 10 22 r.toNatClampNeg) = nI 0 := by
      unfold reaF
      rw [hz, Int32.zero_mul, Int32.zero_div]
      rfl
    rw [e, hz]
    exact ⟨rfl, rfl⟩
  have q6 : re = 0 → Q (Sum.inl (some (aI (shrF S0 r.toNatClampNeg (S.1 10 21 r.toNatClampNeg - reaF S0 r.toNatClampNeg (S.1 10 21 r.toNatClampNeg) (S.1 10 22 r.toNatClampNeg)))))) S := fun z => by
    unfold brH at hQ
    rw [if_pos z, e6] at hQ
    exact hQ
  have q7 : ¬ re = 0 → Q (Sum.inl (some (aI (shrF S0 r.toNatClampNeg (reaF S0 r.toNatClampNeg (S.1 10 21 r.toNatClampNeg) (S.1 10 22 r.toNatClampNeg)))))) S := fun z => by
    unfold brH at hQ
    rw [if_neg z, e7] at hQ
    exact hQ
  refine hs [] 120 0 _ _ _ _ ?_
  refine ⟨hv, hv, hv, n2z, hv, hv, hv, z64, hv, fun hz => ⟨fun hre => ⟨hv, hv, n2z, hv, n2z, h64, ?_⟩, fun hre => ⟨hv, n2z, hv, n2z, h64, ?_⟩⟩, fun hz => ⟨hv, n2z, hv, n2z, h64, ?_⟩⟩
  · obtain ⟨q, hq, e64, e32⟩ := hp hz
    refine Q_eq ?_ (q6 hre)
    rw [e64, e32, eL, nI_l (by omega), lN_sub hq, nI_sub hq]
    exact sh _ (by omega) _ rfl
  · obtain ⟨q, hq, e64, e32⟩ := hp hz
    refine Q_eq ?_ (q7 hre)
    rw [e64, e32]
    exact sh _ (by omega) _ rfl
  · obtain ⟨x1, x2⟩ := hz0 hz
    by_cases hre : re = 0
    · refine Q_eq ?_ (q6 hre)
      rw [x2]
      exact sh 0 (by omega) _ rfl
    · refine Q_eq ?_ (q7 hre)
      rw [x1]
      exact sh 0 (by omega) _ rfl
theorem ct_X7_bears {l : Launch} (hl : l.stackTraces = false) (hNL : NewL l) : CT l yX7_bears cX7_bears 8 (some .int) 1 0 s_X7_bears := CT_of hl hNL (by decide +kernel) (own := "HeavyHaulModel") rfl (ini := false) (fun q => nomatch q) chk_X7_bears (cal_X7_bears hl hNL) ar_X7_bears vc_X7_bears
