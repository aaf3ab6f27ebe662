/-! WHAT AN AXLE BEARS, by the law -/
theorem lN_div {a b : Nat} (ha : a < 2 ^ 31) (h0 : 0 < b) (hb : b < 2 ^ 31) : lN a / lN b = lN (a / b) := by
  refine Int64.toInt_inj.mp ?_
  have h1 : a / b ≤ a := Nat.div_le_self a b
  rw [Jvm.Kit.i64_div (by rw [lN_toInt ha]; omega), lN_toInt ha, lN_toInt hb, lN_toInt (by omega)]
  rfl
theorem num32 {x o h : Nat} (hx : x ≤ 300000) (ho : o ≤ 99999) (h1 : 1 ≤ h) (h8 : h ≤ 8) : (nI x + nI o / 2 + nI h - 1) / nI h = nI ((x + o / 2 + h - 1) / h) := by
  have e2 : (2 : Int32) = nI 2 := rfl
  have e1 : (1 : Int32) = nI 1 := rfl
  have h3 : o / 2 ≤ o := Nat.div_le_self o 2
  rw [e2, e1, pk_div (by omega) (by omega) (by omega), nI_add, nI_add, nI_sub (by omega), pk_div (by omega) (by omega) (by omega)]
def brH (S : Sto) (j : Nat) (rear : Int32) : Int32 := if rear = 0 then S.1 4 6 j else S.1 4 7 j
theorem Q_eq {Q : Out → Sto → Prop} {S : Sto} {x y : Int32} (h : x = y) (hq : Q (Sum.inl (some (aI y))) S) : Q (Sum.inl (some (aI x))) S := by
  rw [h]
  exact hq
/-- the rows of rigs, a rig, a truth -/
def gj (as : List AV) (f : Int32 → Int32 → Prop) : Prop := match as with
  | [Sum.inr (Sum.inr (k, i)), Sum.inl a, Sum.inl b] => k = 10 ∧ i = 5 ∧ f a b
  | _ => False
theorem gj_ok {as : List AV} {f : Int32 → Int32 → Prop} (h : gj as f) : ∃ a b, as = [aR 10 5, aI a, aI b] ∧ f a b := by
  unfold gj at h
  split at h
  · obtain ⟨rfl, rfl, h⟩ := h; exact ⟨_, _, rfl, h⟩
  · exact h.elim
theorem ceil_0 {b a : Nat} (ha : 0 < a) (h : b % a = 0) : (b + a - 1) / a = b / a := by
  have h1 := Nat.div_add_mod b a
  rw [h, Nat.add_zero] at h1
  have h2 : b + a - 1 = a * (b / a) + (a - 1) := by omega
  have h3 : (a - 1) / a = 0 := Nat.div_eq_of_lt (by omega)
  rw [h2, Nat.mul_add_div ha, h3, Nat.add_zero]
theorem ceil_1 {b a : Nat} (ha : 0 < a) (h : ¬ b % a = 0) : (b + a - 1) / a = b / a + 1 := by
  have h1 := Nat.div_add_mod b a
  have h3 := Nat.mod_lt b ha
  have h2 : b + a - 1 = a * (b / a + 1) + (b % a - 1) := by rw [Nat.mul_add]; omega
  have h4 : (b % a - 1) / a = 0 := Nat.div_eq_of_lt (by omega)
  rw [h2, Nat.mul_add_div ha, h4, Nat.add_zero]
def s_L_axle : SP := vS fun as S k => gj as fun r re => ∃ (T j : Nat), LawI T S ∧ r = nI j ∧ j < 2 ∧ k (some (aI (brH S j re)))
def tb_L_axle : Tb := [(0, .bipush 14, 2, xI (14)), (2, .iload_n 1, 1, x0), (3, .imul, 1, x0), (4, .istore_n 3, 1, x0), (5, .aload_n 0, 1, x0), (6, .iload_n 3, 1, x0), (7, .iconst 1, 1, xI (1)), (8, .iadd, 1, x0), (9, .iaload, 1, x0), (10, .iconst 2, 1, xI (2)), (11, .idiv, 1, x0), (12, .istore 4, 2, x0), (14, .iconst 2, 1, xI (2)), (15, .aload_n 0, 1, x0), (16, .iload_n 3, 1, x0), (17, .bipush 8, 2, xI (8)), (19, .iadd, 1, x0), (20, .iaload, 1, x0), (21, .imul, 1, x0), (22, .iload 4, 2, x0), (24, .iconst 1, 1, xI (1)), (25, .isub, 1, x0), (26, .aload_n 0, 1, x0), (27, .iload_n 3, 1, x0), (28, .iconst 2, 1, xI (2)), (29, .iadd, 1, x0), (30, .iaload, 1, x0), (31, .imul, 1, x0), (32, .isub, 1, x0), (33, .istore 5, 2, x0), (35, .aload_n 0, 1, x0), (36, .iload_n 3, 1, x0), (37, .bipush 7, 2, xI (7)), (39, .iadd, 1, x0), (40, .iaload, 1, x0), (41, .i2l, 1, x0), (42, .iload 5, 2, x0), (44, .i2l, 1, x0), (45, .lmul, 1, x0), (46, .iconst 2, 1, xI (2)), (47, .iload 4, 2, x0), (49, .imul, 1, x0), (50, .aload_n 0, 1, x0), (51, .iload_n 3, 1, x0), (52, .iconst 2, 1, xI (2)), (53, .iadd, 1, x0), (54, .iaload, 1, x0), (55, .imul, 1, x0), (56, .i2l, 1, x0), (57, .ldiv, 1, x0), (58, .lstore 6, 2, x0), (60, .iload_n 2, 1, x0), (61, .ifCond .eq 8, 3, xN 69), (64, .lload 6, 2, x0), (66, .goto 13, 3, xN 79), (69, .aload_n 0, 1, x0), (70, .iload_n 3, 1, x0), (71, .bipush 7, 2, xI (7)), (73, .iadd, 1, x0), (74, .iaload, 1, x0), (75, .i2l, 1, x0), (76, .lload 6, 2, x0), (78, .lsub, 1, x0), (79, .aload_n 0, 1, x0), (80, .iload_n 3, 1, x0), (81, .bipush 6, 2, xI (6)), (83, .iadd, 1, x0), (84, .iaload, 1, x0), (85, .iconst 2, 1, xI (2)), (86, .idiv, 1, x0), (87, .i2l, 1, x0), (88, .ladd, 1, x0), (89, .lstore 8, 2, x0), (91, .lload 8, 2, x0), (93, .iload 4, 2, x0), (95, .i2l, 1, x0), (96, .ldiv, 1, x0), (97, .l2i, 1, x0), (98, .lload 8, 2, x0), (100, .iload 4, 2, x0), (102, .i2l, 1, x0), (103, .lrem, 1, x0), (104, .lconst 0, 1, x0), (105, .lcmp, 1, x0), (106, .ifCond .le 7, 3, xN 113), (109, .iconst 1, 1, xI (1)), (110, .goto 4, 3, xN 114), (113, .iconst 0, 1, xI (0)), (114, .iadd, 1, x0), (115, .ireturn, 1, x0)]
theorem chk_L_axle : chkTb cL_axle "HeavyHaulLaw" false tb_L_axle = true := by decide +kernel
theorem cal_L_axle {l : Launch} (hl : l.stackTraces = false) (hNL : NewL l) : CallsOK l "HeavyHaulLaw" 0 tb_L_axle := callsOK_f trivial
theorem ar_L_axle : ∀ as S P, s_L_axle as S P → as.length ≤ 10 ∧ ∀ a ∈ as, catV a = 1 := fun as S P h => by
  obtain ⟨_, _, rfl, _⟩ := gj_ok h
  exact ar_all ⟨Nat.le_of_ble_eq_true rfl, rfl⟩
set_option maxRecDepth 8000 in
theorem vc_L_axle : ∀ (G : Gt) (Q : Out → Sto → Prop) (as : List AV) (S : Sto), s_L_axle as S Q → Seg tb_L_axle G Q 1 0 [] (0, fun _ => 0) → G 0 (argL as 10) [] S 0 := by
  intro G Q as S h hs
  obtain ⟨r, re, rfl, T, j, hI, rfl, hj, hQ⟩ := gj_ok h
  have vg1 : vp_in ((14 : Int32) * nI j + 1) 28 := vG hI hj 1 (by decide)
  have g1 : S.1 10 5 ((14 : Int32) * nI j + 1).toNatClampNeg = S.1 4 0 j := aG hI hj 1 (by decide)
  have vg2 : vp_in ((14 : Int32) * nI j + 2) 28 := vG hI hj 2 (by decide)
  have g2 : S.1 10 5 ((14 : Int32) * nI j + 2).toNatClampNeg = S.1 4 1 j := aG hI hj 2 (by decide)
  have vg6 : vp_in ((14 : Int32) * nI j + 6) 28 := vG hI hj 6 (by decide)
  have g6 : S.1 10 5 ((14 : Int32) * nI j + 6).toNatClampNeg = S.1 4 5 j := aG hI hj 6 (by decide)
  have vg7 : vp_in ((14 : Int32) * nI j + 7) 28 := vG hI hj 7 (by decide)
  have g7 : S.1 10 5 ((14 : Int32) * nI j + 7).toNatClampNeg = S.1 10 5 (14 * j + 7) := aG hI hj 7 (by decide)
  have vg8 : vp_in ((14 : Int32) * nI j + 8) 28 := vG hI hj 8 (by decide)
  have g8 : S.1 10 5 ((14 : Int32) * nI j + 8).toNatClampNeg = S.1 10 5 (14 * j + 8) := aG hI hj 8 (by decide)
  obtain ⟨-, hL, -⟩ := hI.ri j hj
  obtain ⟨⟨l, c, o, eL, eC, eo, l2, c8, o9⟩, hcan, e6, e7⟩ := hL
  obtain ⟨a, d, p, ea, ed, -, a1, a8, d1, d5, -⟩ := hI.wf.2.2.2.2.2.2.2 j (by rw [hI.n.2.1]; exact hj)
  obtain ⟨ha1, ha2, ha3⟩ := half_ok a a8 a1
  have hb3 : 2 * a * d ≤ 80 := by have := Nat.mul_le_mul (Nat.mul_le_mul (Nat.le_refl 2) a8) d5; omega
  have hb4 : 0 < 2 * a * d := Nat.mul_pos (by omega) (by omega)
  have hbas : basF S j = nI (2 * a * d) := by unfold basF; rw [ea, ed, nI_mul]
  have e2 : (2 : Int32) = nI 2 := rfl
  have ebas : (2 : Int32) * (S.1 4 0 j / 2) * S.1 4 1 j = nI (2 * a * d) := by rw [ea, ha1, ed, e2, nI_mul, nI_mul]
  have z64 : ¬ ((2 : Int32) * (S.1 4 0 j / 2) * S.1 4 1 j).toInt64 = 0 := by
    rw [ebas, nI_l (by omega)]
    intro z
    have := (lN_eq (by omega) (by omega)).mp (show lN (2 * a * d) = lN 0 from z)
    omega
  have h64 : ¬ (S.1 4 0 j / 2).toInt64 = 0 := by
    rw [ea, ha1, nI_l (by omega)]
    intro z
    have := (lN_eq (by omega) (by omega)).mp (show lN a = lN 0 from z)
    omega
  -- what lies on the rear half
  have back : ∃ q : Nat, q ≤ l ∧ (S.1 10 5 (14 * j + 7)).toInt64 * ((2 : Int32) * S.1 10 5 (14 * j + 8) - (S.1 4 0 j / 2 - 1) * S.1 4 1 j).toInt64 / ((2 : Int32) * (S.1 4 0 j / 2) * S.1 4 1 j).toInt64 = lN q ∧ reaF S j (S.1 10 5 (14 * j + 7)) (S.1 10 5 (14 * j + 8)) = nI q := by
    rcases hcan with h0 | ⟨v0, v1⟩
    · have hl : l = 0 := (nI_eq (by omega) (by omega)).mp (eL.symm.trans h0)
      subst hl
      refine ⟨0, Nat.le_refl 0, ?_, ?_⟩
      · have z : ∀ x : Int64, lN 0 * x = lN 0 := fun x => Int64.zero_mul
        rw [eL, ebas, nI_l (by omega), nI_l (by omega), z, lN_div (by omega) hb4 (by omega), Nat.zero_div]
      · unfold reaF
        rw [h0, Int32.zero_mul, Int32.zero_div]
        rfl
    · have e : (2 : Int32) * S.1 10 5 (14 * j + 8) - (S.1 4 0 j / 2 - 1) * S.1 4 1 j = levF S j (S.1 10 5 (14 * j + 8)) := rfl
      obtain ⟨v, hv2, ev⟩ := nI_of v0
      rw [ev, hbas] at v1
      have hvb : v ≤ 2 * a * d := (nI_le2 hv2 (by omega)).mp v1
      have hlv : l * v ≤ 200000 * 80 := Nat.mul_le_mul l2 (by omega)
      refine ⟨l * v / (2 * a * d), Nat.div_le_of_le_mul (by rw [Nat.mul_comm]; exact Nat.mul_le_mul hvb (Nat.le_refl l)), ?_, ?_⟩
      · rw [e, ev, ebas, eL, nI_l (by omega), nI_l (by omega), nI_l (by omega), lN_mul, lN_div (by omega) hb4 (by omega)]
      · unfold reaF
        rw [hbas, ev, eL, nI_mul, pk_div (by omega) hb4 (by omega)]
  obtain ⟨q, hq, e64, e32⟩ := back
  have eo2 : nI o / 2 = nI (o / 2) := pk_div (d := 2) (by omega) (by omega) (by omega)
  have oo : o / 2 ≤ o := Nat.div_le_self o 2
  -- the share of x
  have sh : ∀ (x : Nat) (w : Int64), x ≤ 200000 → w = lN x → ∀ y : Int32, y = shrF S j (nI x) → Q (Sum.inl (some (aI y))) S →
      (¬ (S.1 4 0 j / 2).toInt64 = 0 ∧ ¬ (S.1 4 0 j / 2).toInt64 = 0 ∧ (lg_cmp ((w + (S.1 4 5 j / 2).toInt64) - (w + (S.1 4 5 j / 2).toInt64) / (S.1 4 0 j / 2).toInt64 * (S.1 4 0 j / 2).toInt64) 0 ≤ 0 → Q (Sum.inl (some (aI (((w + (S.1 4 5 j / 2).toInt64) / (S.1 4 0 j / 2).toInt64).toInt32 + 0)))) S) ∧
       (¬ lg_cmp ((w + (S.1 4 5 j / 2).toInt64) - (w + (S.1 4 5 j / 2).toInt64) / (S.1 4 0 j / 2).toInt64 * (S.1 4 0 j / 2).toInt64) 0 ≤ 0 → Q (Sum.inl (some (aI (((w + (S.1 4 5 j / 2).toInt64) / (S.1 4 0 j / 2).toInt64).toInt32 + 1)))) S)) := fun x w hx hw y hy hqy => by
    refine ⟨h64, h64, ?_⟩
    subst hw
    have ew : lN x + (S.1 4 5 j / 2).toInt64 = lN (x + o / 2) := by rw [eo, eo2, nI_l (by omega), lN_add]
    have eh : (S.1 4 0 j / 2).toInt64 = lN a := by rw [ea, ha1, nI_l (by omega)]
    have hdm := Nat.div_add_mod (x + o / 2) a
    have hml := Nat.mod_lt (x + o / 2) a1
    have hdl := Nat.div_le_self (x + o / 2) a
    have er : lN (x + o / 2) - lN (x + o / 2) / lN a * lN a = lN ((x + o / 2) % a) := by
      rw [lN_div (by omega) a1 (by omega), lN_mul, Nat.mul_comm, lN_sub (by omega)]
      congr 1
      omega
    have ey : y = nI ((x + o / 2 + a - 1) / a) := by
      rw [hy]
      unfold shrF
      rw [eo, ea, ha1]
      exact num32 (by omega) o9 a1 a8
    have ez : (0 : Int64) = lN 0 := rfl
    rw [ew, eh, er, lN_div (by omega) a1 (by omega), lN_i, lg_cmp_le, ez, lN_le (by omega) (by omega)]
    refine ⟨fun z => Q_eq ?_ hqy, fun z => Q_eq ?_ hqy⟩
    · rw [ey, ceil_0 a1 (by omega), Int32.add_zero]
    · rw [ey, ceil_1 a1 (by omega), nI_s]
  unfold brH at hQ
  refine hs [] 120 0 _ _ _ _ ?_
  refine ⟨vg1, n2z, vg8, vg2, vg7, vg2, ?_⟩
  rw [g1, g2, g7, g8]
  refine ⟨z64, fun re0 => ⟨vg7, vg6, n2z, ?_⟩, fun re0 => ⟨vg6, n2z, ?_⟩⟩
  · rw [if_pos re0, e6] at hQ
    rw [g6, g7, e64]
    refine sh (l - q) _ (by omega) ?_ _ ?_ hQ
    · rw [eL, nI_l (by omega), lN_sub hq]
    · rw [e32, eL, nI_sub hq]
  · rw [if_neg re0, e7] at hQ
    rw [g6, e64]
    refine sh q _ (by omega) rfl _ ?_ hQ
    rw [e32]
theorem ct_L_axle {l : Launch} (hl : l.stackTraces = false) (hNL : NewL l) : CT l yL_axle cL_axle 10 (some .int) 0 0 s_L_axle := CT_of hl hNL (by decide +kernel) (own := "HeavyHaulLaw") rfl (ini := false) (fun q => nomatch q) chk_L_axle (cal_L_axle hl hNL) ar_L_axle vc_L_axle
