/-! THE GREATEST ON A BRIDGE, by the law: from the last step to the first -/
def ag (as : List AV) (f : Int32 → Int32 → Int32 → Prop) : Prop := match as with
  | [Sum.inr (Sum.inr (k, i)), Sum.inr (Sum.inr (k2, i2)), Sum.inl a, Sum.inl b, Sum.inl c] => k = 10 ∧ i = 3 ∧ k2 = 10 ∧ i2 = 5 ∧ f a b c
  | _ => False
theorem ag_ok {as : List AV} {f : Int32 → Int32 → Int32 → Prop} (h : ag as f) : ∃ a b c, as = [aR 10 3, aR 10 5, aI a, aI b, aI c] ∧ f a b c := by
  unfold ag at h
  split at h
  · obtain ⟨rfl, rfl, rfl, rfl, h⟩ := h; exact ⟨_, _, _, rfl, h⟩
  · exact h.elim
def ag2 (as : List AV) (f : Int32 → Int32 → Prop) : Prop := match as with
  | [Sum.inr (Sum.inr (k, i)), Sum.inr (Sum.inr (k2, i2)), Sum.inl a, Sum.inl b] => k = 10 ∧ i = 3 ∧ k2 = 10 ∧ i2 = 5 ∧ f a b
  | _ => False
theorem ag2_ok {as : List AV} {f : Int32 → Int32 → Prop} (h : ag2 as f) : ∃ a b, as = [aR 10 3, aR 10 5, aI a, aI b] ∧ f a b := by
  unfold ag2 at h
  split at h
  · obtain ⟨rfl, rfl, rfl, rfl, h⟩ := h; exact ⟨_, _, rfl, h⟩
  · exact h.elim
def ag1 (as : List AV) (f : Int32 → Prop) : Prop := match as with
  | [Sum.inr (Sum.inr (k, i)), Sum.inr (Sum.inr (k2, i2)), Sum.inl a] => k = 10 ∧ i = 3 ∧ k2 = 10 ∧ i2 = 5 ∧ f a
  | _ => False
theorem ag1_ok {as : List AV} {f : Int32 → Prop} (h : ag1 as f) : ∃ a, as = [aR 10 3, aR 10 5, aI a] ∧ f a := by
  unfold ag1 at h
  split at h
  · obtain ⟨rfl, rfl, rfl, rfl, h⟩ := h; exact ⟨_, rfl, h⟩
  · exact h.elim
/-- the greatest of the last n of L + 1 -/
def topR (f : Nat → Int32) (L : Nat) : Nat → Int32
  | 0 => 0
  | n + 1 => if f (L - n) < topR f L n then topR f L n else f (L - n)
theorem topR_le (f : Nat → Int32) (L n i : Nat) (hi : L < n + i) (hL : i ≤ L) : f i ≤ topR f L n := by
  induction n with
  | zero => omega
  | succ n ih =>
    show f i ≤ if f (L - n) < topR f L n then topR f L n else f (L - n)
    by_cases e : i = L - n
    · rw [e]
      by_cases h : f (L - n) < topR f L n
      · rw [if_pos h]; exact Int32.le_of_lt h
      · rw [if_neg h]; exact Int32.le_refl _
    · have := ih (by omega)
      by_cases h : f (L - n) < topR f L n
      · rw [if_pos h]; exact this
      · rw [if_neg h]; exact Int32.le_trans this (Int32.not_lt.mp h)
theorem topR_is (f : Nat → Int32) (L n : Nat) (hn : n ≤ L + 1) : 0 ≤ topR f L n ∧ (topR f L n = 0 ∨ ∃ i, i ≤ L ∧ topR f L n = f i) := by
  induction n with
  | zero => exact ⟨Int32.le_refl _, Or.inl rfl⟩
  | succ n ih =>
    have e : topR f L (n + 1) = if f (L - n) < topR f L n then topR f L n else f (L - n) := rfl
    rw [e]
    by_cases h : f (L - n) < topR f L n
    · rw [if_pos h]
      exact ih (by omega)
    · rw [if_neg h]
      exact ⟨Int32.le_trans (ih (by omega)).1 (Int32.not_lt.mp h), Or.inr ⟨L - n, by omega, rfl⟩⟩
theorem topR_eq (f : Nat → Int32) (L : Nat) : topR f L (L + 1) = topF f (L + 1) := by
  refine Int32.le_antisymm ?_ ?_
  · rcases (topR_is f L (L + 1) (Nat.le_refl _)).2 with e | ⟨i, hi, e⟩
    · rw [e]; exact (topF_is f (L + 1)).1
    · rw [e]; exact topF_le f (L + 1) i (by omega)
  · rcases (topF_is f (L + 1)).2 with e | ⟨i, hi, e⟩
    · rw [e]; exact (topR_is f L (L + 1) (Nat.le_refl _)).1
    · rw [e]; exact topR_le f L (L + 1) i (by omega) (by omega)
theorem half_lt {q s : Nat} (hq : q ≤ s) (hs : s ≤ 100) : ((2 : Int32) * nI q < nI s ↔ 2 * q < s) ∧ (if nI s - nI q < nI q then nI s - nI q else nI q) = (if 2 * q < s then nI q else nI s - nI q) := by
  have e2 : (2 : Int32) = nI 2 := rfl
  refine ⟨by rw [e2, nI_mul]; exact nI_lt2 (by omega) (by omega), ?_⟩
  rw [nI_sub hq]
  by_cases h : s - q < q
  · rw [if_pos ((nI_lt2 (by omega) (by omega)).mpr h), if_neg (by omega)]
  · rw [if_neg fun z => h ((nI_lt2 (by omega) (by omega)).mp z)]
    by_cases h2 : 2 * q < s
    · rw [if_pos h2]
    · rw [if_neg h2]
      have : q = s - q := by omega
      rw [← this]
def s_L_greatest : SP := vS fun as S k => ag as fun d r isM => ∃ (T i j : Nat), LawI T S ∧ d = nI i ∧ i < 6 ∧ r = nI j ∧ j < 2 ∧ ¬ S.1 2 7 i ≤ 0 ∧ k (some (aI (greatH S i j isM 0)))
def tb_L_greatest : Tb := [(0, .aload_n 0, 1, x0), (1, .bipush 10, 2, xI (10)), (3, .iload_n 2, 1, x0), (4, .imul, 1, x0), (5, .bipush 7, 2, xI (7)), (7, .iadd, 1, x0), (8, .iaload, 1, x0), (9, .istore 5, 2, x0), (11, .aload_n 1, 1, x0), (12, .bipush 14, 2, xI (14)), (14, .iload_n 3, 1, x0), (15, .imul, 1, x0), (16, .iconst 1, 1, xI (1)), (17, .iadd, 1, x0), (18, .iaload, 1, x0), (19, .istore 6, 2, x0), (21, .aload_n 1, 1, x0), (22, .bipush 14, 2, xI (14)), (24, .iload_n 3, 1, x0), (25, .imul, 1, x0), (26, .iconst 2, 1, xI (2)), (27, .iadd, 1, x0), (28, .iaload, 1, x0), (29, .istore 7, 2, x0), (31, .iconst 0, 1, xI (0)), (32, .istore 8, 2, x0), (34, .iload 5, 2, x0), (36, .istore 9, 2, x0), (38, .iload 9, 2, x0), (40, .iload 6, 2, x0), (42, .iconst 1, 1, xI (1)), (43, .isub, 1, x0), (44, .ineg, 1, x0), (45, .iload 7, 2, x0), (47, .imul, 1, x0), (48, .if_icmp .lt 132, 3, xN 180), (51, .iconst 0, 1, xI (0)), (52, .istore 10, 2, x0), (54, .iconst 0, 1, xI (0)), (55, .istore 11, 2, x0), (57, .iload 11, 2, x0), (59, .iload 6, 2, x0), (61, .if_icmp .ge 97, 3, xN 158), (64, .iload 9, 2, x0), (66, .iload 6, 2, x0), (68, .iconst 1, 1, xI (1)), (69, .isub, 1, x0), (70, .iload 11, 2, x0), (72, .isub, 1, x0), (73, .iload 7, 2, x0), (75, .imul, 1, x0), (76, .iadd, 1, x0), (77, .istore 12, 2, x0), (79, .aload_n 1, 1, x0), (80, .iload_n 3, 1, x0), (81, .iconst 2, 1, xI (2)), (82, .iload 11, 2, x0), (84, .imul, 1, x0), (85, .iload 6, 2, x0), (87, .if_icmp .lt 7, 3, xN 94), (90, .iconst 1, 1, xI (1)), (91, .goto 4, 3, xN 95), (94, .iconst 0, 1, xI (0)), (95, .invokestatic 9, 3, xS 3 0 s_L_axle), (98, .istore 13, 2, x0), (100, .iload 12, 2, x0), (102, .ifCond .lt 50, 3, xN 152), (105, .iload 12, 2, x0), (107, .iload 5, 2, x0), (109, .if_icmp .gt 43, 3, xN 152), (112, .iload 10, 2, x0), (114, .iload 4, 2, x0), (116, .ifCond .ne 8, 3, xN 124), (119, .iload 13, 2, x0), (121, .goto 28, 3, xN 149), (124, .iconst 2, 1, xI (2)), (125, .iload 12, 2, x0), (127, .imul, 1, x0), (128, .iload 5, 2, x0), (130, .if_icmp .ge 11, 3, xN 141), (133, .iload 13, 2, x0), (135, .iload 12, 2, x0), (137, .imul, 1, x0), (138, .goto 11, 3, xN 149), (141, .iload 13, 2, x0), (143, .iload 5, 2, x0), (145, .iload 12, 2, x0), (147, .isub, 1, x0), (148, .imul, 1, x0), (149, .iadd, 1, x0), (150, .istore 10, 2, x0), (152, .iinc 11 1, 3, xI (1)), (155, .goto (-98), 3, xN 57), (158, .iload 8, 2, x0), (160, .iload 10, 2, x0), (162, .if_icmp .le 8, 3, xN 170), (165, .iload 8, 2, x0), (167, .goto 5, 3, xN 172), (170, .iload 10, 2, x0), (172, .istore 8, 2, x0), (174, .iinc 9 (-1), 3, xI (-1)), (177, .goto (-139), 3, xN 38), (180, .iload 8, 2, x0), (182, .ireturn, 1, x0)]
theorem chk_L_greatest : chkTb cL_greatest "HeavyHaulLaw" false tb_L_greatest = true := by decide +kernel
theorem cal_L_greatest {l : Launch} (hl : l.stackTraces = false) (hNL : NewL l) : CallsOK l "HeavyHaulLaw" 1 tb_L_greatest := callsOK_f ⟨⟨_, _, 10, 0, _, (ct_L_axle hl hNL), ⟨List.mem_of_getElem? (i := 601) (by decide +kernel), List.mem_of_getElem? (i := 25) (by decide +kernel), List.mem_of_getElem? (i := 599) (by decide +kernel), ⟨by decide +kernel, by decide +kernel⟩, by decide +kernel, by decide⟩, List.mem_of_getElem? (i := 600) (by decide +kernel), by decide⟩, trivial⟩
theorem ar_L_greatest : ∀ as S P, s_L_greatest as S P → as.length ≤ 14 ∧ ∀ a ∈ as, catV a = 1 := fun as S P h => by
  obtain ⟨_, _, _, rfl, _⟩ := ag_ok h
  exact ar_all ⟨Nat.le_of_ble_eq_true rfl, rfl⟩
set_option maxRecDepth 8000 in
theorem vc_L_greatest : ∀ (G : Gt) (Q : Out → Sto → Prop) (as : List AV) (S : Sto), s_L_greatest as S Q → Seg tb_L_greatest G Q 1 0 [] (0, fun _ => 0) → G 0 (argL as 14) [] S 0 := by
  intro G Q as S h hs
  obtain ⟨d, r, isM, rfl, T, i, j, hI, rfl, hi, rfl, hj, hsp, hQ⟩ := ag_ok h
  have va7 : vp_in ((10 : Int32) * nI i + 7) 60 := vA hI hi 7 (by decide)
  have a7 : S.1 10 3 ((10 : Int32) * nI i + 7).toNatClampNeg = S.1 2 7 i := aA hI hi 7 (by decide)
  have vg1 : vp_in ((14 : Int32) * nI j + 1) 28 := vG hI hj 1 (by decide)
  have g1 : S.1 10 5 ((14 : Int32) * nI j + 1).toNatClampNeg = S.1 4 0 j := aG hI hj 1 (by decide)
  have vg2 : vp_in ((14 : Int32) * nI j + 2) 28 := vG hI hj 2 (by decide)
  have g2 : S.1 10 5 ((14 : Int32) * nI j + 2).toNatClampNeg = S.1 4 1 j := aG hI hj 2 (by decide)
  have hi2 : i < S.2.2 20 := by rw [hI.n.1]; exact hi
  have hj2 : j < S.2.2 22 := by rw [hI.n.2.1]; exact hj
  obtain ⟨p, q, au, t, s, -, -, -, -, h1, -, -, -, -, -, -, s4⟩ := hI.wf.2.2.2.2.2.2.1 i hi2
  obtain ⟨a, ap, p', k1, k2, -, k3, k4, k5, k6, -⟩ := hI.wf.2.2.2.2.2.2.2 j hj2
  have hb : (2 * a - 1) * ap ≤ 15 * 5 := Nat.mul_le_mul (by omega) k6
  have eL : lastN S i j = s + (2 * a - 1) * ap := by
    have e1 : (1 : Int32) = nI 1 := rfl
    unfold lastN
    rw [h1, k1, k2, e1, nI_sub (by omega), nI_mul, nI_add]
    exact nI_cl (by omega)
  unfold greatH at hQ
  rw [if_neg hsp, eL] at hQ
  obtain ⟨f, hf⟩ : ∃ f : Nat → Int32, f = fun n => sumH S (S.1 2 7 i) j (nI n) isM 0 := ⟨_, rfl⟩
  rw [← hf, ← topR_eq] at hQ
  have hA : (nI (2 * a)).toNatClampNeg = 2 * a := nI_cl (by omega)
  have hfn : ∀ n, f n = sumF (S.1 4 6 j) (S.1 4 7 j) (nI (2 * a)) (nI ap) (nI s) (nI n) isM 0 (2 * a) := fun n => by
    rw [hf]
    show sumH S (S.1 2 7 i) j (nI n) isM 0 = _
    unfold sumH
    rw [k1, k2, hA, h1]
  rw [h1] at a7
  rw [k1] at g1
  rw [k2] at g2
  generalize hL : s + (2 * a - 1) * ap = L at hQ
  have e1 : (1 : Int32) = nI 1 := rfl
  -- places
  have e0 : nI (2 * a) - 1 = nI (2 * a - 1) := by rw [e1, nI_sub (by omega)]
  have tl : ∀ n, n ≤ L + 1 → (nI L - (nI ((2 * a - 1) * ap) + nI n)).toInt = (s : Int) - (n : Int) := fun n hn => by
    rw [nI_add, sub_int (a := (L : Int)) (b := (((2 * a - 1) * ap + n : Nat) : Int)) (nI_toInt (by omega)) (nI_toInt (by omega)) (by omega) (by omega)]
    omega
  have eT : ∀ n, n ≤ L + 1 → ∀ x : Int32, x.toInt = (s : Int) - (n : Int) → ∀ k, k < 2 * a → x + (nI (2 * a) - 1 - nI k) * nI ap = posF (nI (L - n)) (nI ap) k ∨ n = L + 1 := fun n hn x hx k hk => by
    by_cases hn1 : n = L + 1
    · exact Or.inr hn1
    · left
      apply Int32.toInt_inj.mp
      have hm : (2 * a - 1 - k) * ap + k * ap = (2 * a - 1) * ap := by
        rw [← Nat.add_mul]
        congr 1
        omega
      have hk2 : k * ap ≤ 15 * 5 := Nat.mul_le_mul (by omega) k6
      rw [pos_int (by omega) (by omega), e0, nI_sub (by omega), nI_mul]
      rw [Int32.toInt_add, hx, nI_toInt (by omega)]
      rw [Int.bmod_eq_of_le (by omega) (by omega)]
      omega
  have wt : ∀ k, k < 2 * a → ((2 : Int32) * nI k < nI (2 * a) ↔ ¬ nI (2 * a) / 2 ≤ nI k) := fun k hk => by
    have e2 : (2 : Int32) = nI 2 := rfl
    rw [(half_ok a k4 k3).1, e2, nI_mul, nI_lt2 (by omega) (by omega), nI_le2 (by omega) (by omega)]
    omega
  have outer : ∀ m n, n + m = L + 1 → ∀ x : Int32, x.toInt = (s : Int) - (n : Int) → ∀ x10 x11 x12 x13, G 38 [some (aR 10 3), some (aR 10 5), some (aI (nI i)), some (aI (nI j)), some (aI isM), some (aI (nI s)), some (aI (nI (2 * a))), some (aI (nI ap)), some (aI (topR f L n)), some (aI x), x10, x11, x12, x13] [] S 0 := by
    have cmp : ∀ n, n ≤ L + 1 → ∀ x : Int32, x.toInt = (s : Int) - (n : Int) → (x < -(nI (2 * a) - 1) * nI ap ↔ n = L + 1) := fun n hn x hx => by
      have hneg : (-(nI (2 * a) - 1) * nI ap).toInt = -(((2 * a - 1) * ap : Nat) : Int) := by
        rw [e0, Int32.neg_mul, nI_mul, Int32.toInt_neg, nI_toInt (by omega)]
        exact Int.bmod_eq_of_le (by omega) (by omega)
      rw [Int32.lt_iff_toInt_lt, hx, hneg]
      omega
    intro m
    induction m with
    | zero =>
      intro n hn x hx x10 x11 x12 x13
      obtain rfl : n = L + 1 := hn
      refine hs [38, 57] 120 38 _ _ _ _ ?_
      exact ⟨fun _ => hQ, fun z => absurd ((cmp _ (Nat.le_refl _) x hx).mpr rfl) z⟩
    | succ m ih =>
      intro n hn x hx x10 x11 x12 x13
      have inner : ∀ m2 k, k + m2 = 2 * a → ∀ y12 y13, G 57 [some (aR 10 3), some (aR 10 5), some (aI (nI i)), some (aI (nI j)), some (aI isM), some (aI (nI s)), some (aI (nI (2 * a))), some (aI (nI ap)), some (aI (topR f L n)), some (aI x), some (aI (sumF (S.1 4 6 j) (S.1 4 7 j) (nI (2 * a)) (nI ap) (nI s) (nI (L - n)) isM 0 k)), some (aI (nI k)), y12, y13] [] S 0 := by
        intro m2
        induction m2 with
        | zero =>
          intro k hk y12 y13
          obtain rfl : k = 2 * a := hk
          have hx1 : (x + (-1)).toInt = (s : Int) - ((n + 1 : Nat) : Int) := by
            rw [Int32.toInt_add, hx, show ((-1 : Int32)).toInt = -1 from rfl, Int.bmod_eq_of_le (by omega) (by omega)]
            omega
          have h2 := ih (n + 1) (by omega) (x + (-1)) hx1 (some (aI (f (L - n)))) (some (aI (nI (2 * a)))) y12 y13
          have ht : topR f L (n + 1) = if f (L - n) < topR f L n then topR f L n else f (L - n) := rfl
          rw [ht] at h2
          rw [← hfn (L - n)]
          refine hs [38, 57] 120 57 _ _ _ _ ?_
          refine ⟨fun _ => ⟨fun z => ?_, fun z => ?_⟩, fun z => (lp_end z).elim⟩
          · rw [if_neg (Int32.not_lt.mpr z)] at h2
            exact h2
          · rw [if_pos (Int32.not_le.mp z)] at h2
            exact h2
        | succ m2 ih2 =>
          intro k hk y12 y13
          have hk2 : k < 2 * a := by omega
          have key : ∀ v z13, v = sumF (S.1 4 6 j) (S.1 4 7 j) (nI (2 * a)) (nI ap) (nI s) (nI (L - n)) isM 0 (k + 1) → G 57 [some (aR 10 3), some (aR 10 5), some (aI (nI i)), some (aI (nI j)), some (aI isM), some (aI (nI s)), some (aI (nI (2 * a))), some (aI (nI ap)), some (aI (topR f L n)), some (aI x), some (aI v), some (aI (nI k + 1)), some (aI (posF (nI (L - n)) (nI ap) k)), z13] [] S 0 := fun v z13 hv9 => by
            rw [hv9, nI_s]
            exact ih2 (k + 1) (by omega) _ z13
          have ep := (eT n (by omega) x hx k hk2).resolve_right (by omega)
          -- the value of one axle
          have out : (posF (nI (L - n)) (nI ap) k < 0 ∨ nI s < posF (nI (L - n)) (nI ap) k) → sumF (S.1 4 6 j) (S.1 4 7 j) (nI (2 * a)) (nI ap) (nI s) (nI (L - n)) isM 0 k = sumF (S.1 4 6 j) (S.1 4 7 j) (nI (2 * a)) (nI ap) (nI s) (nI (L - n)) isM 0 (k + 1) := fun z => (if_pos z).symm
          have inn : ¬ (posF (nI (L - n)) (nI ap) k < 0 ∨ nI s < posF (nI (L - n)) (nI ap) k) → ∀ w, w = wtF (S.1 4 6 j) (S.1 4 7 j) (nI (2 * a)) (nI k) → ∀ v, v = valF w (posF (nI (L - n)) (nI ap) k) (nI s) isM → sumF (S.1 4 6 j) (S.1 4 7 j) (nI (2 * a)) (nI ap) (nI s) (nI (L - n)) isM 0 k + v = sumF (S.1 4 6 j) (S.1 4 7 j) (nI (2 * a)) (nI ap) (nI s) (nI (L - n)) isM 0 (k + 1) := fun z w hw v hv => by
            subst hv
            subst hw
            exact (if_neg z).symm
          have rest : ∀ w, w = wtF (S.1 4 6 j) (S.1 4 7 j) (nI (2 * a)) (nI k) → G 100 [some (aR 10 3), some (aR 10 5), some (aI (nI i)), some (aI (nI j)), some (aI isM), some (aI (nI s)), some (aI (nI (2 * a))), some (aI (nI ap)), some (aI (topR f L n)), some (aI x), some (aI (sumF (S.1 4 6 j) (S.1 4 7 j) (nI (2 * a)) (nI ap) (nI s) (nI (L - n)) isM 0 k)), some (aI (nI k)), some (aI (posF (nI (L - n)) (nI ap) k)), some (aI w)] [] S 0 := fun w hw => by
            refine hs [38, 57] 120 100 _ _ _ _ ?_
            refine ⟨fun t1 => key _ _ (out (Or.inl t1)), fun t1 => ⟨fun t2 => key _ _ (out (Or.inr t2)), fun t2 => ?_⟩⟩
            have hin : ¬ (posF (nI (L - n)) (nI ap) k < 0 ∨ nI s < posF (nI (L - n)) (nI ap) k) := fun z => z.elim t1 t2
            obtain ⟨q, hq, eq⟩ := nI_of t1
            have hqs : q ≤ s := by
              rw [eq] at t2
              exact (nI_le2 hq (by omega)).mp (Int32.not_lt.mp t2)
            obtain ⟨hh1, hh2⟩ := half_lt hqs (by omega)
            refine ⟨fun m0 => ⟨fun c1 => ?_, fun c1 => ?_⟩, fun m0 => ?_⟩
            · refine key _ _ (inn hin w hw _ ?_)
              unfold valF
              rw [if_neg m0, eq, hh2]
              rw [eq] at c1
              rw [if_neg fun z => absurd (hh1.mpr z) (Int32.not_lt.mpr c1)]
            · refine key _ _ (inn hin w hw _ ?_)
              unfold valF
              rw [if_neg m0, eq, hh2]
              rw [eq] at c1
              rw [if_pos (hh1.mp (Int32.not_le.mp c1))]
            · refine key _ _ (inn hin w hw _ ?_)
              unfold valF
              rw [if_pos m0]
          refine hs [38, 57, 100] 120 57 _ _ _ _ ?_
          refine ⟨fun z => absurd z (lp_go (by omega) hk2), fun _ => ⟨fun c1 => ⟨rfl, rfl, T, j, hI, rfl, hj, ?_⟩, fun c1 => ⟨rfl, rfl, T, j, hI, rfl, hj, ?_⟩⟩⟩
          · have r1 := rest (brH S j 0) (by
              unfold brH wtF
              rw [if_pos rfl, if_neg ((wt k hk2).mp c1)])
            rw [← ep] at r1
            exact r1
          · have r1 := rest (brH S j 1) (by
              unfold brH wtF
              have : nI (2 * a) / 2 ≤ nI k := by
                by_cases z : nI (2 * a) / 2 ≤ nI k
                · exact z
                · exact absurd ((wt k hk2).mpr z) c1
              rw [if_neg (by decide), if_pos this])
            rw [← ep] at r1
            exact r1
      refine hs [38, 57] 120 38 _ _ _ _ ?_
      exact ⟨fun z => absurd ((cmp n (by omega) x hx).mp z) (by omega), fun _ => inner (2 * a) 0 (by omega) x12 x13⟩
  refine hs [38] 120 0 _ _ _ _ ?_
  refine ⟨va7, vg1, vg2, ?_⟩
  rw [a7, g1, g2]
  exact outer (L + 1) 0 (by omega) (nI s) (by rw [nI_toInt (by omega)]; omega) none none none none
theorem ct_L_greatest {l : Launch} (hl : l.stackTraces = false) (hNL : NewL l) : CT l yL_greatest cL_greatest 14 (some .int) 1 0 s_L_greatest := CT_of hl hNL (by decide +kernel) (own := "HeavyHaulLaw") rfl (ini := false) (fun q => nomatch q) chk_L_greatest (cal_L_greatest hl hNL) ar_L_greatest vc_L_greatest
