/-! TIME, by the law -/
theorem passS_2 {S : Sto} {n : Nat} : (passS S n).2 = S.2 := by
  induction n with
  | zero => rfl
  | succ n ih => exact ih
theorem passS_o {S : Sto} {n k f i : Nat} (h : ¬ (k = 0 ∧ f = 9) ∧ ¬ (k = 4 ∧ f = 9) ∧ ¬ (k = 4 ∧ f = 11)) : (passS S n).1 k f i = S.1 k f i := by
  induction n with
  | zero => rfl
  | succ n ih => exact (tenS_o h).trans ih
theorem passS_now {S : Sto} {n : Nat} : (passS S n).1 0 9 0 = S.1 0 9 0 + nI n := by
  induction n with
  | zero =>
    show S.1 0 9 0 = S.1 0 9 0 + 0
    rw [Int32.add_zero]
  | succ n ih =>
    show (tenS (passS S n) _).1 0 9 0 = _
    rw [tenS_now, ih, Int32.add_assoc, nI_s]
/-- who drives will arrive -/
def drvI (S : Sto) : Prop := ∀ i, i < S.2.2 22 → S.1 4 9 i ≠ -1 → S.1 0 9 0 < S.1 4 10 i
theorem drvI_s {S : Sto} (h : drvI S) (n : Nat) : drvI (passS S n) := by
  induction n with
  | zero => exact h
  | succ n ih =>
    intro i hi hd
    have e2 : (passS S n).2.2 22 = S.2.2 22 := by rw [passS_2]
    have e3 : (passS S (n + 1)).2.2 22 = S.2.2 22 := by rw [passS_2]
    have hi2 : i < (passS S n).2.2 22 := by omega
    have hd' : (tenS (passS S n) ((passS S n).2.2 22)).1 4 9 i ≠ -1 := hd
    show (tenS (passS S n) ((passS S n).2.2 22)).1 0 9 0 < (tenS (passS S n) ((passS S n).2.2 22)).1 4 10 i
    rw [tenS_rd, if_pos hi2] at hd'
    rw [tenS_now, tenS_o (by decide)]
    unfold rdT at hd'
    by_cases h1 : (passS S n).1 4 9 i = -1
    · rw [if_pos h1] at hd'
      exact absurd rfl hd'
    · rw [if_neg h1] at hd'
      by_cases h2 : (passS S n).1 0 9 0 + 1 < (passS S n).1 4 10 i
      · exact h2
      · rw [if_neg h2] at hd'
        exact absurd rfl hd'
theorem passS_s {S : Sto} {n : Nat} : passS S (n + 1) = tenS (passS S n) ((passS S n).2.2 22) := rfl
theorem passS_rd {S : Sto} (n : Nat) (i : Nat) : (passS S n).1 4 9 i = S.1 4 9 i ∨ (passS S n).1 4 9 i = -1 := by
  induction n with
  | zero => exact Or.inl rfl
  | succ n ih =>
    rw [passS_s, tenS_rd]
    by_cases h : i < (passS S n).2.2 22
    · rw [if_pos h]
      unfold rdT
      by_cases h1 : (passS S n).1 4 9 i = -1
      · rw [if_pos h1]
        exact Or.inr rfl
      · rw [if_neg h1]
        by_cases h2 : (passS S n).1 0 9 0 + 1 < (passS S n).1 4 10 i
        · rw [if_pos h2]
          exact ih
        · rw [if_neg h2]
          exact Or.inr rfl
    · rw [if_neg h]
      exact ih
/-- the law's rows behind n tens and, of the next, of the rigs below k -/
def pasK (T : Nat) (S0 : Sto) (n k : Nat) (S : Sto) : Prop := S.2 = S0.2 ∧ S.1 10 9 0 = nI (T + n) ∧
  (∀ i, i < 2 → S.1 10 5 (14 * i + 9) = (if i < k then (passS S0 (n + 1)).1 4 9 i else (passS S0 n).1 4 9 i) ∧ S.1 10 5 (14 * i + 11) = (if i < k then (passS S0 (n + 1)).1 4 11 i else (passS S0 n).1 4 11 i)) ∧
  ∀ k' f i, ¬ (k' = 10 ∧ f = 9 ∧ i = 0) → ¬ (k' = 10 ∧ f = 5 ∧ (i = 9 ∨ i = 23 ∨ i = 11 ∨ i = 25)) → S.1 k' f i = S0.1 k' f i
def ps2 (as : List AV) (f : Prop) : Prop := match as with
  | [Sum.inr (Sum.inr (k, i)), Sum.inr (Sum.inr (k2, i2))] => k = 10 ∧ i = 5 ∧ k2 = 10 ∧ i2 = 9 ∧ f
  | _ => False
theorem ps2_ok {as : List AV} {f : Prop} (h : ps2 as f) : as = [aR 10 5, aR 10 9] ∧ f := by
  unfold ps2 at h
  split at h
  · obtain ⟨rfl, rfl, rfl, rfl, h⟩ := h; exact ⟨rfl, h⟩
  · exact h.elim
def s_L_pass : SP := fun as S Q => ps2 as (∃ (T n : Nat) (S0 : Sto), LawI T S0 ∧ T + n < 20000 ∧ pasK T S0 n 0 S ∧ ∀ S', pasK T S0 (n + 1) 0 S' → Q (Sum.inl none) S')
def tb_L_pass : Tb := [(0, .iconst 0, 1, xI (0)), (1, .istore_n 2, 1, x0), (2, .iload_n 2, 1, x0), (3, .iconst 2, 1, xI (2)), (4, .if_icmp .ge 99, 3, xN 103), (7, .bipush 14, 2, xI (14)), (9, .iload_n 2, 1, x0), (10, .imul, 1, x0), (11, .istore_n 3, 1, x0), (12, .aload_n 0, 1, x0), (13, .iload_n 3, 1, x0), (14, .bipush 9, 2, xI (9)), (16, .iadd, 1, x0), (17, .iaload, 1, x0), (18, .ifCond .ge 7, 3, xN 25), (21, .iconst 1, 1, xI (1)), (22, .goto 4, 3, xN 26), (25, .iconst 0, 1, xI (0)), (26, .istore 4, 2, x0), (28, .aload_n 0, 1, x0), (29, .iload_n 3, 1, x0), (30, .bipush 11, 2, xI (11)), (32, .iadd, 1, x0), (33, .dup2, 1, x0), (34, .iaload, 1, x0), (35, .iload 4, 2, x0), (37, .ifCond .eq 31, 3, xN 68), (40, .aload_n 1, 1, x0), (41, .iconst 0, 1, xI (0)), (42, .iaload, 1, x0), (43, .sipush 144, 3, xI (144)), (46, .irem, 1, x0), (47, .bipush 35, 2, xI (35)), (49, .if_icmp .le 19, 3, xN 68), (52, .aload_n 1, 1, x0), (53, .iconst 1, 1, xI (1)), (54, .iaload, 1, x0), (55, .aload_n 0, 1, x0), (56, .iload_n 3, 1, x0), (57, .iaload, 1, x0), (58, .ishr, 1, x0), (59, .iconst 1, 1, xI (1)), (60, .iand, 1, x0), (61, .ifCond .ne 7, 3, xN 68), (64, .iconst 1, 1, xI (1)), (65, .goto 4, 3, xN 69), (68, .iconst 0, 1, xI (0)), (69, .iadd, 1, x0), (70, .iastore, 1, x0), (71, .iload 4, 2, x0), (73, .ifCond .ne 24, 3, xN 97), (76, .aload_n 0, 1, x0), (77, .iload_n 3, 1, x0), (78, .bipush 10, 2, xI (10)), (80, .iadd, 1, x0), (81, .iaload, 1, x0), (82, .aload_n 1, 1, x0), (83, .iconst 0, 1, xI (0)), (84, .iaload, 1, x0), (85, .iconst 1, 1, xI (1)), (86, .iadd, 1, x0), (87, .if_icmp .ne 10, 3, xN 97), (90, .aload_n 0, 1, x0), (91, .iload_n 3, 1, x0), (92, .bipush 9, 2, xI (9)), (94, .iadd, 1, x0), (95, .iconst (-1), 1, xI (-1)), (96, .iastore, 1, x0), (97, .iinc 2 1, 3, xI (1)), (100, .goto (-98), 3, xN 2), (103, .aload_n 1, 1, x0), (104, .iconst 0, 1, xI (0)), (105, .dup2, 1, x0), (106, .iaload, 1, x0), (107, .iconst 1, 1, xI (1)), (108, .iadd, 1, x0), (109, .iastore, 1, x0), (110, .return_, 1, x0)]
theorem chk_L_pass : chkTb cL_pass "HeavyHaulLaw" false tb_L_pass = true := by decide +kernel
theorem cal_L_pass {l : Launch} (hl : l.stackTraces = false) (hNL : NewL l) : CallsOK l "HeavyHaulLaw" 0 tb_L_pass := callsOK_f trivial
theorem ar_L_pass : ∀ as S P, s_L_pass as S P → as.length ≤ 5 ∧ ∀ a ∈ as, catV a = 1 := fun as S P h => by
  obtain ⟨rfl, _⟩ := ps2_ok h
  exact ar_all ⟨Nat.le_of_ble_eq_true rfl, rfl⟩
theorem dayB_m {a : Nat} (ha : a < 2 ^ 31) : dayB (nI a) = true ↔ 36 ≤ a % 144 := by
  have e : nI a - nI a / 144 * 144 = nI (a % 144) := pk_rem (d := 144) ha (by omega) (by omega)
  unfold dayB
  rw [e, decide_eq_true_iff]
  exact nI_le2 (a := 36) (by omega) (by omega)
set_option maxRecDepth 8000 in
theorem vc_L_pass : ∀ (G : Gt) (Q : Out → Sto → Prop) (as : List AV) (S : Sto), s_L_pass as S Q → Seg tb_L_pass G Q 0 0 [] (0, fun _ => 0) → G 0 (argL as 5) [] S 0 := by
  intro G Q as S h hs
  obtain ⟨rfl, T, n, S0, hI, hTn, hP, hQ⟩ := ps2_ok h
  have h22 : S0.2.2 22 = 2 := hI.n.2.1
  have e00 : S0.1 0 9 0 = nI T := hI.mm.2.1
  have enow : (passS S0 n).1 0 9 0 = nI (T + n) := by rw [passS_now, e00, nI_add]
  have hdrv : drvI S0 := fun i hi hd => by
    obtain ⟨-, -, -, h9⟩ := hI.ri i (by omega)
    rcases h9 with h9 | ⟨d, q, -, -, h10, hq, hq2⟩
    · exact absurd h9 hd
    · rw [e00, h10]
      exact (nI_lt2 (by omega) (by omega)).mpr hq
  have v0 : vp_in (0 : Int32) 5 := nI_vin (a := 0) (by omega) (by decide)
  have v1 : vp_in (1 : Int32) 5 := nI_vin (a := 1) (by omega) (by decide)
  have loop : ∀ m k, k + m = 2 → ∀ Sk, pasK T S0 n k Sk → ∀ x3 x4, G 2 [some (aR 10 5), some (aR 10 9), some (aI (nI k)), x3, x4] [] Sk 0 := by
    intro m
    induction m with
    | zero =>
      intro k hk Sk hPk x3 x4
      obtain rfl : k = 2 := hk
      obtain ⟨p1, p2, p3, p4⟩ := hPk
      have em : Sk.1 10 9 (0 : Int32).toNatClampNeg = nI (T + n) := p2
      refine hs [2] 60 2 _ _ _ _ ?_
      refine ⟨fun _ => ⟨v0, v0, ?_⟩, fun z => absurd (by decide) z⟩
      rw [em, nI_s]
      refine hQ _ ⟨p1, ?_, fun i hi => ?_, fun k' f i q1 q2 => ?_⟩
      · show (wrI Sk 10 9 0 (nI (T + n + 1))).1 10 9 0 = _
        rw [wrI_at, if_pos ⟨rfl, rfl, rfl⟩]
        rfl
      · show (wrI Sk 10 9 0 (nI (T + n + 1))).1 10 5 (14 * i + 9) = _ ∧ (wrI Sk 10 9 0 (nI (T + n + 1))).1 10 5 (14 * i + 11) = _
        rw [wrI_ne fun q => absurd q.2.1 (by decide), wrI_ne fun q => absurd q.2.1 (by decide), (p3 i hi).1, (p3 i hi).2, if_pos hi, if_pos hi, if_neg (Nat.not_lt_zero _), if_neg (Nat.not_lt_zero _)]
        exact ⟨rfl, rfl⟩
      · show (wrI Sk 10 9 0 (nI (T + n + 1))).1 k' f i = _
        rw [wrI_ne q1]
        exact p4 k' f i q1 q2
    | succ m ih =>
      intro k hk Sk hPk x3 x4
      have hk2 : k < 2 := by omega
      obtain ⟨p1, p2, p3, p4⟩ := hPk
      have em : Sk.1 10 9 (0 : Int32).toNatClampNeg = nI (T + n) := p2
      obtain ⟨r9, r11⟩ := p3 k hk2
      rw [if_neg (Nat.lt_irrefl k)] at r9 r11
      obtain ⟨hrow, -, ⟨p, ep, p5⟩, hroad⟩ := hI.ri k hk2
      have w0 : vp_in ((14 : Int32) * nI k) 28 := iv_1 (a := 14) (by omega) (by omega)
      have w9 : vp_in ((14 : Int32) * nI k + 9) 28 := iv_2 (a := 14) (c := 9) (by omega) (by omega)
      have w10 : vp_in ((14 : Int32) * nI k + 10) 28 := iv_2 (a := 14) (c := 10) (by omega) (by omega)
      have w11 : vp_in ((14 : Int32) * nI k + 11) 28 := iv_2 (a := 14) (c := 11) (by omega) (by omega)
      have i0 : ((14 : Int32) * nI k).toNatClampNeg = 14 * k := ix_1 14 k (by omega)
      have i9 : ((14 : Int32) * nI k + 9).toNatClampNeg = 14 * k + 9 := ix_2 14 k 9 (by omega)
      have i10 : ((14 : Int32) * nI k + 10).toNatClampNeg = 14 * k + 10 := ix_2 14 k 10 (by omega)
      have i11 : ((14 : Int32) * nI k + 11).toNatClampNeg = 14 * k + 11 := ix_2 14 k 11 (by omega)
      have g0 : Sk.1 10 5 (14 * k) = nI p := by
        rw [p4 10 5 (14 * k) (fun q => absurd q.2.1 (by decide)) (fun q => by omega), ← ep]
        exact hrow 0 (by decide) (by decide) (by decide)
      have g10 : Sk.1 10 5 (14 * k + 10) = S0.1 4 10 k := by
        rw [p4 10 5 (14 * k + 10) (fun q => absurd q.2.1 (by decide)) (fun q => by omega)]
        exact hrow 10 (by decide) (by decide) (by decide)
      have m1 : Sk.1 10 9 1 = S0.1 10 9 1 := p4 10 9 1 (fun q => absurd q.2.2 (by decide)) (fun q => absurd q.2.1 (by decide))
      have em1 : Sk.1 10 9 (1 : Int32).toNatClampNeg = S0.1 10 9 1 := m1
      have o8 : (passS S0 n).1 4 8 k = nI p := (passS_o (by decide)).trans ep
      have o10 : (passS S0 n).1 4 10 k = S0.1 4 10 k := passS_o (by decide)
      have o11 : ∀ i, (passS S0 n).1 11 0 i = S0.1 11 0 i := fun i => passS_o ⟨fun q => absurd q.1 (by decide), fun q => absurd q.1 (by decide), fun q => absurd q.1 (by decide)⟩
      have n22 : (passS S0 n).2.2 22 = 2 := by rw [passS_2]; exact h22
      have eR : (passS S0 (n + 1)).1 4 9 k = rdT (passS S0 n) k := by rw [passS_s, tenS_rd, n22, if_pos hk2]
      have eB : (passS S0 (n + 1)).1 4 11 k = brT (passS S0 n) k := by rw [passS_s, tenS_br, n22, if_pos hk2]
      have stp : ∀ S', S'.2 = Sk.2 → S'.1 10 5 (14 * k + 9) = rdT (passS S0 n) k → S'.1 10 5 (14 * k + 11) = brT (passS S0 n) k → (∀ k' f i, ¬ (k' = 10 ∧ f = 5 ∧ (i = 14 * k + 9 ∨ i = 14 * k + 11)) → S'.1 k' f i = Sk.1 k' f i) → ∀ x3 x4, G 97 [some (aR 10 5), some (aR 10 9), some (aI (nI k)), x3, x4] [] S' 0 := fun S' h2 hr hb ho x3 x4 => by
        have h1 := ih (k + 1) (by omega) S' ⟨h2.trans p1, ?_, fun i hi => ?_, fun k' f i q1 q2 => ?_⟩ x3 x4
        · rw [← nI_s] at h1
          refine hs [2] 60 97 _ _ _ _ ?_
          exact h1
        · rw [ho 10 9 0 (fun q => absurd q.2.1 (by decide))]
          exact p2
        · by_cases e : i = k
          · subst e
            rw [hr, hb, if_pos (Nat.lt_succ_self _), if_pos (Nat.lt_succ_self _), eR, eB]
            exact ⟨rfl, rfl⟩
          · rw [ho 10 5 (14 * i + 9) (fun q => by omega), ho 10 5 (14 * i + 11) (fun q => by omega), (p3 i hi).1, (p3 i hi).2]
            by_cases e2 : i < k
            · rw [if_pos e2, if_pos e2, if_pos (by omega), if_pos (by omega)]
              exact ⟨rfl, rfl⟩
            · rw [if_neg e2, if_neg e2, if_neg (by omega), if_neg (by omega)]
              exact ⟨rfl, rfl⟩
        · rw [ho k' f i (fun q => q2 ⟨q.1, q.2.1, by have := q.2.2; omega⟩)]
          exact p4 k' f i q1 q2
      -- the road
      have rneg : (passS S0 n).1 4 9 k = -1 ∨ (¬ (passS S0 n).1 4 9 k = -1 ∧ ¬ (passS S0 n).1 4 9 k < 0) := by
        rcases passS_rd (S := S0) n k with e | e
        · rcases hroad with h9 | ⟨d, q, h9, hd, -⟩
          · exact Or.inl (e.trans h9)
          · right
            rw [e, h9]
            exact ⟨fun z => absurd (z ▸ nI_nn (n := d) (by omega)) (by decide), nI_nn (by omega)⟩
        · exact Or.inl e
      have h71 : ∀ vb, vb = brT (passS S0 n) k → ∀ fl : Bool, (fl = true ↔ (passS S0 n).1 4 9 k = -1) → G 71 [some (aR 10 5), some (aR 10 9), some (aI (nI k)), some (aI ((14 : Int32) * nI k)), some (aI (bV fl))] [] (wrI Sk 10 5 (14 * k + 11) vb) 0 := fun vb hb fl hfl => by
        have q9 : (wrI Sk 10 5 (14 * k + 11) vb).1 10 5 (14 * k + 9) = (passS S0 n).1 4 9 k := by rw [wrI_ne fun q => by omega]; exact r9
        have q10 : (wrI Sk 10 5 (14 * k + 11) vb).1 10 5 (14 * k + 10) = S0.1 4 10 k := by rw [wrI_ne fun q => by omega]; exact g10
        have qm : (wrI Sk 10 5 (14 * k + 11) vb).1 10 9 (0 : Int32).toNatClampNeg = nI (T + n) := by rw [wrI_ne fun q => absurd q.2.1 (by decide)]; exact em
        have q11 : (wrI Sk 10 5 (14 * k + 11) vb).1 10 5 (14 * k + 11) = brT (passS S0 n) k := by rw [wrI_at, if_pos ⟨rfl, rfl, rfl⟩]; exact hb
        have oth : ∀ k' f i, ¬ (k' = 10 ∧ f = 5 ∧ (i = 14 * k + 9 ∨ i = 14 * k + 11)) → (wrI Sk 10 5 (14 * k + 11) vb).1 k' f i = Sk.1 k' f i := fun k' f i q => wrI_ne fun z => q ⟨z.1, z.2.1, Or.inr z.2.2⟩
        refine hs [97] 60 71 _ _ _ _ ?_
        cases fl with
        | true =>
          refine ⟨fun _ => stp (wrI Sk 10 5 (14 * k + 11) vb) rfl ?_ q11 oth _ _, fun z => absurd z (by decide)⟩
          rw [q9]
          unfold rdT
          rw [if_pos (hfl.mp rfl)]
          exact hfl.mp rfl
        | false =>
          have hne : ¬ (passS S0 n).1 4 9 k = -1 := fun z => absurd (hfl.mpr z) (by decide)
          refine ⟨fun z => absurd rfl z, fun _ => ⟨w10, v0, ?_⟩⟩
          rw [i10, q10, qm]
          refine ⟨fun z => stp (wrI Sk 10 5 (14 * k + 11) vb) rfl ?_ q11 oth _ _, fun z => ⟨w9, ?_⟩⟩
          · rw [q9]
            unfold rdT
            have hlt : (passS S0 n).1 0 9 0 < (passS S0 n).1 4 10 k := drvI_s hdrv n k (by omega) hne
            have hlt2 : (passS S0 n).1 0 9 0 + 1 < (passS S0 n).1 4 10 k := by
              rw [o10] at hlt ⊢
              rw [enow] at hlt ⊢
              rw [nI_s]
              rw [Int32.lt_iff_toInt_lt, nI_toInt (by omega)] at hlt ⊢
              have hy2 : ¬ (S0.1 4 10 k).toInt = ((T + n + 1 : Nat) : Int) := fun q => z ((Int32.toInt_inj.mp (q.trans (nI_toInt (by omega)).symm)).trans (nI_s _).symm)
              omega
            rw [if_neg hne, if_pos hlt2]
          · rw [i9]
            refine stp (wrI (wrI Sk 10 5 (14 * k + 11) vb) 10 5 (14 * k + 9) (-1)) rfl ?_ ?_ (fun k' f i q => ?_) _ _
            · rw [wrI_at, if_pos ⟨rfl, rfl, rfl⟩]
              unfold rdT
              rw [if_neg hne, o10, z, enow, if_neg Int32.lt_irrefl]
            · rw [wrI_ne fun q => by omega]
              exact q11
            · rw [wrI_ne fun z => q ⟨z.1, z.2.1, Or.inl z.2.2⟩]
              exact oth k' f i q
      have hbay : (S0.1 10 9 1 >>> (nI p &&& 31)) &&& 1 = 0 ↔ S0.1 11 0 p = 0 := by
        have h1 := hI.ba.1 p p5
        have h2 := t_bit (S0.1 10 9 1) p (by omega)
        rw [h1] at h2
        have h01 : ∀ x : Int32, x &&& 1 = 0 ∨ x &&& 1 = 1 := fun x => by
          obtain ⟨q, hq, e⟩ := pk_andE x (m := 1) 1 (by decide)
          rw [e]
          have : q = 0 ∨ q = 1 := by omega
          rcases this with rfl | rfl
          · exact Or.inl rfl
          · exact Or.inr rfl
        unfold bayH at h2
        rw [decide_eq_true_iff] at h2
        constructor
        · intro z
          refine Classical.byContradiction fun y => ?_
          have := h2.mpr y
          rw [z] at this
          exact absurd this (by decide)
        · intro z
          rcases h01 (S0.1 10 9 1 >>> (nI p &&& 31)) with e | e
          · exact e
          · exact absurd z (h2.mp e)
      have bq : ∀ c : Prop, (c ↔ ((passS S0 n).1 4 9 k = -1 ∧ dayB ((passS S0 n).1 0 9 0) = true ∧ (passS S0 n).1 11 0 ((passS S0 n).1 4 8 k).toNatClampNeg = 0)) → (c → (passS S0 n).1 4 11 k + 1 = brT (passS S0 n) k) ∧ (¬ c → (passS S0 n).1 4 11 k + 0 = brT (passS S0 n) k) := fun c hc => by
        unfold brT
        refine ⟨fun z => (if_pos (hc.mp z)).symm, fun z => ?_⟩
        rw [if_neg fun y => z (hc.mpr y), Int32.add_zero]
      have bq2 := bq _ Iff.rfl
      rw [enow, o8, o11, nI_cl (show p < 2 ^ 31 by omega), dayB_m (show T + n < 2 ^ 31 by omega)] at bq2
      have em144 : nI (T + n) - nI (T + n) / 144 * 144 = nI ((T + n) % 144) := pk_rem (d := 144) (by omega) (by omega) (by omega)
      refine hs [71] 60 2 _ _ _ _ ?_
      refine ⟨fun q => absurd q (lp_go (n := 2) (by omega) hk2), fun _ => ⟨w9, ?_⟩⟩
      rw [i9, r9]
      have neg1 : ((-1 : Int32) < 0) := by decide
      refine ⟨fun z => ⟨w11, ?_⟩, fun z => ⟨w11, ?_⟩⟩
      · have hne : ¬ (passS S0 n).1 4 9 k = -1 := fun y => by
          rw [y] at z
          exact absurd z (by decide)
        refine ⟨fun _ => ⟨w11, ?_⟩, fun y => absurd rfl y⟩
        rw [i11, r11]
        exact h71 _ (bq2.2 fun y => hne y.1) false ⟨fun y => (nomatch y), fun y => absurd y hne⟩
      · have heq : (passS S0 n).1 4 9 k = -1 := rneg.resolve_right fun y => z (Int32.not_lt.mp y.2)
        refine ⟨fun y => absurd y (by decide), fun _ => ⟨v0, rem144 0, ?_⟩⟩
        rw [em, em144]
        refine ⟨fun y => ⟨w11, ?_⟩, fun y => ⟨v1, w0, ?_⟩⟩
        · have y' := (nI_le2 (b := 35) (by omega) (by omega)).mp y
          rw [i11, r11]
          exact h71 _ (bq2.2 fun x => by have := x.2.1; omega) true ⟨fun _ => heq, fun _ => rfl⟩
        · have y' : 36 ≤ (T + n) % 144 := by
            refine Nat.not_lt.mp fun x => y ?_
            exact (nI_le2 (b := 35) (by omega) (by omega)).mpr (by omega)
          rw [em1, i0, g0]
          refine ⟨fun x => ⟨w11, ?_⟩, fun x => ⟨w11, ?_⟩⟩
          · rw [i11, r11]
            exact h71 _ (bq2.2 fun v => x (hbay.mpr v.2.2)) true ⟨fun _ => heq, fun _ => rfl⟩
          · rw [i11, r11]
            exact h71 _ (bq2.1 ⟨heq, y', hbay.mp x⟩) true ⟨fun _ => heq, fun _ => rfl⟩
  exact hs [2] 60 0 _ _ _ _ (loop 2 0 rfl S hP none none)
theorem ct_L_pass {l : Launch} (hl : l.stackTraces = false) (hNL : NewL l) : CT l yL_pass cL_pass 5 none 0 0 s_L_pass := CT_of hl hNL (by decide +kernel) (own := "HeavyHaulLaw") rfl (ini := false) (fun q => nomatch q) chk_L_pass (cal_L_pass hl hNL) ar_L_pass vc_L_pass
