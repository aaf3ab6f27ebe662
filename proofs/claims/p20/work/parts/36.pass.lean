/-! TIME -/
def rdT (S : Sto) (i : Nat) : Int32 := if S.1 4 9 i = -1 then -1 else if S.1 0 9 0 + 1 < S.1 4 10 i then S.1 4 9 i else -1
def dayB (now : Int32) : Bool := decide (36 ≤ now - now / 144 * 144)
def brT (S : Sto) (i : Nat) : Int32 := if S.1 4 9 i = -1 ∧ dayB (S.1 0 9 0) = true ∧ S.1 11 0 (S.1 4 8 i).toNatClampNeg = 0 then S.1 4 11 i + 1 else S.1 4 11 i
def tenS (S : Sto) (n : Nat) : Sto := (fun k f i => if k = 0 ∧ f = 9 ∧ i = 0 then S.1 0 9 0 + 1 else if k = 4 ∧ f = 9 ∧ i < n then rdT S i else if k = 4 ∧ f = 11 ∧ i < n then brT S i else S.1 k f i, S.2)
theorem tenS_at {S : Sto} {n k f i : Nat} : (tenS S n).1 k f i = if k = 0 ∧ f = 9 ∧ i = 0 then S.1 0 9 0 + 1 else if k = 4 ∧ f = 9 ∧ i < n then rdT S i else if k = 4 ∧ f = 11 ∧ i < n then brT S i else S.1 k f i := rfl
theorem tenS_o {S : Sto} {n k f i : Nat} (h : ¬ (k = 0 ∧ f = 9) ∧ ¬ (k = 4 ∧ f = 9) ∧ ¬ (k = 4 ∧ f = 11)) : (tenS S n).1 k f i = S.1 k f i := by
  rw [tenS_at]
  rw [if_neg fun q => h.1 ⟨q.1, q.2.1⟩, if_neg fun q => h.2.1 ⟨q.1, q.2.1⟩, if_neg fun q => h.2.2 ⟨q.1, q.2.1⟩]
theorem tenS_now {S : Sto} {n : Nat} : (tenS S n).1 0 9 0 = S.1 0 9 0 + 1 := by rw [tenS_at, if_pos ⟨rfl, rfl, rfl⟩]
theorem tenS_rd {S : Sto} {n i : Nat} : (tenS S n).1 4 9 i = if i < n then rdT S i else S.1 4 9 i := by
  rw [tenS_at]
  rw [if_neg fun q => absurd q.1 (by decide)]
  by_cases h : i < n
  · rw [if_pos ⟨rfl, rfl, h⟩, if_pos h]
  · rw [if_neg fun q => h q.2.2, if_neg fun q => absurd q.2.1 (by decide), if_neg h]
theorem tenS_br {S : Sto} {n i : Nat} : (tenS S n).1 4 11 i = if i < n then brT S i else S.1 4 11 i := by
  rw [tenS_at]
  rw [if_neg fun q => absurd q.1 (by decide), if_neg fun q => absurd q.2.1 (by decide)]
  by_cases h : i < n
  · rw [if_pos ⟨rfl, rfl, h⟩, if_pos h]
  · rw [if_neg fun q => h q.2.2, if_neg h]
theorem tenS_wf {S : Sto} {n : Nat} (hW : WfH S) : WfH (tenS S n) := by
  have e : ∀ k f i, ¬ (k = 0 ∧ f = 9) ∧ ¬ (k = 4 ∧ f = 9) ∧ ¬ (k = 4 ∧ f = 11) → (tenS S n).1 k f i = S.1 k f i := fun k f i h => tenS_o h
  obtain ⟨h1, h2, h3, h4, h5, h6, h7, h8⟩ := hW
  refine ⟨h1, h2, h3, fun i hi => ?_, fun i hi => ?_, fun i hi => ?_, fun i hi => ?_, fun i hi => ?_⟩
  · rw [e 3 3 i (by decide)]; exact h4 i hi
  · rw [e 5 2 i (by decide)]; exact h5 i hi
  · rw [e 6 1 i (by decide)]; exact h6 i hi
  · unfold RoF
    rw [e 2 0 i (by decide), e 2 1 i (by decide), e 2 2 i (by decide), e 2 6 i (by decide), e 2 7 i (by decide)]
    exact h7 i hi
  · unfold RiF
    rw [e 4 0 i (by decide), e 4 1 i (by decide), e 4 8 i (by decide)]
    exact h8 i hi
theorem tenS_s {S S' : Sto} {n : Nat} (h2 : S'.2 = S.2) (hr : S'.1 4 9 n = rdT S n) (hb : S'.1 4 11 n = brT S n) (ho : ∀ k f i, ¬ (k = 4 ∧ f = 9 ∧ i = n) → ¬ (k = 4 ∧ f = 11 ∧ i = n) → S'.1 k f i = (tenS S n).1 k f i) : S' = tenS S (n + 1) := by
  refine sto_eq (fun k f i => ?_) h2
  by_cases h1 : k = 4 ∧ f = 9 ∧ i = n
  · obtain ⟨rfl, rfl, rfl⟩ := h1
    rw [hr, tenS_rd, if_pos (Nat.lt_succ_self _)]
  · by_cases h3 : k = 4 ∧ f = 11 ∧ i = n
    · obtain ⟨rfl, rfl, rfl⟩ := h3
      rw [hb, tenS_br, if_pos (Nat.lt_succ_self _)]
    · rw [ho k f i h1 h3]
      by_cases h9 : k = 4 ∧ f = 9
      · obtain ⟨rfl, rfl⟩ := h9
        rw [tenS_rd, tenS_rd]
        have : i ≠ n := fun q => h1 ⟨rfl, rfl, q⟩
        by_cases hi : i < n
        · rw [if_pos hi, if_pos (by omega)]
        · rw [if_neg hi, if_neg (by omega)]
      · by_cases h11 : k = 4 ∧ f = 11
        · obtain ⟨rfl, rfl⟩ := h11
          rw [tenS_br, tenS_br]
          have : i ≠ n := fun q => h3 ⟨rfl, rfl, q⟩
          by_cases hi : i < n
          · rw [if_pos hi, if_pos (by omega)]
          · rw [if_neg hi, if_neg (by omega)]
        · by_cases h0 : k = 0 ∧ f = 9
          · obtain ⟨rfl, rfl⟩ := h0
            by_cases hi : i = 0
            · subst hi
              rw [tenS_now, tenS_now]
            · rw [tenS_at, tenS_at]
              rw [if_neg fun q => hi q.2.2, if_neg fun q => absurd q.1 (by decide), if_neg fun q => absurd q.1 (by decide), if_neg fun q => hi q.2.2, if_neg fun q => absurd q.1 (by decide), if_neg fun q => absurd q.1 (by decide)]
          · rw [tenS_o ⟨h0, h9, h11⟩, tenS_o ⟨h0, h9, h11⟩]
def s_X6_letTenGoBy : SP := fun as S Q => o0 0 as (WfH S ∧ Q (Sum.inl none) (tenS S (S.2.2 22)))
def tb_X6_letTenGoBy : Tb := [(0, .aload_n 0, 1, x0), (1, .getfield 42, 3, xF 7 9 [106]), (4, .sipush 144, 3, xI (144)), (7, .irem, 1, x0), (8, .bipush 36, 2, xI (36)), (10, .if_icmp .lt 7, 3, xN 17), (13, .iconst 1, 1, xI (1)), (14, .goto 4, 3, xN 18), (17, .iconst 0, 1, xI (0)), (18, .istore_n 1, 1, x0), (19, .aload_n 0, 1, x0), (20, .dup, 1, x0), (21, .getfield 42, 3, xF 7 9 [106]), (24, .iconst 1, 1, xI (1)), (25, .iadd, 1, x0), (26, .putfield 42, 3, xF 7 9 [106]), (29, .iconst 0, 1, xI (0)), (30, .istore_n 2, 1, x0), (31, .iload_n 2, 1, x0), (32, .aload_n 0, 1, x0), (33, .getfield 30, 3, xF 7 5 [102]), (36, .invokevirtual 68, 3, xS 1 0 s_Jx4a65c_size_8abf5), (39, .if_icmp .ge 64, 3, xN 103), (42, .aload_n 0, 1, x0), (43, .getfield 30, 3, xF 7 5 [102]), (46, .iload_n 2, 1, x0), (47, .invokevirtual 234, 3, xS 2 0 s_Jx4a65c_get_915e3), (50, .checkcast 117, 3, xF 4 0 [365]), (53, .astore_n 3, 1, x0), (54, .aload_n 3, 1, x0), (55, .invokevirtual 128, 3, xS 1 0 s_X3_isDriving), (58, .ifCond .eq 14, 3, xN 72), (61, .aload_n 3, 1, x0), (62, .aload_n 0, 1, x0), (63, .getfield 42, 3, xF 7 9 [106]), (66, .invokevirtual 330, 3, xS 2 0 s_X3_standIfArrived), (69, .goto 28, 3, xN 97), (72, .iload_n 1, 1, x0), (73, .ifCond .eq 24, 3, xN 97), (76, .aload_n 0, 1, x0), (77, .aload_n 3, 1, x0), (78, .getfield 169, 3, xF 4 8 [385]), (81, .invokevirtual 334, 3, xS 2 0 s_X6_hasBay), (84, .ifCond .ne 13, 3, xN 97), (87, .aload_n 3, 1, x0), (88, .dup, 1, x0), (89, .getfield 214, 3, xF 4 11 [390]), (92, .iconst 1, 1, xI (1)), (93, .iadd, 1, x0), (94, .putfield 214, 3, xF 4 11 [390]), (97, .iinc 2 1, 3, xI (1)), (100, .goto (-69), 3, xN 31), (103, .return_, 1, x0)]
theorem chk_X6_letTenGoBy : chkTb cX6_letTenGoBy "HeavyHaul" false tb_X6_letTenGoBy = true := by decide +kernel
theorem cal_X6_letTenGoBy {l : Launch} (hl : l.stackTraces = false) (hNL : NewL l) : CallsOK l "HeavyHaul" 3 tb_X6_letTenGoBy := callsOK_f ⟨⟨_, _, 1, 0, _, 0, (ct_Jx4a65c_size_8abf5 hl hNL), ⟨List.mem_of_getElem? (i := 236) (by decide +kernel), List.mem_of_getElem? (i := 29) (by decide +kernel), List.mem_of_getElem? (i := 233) (by decide +kernel), ⟨by decide +kernel, by decide +kernel⟩, by decide +kernel, by decide⟩, List.mem_of_getElem? (i := 234) (by decide +kernel), List.mem_of_getElem? (i := 235) (by decide +kernel), by decide, by decide, rc_Jx4a65c_size_8abf5⟩, ⟨_, _, 2, 2, _, 0, (ct_Jx4a65c_get_915e3 hl hNL), ⟨List.mem_of_getElem? (i := 519) (by decide +kernel), List.mem_of_getElem? (i := 29) (by decide +kernel), List.mem_of_getElem? (i := 516) (by decide +kernel), ⟨by decide +kernel, by decide +kernel⟩, by decide +kernel, by decide⟩, List.mem_of_getElem? (i := 517) (by decide +kernel), List.mem_of_getElem? (i := 518) (by decide +kernel), by decide, by decide, rc_Jx4a65c_get_915e3⟩, ⟨_, _, 1, 0, _, 4, (ct_X3_isDriving hl hNL), ⟨List.mem_of_getElem? (i := 583) (by decide +kernel), List.mem_of_getElem? (i := 41) (by decide +kernel), List.mem_of_getElem? (i := 580) (by decide +kernel), ⟨by decide +kernel, by decide +kernel⟩, by decide +kernel, by decide⟩, List.mem_of_getElem? (i := 581) (by decide +kernel), List.mem_of_getElem? (i := 582) (by decide +kernel), by decide, by decide, rc_X3_isDriving⟩, ⟨_, _, 2, 0, _, 4, (ct_X3_standIfArrived hl hNL), ⟨List.mem_of_getElem? (i := 706) (by decide +kernel), List.mem_of_getElem? (i := 41) (by decide +kernel), List.mem_of_getElem? (i := 703) (by decide +kernel), ⟨by decide +kernel, by decide +kernel⟩, by decide +kernel, by decide⟩, List.mem_of_getElem? (i := 704) (by decide +kernel), List.mem_of_getElem? (i := 705) (by decide +kernel), by decide, by decide, rc_X3_standIfArrived⟩, ⟨_, _, 2, 0, _, 7, (ct_X6_hasBay hl hNL), ⟨List.mem_of_getElem? (i := 710) (by decide +kernel), List.mem_of_getElem? (i := 26) (by decide +kernel), List.mem_of_getElem? (i := 707) (by decide +kernel), ⟨by decide +kernel, by decide +kernel⟩, by decide +kernel, by decide⟩, List.mem_of_getElem? (i := 709) (by decide +kernel), List.mem_of_getElem? (i := 19) (by decide +kernel), by decide, by decide, rc_X6_hasBay⟩, trivial⟩
theorem ar_X6_letTenGoBy : ∀ as S P, s_X6_letTenGoBy as S P → as.length ≤ 4 ∧ ∀ a ∈ as, catV a = 1 := fun as S P h => by
  obtain ⟨rfl, _⟩ := o0_ok h
  exact ar_all ⟨Nat.le_of_ble_eq_true rfl, rfl⟩
theorem rc_X6_letTenGoBy : ∀ as S P, s_X6_letTenGoBy as S P → ∃ k i r, as = aR k i :: r ∧ ci k = 7 ∧ (obK k = true ∨ k = 13) := fun as S P h => by
  obtain ⟨rfl, _⟩ := o0_ok h
  exact ⟨_, _, _, rfl, rfl, Or.inl rfl⟩
theorem vc_X6_letTenGoBy : ∀ (G : Gt) (Q : Out → Sto → Prop) (as : List AV) (S : Sto), s_X6_letTenGoBy as S Q → Seg tb_X6_letTenGoBy G Q 0 0 [] (0, fun _ => 0) → G 0 (argL as 4) [] S 0 := by
  intro G Q as S h hs
  obtain ⟨rfl, hW, hQ⟩ := o0_ok h
  have w13 := hW.1
  have hn : S.2.2 22 ≤ 1000 := by have := hW.2.1.2.2.1; omega
  have loop : ∀ m k, k + m = S.2.2 22 → ∀ x, G 31 [some (aR 0 0), some (aI (bV (dayB (S.1 0 9 0)))), some (aI (nI k)), x] [] (tenS S k) 0 := by
    intro m
    induction m with
    | zero =>
      intro k hk x
      obtain rfl : k = S.2.2 22 := hk
      refine hs [31] 60 31 _ _ _ _ ?_
      exact ⟨rfl, by show 2 < S.2.2 13; omega, fun _ => hQ, fun q => (lp_end q).elim⟩
    | succ m ih =>
      intro k hk x
      have hk2 : k < S.2.2 22 := by omega
      obtain ⟨a, d, p, -, -, hp, -, -, -, -, hp10⟩ := hW.2.2.2.2.2.2.2 k hk2
      have r9 : (tenS S k).1 4 9 k = S.1 4 9 k := by rw [tenS_rd, if_neg (Nat.lt_irrefl _)]
      have r11 : (tenS S k).1 4 11 k = S.1 4 11 k := by rw [tenS_br, if_neg (Nat.lt_irrefl _)]
      have r8 : (tenS S k).1 4 8 k = S.1 4 8 k := tenS_o (by decide)
      have r10 : (tenS S k).1 4 10 k = S.1 4 10 k := tenS_o (by decide)
      have rb : ∀ i, (tenS S k).1 11 0 i = S.1 11 0 i := fun i => tenS_o ⟨fun q => absurd q.1 (by decide), fun q => absurd q.1 (by decide), fun q => absurd q.1 (by decide)⟩
      have key : ∀ S', S' = tenS S (k + 1) → G 31 [some (aR 0 0), some (aI (bV (dayB (S.1 0 9 0)))), some (aI (nI k + 1)), some (aR 4 k)] [] S' 0 := fun S' hS => by
        rw [hS, nI_s]
        exact ih (k + 1) (by omega) _
      refine hs [31] 60 31 _ _ _ _ ?_
      refine ⟨rfl, by show 2 < S.2.2 13; omega, fun q => absurd q (lp_go hn hk2), fun _ => ⟨rfl, by show 2 < S.2.2 13; omega, lp_nn hn hk2, lp_in hn hk2, ?_⟩⟩
      rw [lp_cl hn hk2]
      have sd : S.1 4 9 k = -1 → dayB (S.1 0 9 0) = true → S.1 11 0 (S.1 4 8 k).toNatClampNeg = 0 → wrI (tenS S k) 4 11 k ((tenS S k).1 4 11 k + 1) = tenS S (k + 1) := fun h1 h2 h3 => by
        refine tenS_s rfl ?_ ?_ fun k' f i q1 q2 => ?_
        · rw [wrI_ne fun q => absurd q.2.1 (by decide), r9, h1]
          exact (if_pos h1).symm
        · rw [wrI_at, if_pos ⟨rfl, rfl, rfl⟩, r11]
          exact (if_pos ⟨h1, h2, h3⟩).symm
        · exact wrI_ne q2
      have ss : S.1 4 9 k = -1 → ¬ (dayB (S.1 0 9 0) = true ∧ S.1 11 0 (S.1 4 8 k).toNatClampNeg = 0) → tenS S k = tenS S (k + 1) := fun h1 h2 => by
        refine tenS_s rfl ?_ ?_ fun k' f i q1 q2 => rfl
        · rw [r9, h1]
          exact (if_pos h1).symm
        · rw [r11]
          exact (if_neg fun q => h2 q.2).symm
      refine ⟨fun z1 => ⟨rfl, fun _ => ?_, fun q => absurd rfl q⟩, fun z1 => ⟨rfl, fun q => absurd q (by decide), fun _ => ⟨fun z2 => key _ ?_, fun z2 => key _ ?_⟩⟩⟩
      · have z1' : S.1 4 9 k = -1 := r9.symm.trans z1
        refine ⟨fun dd => key _ (ss z1' fun q => ?_), fun dd => ⟨fun ng => absurd ng ?_, fun _ => ⟨fun ge => absurd ge ?_, fun _ => ⟨?_, fun v => ⟨rfl, fun x => absurd rfl x, fun _ => key _ (sd z1' ?_ ?_)⟩, fun v => ⟨rfl, fun _ => key _ (ss z1' fun q => v ?_), fun x => absurd x (by decide)⟩⟩⟩⟩⟩
        · rw [q.1] at dd
          exact absurd dd (by decide)
        · show ¬ (tenS S k).1 4 8 k < 0
          rw [r8, hp]
          exact nI_nn (by omega)
        · show ¬ (10 : Int32) ≤ (tenS S k).1 4 8 k
          rw [r8, hp]
          exact lp_go (n := 10) (by omega) hp10
        · show vp_in ((tenS S k).1 4 8 k) 10
          rw [r8, hp]
          exact nI_vin (by omega) hp10
        · cases hh : dayB (S.1 0 9 0) with
          | true => rfl
          | false =>
            rw [hh] at dd
            exact absurd rfl dd
        · have v' : (tenS S k).1 11 0 ((tenS S k).1 4 8 k).toNatClampNeg = 0 := v
          rw [r8, rb] at v'
          exact v'
        · show (tenS S k).1 11 0 ((tenS S k).1 4 8 k).toNatClampNeg = 0
          rw [r8, rb]
          exact q.2
      · have z1' : ¬ S.1 4 9 k = -1 := fun q => z1 (r9.trans q)
        have z2' : S.1 0 9 0 + 1 < S.1 4 10 k := by
          have h9 : (tenS S k).1 0 9 0 < (tenS S k).1 4 10 k := z2
          rwa [tenS_now, r10] at h9
        refine tenS_s rfl ?_ ?_ fun k' f i q1 q2 => rfl
        · rw [r9]
          unfold rdT
          rw [if_neg z1', if_pos z2']
        · rw [r11]
          exact (if_neg fun q => z1' q.1).symm
      · have z1' : ¬ S.1 4 9 k = -1 := fun q => z1 (r9.trans q)
        have z2' : ¬ S.1 0 9 0 + 1 < S.1 4 10 k := fun q => z2 (by
          show (tenS S k).1 0 9 0 < (tenS S k).1 4 10 k
          rw [tenS_now, r10]
          exact q)
        refine tenS_s rfl ?_ ?_ fun k' f i q1 q2 => ?_
        · show (wrI (tenS S k) 4 9 k (-1)).1 4 9 k = _
          rw [wrI_at, if_pos ⟨rfl, rfl, rfl⟩]
          unfold rdT
          rw [if_neg z1', if_neg z2']
        · show (wrI (tenS S k) 4 9 k (-1)).1 4 11 k = _
          rw [wrI_ne fun q => absurd q.2.1 (by decide), r11]
          exact (if_neg fun q => z1' q.1).symm
        · exact wrI_ne q1
  have h0 : wrI S 0 9 0 (S.1 0 9 0 + 1) = tenS S 0 := by
    refine sto_eq (fun k f i => ?_) rfl
    rw [wrI_at, tenS_at]
    by_cases h : k = 0 ∧ f = 9 ∧ i = 0
    · rw [if_pos h, if_pos h]
    · rw [if_neg h, if_neg h, if_neg fun q => absurd q.2.2 (Nat.not_lt_zero _), if_neg fun q => absurd q.2.2 (Nat.not_lt_zero _)]
  have hl := loop (S.2.2 22) 0 (by omega) none
  rw [← h0] at hl
  refine hs [31] 60 0 _ _ _ _ ?_
  refine ⟨rem144 0, fun c => ?_, fun c => ?_⟩
  · have e : dayB (S.1 0 9 0) = false := decide_eq_false (Int32.not_le.mpr c)
    rw [e] at hl
    exact hl
  · have e : dayB (S.1 0 9 0) = true := decide_eq_true (Int32.not_lt.mp c)
    rw [e] at hl
    exact hl
theorem ct_X6_letTenGoBy {l : Launch} (hl : l.stackTraces = false) (hNL : NewL l) : CT l yX6_letTenGoBy cX6_letTenGoBy 4 none 3 0 s_X6_letTenGoBy := CT_of hl hNL (by decide +kernel) (own := "HeavyHaul") rfl (ini := false) (fun q => nomatch q) chk_X6_letTenGoBy (cal_X6_letTenGoBy hl hNL) ar_X6_letTenGoBy vc_X6_letTenGoBy
