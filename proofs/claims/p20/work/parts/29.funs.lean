/-! WHAT THE CLASS COMPUTES, as functions of the store; and shapes of arguments -/
def o0 (kd : Nat) (as : List AV) (f : Prop) : Prop := match as with
  | [Sum.inr (Sum.inr (k, i))] => k = kd ∧ i = 0 ∧ f
  | _ => False
def o1 (kd : Nat) (as : List AV) (f : Int32 → Prop) : Prop := match as with
  | [Sum.inr (Sum.inr (k, i)), Sum.inl a] => k = kd ∧ i = 0 ∧ f a
  | _ => False
def o2 (kd : Nat) (as : List AV) (f : Int32 → Int32 → Prop) : Prop := match as with
  | [Sum.inr (Sum.inr (k, i)), Sum.inl a, Sum.inl b] => k = kd ∧ i = 0 ∧ f a b
  | _ => False
def o3 (kd : Nat) (as : List AV) (f : Int32 → Int32 → Int32 → Prop) : Prop := match as with
  | [Sum.inr (Sum.inr (k, i)), Sum.inl a, Sum.inl b, Sum.inl c] => k = kd ∧ i = 0 ∧ f a b c
  | _ => False
def o4 (kd : Nat) (as : List AV) (f : Int32 → Int32 → Int32 → Int32 → Prop) : Prop := match as with
  | [Sum.inr (Sum.inr (k, i)), Sum.inl a, Sum.inl b, Sum.inl c, Sum.inl d] => k = kd ∧ i = 0 ∧ f a b c d
  | _ => False
def o5 (kd : Nat) (as : List AV) (f : Int32 → Int32 → Int32 → Int32 → Int32 → Prop) : Prop := match as with
  | [Sum.inr (Sum.inr (k, i)), Sum.inl a, Sum.inl b, Sum.inl c, Sum.inl d, Sum.inl e] => k = kd ∧ i = 0 ∧ f a b c d e
  | _ => False
/-- the object itself and an object of kind x -/
def oR (kd x : Nat) (as : List AV) (f : Nat → Prop) : Prop := match as with
  | [Sum.inr (Sum.inr (k, i)), Sum.inr (Sum.inr (y, j))] => k = kd ∧ i = 0 ∧ y = x ∧ f j
  | _ => False
/-- a road, a rig and two flags -/
def rr2 (as : List AV) (f : Nat → Nat → Int32 → Int32 → Prop) : Prop := match as with
  | [Sum.inr (Sum.inr (k, i)), Sum.inr (Sum.inr (y, j)), Sum.inl a, Sum.inl b] => k = 2 ∧ y = 4 ∧ f i j a b
  | _ => False
/-- a length, a rig, a step, two flags -/
def ir3 (as : List AV) (f : Int32 → Nat → Int32 → Int32 → Int32 → Prop) : Prop := match as with
  | [Sum.inl s, Sum.inr (Sum.inr (y, j)), Sum.inl t, Sum.inl a, Sum.inl b] => y = 4 ∧ f s j t a b
  | _ => False
theorem o0_ok {kd : Nat} {as : List AV} {f : Prop} (h : o0 kd as f) : as = [aR kd 0] ∧ f := by
  unfold o0 at h
  split at h
  · obtain ⟨rfl, rfl, h⟩ := h; exact ⟨rfl, h⟩
  · exact h.elim
theorem o1_ok {kd : Nat} {as : List AV} {f : Int32 → Prop} (h : o1 kd as f) : ∃ a, as = [aR kd 0, aI a] ∧ f a := by
  unfold o1 at h
  split at h
  · obtain ⟨rfl, rfl, h⟩ := h; exact ⟨_, rfl, h⟩
  · exact h.elim
theorem o2_ok {kd : Nat} {as : List AV} {f : Int32 → Int32 → Prop} (h : o2 kd as f) : ∃ a b, as = [aR kd 0, aI a, aI b] ∧ f a b := by
  unfold o2 at h
  split at h
  · obtain ⟨rfl, rfl, h⟩ := h; exact ⟨_, _, rfl, h⟩
  · exact h.elim
theorem o3_ok {kd : Nat} {as : List AV} {f : Int32 → Int32 → Int32 → Prop} (h : o3 kd as f) : ∃ a b c, as = [aR kd 0, aI a, aI b, aI c] ∧ f a b c := by
  unfold o3 at h
  split at h
  · obtain ⟨rfl, rfl, h⟩ := h; exact ⟨_, _, _, rfl, h⟩
  · exact h.elim
theorem o4_ok {kd : Nat} {as : List AV} {f : Int32 → Int32 → Int32 → Int32 → Prop} (h : o4 kd as f) : ∃ a b c d, as = [aR kd 0, aI a, aI b, aI c, aI d] ∧ f a b c d := by
  unfold o4 at h
  split at h
  · obtain ⟨rfl, rfl, h⟩ := h; exact ⟨_, _, _, _, rfl, h⟩
  · exact h.elim
theorem o5_ok {kd : Nat} {as : List AV} {f : Int32 → Int32 → Int32 → Int32 → Int32 → Prop} (h : o5 kd as f) : ∃ a b c d e, as = [aR kd 0, aI a, aI b, aI c, aI d, aI e] ∧ f a b c d e := by
  unfold o5 at h
  split at h
  · obtain ⟨rfl, rfl, h⟩ := h; exact ⟨_, _, _, _, _, rfl, h⟩
  · exact h.elim
theorem oR_ok {kd x : Nat} {as : List AV} {f : Nat → Prop} (h : oR kd x as f) : ∃ j, as = [aR kd 0, aR x j] ∧ f j := by
  unfold oR at h
  split at h
  · obtain ⟨rfl, rfl, rfl, h⟩ := h; exact ⟨_, rfl, h⟩
  · exact h.elim
theorem rr2_ok {as : List AV} {f : Nat → Nat → Int32 → Int32 → Prop} (h : rr2 as f) : ∃ i j a b, as = [aR 2 i, aR 4 j, aI a, aI b] ∧ f i j a b := by
  unfold rr2 at h
  split at h
  · obtain ⟨rfl, rfl, h⟩ := h; exact ⟨_, _, _, _, rfl, h⟩
  · exact h.elim
theorem ir3_ok {as : List AV} {f : Int32 → Nat → Int32 → Int32 → Int32 → Prop} (h : ir3 as f) : ∃ s j t a b, as = [aI s, aR 4 j, aI t, aI a, aI b] ∧ f s j t a b := by
  unfold ir3 at h
  split at h
  · obtain ⟨rfl, h⟩ := h; exact ⟨_, _, _, _, _, rfl, h⟩
  · exact h.elim
theorem ar_all {as : List AV} {n : Nat} (h : as.length ≤ n ∧ as.all (fun a => catV a == 1) = true) : as.length ≤ n ∧ ∀ a ∈ as, catV a = 1 := ⟨h.1, fun a ha => eq_of_beq (List.all_eq_true.mp h.2 a ha)⟩
theorem lp_go {n j : Nat} (hn : n ≤ 1000) (h : j < n) : ¬ nI n ≤ nI j := fun q => absurd ((nI_le2 (by omega) (by omega)).mp q) (by omega)
theorem lp_in {n j : Nat} (hn : n ≤ 1000) (h : j < n) : nI j < nI n := (nI_lt2 (by omega) (by omega)).mpr h
theorem lp_nn {n j : Nat} (hn : n ≤ 1000) (h : j < n) : 0 ≤ nI j := Int32.not_lt.mp (nI_nn (by omega))
theorem lp_cl {n j : Nat} (hn : n ≤ 1000) (h : j < n) : (nI j).toNatClampNeg = j := nI_cl (by omega)
theorem lp_end {n : Nat} (q : ¬ nI n ≤ nI n) : False := q (Int32.le_refl _)
theorem nI_s (n : Nat) : nI n + 1 = nI (n + 1) := by rw [nI_succ]
/-- the greatest gain of the first n works -/
def gainF (rd fr to vl : Nat → Int32) (road first en : Int32) : Nat → Int32
  | 0 => 0
  | n + 1 => if rd n = road ∧ fr n ≤ first ∧ en ≤ to n then (if gainF rd fr to vl road first en n < vl n then vl n else gainF rd fr to vl road first en n) else gainF rd fr to vl road first en n
def anyN (p : Nat → Bool) : Nat → Bool
  | 0 => false
  | n + 1 => anyN p n || p n
theorem anyN_t {p : Nat → Bool} {n j : Nat} (hj : j < n) (h : p j = true) : anyN p n = true := by
  induction n with
  | zero => omega
  | succ n ih =>
    show (anyN p n || p n) = true
    by_cases e : j = n
    · rw [← e, h, Bool.or_true]
    · rw [ih (by omega), Bool.true_or]
theorem anyN_f {p : Nat → Bool} {n : Nat} (h : ∀ j, j < n → p j = false) : anyN p n = false := by
  induction n with
  | zero => rfl
  | succ n ih =>
    show (anyN p n || p n) = false
    rw [ih (fun j hj => h j (by omega)), h n (by omega)]
    rfl
/-- how the class's own objects stand -/
def RoF (S : Sto) (i : Nat) : Prop := (∃ p q a t s : Nat, S.1 2 0 i = nI p ∧ S.1 2 1 i = nI q ∧ S.1 2 2 i = nI a ∧ S.1 2 6 i = nI t ∧ S.1 2 7 i = nI s ∧ p < 10 ∧ q < 10 ∧ p ≠ q ∧ a < 4 ∧ 1 ≤ t ∧ t ≤ 9 ∧ s ≤ 40)
def RiF (S : Sto) (i : Nat) : Prop := (∃ a d p : Nat, S.1 4 0 i = nI (2 * a) ∧ S.1 4 1 i = nI d ∧ S.1 4 8 i = nI p ∧ 1 ≤ a ∧ a ≤ 8 ∧ 1 ≤ d ∧ d ≤ 5 ∧ p < 10)
def WfH (S : Sto) : Prop :=
  S.2.2 13 = 5 ∧ (S.2.2 20 ≤ 20 ∧ S.2.2 21 ≤ 30 ∧ S.2.2 22 ≤ 6 ∧ S.2.2 23 ≤ 40 ∧ S.2.2 24 ≤ 20) ∧
  (S.2.2 2 = S.2.2 20 ∧ S.2.2 3 = S.2.2 21 ∧ S.2.2 4 = S.2.2 22 ∧ S.2.2 5 = S.2.2 23 ∧ S.2.2 6 = S.2.2 24 ∧ S.2.2 7 = S.2.2 21 ∧ S.2.2 8 = S.2.2 23 ∧ S.2.2 9 = S.2.2 24) ∧
  (∀ i, i < S.2.2 21 → S.1 3 3 i ≠ 0) ∧ (∀ i, i < S.2.2 23 → S.1 5 2 i ≠ 0) ∧ (∀ i, i < S.2.2 24 → S.1 6 1 i ≠ 0) ∧
  (∀ i, i < S.2.2 20 → RoF S i) ∧ (∀ i, i < S.2.2 22 → RiF S i)
def gainH (S : Sto) (road isH first en : Int32) (n : Nat) : Int32 := gainF (S.1 3 0) (S.1 7 0) (S.1 7 1) (if isH = 0 then S.1 3 1 else S.1 3 2) road first en n
theorem gainH_s {S : Sto} {road isH first en : Int32} {j : Nat} (hc : S.1 3 0 j = road ∧ S.1 7 0 j ≤ first ∧ en ≤ S.1 7 1 j) {vl : Nat → Int32} (hv : (if isH = 0 then S.1 3 1 else S.1 3 2) = vl) : (if gainH S road isH first en j < vl j then vl j else gainH S road isH first en j) = gainH S road isH first en (j + 1) := by
  subst hv
  exact (if_pos hc).symm
def permH (S : Sto) (rig au first en : Int32) : Nat → Bool := fun i => decide (S.1 5 0 i = rig ∧ S.1 5 1 i = au ∧ S.1 8 0 i ≤ first ∧ en ≤ S.1 8 1 i)
def embH (S : Sto) (au first en : Int32) : Nat → Bool := fun i => decide (S.1 6 0 i = au ∧ S.1 9 0 i < en ∧ first < S.1 9 1 i)
def onH (S : Sto) (road : Int32) : Nat → Bool := fun i => decide (S.1 4 9 i = road)
def bV (b : Bool) : Int32 := bif b then 1 else 0
def s_X6_gainByWorks : SP := vS fun as S k => o4 0 as fun road isH first en => WfH S ∧ k (some (aI (gainH S road isH first en (S.2.2 21))))
def tb_X6_gainByWorks : Tb := [(0, .iconst 0, 1, xI (0)), (1, .istore 5, 2, x0), (3, .iconst 0, 1, xI (0)), (4, .istore 6, 2, x0), (6, .iload 6, 2, x0), (8, .aload_n 0, 1, x0), (9, .getfield 27, 3, xF 7 4 [101]), (12, .invokevirtual 68, 3, xS 1 0 s_Jx4a65c_size_8abf5), (15, .if_icmp .ge 70, 3, xN 85), (18, .aload_n 0, 1, x0), (19, .getfield 27, 3, xF 7 4 [101]), (22, .iload 6, 2, x0), (24, .invokevirtual 234, 3, xS 2 0 s_Jx4a65c_get_915e3), (27, .checkcast 106, 3, xF 6 0 [545]), (30, .astore 7, 2, x0), (32, .aload 7, 2, x0), (34, .getfield 306, 3, xF 6 0 [552]), (37, .iload_n 1, 1, x0), (38, .if_icmp .ne 41, 3, xN 79), (41, .aload 7, 2, x0), (43, .getfield 307, 3, xF 6 3 [558]), (46, .iload_n 3, 1, x0), (47, .iload 4, 2, x0), (49, .invokevirtual 311, 3, xS 3 0 s_X1_hasAll), (52, .ifCond .eq 27, 3, xN 79), (55, .iload 5, 2, x0), (57, .iload_n 2, 1, x0), (58, .ifCond .eq 11, 3, xN 69), (61, .aload 7, 2, x0), (63, .getfield 314, 3, xF 6 2 [556]), (66, .goto 8, 3, xN 74), (69, .aload 7, 2, x0), (71, .getfield 317, 3, xF 6 1 [554]), (74, .invokestatic 245, 3, (((2, 7, 0), [], (0, sMax)) : Xi)), (77, .istore 5, 2, x0), (79, .iinc 6 1, 3, xI (1)), (82, .goto (-76), 3, xN 6), (85, .iload 5, 2, x0), (87, .ireturn, 1, x0)]
theorem chk_X6_gainByWorks : chkTb cX6_gainByWorks "HeavyHaul" false tb_X6_gainByWorks = true := by decide +kernel
theorem cal_X6_gainByWorks {l : Launch} (hl : l.stackTraces = false) (hNL : NewL l) : CallsOK l "HeavyHaul" 3 tb_X6_gainByWorks := callsOK_f ⟨⟨_, _, 1, 0, _, 0, (ct_Jx4a65c_size_8abf5 hl hNL), ⟨List.mem_of_getElem? (i := 236) (by decide +kernel), List.mem_of_getElem? (i := 29) (by decide +kernel), List.mem_of_getElem? (i := 233) (by decide +kernel), ⟨by decide +kernel, by decide +kernel⟩, by decide +kernel, by decide⟩, List.mem_of_getElem? (i := 234) (by decide +kernel), List.mem_of_getElem? (i := 235) (by decide +kernel), by decide, by decide, rc_Jx4a65c_size_8abf5⟩, ⟨_, _, 2, 2, _, 0, (ct_Jx4a65c_get_915e3 hl hNL), ⟨List.mem_of_getElem? (i := 519) (by decide +kernel), List.mem_of_getElem? (i := 29) (by decide +kernel), List.mem_of_getElem? (i := 516) (by decide +kernel), ⟨by decide +kernel, by decide +kernel⟩, by decide +kernel, by decide⟩, List.mem_of_getElem? (i := 517) (by decide +kernel), List.mem_of_getElem? (i := 518) (by decide +kernel), by decide, by decide, rc_Jx4a65c_get_915e3⟩, ⟨_, _, 3, 0, _, 2, (ct_X1_hasAll hl hNL), ⟨List.mem_of_getElem? (i := 629) (by decide +kernel), List.mem_of_getElem? (i := 43) (by decide +kernel), List.mem_of_getElem? (i := 626) (by decide +kernel), ⟨by decide +kernel, by decide +kernel⟩, by decide +kernel, by decide⟩, List.mem_of_getElem? (i := 627) (by decide +kernel), List.mem_of_getElem? (i := 628) (by decide +kernel), by decide, by decide, rc_X1_hasAll⟩, ⟨List.mem_of_getElem? (i := 630) (by decide +kernel), rfl, rfl, rfl⟩, trivial⟩
theorem ar_X6_gainByWorks : ∀ as S P, s_X6_gainByWorks as S P → as.length ≤ 8 ∧ ∀ a ∈ as, catV a = 1 := fun as S P h => by
  obtain ⟨_, _, _, _, rfl, _⟩ := o4_ok h
  exact ar_all ⟨Nat.le_of_ble_eq_true rfl, rfl⟩
theorem rc_X6_gainByWorks : ∀ as S P, s_X6_gainByWorks as S P → ∃ k i r, as = aR k i :: r ∧ ci k = 7 ∧ (obK k = true ∨ k = 13) := fun as S P h => by
  obtain ⟨_, _, _, _, rfl, _⟩ := o4_ok h
  exact ⟨_, _, _, rfl, rfl, Or.inl rfl⟩
theorem vc_X6_gainByWorks : ∀ (G : Gt) (Q : Out → Sto → Prop) (as : List AV) (S : Sto), s_X6_gainByWorks as S Q → Seg tb_X6_gainByWorks G Q 1 0 [] (0, fun _ => 0) → G 0 (argL as 8) [] S 0 := by
  intro G Q as S h hs
  obtain ⟨road, isH, first, en, rfl, hW, hQ⟩ := o4_ok h
  obtain ⟨w13, ⟨-, w21, -⟩, -, wf, -⟩ := hW
  have loop : ∀ m j, j + m = S.2.2 21 → ∀ x, G 6 [some (aR 0 0), some (aI road), some (aI isH), some (aI first), some (aI en), some (aI (gainH S road isH first en j)), some (aI (nI j)), x] [] S 0 := by
    intro m
    induction m with
    | zero =>
      intro j hj x
      obtain rfl : j = S.2.2 21 := hj
      refine hs [6] 60 6 _ _ _ _ ?_
      exact ⟨rfl, by omega, fun _ => hQ, fun q => (lp_end q).elim⟩
    | succ m ih =>
      intro j hj x
      have hn : S.2.2 21 ≤ 1000 := by omega
      have hj2 : j < S.2.2 21 := by omega
      refine hs [6] 60 6 _ _ _ _ ?_
      refine ⟨rfl, by omega, fun q => absurd q (lp_go hn hj2), fun _ => ⟨rfl, by omega, lp_nn hn hj2, lp_in hn hj2, ?_⟩⟩
      rw [lp_cl hn hj2]
      have key : ∀ v, v = gainH S road isH first en (j + 1) → G 6 [some (aR 0 0), some (aI road), some (aI isH), some (aI first), some (aI en), some (aI v), some (aI (nI j + 1)), some (aR 3 j)] [] S 0 := fun v hv => by
        have h1 := ih (j + 1) (by omega) (some (aR 3 j))
        rw [hv, nI_s]
        exact h1
      refine ⟨fun q1 => key _ (if_neg fun z => q1 z.1).symm, fun q1 => ⟨wf j (by omega), ?_⟩⟩
      refine ⟨fun q2 => ?_, fun q2 => ?_⟩
      · exact ⟨rfl, fun _ => key _ (if_neg fun z => absurd z.2.1 (Int32.not_le.mpr q2)).symm, fun q => absurd rfl q⟩
      · refine ⟨fun q3 => ⟨rfl, fun _ => key _ (if_neg fun z => absurd z.2.2 (Int32.not_le.mpr q3)).symm, fun q => absurd rfl q⟩, fun q3 => ⟨rfl, fun q => absurd q (by decide), fun _ => ?_⟩⟩
        have hc : S.1 3 0 j = road ∧ S.1 7 0 j ≤ first ∧ en ≤ S.1 7 1 j := ⟨q1, Int32.not_lt.mp q2, Int32.not_lt.mp q3⟩
        exact ⟨fun q4 => key _ (gainH_s hc (if_pos q4)), fun q4 => key _ (gainH_s hc (if_neg q4))⟩
  exact hs [6] 60 0 _ _ _ _ (loop (S.2.2 21) 0 (by omega) none)
theorem ct_X6_gainByWorks {l : Launch} (hl : l.stackTraces = false) (hNL : NewL l) : CT l yX6_gainByWorks cX6_gainByWorks 8 (some .int) 3 0 s_X6_gainByWorks := CT_of hl hNL (by decide +kernel) (own := "HeavyHaul") rfl (ini := false) (fun q => nomatch q) chk_X6_gainByWorks (cal_X6_gainByWorks hl hNL) ar_X6_gainByWorks vc_X6_gainByWorks
