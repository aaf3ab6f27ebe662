/-! THE CLASS's PUBLIC METHODS: rigs and time -/
def isH (S : Sto) (j : Nat) (w : Int32) : Int32 := if w = 0 then (if S.1 4 9 j = -1 then S.1 4 8 j else -1) else if w = 1 then S.1 4 9 j else if w = 2 then S.1 4 10 j else if w = 3 then S.1 4 11 j else S.1 4 12 j
def s_X6_rigIs : SP := fun as S Q => o2 0 as fun r w => WfH S ∧ (¬ nm r (nI (S.2.2 22)) → Q (Sum.inr 0) S) ∧ (nm r (nI (S.2.2 22)) → ¬ rg w 0 4 → Q (Sum.inr 1) S) ∧ (nm r (nI (S.2.2 22)) → rg w 0 4 → Q (Sum.inl (some (aI (isH S r.toNatClampNeg w)))) S)
def tb_X6_rigIs : Tb := [(0, .aload_n 0, 1, x0), (1, .iload_n 1, 1, x0), (2, .invokevirtual 123, 3, xS 2 1 s_X6_rigOf), (5, .astore_n 3, 1, x0), (6, .iload_n 2, 1, x0), (7, .iconst 0, 1, xI (0)), (8, .iconst 4, 1, xI (4)), (9, .invokestatic 64, 3, xS 3 1 s_X6_needRange), (12, .iload_n 2, 1, x0), (13, .tableswitch 62 0 3 #[31, 47, 52, 57], 31, xF 75 0 [44, 60, 65, 70]), (44, .aload_n 3, 1, x0), (45, .invokevirtual 128, 3, xS 1 0 s_X3_isDriving), (48, .ifCond .eq 7, 3, xN 55), (51, .iconst (-1), 1, xI (-1)), (52, .goto 7, 3, xN 59), (55, .aload_n 3, 1, x0), (56, .getfield 169, 3, xF 4 8 [385]), (59, .ireturn, 1, x0), (60, .aload_n 3, 1, x0), (61, .getfield 211, 3, xF 4 9 [387]), (64, .ireturn, 1, x0), (65, .aload_n 3, 1, x0), (66, .getfield 194, 3, xF 4 10 [389]), (69, .ireturn, 1, x0), (70, .aload_n 3, 1, x0), (71, .getfield 214, 3, xF 4 11 [390]), (74, .ireturn, 1, x0), (75, .aload_n 3, 1, x0), (76, .getfield 217, 3, xF 4 12 [392]), (79, .ireturn, 1, x0)]
theorem chk_X6_rigIs : chkTb cX6_rigIs "HeavyHaul" false tb_X6_rigIs = true := by decide +kernel
theorem cal_X6_rigIs {l : Launch} (hl : l.stackTraces = false) (hNL : NewL l) : CallsOK l "HeavyHaul" 4 tb_X6_rigIs := callsOK_f ⟨⟨_, _, 2, 3, _, 7, (ct_X6_rigOf hl hNL), ⟨List.mem_of_getElem? (i := 578) (by decide +kernel), List.mem_of_getElem? (i := 26) (by decide +kernel), List.mem_of_getElem? (i := 575) (by decide +kernel), ⟨by decide +kernel, by decide +kernel⟩, by decide +kernel, by decide⟩, List.mem_of_getElem? (i := 577) (by decide +kernel), List.mem_of_getElem? (i := 8) (by decide +kernel), by decide, by decide, rc_X6_rigOf⟩, ⟨_, _, 3, 0, _, (ct_X6_needRange hl hNL), ⟨List.mem_of_getElem? (i := 231) (by decide +kernel), List.mem_of_getElem? (i := 26) (by decide +kernel), List.mem_of_getElem? (i := 229) (by decide +kernel), ⟨by decide +kernel, by decide +kernel⟩, by decide +kernel, by decide⟩, List.mem_of_getElem? (i := 230) (by decide +kernel), by decide⟩, ⟨_, _, 1, 0, _, 4, (ct_X3_isDriving hl hNL), ⟨List.mem_of_getElem? (i := 583) (by decide +kernel), List.mem_of_getElem? (i := 41) (by decide +kernel), List.mem_of_getElem? (i := 580) (by decide +kernel), ⟨by decide +kernel, by decide +kernel⟩, by decide +kernel, by decide⟩, List.mem_of_getElem? (i := 581) (by decide +kernel), List.mem_of_getElem? (i := 582) (by decide +kernel), by decide, by decide, rc_X3_isDriving⟩, trivial⟩
theorem ar_X6_rigIs : ∀ as S P, s_X6_rigIs as S P → as.length ≤ 4 ∧ ∀ a ∈ as, catV a = 1 := fun as S P h => by
  obtain ⟨_, _, rfl, _⟩ := o2_ok h
  exact ar_all ⟨Nat.le_of_ble_eq_true rfl, rfl⟩
theorem rc_X6_rigIs : ∀ as S P, s_X6_rigIs as S P → ∃ k i r, as = aR k i :: r ∧ ci k = 7 ∧ (obK k = true ∨ k = 13) := fun as S P h => by
  obtain ⟨_, _, rfl, _⟩ := o2_ok h
  exact ⟨_, _, _, rfl, rfl, Or.inl rfl⟩
theorem ti_inj {x : Int32} {n : Int} (m : Int32) (hm : m.toInt = n) (h : x.toInt = n) : x = m := Int32.toInt_inj.mp (h.trans hm.symm)
theorem vc_X6_rigIs : ∀ (G : Gt) (Q : Out → Sto → Prop) (as : List AV) (S : Sto), s_X6_rigIs as S Q → Seg tb_X6_rigIs G Q 1 2 [] (0, fun _ => 0) → G 0 (argL as 4) [] S 0 := by
  intro G Q as S h hs
  obtain ⟨r, w, rfl, hW, h0, h1, h2⟩ := o2_ok h
  have w13 := hW.1
  refine hs [] 90 0 _ _ _ _ ?_
  refine ⟨rfl, by omega, fun q => h0 fun z => z.1 q, fun q => ⟨fun q' => ?_, fun q' => h0 fun z => q' z.2⟩⟩
  have hk : nm r (nI (S.2.2 22)) := ⟨q, q'⟩
  refine ⟨rfl, by omega, Int32.not_lt.mp q, q', ?_⟩
  refine ⟨fun a1 => h1 hk fun z => z.1 a1, fun a1 => ⟨fun a2 => ?_, fun a2 => h1 hk fun z => a2 z.2⟩⟩
  have h3 := h2 hk ⟨a1, a2⟩
  unfold isH at h3
  refine ⟨fun z => ?_, fun z => ?_, fun z => ?_, fun z => ?_, fun z => ?_, trivial⟩
  · have hw : ¬ w = 0 ∧ ¬ w = 1 ∧ ¬ w = 2 ∧ ¬ w = 3 := by
      refine ⟨?_, ?_, ?_, ?_⟩ <;> (rintro rfl; revert z; decide)
    rw [if_neg hw.1, if_neg hw.2.1, if_neg hw.2.2.1, if_neg hw.2.2.2] at h3
    exact h3
  · have hw : w = 0 := ti_inj 0 rfl z
    rw [if_pos hw] at h3
    refine ⟨fun y => ⟨rfl, fun _ => ?_, fun q => absurd rfl q⟩, fun y => ⟨rfl, fun q => absurd q (by decide), fun _ => ?_⟩⟩
    · have y' : S.1 4 9 r.toNatClampNeg = -1 := y
      rw [if_pos y'] at h3
      exact h3
    · have y' : ¬ S.1 4 9 r.toNatClampNeg = -1 := y
      rw [if_neg y'] at h3
      exact h3
  · have hw : w = 1 := ti_inj 1 rfl z
    subst hw
    exact h3
  · have hw : w = 2 := ti_inj 2 rfl z
    subst hw
    exact h3
  · have hw : w = 3 := ti_inj 3 rfl z
    subst hw
    exact h3
theorem ct_X6_rigIs {l : Launch} (hl : l.stackTraces = false) (hNL : NewL l) : CT l yX6_rigIs cX6_rigIs 4 (some .int) 4 2 s_X6_rigIs := CT_of hl hNL (by decide +kernel) (own := "HeavyHaul") rfl (ini := false) (fun q => nomatch q) chk_X6_rigIs (cal_X6_rigIs hl hNL) ar_X6_rigIs vc_X6_rigIs
def passS (S : Sto) : Nat → Sto
  | 0 => S
  | n + 1 => tenS (passS S n) ((passS S n).2.2 22)
theorem passS_wf {S : Sto} (hW : WfH S) (n : Nat) : WfH (passS S n) := by
  induction n with
  | zero => exact hW
  | succ n ih => exact tenS_wf ih
def s_X6_pass : SP := fun as S Q => o1 0 as fun t => WfH S ∧ (¬ rg t 1 144 → Q (Sum.inr 1) S) ∧ (rg t 1 144 → ¬ (S.1 0 9 0 + t ≤ 9999) → Q (Sum.inr 2) S) ∧ (rg t 1 144 → S.1 0 9 0 + t ≤ 9999 → Q (Sum.inl (some (aI ((passS S t.toNatClampNeg).1 0 9 0)))) (passS S t.toNatClampNeg))
def tb_X6_pass : Tb := [(0, .iload_n 1, 1, x0), (1, .iconst 1, 1, xI (1)), (2, .sipush 144, 3, xI (144)), (5, .invokestatic 64, 3, xS 3 1 s_X6_needRange), (8, .aload_n 0, 1, x0), (9, .getfield 42, 3, xF 7 9 [106]), (12, .iload_n 1, 1, x0), (13, .iadd, 1, x0), (14, .sipush 9999, 3, xI (9999)), (17, .if_icmp .le 13, 3, xN 30), (20, .new 131, 10, xF 52 0 [240, 36, 220, 135]), (30, .iconst 0, 1, xI (0)), (31, .istore_n 2, 1, x0), (32, .iload_n 2, 1, x0), (33, .iload_n 1, 1, x0), (34, .if_icmp .ge 13, 3, xN 47), (37, .aload_n 0, 1, x0), (38, .invokevirtual 222, 3, xS 1 0 s_X6_letTenGoBy), (41, .iinc 2 1, 3, xI (1)), (44, .goto (-12), 3, xN 32), (47, .aload_n 0, 1, x0), (48, .getfield 42, 3, xF 7 9 [106]), (51, .ireturn, 1, x0)]
theorem chk_X6_pass : chkTb cX6_pass "HeavyHaul" false tb_X6_pass = true := by decide +kernel
theorem cal_X6_pass {l : Launch} (hl : l.stackTraces = false) (hNL : NewL l) : CallsOK l "HeavyHaul" 4 tb_X6_pass := callsOK_f ⟨⟨_, _, 3, 0, _, (ct_X6_needRange hl hNL), ⟨List.mem_of_getElem? (i := 231) (by decide +kernel), List.mem_of_getElem? (i := 26) (by decide +kernel), List.mem_of_getElem? (i := 229) (by decide +kernel), ⟨by decide +kernel, by decide +kernel⟩, by decide +kernel, by decide⟩, List.mem_of_getElem? (i := 230) (by decide +kernel), by decide⟩, ⟨_, _, 4, 3, _, 7, (ct_X6_letTenGoBy hl hNL), ⟨List.mem_of_getElem? (i := 702) (by decide +kernel), List.mem_of_getElem? (i := 26) (by decide +kernel), List.mem_of_getElem? (i := 699) (by decide +kernel), ⟨by decide +kernel, by decide +kernel⟩, by decide +kernel, by decide⟩, List.mem_of_getElem? (i := 701) (by decide +kernel), List.mem_of_getElem? (i := 18) (by decide +kernel), by decide, by decide, rc_X6_letTenGoBy⟩, trivial⟩
theorem ar_X6_pass : ∀ as S P, s_X6_pass as S P → as.length ≤ 3 ∧ ∀ a ∈ as, catV a = 1 := fun as S P h => by
  obtain ⟨_, rfl, _⟩ := o1_ok h
  exact ar_all ⟨Nat.le_of_ble_eq_true rfl, rfl⟩
theorem rc_X6_pass : ∀ as S P, s_X6_pass as S P → ∃ k i r, as = aR k i :: r ∧ ci k = 7 ∧ (obK k = true ∨ k = 13) := fun as S P h => by
  obtain ⟨_, rfl, _⟩ := o1_ok h
  exact ⟨_, _, _, rfl, rfl, Or.inl rfl⟩
theorem vc_X6_pass : ∀ (G : Gt) (Q : Out → Sto → Prop) (as : List AV) (S : Sto), s_X6_pass as S Q → Seg tb_X6_pass G Q 1 2 [] (0, fun _ => 0) → G 0 (argL as 3) [] S 0 := by
  intro G Q as S h hs
  obtain ⟨t, rfl, hW, h0, h1, h2⟩ := o1_ok h
  refine hs [32] 90 0 _ _ _ _ ?_
  refine ⟨fun a1 => h0 fun z => z.1 a1, fun a1 => ⟨fun a2 => ?_, fun a2 => h0 fun z => a2 z.2⟩⟩
  have hk : rg t 1 144 := ⟨a1, a2⟩
  have htn : ¬ t < 0 := fun q => a1 (Int32.lt_trans q (by decide))
  have et : t = nI t.toNatClampNeg := nm_eq (n := 0) htn
  have ht9 : t.toNatClampNeg ≤ 144 := by
    have h9 : nI t.toNatClampNeg ≤ nI 144 := by rw [← et]; exact a2
    obtain ⟨q, hq, rfl⟩ := nI_of htn
    rw [nI_cl hq] at h9 ⊢
    exact (nI_le2 hq (by omega)).mp h9
  have loop : S.1 0 9 0 + t ≤ 9999 → ∀ m k, k + m = t.toNatClampNeg → G 32 [some (aR 0 0), some (aI t), some (aI (nI k))] [] (passS S k) 1 := by
    intro hle
    have h3 := h2 hk hle
    generalize hT : t.toNatClampNeg = T at *
    subst et
    intro m
    induction m with
    | zero =>
      intro k hkk
      obtain rfl : k = T := hkk
      refine hs [32] 60 32 _ _ _ _ ?_
      exact ⟨fun _ => h3, fun q => (lp_end q).elim⟩
    | succ m ih =>
      intro k hkk
      have h4 := ih (k + 1) (by omega)
      rw [← nI_s] at h4
      refine hs [32] 60 32 _ _ _ _ ?_
      exact ⟨fun q => absurd q (lp_go (n := T) (by omega) (by omega)), fun _ => ⟨rfl, rfl, passS_wf hW k, h4⟩⟩
  exact ⟨fun z => loop z _ 0 (Nat.zero_add _), fun z => h1 hk z⟩
theorem ct_X6_pass {l : Launch} (hl : l.stackTraces = false) (hNL : NewL l) : CT l yX6_pass cX6_pass 3 (some .int) 4 2 s_X6_pass := CT_of hl hNL (by decide +kernel) (own := "HeavyHaul") rfl (ini := false) (fun q => nomatch q) chk_X6_pass (cal_X6_pass hl hNL) ar_X6_pass vc_X6_pass
def levF (S : Sto) (j : Nat) (c : Int32) : Int32 := 2 * c - (S.1 4 0 j / 2 - 1) * S.1 4 1 j
def basF (S : Sto) (j : Nat) : Int32 := S.1 4 0 j * S.1 4 1 j
def shrF (S : Sto) (j : Nat) (x : Int32) : Int32 := (x + S.1 4 5 j / 2 + S.1 4 0 j / 2 - 1) / (S.1 4 0 j / 2)
def reaF (S : Sto) (j : Nat) (w c : Int32) : Int32 := w * levF S j c / basF S j
def takeS (S : Sto) (j : Nat) (w c : Int32) : Sto := wrI (wrI S 4 6 j (shrF S j (w - reaF S j w c))) 4 7 j (shrF S j (reaF S j w c))
def canT (S : Sto) (j : Nat) (w c : Int32) : Prop := w = 0 ∨ (¬ levF S j c < 0 ∧ levF S j c ≤ basF S j)
theorem half_ok : ∀ a, a ≤ 8 → 1 ≤ a → nI (2 * a) / 2 = nI a ∧ ¬ nI a ≤ 0 ∧ ¬ nI a = 0 := by decide +kernel
theorem base_ok : ∀ a, a ≤ 8 → ∀ d, d ≤ 5 → 1 ≤ a → 1 ≤ d → ¬ nI (2 * a) * nI d ≤ 0 ∧ ¬ nI (2 * a) * nI d = 0 := by decide +kernel
theorem rig_pos {S : Sto} {j : Nat} (h : RiF S j) : ¬ basF S j ≤ 0 ∧ ¬ basF S j = 0 ∧ ¬ S.1 4 0 j / 2 ≤ 0 ∧ ¬ S.1 4 0 j / 2 = 0 := by
  obtain ⟨a, d, p, ha, hd, -, a1, a8, d1, d5, -⟩ := h
  unfold basF
  rw [ha, hd, (half_ok a a8 a1).1]
  exact ⟨(base_ok a a8 d d5 a1 d1).1, (base_ok a a8 d d5 a1 d1).2, (half_ok a a8 a1).2⟩
theorem n2z : ¬ (2 : Int32) = 0 := by decide
def g2 (as : List AV) (f : Nat → Int32 → Int32 → Prop) : Prop := match as with
  | [Sum.inr (Sum.inr (k, i)), Sum.inl a, Sum.inl b] => k = 4 ∧ f i a b
  | _ => False
theorem g2_ok {as : List AV} {f : Nat → Int32 → Int32 → Prop} (h : g2 as f) : ∃ i a b, as = [aR 4 i, aI a, aI b] ∧ f i a b := by
  unfold g2 at h
  split at h
  · obtain ⟨rfl, h⟩ := h; exact ⟨_, _, _, rfl, h⟩
  · exact h.elim
def s_X3_take : SP := fun as S Q => g2 as fun j w c => RiF S j ∧ Q (Sum.inl none) (takeS S j w c)
def tb_X3_take : Tb := [(0, .aload_n 0, 1, x0), (1, .invokevirtual 43, 3, xS 1 0 s_X3_base), (4, .istore_n 3, 1, x0), (5, .iload_n 3, 1, x0), (6, .ifCond .le 15, 3, xN 21), (9, .iload_n 1, 1, x0), (10, .aload_n 0, 1, x0), (11, .iload_n 2, 1, x0), (12, .invokevirtual 39, 3, xS 2 0 s_X3_leverOf), (15, .imul, 1, x0), (16, .iload_n 3, 1, x0), (17, .idiv, 1, x0), (18, .goto 4, 3, xN 22), (21, .iconst 0, 1, xI (0)), (22, .istore 4, 2, x0), (24, .aload_n 0, 1, x0), (25, .aload_n 0, 1, x0), (26, .iload_n 1, 1, x0), (27, .iload 4, 2, x0), (29, .isub, 1, x0), (30, .invokevirtual 47, 3, xS 2 0 s_X3_share), (33, .putfield 50, 3, xF 4 6 [382]), (36, .aload_n 0, 1, x0), (37, .aload_n 0, 1, x0), (38, .iload 4, 2, x0), (40, .invokevirtual 47, 3, xS 2 0 s_X3_share), (43, .putfield 53, 3, xF 4 7 [383]), (46, .return_, 1, x0)]
theorem chk_X3_take : chkTb cX3_take "HeavyHaul$Rig" false tb_X3_take = true := by decide +kernel
theorem cal_X3_take {l : Launch} (hl : l.stackTraces = false) (hNL : NewL l) : CallsOK l "HeavyHaul$Rig" 1 tb_X3_take := callsOK_f ⟨⟨_, _, 1, 0, _, 4, (ct_X3_base hl hNL), ⟨List.mem_of_getElem? (i := 427) (by decide +kernel), List.mem_of_getElem? (i := 41) (by decide +kernel), List.mem_of_getElem? (i := 424) (by decide +kernel), ⟨by decide +kernel, by decide +kernel⟩, by decide +kernel, by decide⟩, List.mem_of_getElem? (i := 426) (by decide +kernel), List.mem_of_getElem? (i := 4) (by decide +kernel), by decide, by decide, rc_X3_base⟩, ⟨_, _, 2, 0, _, 4, (ct_X3_leverOf hl hNL), ⟨List.mem_of_getElem? (i := 431) (by decide +kernel), List.mem_of_getElem? (i := 41) (by decide +kernel), List.mem_of_getElem? (i := 428) (by decide +kernel), ⟨by decide +kernel, by decide +kernel⟩, by decide +kernel, by decide⟩, List.mem_of_getElem? (i := 430) (by decide +kernel), List.mem_of_getElem? (i := 5) (by decide +kernel), by decide, by decide, rc_X3_leverOf⟩, ⟨_, _, 4, 0, _, 4, (ct_X3_share hl hNL), ⟨List.mem_of_getElem? (i := 435) (by decide +kernel), List.mem_of_getElem? (i := 41) (by decide +kernel), List.mem_of_getElem? (i := 432) (by decide +kernel), ⟨by decide +kernel, by decide +kernel⟩, by decide +kernel, by decide⟩, List.mem_of_getElem? (i := 434) (by decide +kernel), List.mem_of_getElem? (i := 6) (by decide +kernel), by decide, by decide, rc_X3_share⟩, ⟨_, _, 4, 0, _, 4, (ct_X3_share hl hNL), ⟨List.mem_of_getElem? (i := 435) (by decide +kernel), List.mem_of_getElem? (i := 41) (by decide +kernel), List.mem_of_getElem? (i := 432) (by decide +kernel), ⟨by decide +kernel, by decide +kernel⟩, by decide +kernel, by decide⟩, List.mem_of_getElem? (i := 434) (by decide +kernel), List.mem_of_getElem? (i := 6) (by decide +kernel), by decide, by decide, rc_X3_share⟩, trivial⟩
theorem ar_X3_take : ∀ as S P, s_X3_take as S P → as.length ≤ 5 ∧ ∀ a ∈ as, catV a = 1 := fun as S P h => by
  obtain ⟨_, _, _, rfl, _⟩ := g2_ok h
  exact ar_all ⟨Nat.le_of_ble_eq_true rfl, rfl⟩
theorem rc_X3_take : ∀ as S P, s_X3_take as S P → ∃ k i r, as = aR k i :: r ∧ ci k = 4 ∧ (obK k = true ∨ k = 13) := fun as S P h => by
  obtain ⟨_, _, _, rfl, _⟩ := g2_ok h
  exact ⟨_, _, _, rfl, rfl, Or.inl rfl⟩
theorem vc_X3_take : ∀ (G : Gt) (Q : Out → Sto → Prop) (as : List AV) (S : Sto), s_X3_take as S Q → Seg tb_X3_take G Q 0 0 [] (0, fun _ => 0) → G 0 (argL as 5) [] S 0 := by
  intro G Q as S h hs
  obtain ⟨j, w, c, rfl, hR, hQ⟩ := g2_ok h
  obtain ⟨p1, p2, p3, p4⟩ := rig_pos hR
  refine hs [] 60 0 _ _ _ _ ?_
  exact ⟨fun x => absurd x p1, fun _ => ⟨n2z, p2, n2z, n2z, fun x => absurd x p3, fun _ => ⟨p4, n2z, n2z, fun x => absurd x p3, fun _ => ⟨p4, hQ⟩⟩⟩⟩
theorem ct_X3_take {l : Launch} (hl : l.stackTraces = false) (hNL : NewL l) : CT l yX3_take cX3_take 5 none 1 0 s_X3_take := CT_of hl hNL (by decide +kernel) (own := "HeavyHaul$Rig") rfl (ini := false) (fun q => nomatch q) chk_X3_take (cal_X3_take hl hNL) ar_X3_take vc_X3_take
def s_X6_load : SP := fun as S Q => o3 0 as fun r w c => WfH S ∧ (¬ nm r (nI (S.2.2 22)) → Q (Sum.inr 0) S) ∧ (nm r (nI (S.2.2 22)) → ¬ (rg w 0 200000 ∧ rg c 0 80) → Q (Sum.inr 1) S) ∧ (nm r (nI (S.2.2 22)) → rg w 0 200000 ∧ rg c 0 80 → ¬ (S.1 4 9 r.toNatClampNeg = -1 ∧ canT S r.toNatClampNeg w c) → Q (Sum.inr 2) S) ∧
  (nm r (nI (S.2.2 22)) → rg w 0 200000 ∧ rg c 0 80 → S.1 4 9 r.toNatClampNeg = -1 ∧ canT S r.toNatClampNeg w c → Q (Sum.inl none) (takeS S r.toNatClampNeg w c))
def tb_X6_load : Tb := [(0, .aload_n 0, 1, x0), (1, .iload_n 1, 1, x0), (2, .invokevirtual 123, 3, xS 2 1 s_X6_rigOf), (5, .astore 4, 2, x0), (7, .iload_n 2, 1, x0), (8, .iconst 0, 1, xI (0)), (9, .ldc 127, 2, xC 0 0 200000 [579]), (11, .invokestatic 64, 3, xS 3 1 s_X6_needRange), (14, .iload_n 3, 1, x0), (15, .iconst 0, 1, xI (0)), (16, .bipush 80, 2, xI (80)), (18, .invokestatic 64, 3, xS 3 1 s_X6_needRange), (21, .aload 4, 2, x0), (23, .invokevirtual 128, 3, xS 1 0 s_X3_isDriving), (26, .ifCond .eq 13, 3, xN 39), (29, .new 131, 10, xF 52 0 [240, 36, 133, 135]), (39, .aload 4, 2, x0), (41, .iload_n 2, 1, x0), (42, .iload_n 3, 1, x0), (43, .invokevirtual 136, 3, xS 3 0 s_X3_canTake), (46, .ifCond .ne 13, 3, xN 59), (49, .new 131, 10, xF 52 0 [240, 36, 140, 135]), (59, .aload 4, 2, x0), (61, .iload_n 2, 1, x0), (62, .iload_n 3, 1, x0), (63, .invokevirtual 120, 3, xS 3 0 s_X3_take), (66, .return_, 1, x0)]
theorem chk_X6_load : chkTb cX6_load "HeavyHaul" false tb_X6_load = true := by decide +kernel
theorem cal_X6_load {l : Launch} (hl : l.stackTraces = false) (hNL : NewL l) : CallsOK l "HeavyHaul" 4 tb_X6_load := callsOK_f ⟨⟨_, _, 2, 3, _, 7, (ct_X6_rigOf hl hNL), ⟨List.mem_of_getElem? (i := 578) (by decide +kernel), List.mem_of_getElem? (i := 26) (by decide +kernel), List.mem_of_getElem? (i := 575) (by decide +kernel), ⟨by decide +kernel, by decide +kernel⟩, by decide +kernel, by decide⟩, List.mem_of_getElem? (i := 577) (by decide +kernel), List.mem_of_getElem? (i := 8) (by decide +kernel), by decide, by decide, rc_X6_rigOf⟩, ⟨_, _, 3, 0, _, (ct_X6_needRange hl hNL), ⟨List.mem_of_getElem? (i := 231) (by decide +kernel), List.mem_of_getElem? (i := 26) (by decide +kernel), List.mem_of_getElem? (i := 229) (by decide +kernel), ⟨by decide +kernel, by decide +kernel⟩, by decide +kernel, by decide⟩, List.mem_of_getElem? (i := 230) (by decide +kernel), by decide⟩, ⟨_, _, 3, 0, _, (ct_X6_needRange hl hNL), ⟨List.mem_of_getElem? (i := 231) (by decide +kernel), List.mem_of_getElem? (i := 26) (by decide +kernel), List.mem_of_getElem? (i := 229) (by decide +kernel), ⟨by decide +kernel, by decide +kernel⟩, by decide +kernel, by decide⟩, List.mem_of_getElem? (i := 230) (by decide +kernel), by decide⟩, ⟨_, _, 1, 0, _, 4, (ct_X3_isDriving hl hNL), ⟨List.mem_of_getElem? (i := 583) (by decide +kernel), List.mem_of_getElem? (i := 41) (by decide +kernel), List.mem_of_getElem? (i := 580) (by decide +kernel), ⟨by decide +kernel, by decide +kernel⟩, by decide +kernel, by decide⟩, List.mem_of_getElem? (i := 581) (by decide +kernel), List.mem_of_getElem? (i := 582) (by decide +kernel), by decide, by decide, rc_X3_isDriving⟩, ⟨_, _, 3, 1, _, 4, (ct_X3_canTake hl hNL), ⟨List.mem_of_getElem? (i := 588) (by decide +kernel), List.mem_of_getElem? (i := 41) (by decide +kernel), List.mem_of_getElem? (i := 585) (by decide +kernel), ⟨by decide +kernel, by decide +kernel⟩, by decide +kernel, by decide⟩, List.mem_of_getElem? (i := 586) (by decide +kernel), List.mem_of_getElem? (i := 587) (by decide +kernel), by decide, by decide, rc_X3_canTake⟩, ⟨_, _, 5, 1, _, 4, (ct_X3_take hl hNL), ⟨List.mem_of_getElem? (i := 423) (by decide +kernel), List.mem_of_getElem? (i := 41) (by decide +kernel), List.mem_of_getElem? (i := 420) (by decide +kernel), ⟨by decide +kernel, by decide +kernel⟩, by decide +kernel, by decide⟩, List.mem_of_getElem? (i := 421) (by decide +kernel), List.mem_of_getElem? (i := 422) (by decide +kernel), by decide, by decide, rc_X3_take⟩, trivial⟩
theorem ar_X6_load : ∀ as S P, s_X6_load as S P → as.length ≤ 5 ∧ ∀ a ∈ as, catV a = 1 := fun as S P h => by
  obtain ⟨_, _, _, rfl, _⟩ := o3_ok h
  exact ar_all ⟨Nat.le_of_ble_eq_true rfl, rfl⟩
theorem rc_X6_load : ∀ as S P, s_X6_load as S P → ∃ k i r, as = aR k i :: r ∧ ci k = 7 ∧ (obK k = true ∨ k = 13) := fun as S P h => by
  obtain ⟨_, _, _, rfl, _⟩ := o3_ok h
  exact ⟨_, _, _, rfl, rfl, Or.inl rfl⟩
theorem vc_X6_load : ∀ (G : Gt) (Q : Out → Sto → Prop) (as : List AV) (S : Sto), s_X6_load as S Q → Seg tb_X6_load G Q 0 4 [] (0, fun _ => 0) → G 0 (argL as 5) [] S 0 := by
  intro G Q as S h hs
  obtain ⟨r, w, c, rfl, hW, h0, h1, h2, h3⟩ := o3_ok h
  have w13 := hW.1
  refine hs [] 90 0 _ _ _ _ ?_
  refine ⟨rfl, by omega, fun q => h0 fun z => z.1 q, fun q => ⟨fun q' => ?_, fun q' => h0 fun z => q' z.2⟩⟩
  have hk : nm r (nI (S.2.2 22)) := ⟨q, q'⟩
  refine ⟨rfl, by omega, Int32.not_lt.mp q, q', ?_⟩
  refine ⟨fun a1 => h1 hk fun z => z.1.1 a1, fun a1 => ⟨fun a2 => ?_, fun a2 => h1 hk fun z => a2 z.1.2⟩⟩
  refine ⟨fun b1 => h1 hk fun z => z.2.1 b1, fun b1 => ⟨fun b2 => ?_, fun b2 => h1 hk fun z => b2 z.2.2⟩⟩
  have hf : rg w 0 200000 ∧ rg c 0 80 := ⟨⟨a1, a2⟩, ⟨b1, b2⟩⟩
  have hj : r.toNatClampNeg < S.2.2 22 := nm_lt hk (by have := hW.2.1.2.2.1; omega)
  have hRi := hW.2.2.2.2.2.2.2 _ hj
  have bad := h2 hk hf
  refine ⟨fun y => ⟨rfl, fun _ => ?_, fun q => absurd rfl q⟩, fun y => ⟨rfl, fun q => absurd q (by decide), fun _ => bad fun z => y z.1⟩⟩
  have y' : S.1 4 9 r.toNatClampNeg = -1 := y
  have good : canT S r.toNatClampNeg w c → Q (Sum.inl none) (takeS S r.toNatClampNeg w c) := fun z => h3 hk hf ⟨y', z⟩
  refine ⟨fun w0 => ⟨rfl, fun _ => ?_, fun q => absurd q (by decide)⟩, fun w0 => ⟨n2z, fun l1 => ⟨rfl, fun q => absurd rfl q, fun _ => bad fun z => z.2.elim w0 fun x => x.1 l1⟩, fun l1 => ⟨n2z, fun l2 => ⟨rfl, fun q => absurd rfl q, fun _ => bad fun z => z.2.elim w0 fun x => absurd x.2 (Int32.not_le.mpr l2)⟩, fun l2 => ⟨rfl, fun _ => ?_, fun q => absurd q (by decide)⟩⟩⟩⟩
  · exact ⟨rfl, hRi, good (Or.inl w0)⟩
  · exact ⟨rfl, hRi, good (Or.inr ⟨l1, Int32.not_lt.mp l2⟩)⟩
theorem ct_X6_load {l : Launch} (hl : l.stackTraces = false) (hNL : NewL l) : CT l yX6_load cX6_load 5 none 4 4 s_X6_load := CT_of hl hNL (by decide +kernel) (own := "HeavyHaul") rfl (ini := false) (fun q => nomatch q) chk_X6_load (cal_X6_load hl hNL) ar_X6_load vc_X6_load
def endsB (S : Sto) (i : Nat) (p : Int32) : Prop := p = S.1 2 0 i ∨ p = S.1 2 1 i
def beyP (S : Sto) (i : Nat) (p : Int32) : Int32 := if p = S.1 2 0 i then S.1 2 1 i else S.1 2 0 i
def drvS (S : Sto) (j i : Nat) (d : Int32) : Sto := wrI (wrI (wrI (wrI S 4 9 j d) 4 8 j (beyP S i (S.1 4 8 j))) 4 10 j (S.1 0 9 0 + S.1 2 6 i)) 4 12 j (S.1 4 12 j + 1)
def canD (S : Sto) (r d : Int32) : Prop := S.1 4 9 r.toNatClampNeg = -1 ∧ endsB S d.toNatClampNeg (S.1 4 8 r.toNatClampNeg) ∧ reasonH S r d (S.1 0 9 0) = 0 ∧ (S.1 2 7 d.toNatClampNeg ≤ 0 ∨ anyN (onH S d) (S.2.2 22) = false)
def s_X6_drive : SP := fun as S Q => o2 0 as fun r d => WfH S ∧ (¬ knY S r d → Q (Sum.inr 0) S) ∧ (knY S r d → ¬ canD S r d → Q (Sum.inr 2) S) ∧ (knY S r d → canD S r d → Q (Sum.inl (some (aI ((drvS S r.toNatClampNeg d.toNatClampNeg d).1 4 10 r.toNatClampNeg)))) (drvS S r.toNatClampNeg d.toNatClampNeg d))
def tb_X6_drive : Tb := [(0, .aload_n 0, 1, x0), (1, .iload_n 1, 1, x0), (2, .invokevirtual 123, 3, xS 2 1 s_X6_rigOf), (5, .astore_n 3, 1, x0), (6, .aload_n 0, 1, x0), (7, .iload_n 2, 1, x0), (8, .invokevirtual 84, 3, xS 2 1 s_X6_roadOf), (11, .astore 4, 2, x0), (13, .aload_n 3, 1, x0), (14, .invokevirtual 128, 3, xS 1 0 s_X3_isDriving), (17, .ifCond .eq 13, 3, xN 30), (20, .new 131, 10, xF 52 0 [240, 36, 133, 135]), (30, .aload 4, 2, x0), (32, .aload_n 3, 1, x0), (33, .getfield 169, 3, xF 4 8 [385]), (36, .invokevirtual 172, 3, xS 2 0 s_X4_endsAt), (39, .ifCond .ne 13, 3, xN 52), (42, .new 131, 10, xF 52 0 [240, 36, 176, 135]), (52, .aload_n 0, 1, x0), (53, .iload_n 1, 1, x0), (54, .iload_n 2, 1, x0), (55, .aload_n 0, 1, x0), (56, .getfield 42, 3, xF 7 9 [106]), (59, .invokevirtual 165, 3, xS 4 0 s_X6_reasonAgainst), (62, .ifCond .eq 13, 3, xN 75), (65, .new 131, 10, xF 52 0 [240, 36, 178, 135]), (75, .aload 4, 2, x0), (77, .invokevirtual 90, 3, xS 1 0 s_X4_hasBridge), (80, .ifCond .eq 21, 3, xN 101), (83, .aload_n 0, 1, x0), (84, .iload_n 2, 1, x0), (85, .invokevirtual 180, 3, xS 2 0 s_X6_isAnyRigOn), (88, .ifCond .eq 13, 3, xN 101), (91, .new 131, 10, xF 52 0 [240, 36, 183, 135]), (101, .aload_n 3, 1, x0), (102, .iload_n 2, 1, x0), (103, .aload 4, 2, x0), (105, .aload_n 3, 1, x0), (106, .getfield 169, 3, xF 4 8 [385]), (109, .invokevirtual 185, 3, xS 2 0 s_X4_endBeyond), (112, .aload_n 0, 1, x0), (113, .getfield 42, 3, xF 7 9 [106]), (116, .aload 4, 2, x0), (118, .getfield 188, 3, xF 5 6 [275]), (121, .iadd, 1, x0), (122, .invokevirtual 191, 3, xS 4 0 s_X3_setOut), (125, .aload_n 3, 1, x0), (126, .getfield 194, 3, xF 4 10 [389]), (129, .ireturn, 1, x0)]
theorem chk_X6_drive : chkTb cX6_drive "HeavyHaul" false tb_X6_drive = true := by decide +kernel
theorem cal_X6_drive {l : Launch} (hl : l.stackTraces = false) (hNL : NewL l) : CallsOK l "HeavyHaul" 6 tb_X6_drive := callsOK_f ⟨⟨_, _, 2, 3, _, 7, (ct_X6_rigOf hl hNL), ⟨List.mem_of_getElem? (i := 578) (by decide +kernel), List.mem_of_getElem? (i := 26) (by decide +kernel), List.mem_of_getElem? (i := 575) (by decide +kernel), ⟨by decide +kernel, by decide +kernel⟩, by decide +kernel, by decide⟩, List.mem_of_getElem? (i := 577) (by decide +kernel), List.mem_of_getElem? (i := 8) (by decide +kernel), by decide, by decide, rc_X6_rigOf⟩, ⟨_, _, 2, 3, _, 7, (ct_X6_roadOf hl hNL), ⟨List.mem_of_getElem? (i := 515) (by decide +kernel), List.mem_of_getElem? (i := 26) (by decide +kernel), List.mem_of_getElem? (i := 512) (by decide +kernel), ⟨by decide +kernel, by decide +kernel⟩, by decide +kernel, by decide⟩, List.mem_of_getElem? (i := 514) (by decide +kernel), List.mem_of_getElem? (i := 7) (by decide +kernel), by decide, by decide, rc_X6_roadOf⟩, ⟨_, _, 1, 0, _, 4, (ct_X3_isDriving hl hNL), ⟨List.mem_of_getElem? (i := 583) (by decide +kernel), List.mem_of_getElem? (i := 41) (by decide +kernel), List.mem_of_getElem? (i := 580) (by decide +kernel), ⟨by decide +kernel, by decide +kernel⟩, by decide +kernel, by decide⟩, List.mem_of_getElem? (i := 581) (by decide +kernel), List.mem_of_getElem? (i := 582) (by decide +kernel), by decide, by decide, rc_X3_isDriving⟩, ⟨_, _, 2, 0, _, 5, (ct_X4_endsAt hl hNL), ⟨List.mem_of_getElem? (i := 612) (by decide +kernel), List.mem_of_getElem? (i := 37) (by decide +kernel), List.mem_of_getElem? (i := 609) (by decide +kernel), ⟨by decide +kernel, by decide +kernel⟩, by decide +kernel, by decide⟩, List.mem_of_getElem? (i := 610) (by decide +kernel), List.mem_of_getElem? (i := 611) (by decide +kernel), by decide, by decide, rc_X4_endsAt⟩, ⟨_, _, 6, 5, _, 7, (ct_X6_reasonAgainst hl hNL), ⟨List.mem_of_getElem? (i := 617) (by decide +kernel), List.mem_of_getElem? (i := 26) (by decide +kernel), List.mem_of_getElem? (i := 614) (by decide +kernel), ⟨by decide +kernel, by decide +kernel⟩, by decide +kernel, by decide⟩, List.mem_of_getElem? (i := 616) (by decide +kernel), List.mem_of_getElem? (i := 9) (by decide +kernel), by decide, by decide, rc_X6_reasonAgainst⟩, ⟨_, _, 1, 0, _, 5, (ct_X4_hasBridge hl hNL), ⟨List.mem_of_getElem? (i := 535) (by decide +kernel), List.mem_of_getElem? (i := 37) (by decide +kernel), List.mem_of_getElem? (i := 532) (by decide +kernel), ⟨by decide +kernel, by decide +kernel⟩, by decide +kernel, by decide⟩, List.mem_of_getElem? (i := 533) (by decide +kernel), List.mem_of_getElem? (i := 534) (by decide +kernel), by decide, by decide, rc_X4_hasBridge⟩, ⟨_, _, 3, 3, _, 7, (ct_X6_isAnyRigOn hl hNL), ⟨List.mem_of_getElem? (i := 681) (by decide +kernel), List.mem_of_getElem? (i := 26) (by decide +kernel), List.mem_of_getElem? (i := 678) (by decide +kernel), ⟨by decide +kernel, by decide +kernel⟩, by decide +kernel, by decide⟩, List.mem_of_getElem? (i := 680) (by decide +kernel), List.mem_of_getElem? (i := 17) (by decide +kernel), by decide, by decide, rc_X6_isAnyRigOn⟩, ⟨_, _, 2, 0, _, 5, (ct_X4_endBeyond hl hNL), ⟨List.mem_of_getElem? (i := 686) (by decide +kernel), List.mem_of_getElem? (i := 37) (by decide +kernel), List.mem_of_getElem? (i := 683) (by decide +kernel), ⟨by decide +kernel, by decide +kernel⟩, by decide +kernel, by decide⟩, List.mem_of_getElem? (i := 684) (by decide +kernel), List.mem_of_getElem? (i := 685) (by decide +kernel), by decide, by decide, rc_X4_endBeyond⟩, ⟨_, _, 4, 0, _, 4, (ct_X3_setOut hl hNL), ⟨List.mem_of_getElem? (i := 690) (by decide +kernel), List.mem_of_getElem? (i := 41) (by decide +kernel), List.mem_of_getElem? (i := 687) (by decide +kernel), ⟨by decide +kernel, by decide +kernel⟩, by decide +kernel, by decide⟩, List.mem_of_getElem? (i := 688) (by decide +kernel), List.mem_of_getElem? (i := 689) (by decide +kernel), by decide, by decide, rc_X3_setOut⟩, trivial⟩
theorem ar_X6_drive : ∀ as S P, s_X6_drive as S P → as.length ≤ 5 ∧ ∀ a ∈ as, catV a = 1 := fun as S P h => by
  obtain ⟨_, _, rfl, _⟩ := o2_ok h
  exact ar_all ⟨Nat.le_of_ble_eq_true rfl, rfl⟩
theorem rc_X6_drive : ∀ as S P, s_X6_drive as S P → ∃ k i r, as = aR k i :: r ∧ ci k = 7 ∧ (obK k = true ∨ k = 13) := fun as S P h => by
  obtain ⟨_, _, rfl, _⟩ := o2_ok h
  exact ⟨_, _, _, rfl, rfl, Or.inl rfl⟩
theorem vc_X6_drive : ∀ (G : Gt) (Q : Out → Sto → Prop) (as : List AV) (S : Sto), s_X6_drive as S Q → Seg tb_X6_drive G Q 1 3 [] (0, fun _ => 0) → G 0 (argL as 5) [] S 0 := by
  intro G Q as S h hs
  obtain ⟨r, d, rfl, hW, h0, h1, h2⟩ := o2_ok h
  have w13 := hW.1
  refine hs [] 120 0 _ _ _ _ ?_
  refine ⟨rfl, by omega, fun q => h0 fun z => z.1.1 q, fun q => ⟨fun q' => ?_, fun q' => h0 fun z => q' z.1.2⟩⟩
  refine ⟨rfl, by omega, Int32.not_lt.mp q, q', ?_⟩
  refine ⟨rfl, by omega, fun p => h0 fun z => z.2.1 p, fun p => ⟨fun p' => ?_, fun p' => h0 fun z => p' z.2.2⟩⟩
  refine ⟨rfl, by omega, Int32.not_lt.mp p, p', ?_⟩
  have hk : knY S r d := ⟨⟨q, q'⟩, ⟨p, p'⟩⟩
  have bad := h1 hk
  have good := h2 hk
  refine ⟨fun y => ⟨rfl, fun _ => ?_, fun x => absurd rfl x⟩, fun y => ⟨rfl, fun x => absurd x (by decide), fun _ => bad fun z => y z.1⟩⟩
  have y' : S.1 4 9 r.toNatClampNeg = -1 := y
  have fin : canD S r d → (¬ S.1 4 8 r.toNatClampNeg = S.1 2 0 d.toNatClampNeg → Q (Sum.inl (some (aI ((wrI (wrI (wrI (wrI S 4 9 r.toNatClampNeg d) 4 8 r.toNatClampNeg (S.1 2 0 d.toNatClampNeg)) 4 10 r.toNatClampNeg (S.1 0 9 0 + S.1 2 6 d.toNatClampNeg)) 4 12 r.toNatClampNeg (S.1 4 12 r.toNatClampNeg + 1)).1 4 10 r.toNatClampNeg)))) (wrI (wrI (wrI (wrI S 4 9 r.toNatClampNeg d) 4 8 r.toNatClampNeg (S.1 2 0 d.toNatClampNeg)) 4 10 r.toNatClampNeg (S.1 0 9 0 + S.1 2 6 d.toNatClampNeg)) 4 12 r.toNatClampNeg (S.1 4 12 r.toNatClampNeg + 1))) ∧
      (S.1 4 8 r.toNatClampNeg = S.1 2 0 d.toNatClampNeg → Q (Sum.inl (some (aI ((wrI (wrI (wrI (wrI S 4 9 r.toNatClampNeg d) 4 8 r.toNatClampNeg (S.1 2 1 d.toNatClampNeg)) 4 10 r.toNatClampNeg (S.1 0 9 0 + S.1 2 6 d.toNatClampNeg)) 4 12 r.toNatClampNeg (S.1 4 12 r.toNatClampNeg + 1)).1 4 10 r.toNatClampNeg)))) (wrI (wrI (wrI (wrI S 4 9 r.toNatClampNeg d) 4 8 r.toNatClampNeg (S.1 2 1 d.toNatClampNeg)) 4 10 r.toNatClampNeg (S.1 0 9 0 + S.1 2 6 d.toNatClampNeg)) 4 12 r.toNatClampNeg (S.1 4 12 r.toNatClampNeg + 1))) := fun z => by
    have g := good z
    unfold drvS beyP at g
    refine ⟨fun e => ?_, fun e => ?_⟩
    · rw [if_neg e] at g
      exact g
    · rw [if_pos e] at g
      exact g
  have rest : endsB S d.toNatClampNeg (S.1 4 8 r.toNatClampNeg) → (reasonH S r d (S.1 0 9 0) = 0 → (S.1 2 7 d.toNatClampNeg ≤ 0 ∨ anyN (onH S d) (S.2.2 22) = false) → canD S r d) := fun e z1 z2 => ⟨y', e, z1, z2⟩
  have br : endsB S d.toNatClampNeg (S.1 4 8 r.toNatClampNeg) → s_X6_isAnyRigOn [aR 0 0, aI d] S (fun _ _ => True) := fun _ => ⟨rfl, rfl, hW, trivial⟩
  have hn : inN r (S.2.2 22) := nm_in ⟨q, q'⟩
  have hd : inN d (S.2.2 20) := nm_in ⟨p, p'⟩
  refine ⟨fun e1 => ⟨rfl, fun _ => ⟨rfl, rfl, hW, hn, hd, fun z1 => ⟨fun s1 => ⟨rfl, fun _ => ?_, fun x => absurd rfl x⟩, fun s1 => ⟨rfl, fun x => absurd x (by decide), fun _ => ⟨rfl, rfl, hW, fun o1 => ?_, fun o1 => bad fun z => ?_⟩⟩⟩, fun z1 => bad fun z => z1 z.2.2.1⟩, fun x => absurd x (by decide)⟩, fun e1 => ⟨fun e2 => ⟨rfl, fun x => absurd rfl x, fun _ => bad fun z => z.2.1.elim e1 e2⟩, fun e2 => ⟨rfl, fun _ => ⟨rfl, rfl, hW, hn, hd, fun z1 => ⟨fun s1 => ⟨rfl, fun _ => ?_, fun x => absurd rfl x⟩, fun s1 => ⟨rfl, fun x => absurd x (by decide), fun _ => ⟨rfl, rfl, hW, fun o1 => ?_, fun o1 => bad fun z => ?_⟩⟩⟩, fun z1 => bad fun z => z1 z.2.2.1⟩, fun x => absurd x (by decide)⟩⟩⟩
  · exact fin (rest (Or.inl e1) z1 (Or.inl s1))
  · refine fin (rest (Or.inl e1) z1 (Or.inr ?_))
    cases hh : anyN (onH S d) (S.2.2 22) with
    | false => rfl
    | true =>
      rw [hh] at o1
      exact absurd o1 (by decide)
  · rcases z.2.2.2 with w | w
    · exact s1 w
    · rw [w] at o1
      exact o1 rfl
  · exact fin (rest (Or.inr e2) z1 (Or.inl s1))
  · refine fin (rest (Or.inr e2) z1 (Or.inr ?_))
    cases hh : anyN (onH S d) (S.2.2 22) with
    | false => rfl
    | true =>
      rw [hh] at o1
      exact absurd o1 (by decide)
  · rcases z.2.2.2 with w | w
    · exact s1 w
    · rw [w] at o1
      exact o1 rfl
theorem ct_X6_drive {l : Launch} (hl : l.stackTraces = false) (hNL : NewL l) : CT l yX6_drive cX6_drive 5 (some .int) 6 3 s_X6_drive := CT_of hl hNL (by decide +kernel) (own := "HeavyHaul") rfl (ini := false) (fun q => nomatch q) chk_X6_drive (cal_X6_drive hl hNL) ar_X6_drive vc_X6_drive
