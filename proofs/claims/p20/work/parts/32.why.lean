/-! WHY A DRIVE MAY NOT BEGIN -/
def inN (r : Int32) (n : Nat) : Prop := 0 ≤ r ∧ r < nI n
theorem inN_lt {r : Int32} {n : Nat} (h : inN r n) (hn : n ≤ 1000) : r.toNatClampNeg < n := j_ltn h.1 h.2 (by omega)
def s_X6_rigOf0 : SP := vS fun as S k => o1 0 as fun r => WfH S ∧ inN r (S.2.2 22) ∧ k (some (aR 4 r.toNatClampNeg))
def tb_X6_rigOf0 : Tb := [(0, .iload_n 1, 1, x0), (1, .aload_n 0, 1, x0), (2, .getfield 30, 3, xF 7 5 [102]), (5, .invokevirtual 68, 3, xS 1 0 s_Jx4a65c_size_8abf5), (8, .invokestatic 53, 3, xS 2 0 s_X6_needNumber0), (11, .aload_n 0, 1, x0), (12, .getfield 30, 3, xF 7 5 [102]), (15, .iload_n 1, 1, x0), (16, .invokevirtual 234, 3, xS 2 0 s_Jx4a65c_get_915e3), (19, .checkcast 117, 3, xF 4 0 [365]), (22, .areturn, 1, x0)]
theorem chk_X6_rigOf0 : chkTb cX6_rigOf "HeavyHaul" false tb_X6_rigOf0 = true := by decide +kernel
theorem cal_X6_rigOf0 {l : Launch} (hl : l.stackTraces = false) (hNL : NewL l) : CallsOK l "HeavyHaul" 3 tb_X6_rigOf0 := callsOK_f ⟨⟨_, _, 1, 0, _, 0, (ct_Jx4a65c_size_8abf5 hl hNL), ⟨List.mem_of_getElem? (i := 236) (by decide +kernel), List.mem_of_getElem? (i := 29) (by decide +kernel), List.mem_of_getElem? (i := 233) (by decide +kernel), ⟨by decide +kernel, by decide +kernel⟩, by decide +kernel, by decide⟩, List.mem_of_getElem? (i := 234) (by decide +kernel), List.mem_of_getElem? (i := 235) (by decide +kernel), by decide, by decide, rc_Jx4a65c_size_8abf5⟩, ⟨_, _, 2, 0, _, (ct_X6_needNumber0 hl hNL), ⟨List.mem_of_getElem? (i := 144) (by decide +kernel), List.mem_of_getElem? (i := 26) (by decide +kernel), List.mem_of_getElem? (i := 142) (by decide +kernel), ⟨by decide +kernel, by decide +kernel⟩, by decide +kernel, by decide⟩, List.mem_of_getElem? (i := 143) (by decide +kernel), by decide⟩, ⟨_, _, 2, 2, _, 0, (ct_Jx4a65c_get_915e3 hl hNL), ⟨List.mem_of_getElem? (i := 519) (by decide +kernel), List.mem_of_getElem? (i := 29) (by decide +kernel), List.mem_of_getElem? (i := 516) (by decide +kernel), ⟨by decide +kernel, by decide +kernel⟩, by decide +kernel, by decide⟩, List.mem_of_getElem? (i := 517) (by decide +kernel), List.mem_of_getElem? (i := 518) (by decide +kernel), by decide, by decide, rc_Jx4a65c_get_915e3⟩, trivial⟩
theorem ar_X6_rigOf0 : ∀ as S P, s_X6_rigOf0 as S P → as.length ≤ 2 ∧ ∀ a ∈ as, catV a = 1 := fun as S P h => by
  obtain ⟨_, rfl, _⟩ := o1_ok h
  exact ar_all ⟨Nat.le_of_ble_eq_true rfl, rfl⟩
theorem rc_X6_rigOf0 : ∀ as S P, s_X6_rigOf0 as S P → ∃ k i r, as = aR k i :: r ∧ ci k = 7 ∧ (obK k = true ∨ k = 13) := fun as S P h => by
  obtain ⟨_, rfl, _⟩ := o1_ok h
  exact ⟨_, _, _, rfl, rfl, Or.inl rfl⟩
theorem vc_X6_rigOf0 : ∀ (G : Gt) (Q : Out → Sto → Prop) (as : List AV) (S : Sto), s_X6_rigOf0 as S Q → Seg tb_X6_rigOf0 G Q 3 0 [] (0, fun _ => 0) → G 0 (argL as 2) [] S 0 := by
  intro G Q as S h hs
  obtain ⟨r, rfl, hW, ⟨h0, h1⟩, hQ⟩ := o1_ok h
  have w13 := hW.1
  refine hs [] 60 0 _ _ _ _ ?_
  exact ⟨rfl, by omega, fun q => absurd q (Int32.not_lt.mpr h0), fun _ => ⟨fun _ => ⟨rfl, by omega, h0, h1, hQ⟩, fun q => absurd h1 q⟩⟩
theorem ct_X6_rigOf0 {l : Launch} (hl : l.stackTraces = false) (hNL : NewL l) : CT l yX6_rigOf cX6_rigOf 2 (some (.object "HeavyHaul$Rig")) 3 0 s_X6_rigOf0 := CT_of hl hNL (by decide +kernel) (own := "HeavyHaul") rfl (ini := false) (fun q => nomatch q) chk_X6_rigOf0 (cal_X6_rigOf0 hl hNL) ar_X6_rigOf0 vc_X6_rigOf0
def s_X6_roadOf0 : SP := vS fun as S k => o1 0 as fun r => WfH S ∧ inN r (S.2.2 20) ∧ k (some (aR 2 r.toNatClampNeg))
def tb_X6_roadOf0 : Tb := [(0, .iload_n 1, 1, x0), (1, .aload_n 0, 1, x0), (2, .getfield 23, 3, xF 7 3 [100]), (5, .invokevirtual 68, 3, xS 1 0 s_Jx4a65c_size_8abf5), (8, .invokestatic 53, 3, xS 2 0 s_X6_needNumber0), (11, .aload_n 0, 1, x0), (12, .getfield 23, 3, xF 7 3 [100]), (15, .iload_n 1, 1, x0), (16, .invokevirtual 234, 3, xS 2 0 s_Jx4a65c_get_915e3), (19, .checkcast 75, 3, xF 5 0 [256]), (22, .areturn, 1, x0)]
theorem chk_X6_roadOf0 : chkTb cX6_roadOf "HeavyHaul" false tb_X6_roadOf0 = true := by decide +kernel
theorem cal_X6_roadOf0 {l : Launch} (hl : l.stackTraces = false) (hNL : NewL l) : CallsOK l "HeavyHaul" 3 tb_X6_roadOf0 := callsOK_f ⟨⟨_, _, 1, 0, _, 0, (ct_Jx4a65c_size_8abf5 hl hNL), ⟨List.mem_of_getElem? (i := 236) (by decide +kernel), List.mem_of_getElem? (i := 29) (by decide +kernel), List.mem_of_getElem? (i := 233) (by decide +kernel), ⟨by decide +kernel, by decide +kernel⟩, by decide +kernel, by decide⟩, List.mem_of_getElem? (i := 234) (by decide +kernel), List.mem_of_getElem? (i := 235) (by decide +kernel), by decide, by decide, rc_Jx4a65c_size_8abf5⟩, ⟨_, _, 2, 0, _, (ct_X6_needNumber0 hl hNL), ⟨List.mem_of_getElem? (i := 144) (by decide +kernel), List.mem_of_getElem? (i := 26) (by decide +kernel), List.mem_of_getElem? (i := 142) (by decide +kernel), ⟨by decide +kernel, by decide +kernel⟩, by decide +kernel, by decide⟩, List.mem_of_getElem? (i := 143) (by decide +kernel), by decide⟩, ⟨_, _, 2, 2, _, 0, (ct_Jx4a65c_get_915e3 hl hNL), ⟨List.mem_of_getElem? (i := 519) (by decide +kernel), List.mem_of_getElem? (i := 29) (by decide +kernel), List.mem_of_getElem? (i := 516) (by decide +kernel), ⟨by decide +kernel, by decide +kernel⟩, by decide +kernel, by decide⟩, List.mem_of_getElem? (i := 517) (by decide +kernel), List.mem_of_getElem? (i := 518) (by decide +kernel), by decide, by decide, rc_Jx4a65c_get_915e3⟩, trivial⟩
theorem ar_X6_roadOf0 : ∀ as S P, s_X6_roadOf0 as S P → as.length ≤ 2 ∧ ∀ a ∈ as, catV a = 1 := fun as S P h => by
  obtain ⟨_, rfl, _⟩ := o1_ok h
  exact ar_all ⟨Nat.le_of_ble_eq_true rfl, rfl⟩
theorem rc_X6_roadOf0 : ∀ as S P, s_X6_roadOf0 as S P → ∃ k i r, as = aR k i :: r ∧ ci k = 7 ∧ (obK k = true ∨ k = 13) := fun as S P h => by
  obtain ⟨_, rfl, _⟩ := o1_ok h
  exact ⟨_, _, _, rfl, rfl, Or.inl rfl⟩
theorem vc_X6_roadOf0 : ∀ (G : Gt) (Q : Out → Sto → Prop) (as : List AV) (S : Sto), s_X6_roadOf0 as S Q → Seg tb_X6_roadOf0 G Q 3 0 [] (0, fun _ => 0) → G 0 (argL as 2) [] S 0 := by
  intro G Q as S h hs
  obtain ⟨r, rfl, hW, ⟨h0, h1⟩, hQ⟩ := o1_ok h
  have w13 := hW.1
  refine hs [] 60 0 _ _ _ _ ?_
  exact ⟨rfl, by omega, fun q => absurd q (Int32.not_lt.mpr h0), fun _ => ⟨fun _ => ⟨rfl, by omega, h0, h1, hQ⟩, fun q => absurd h1 q⟩⟩
theorem ct_X6_roadOf0 {l : Launch} (hl : l.stackTraces = false) (hNL : NewL l) : CT l yX6_roadOf cX6_roadOf 2 (some (.object "HeavyHaul$Road")) 3 0 s_X6_roadOf0 := CT_of hl hNL (by decide +kernel) (own := "HeavyHaul") rfl (ini := false) (fun q => nomatch q) chk_X6_roadOf0 (cal_X6_roadOf0 hl hNL) ar_X6_roadOf0 vc_X6_roadOf0
def gwH (S : Sto) (i : Nat) (road isH t : Int32) : Int32 := gainH S road isH t (t + S.1 2 6 i) (S.2.2 21)
def sizeH (S : Sto) (j i : Nat) (road t : Int32) : Int32 := if S.1 2 3 i + gwH S i road 0 t < S.1 4 3 j then 1 else if S.1 2 4 i + gwH S i road 1 t < S.1 4 4 j then 2 else 0
def borneH (S : Sto) (i j : Nat) : Bool := decide (S.1 2 7 i ≤ 0) || (decide (greatH S i j 0 0 ≤ S.1 2 8 i) && decide (greatH S i j 1 0 ≤ S.1 2 9 i))
def heavH (S : Sto) (j : Nat) : Int32 := if S.1 4 6 j < S.1 4 7 j then S.1 4 7 j else S.1 4 6 j
def lastH (S : Sto) (j i : Nat) : Int32 := if S.1 2 5 i < S.1 4 2 j then 3 else if borneH S i j = true then (if S.1 10 1 (S.1 2 2 i).toNatClampNeg < heavH S j then 5 else 0) else 4
def nightH (t tens : Int32) : Bool := decide (t - t / 144 * 144 + tens ≤ 36)
def leaveH (S : Sto) (i : Nat) (rig t : Int32) : Int32 := if anyN (permH S rig (S.1 2 2 i) t (t + S.1 2 6 i)) (S.2.2 23) = true then (if anyN (embH S (S.1 2 2 i) t (t + S.1 2 6 i)) (S.2.2 24) = true then 7 else if nightH t (S.1 2 6 i) = true then 0 else 8) else 6
def reasonH (S : Sto) (rig road t : Int32) : Int32 := if sizeH S rig.toNatClampNeg road.toNatClampNeg road t = 0 then (if lastH S rig.toNatClampNeg road.toNatClampNeg = 0 then leaveH S road.toNatClampNeg rig t else lastH S rig.toNatClampNeg road.toNatClampNeg) else sizeH S rig.toNatClampNeg road.toNatClampNeg road t
def openH (S : Sto) (rig road t : Int32) : Bool := nightH t (S.1 2 6 road.toNatClampNeg) && (decide (sizeH S rig.toNatClampNeg road.toNatClampNeg road t = 0) && decide (leaveH S road.toNatClampNeg rig t = 0))
def s_X6_sizeReason : SP := vS fun as S k => o3 0 as fun r d t => WfH S ∧ inN r (S.2.2 22) ∧ inN d (S.2.2 20) ∧ k (some (aI (sizeH S r.toNatClampNeg d.toNatClampNeg d t)))
def tb_X6_sizeReason : Tb := [(0, .aload_n 0, 1, x0), (1, .iload_n 1, 1, x0), (2, .invokevirtual 123, 3, xS 2 0 s_X6_rigOf0), (5, .astore 4, 2, x0), (7, .aload_n 0, 1, x0), (8, .iload_n 2, 1, x0), (9, .invokevirtual 84, 3, xS 2 0 s_X6_roadOf0), (12, .astore 5, 2, x0), (14, .iload_n 3, 1, x0), (15, .aload 5, 2, x0), (17, .getfield 188, 3, xF 5 6 [275]), (20, .iadd, 1, x0), (21, .istore 6, 2, x0), (23, .aload 4, 2, x0), (25, .getfield 264, 3, xF 4 3 [378]), (28, .aload 5, 2, x0), (30, .getfield 267, 3, xF 5 3 [269]), (33, .aload_n 0, 1, x0), (34, .iload_n 2, 1, x0), (35, .iconst 0, 1, xI (0)), (36, .iload_n 3, 1, x0), (37, .iload 6, 2, x0), (39, .invokevirtual 268, 3, xS 5 0 s_X6_gainByWorks), (42, .iadd, 1, x0), (43, .if_icmp .le 5, 3, xN 48), (46, .iconst 1, 1, xI (1)), (47, .ireturn, 1, x0), (48, .aload 4, 2, x0), (50, .getfield 272, 3, xF 4 4 [380]), (53, .aload 5, 2, x0), (55, .getfield 275, 3, xF 5 4 [271]), (58, .aload_n 0, 1, x0), (59, .iload_n 2, 1, x0), (60, .iconst 1, 1, xI (1)), (61, .iload_n 3, 1, x0), (62, .iload 6, 2, x0), (64, .invokevirtual 268, 3, xS 5 0 s_X6_gainByWorks), (67, .iadd, 1, x0), (68, .if_icmp .le 7, 3, xN 75), (71, .iconst 2, 1, xI (2)), (72, .goto 4, 3, xN 76), (75, .iconst 0, 1, xI (0)), (76, .ireturn, 1, x0)]
theorem chk_X6_sizeReason : chkTb cX6_sizeReason "HeavyHaul" false tb_X6_sizeReason = true := by decide +kernel
theorem cal_X6_sizeReason {l : Launch} (hl : l.stackTraces = false) (hNL : NewL l) : CallsOK l "HeavyHaul" 4 tb_X6_sizeReason := callsOK_f ⟨⟨_, _, 2, 3, _, 7, (ct_X6_rigOf0 hl hNL), ⟨List.mem_of_getElem? (i := 578) (by decide +kernel), List.mem_of_getElem? (i := 26) (by decide +kernel), List.mem_of_getElem? (i := 575) (by decide +kernel), ⟨by decide +kernel, by decide +kernel⟩, by decide +kernel, by decide⟩, List.mem_of_getElem? (i := 577) (by decide +kernel), List.mem_of_getElem? (i := 8) (by decide +kernel), by decide, by decide, rc_X6_rigOf0⟩, ⟨_, _, 2, 3, _, 7, (ct_X6_roadOf0 hl hNL), ⟨List.mem_of_getElem? (i := 515) (by decide +kernel), List.mem_of_getElem? (i := 26) (by decide +kernel), List.mem_of_getElem? (i := 512) (by decide +kernel), ⟨by decide +kernel, by decide +kernel⟩, by decide +kernel, by decide⟩, List.mem_of_getElem? (i := 514) (by decide +kernel), List.mem_of_getElem? (i := 7) (by decide +kernel), by decide, by decide, rc_X6_roadOf0⟩, ⟨_, _, 8, 3, _, 7, (ct_X6_gainByWorks hl hNL), ⟨List.mem_of_getElem? (i := 625) (by decide +kernel), List.mem_of_getElem? (i := 26) (by decide +kernel), List.mem_of_getElem? (i := 622) (by decide +kernel), ⟨by decide +kernel, by decide +kernel⟩, by decide +kernel, by decide⟩, List.mem_of_getElem? (i := 624) (by decide +kernel), List.mem_of_getElem? (i := 11) (by decide +kernel), by decide, by decide, rc_X6_gainByWorks⟩, ⟨_, _, 8, 3, _, 7, (ct_X6_gainByWorks hl hNL), ⟨List.mem_of_getElem? (i := 625) (by decide +kernel), List.mem_of_getElem? (i := 26) (by decide +kernel), List.mem_of_getElem? (i := 622) (by decide +kernel), ⟨by decide +kernel, by decide +kernel⟩, by decide +kernel, by decide⟩, List.mem_of_getElem? (i := 624) (by decide +kernel), List.mem_of_getElem? (i := 11) (by decide +kernel), by decide, by decide, rc_X6_gainByWorks⟩, trivial⟩
theorem ar_X6_sizeReason : ∀ as S P, s_X6_sizeReason as S P → as.length ≤ 7 ∧ ∀ a ∈ as, catV a = 1 := fun as S P h => by
  obtain ⟨_, _, _, rfl, _⟩ := o3_ok h
  exact ar_all ⟨Nat.le_of_ble_eq_true rfl, rfl⟩
theorem rc_X6_sizeReason : ∀ as S P, s_X6_sizeReason as S P → ∃ k i r, as = aR k i :: r ∧ ci k = 7 ∧ (obK k = true ∨ k = 13) := fun as S P h => by
  obtain ⟨_, _, _, rfl, _⟩ := o3_ok h
  exact ⟨_, _, _, rfl, rfl, Or.inl rfl⟩
theorem vc_X6_sizeReason : ∀ (G : Gt) (Q : Out → Sto → Prop) (as : List AV) (S : Sto), s_X6_sizeReason as S Q → Seg tb_X6_sizeReason G Q 1 0 [] (0, fun _ => 0) → G 0 (argL as 7) [] S 0 := by
  intro G Q as S h hs
  obtain ⟨r, d, t, rfl, hW, hr, hd, hQ⟩ := o3_ok h
  refine hs [] 90 0 _ _ _ _ ?_
  refine ⟨rfl, rfl, hW, hr, rfl, rfl, hW, hd, rfl, rfl, hW, fun q1 => ⟨rfl, rfl, hW, fun q2 => ?_, fun q2 => ?_⟩, fun q1 => ?_⟩
  · have e : sizeH S r.toNatClampNeg d.toNatClampNeg d t = 0 := (if_neg (Int32.not_lt.mpr q1)).trans (if_neg (Int32.not_lt.mpr q2))
    rw [e] at hQ
    exact hQ
  · have e : sizeH S r.toNatClampNeg d.toNatClampNeg d t = 2 := (if_neg (Int32.not_lt.mpr q1)).trans (if_pos (Int32.not_le.mp q2))
    rw [e] at hQ
    exact hQ
  · have e : sizeH S r.toNatClampNeg d.toNatClampNeg d t = 1 := if_pos (Int32.not_le.mp q1)
    rw [e] at hQ
    exact hQ
theorem ct_X6_sizeReason {l : Launch} (hl : l.stackTraces = false) (hNL : NewL l) : CT l yX6_sizeReason cX6_sizeReason 7 (some .int) 4 0 s_X6_sizeReason := CT_of hl hNL (by decide +kernel) (own := "HeavyHaul") rfl (ini := false) (fun q => nomatch q) chk_X6_sizeReason (cal_X6_sizeReason hl hNL) ar_X6_sizeReason vc_X6_sizeReason
def oRR (as : List AV) (f : Nat → Nat → Prop) : Prop := match as with
  | [Sum.inr (Sum.inr (k, i)), Sum.inr (Sum.inr (y, j)), Sum.inr (Sum.inr (z, n))] => k = 0 ∧ i = 0 ∧ y = 4 ∧ z = 2 ∧ f j n
  | _ => False
theorem oRR_ok {as : List AV} {f : Nat → Nat → Prop} (h : oRR as f) : ∃ j n, as = [aR 0 0, aR 4 j, aR 2 n] ∧ f j n := by
  unfold oRR at h
  split at h
  · obtain ⟨rfl, rfl, rfl, rfl, h⟩ := h; exact ⟨_, _, rfl, h⟩
  · exact h.elim
def s_X6_lastingReason : SP := vS fun as S k => oRR as fun j i => WfH S ∧ j < S.2.2 22 ∧ i < S.2.2 20 ∧ k (some (aI (lastH S j i)))
def tb_X6_lastingReason : Tb := [(0, .aload_n 1, 1, x0), (1, .getfield 276, 3, xF 4 2 [376]), (4, .aload_n 2, 1, x0), (5, .getfield 279, 3, xF 5 5 [273]), (8, .if_icmp .le 5, 3, xN 13), (11, .iconst 3, 1, xI (3)), (12, .ireturn, 1, x0), (13, .aload_n 2, 1, x0), (14, .aload_n 1, 1, x0), (15, .invokestatic 282, 3, xS 2 0 s_X6_isBorne), (18, .ifCond .ne 5, 3, xN 23), (21, .iconst 4, 1, xI (4)), (22, .ireturn, 1, x0), (23, .aload_n 1, 1, x0), (24, .invokevirtual 286, 3, xS 1 0 s_X3_heaviestAxle), (27, .aload_n 0, 1, x0), (28, .aload_n 2, 1, x0), (29, .getfield 289, 3, xF 5 2 [267]), (32, .invokevirtual 292, 3, xS 2 0 s_X6_mostOfAxle), (35, .if_icmp .le 7, 3, xN 42), (38, .iconst 5, 1, xI (5)), (39, .goto 4, 3, xN 43), (42, .iconst 0, 1, xI (0)), (43, .ireturn, 1, x0)]
theorem chk_X6_lastingReason : chkTb cX6_lastingReason "HeavyHaul" false tb_X6_lastingReason = true := by decide +kernel
theorem cal_X6_lastingReason {l : Launch} (hl : l.stackTraces = false) (hNL : NewL l) : CallsOK l "HeavyHaul" 4 tb_X6_lastingReason := callsOK_f ⟨⟨_, _, 2, 3, _, (ct_X6_isBorne hl hNL), ⟨List.mem_of_getElem? (i := 637) (by decide +kernel), List.mem_of_getElem? (i := 26) (by decide +kernel), List.mem_of_getElem? (i := 635) (by decide +kernel), ⟨by decide +kernel, by decide +kernel⟩, by decide +kernel, by decide⟩, List.mem_of_getElem? (i := 636) (by decide +kernel), by decide⟩, ⟨_, _, 1, 0, _, 4, (ct_X3_heaviestAxle hl hNL), ⟨List.mem_of_getElem? (i := 652) (by decide +kernel), List.mem_of_getElem? (i := 41) (by decide +kernel), List.mem_of_getElem? (i := 649) (by decide +kernel), ⟨by decide +kernel, by decide +kernel⟩, by decide +kernel, by decide⟩, List.mem_of_getElem? (i := 650) (by decide +kernel), List.mem_of_getElem? (i := 651) (by decide +kernel), by decide, by decide, rc_X3_heaviestAxle⟩, ⟨_, _, 2, 0, _, 7, (ct_X6_mostOfAxle hl hNL), ⟨List.mem_of_getElem? (i := 657) (by decide +kernel), List.mem_of_getElem? (i := 26) (by decide +kernel), List.mem_of_getElem? (i := 654) (by decide +kernel), ⟨by decide +kernel, by decide +kernel⟩, by decide +kernel, by decide⟩, List.mem_of_getElem? (i := 656) (by decide +kernel), List.mem_of_getElem? (i := 13) (by decide +kernel), by decide, by decide, rc_X6_mostOfAxle⟩, trivial⟩
theorem ar_X6_lastingReason : ∀ as S P, s_X6_lastingReason as S P → as.length ≤ 3 ∧ ∀ a ∈ as, catV a = 1 := fun as S P h => by
  obtain ⟨_, _, rfl, _⟩ := oRR_ok h
  exact ar_all ⟨Nat.le_of_ble_eq_true rfl, rfl⟩
theorem rc_X6_lastingReason : ∀ as S P, s_X6_lastingReason as S P → ∃ k i r, as = aR k i :: r ∧ ci k = 7 ∧ (obK k = true ∨ k = 13) := fun as S P h => by
  obtain ⟨_, _, rfl, _⟩ := oRR_ok h
  exact ⟨_, _, _, rfl, rfl, Or.inl rfl⟩
theorem vc_X6_lastingReason : ∀ (G : Gt) (Q : Out → Sto → Prop) (as : List AV) (S : Sto), s_X6_lastingReason as S Q → Seg tb_X6_lastingReason G Q 1 0 [] (0, fun _ => 0) → G 0 (argL as 3) [] S 0 := by
  intro G Q as S h hs
  obtain ⟨j, i, rfl, hW, hj, hi, hQ⟩ := oRR_ok h
  obtain ⟨p, q, a, t, s, -, -, hau, -, hsp, -, -, -, ha4, -, -, hs4⟩ := hW.2.2.2.2.2.2.1 i hi
  have hin : vp_in (S.1 2 2 i) (al 10 1) := by
    rw [hau]
    exact nI_vin (by omega) ha4
  have in0 : ¬ S.1 2 2 i < 0 := by
    rw [hau]
    exact nI_nn (by omega)
  have in4 : ¬ (4 : Int32) ≤ S.1 2 2 i := by
    rw [hau]
    exact lp_go (n := 4) (by omega) ha4
  have n4 : ∀ b, borneH S i j = b → S.1 2 5 i ≥ S.1 4 2 j → lastH S j i = if b = true then (if S.1 10 1 (S.1 2 2 i).toNatClampNeg < heavH S j then 5 else 0) else 4 := fun b hb h5 => by
    unfold lastH
    rw [if_neg (Int32.not_lt.mpr h5), hb]
  have tail : S.1 2 5 i ≥ S.1 4 2 j → borneH S i j = true → ∀ v, v = heavH S j → (v ≤ S.1 10 1 (S.1 2 2 i).toNatClampNeg → Q (Sum.inl (some (aI 0))) S) ∧ (¬ v ≤ S.1 10 1 (S.1 2 2 i).toNatClampNeg → Q (Sum.inl (some (aI 5))) S) := fun h5 hb v hv => by
    subst hv
    have e := n4 true hb h5
    rw [if_pos rfl] at e
    refine ⟨fun z => ?_, fun z => ?_⟩
    · rw [e, if_neg (Int32.not_lt.mpr z)] at hQ
      exact hQ
    · rw [e, if_pos (Int32.not_le.mp z)] at hQ
      exact hQ
  have bad : S.1 2 5 i ≥ S.1 4 2 j → borneH S i j = false → Q (Sum.inl (some (aI 4))) S := fun h5 hb => by
    have e := n4 false hb h5
    rw [if_neg (fun z => nomatch z)] at e
    rw [e] at hQ
    exact hQ
  refine hs [] 90 0 _ _ _ _ ?_
  refine ⟨fun h5 => ?_, fun h5 => ?_⟩
  · refine ⟨fun b1 => ⟨rfl, fun _ => ?_, fun z => absurd rfl z⟩, fun b1 => ⟨rfl, fun z => absurd z (by decide), fun _ => ?_⟩⟩
    · have hb : borneH S i j = true := by
        unfold borneH
        rw [decide_eq_true b1]
        rfl
      exact ⟨rfl, fun _ => ⟨fun q => absurd q in0, fun _ => ⟨fun q => absurd q in4, fun _ => ⟨hin, tail h5 hb _ rfl⟩⟩⟩, fun z => absurd z (by decide)⟩
    · have e1 : ∀ b, (decide (greatH S i j 0 0 ≤ S.1 2 8 i) && decide (greatH S i j 1 0 ≤ S.1 2 9 i)) = b → borneH S i j = b := fun b hb => by
        unfold borneH
        rw [decide_eq_false b1, Bool.false_or]
        exact hb
      refine ⟨rfl, rfl, hW, hi, hj, fun b2 => ⟨rfl, fun z => absurd rfl z, fun _ => bad h5 (e1 false ?_)⟩, fun b2 => ⟨rfl, rfl, hW, hi, hj, fun b3 => ⟨rfl, fun z => absurd rfl z, fun _ => bad h5 (e1 false ?_)⟩, fun b3 => ⟨rfl, fun _ => ⟨fun q => absurd q in0, fun _ => ⟨fun q => absurd q in4, fun _ => ⟨hin, tail h5 (e1 true ?_) _ rfl⟩⟩⟩, fun z => absurd z (by decide)⟩⟩⟩
      · rw [decide_eq_false (Int32.not_le.mpr b2)]
        rfl
      · rw [decide_eq_false (Int32.not_le.mpr b3), Bool.and_false]
      · rw [decide_eq_true (Int32.not_lt.mp b2), decide_eq_true (Int32.not_lt.mp b3)]
        rfl
  · have e : lastH S j i = 3 := if_pos (Int32.not_le.mp h5)
    rw [e] at hQ
    exact hQ
theorem ct_X6_lastingReason {l : Launch} (hl : l.stackTraces = false) (hNL : NewL l) : CT l yX6_lastingReason cX6_lastingReason 3 (some .int) 4 0 s_X6_lastingReason := CT_of hl hNL (by decide +kernel) (own := "HeavyHaul") rfl (ini := false) (fun q => nomatch q) chk_X6_lastingReason (cal_X6_lastingReason hl hNL) ar_X6_lastingReason vc_X6_lastingReason
theorem rem144 (t : Int32) : ¬ (144 : Int32) = 0 := by decide
def s_X6_leaveReason : SP := vS fun as S k => o3 0 as fun r d t => WfH S ∧ inN d (S.2.2 20) ∧ k (some (aI (leaveH S d.toNatClampNeg r t)))
def tb_X6_leaveReason : Tb := [(0, .aload_n 0, 1, x0), (1, .iload_n 2, 1, x0), (2, .invokevirtual 84, 3, xS 2 0 s_X6_roadOf0), (5, .astore 4, 2, x0), (7, .iload_n 3, 1, x0), (8, .aload 4, 2, x0), (10, .getfield 188, 3, xF 5 6 [275]), (13, .iadd, 1, x0), (14, .istore 5, 2, x0), (16, .aload_n 0, 1, x0), (17, .iload_n 1, 1, x0), (18, .aload 4, 2, x0), (20, .getfield 289, 3, xF 5 2 [267]), (23, .iload_n 3, 1, x0), (24, .iload 5, 2, x0), (26, .invokevirtual 295, 3, xS 5 0 s_X6_isPermitted), (29, .ifCond .ne 6, 3, xN 35), (32, .bipush 6, 2, xI (6)), (34, .ireturn, 1, x0), (35, .aload_n 0, 1, x0), (36, .aload 4, 2, x0), (38, .getfield 289, 3, xF 5 2 [267]), (41, .iload_n 3, 1, x0), (42, .iload 5, 2, x0), (44, .invokevirtual 299, 3, xS 4 0 s_X6_isEmbargoed), (47, .ifCond .eq 6, 3, xN 53), (50, .bipush 7, 2, xI (7)), (52, .ireturn, 1, x0), (53, .iload_n 3, 1, x0), (54, .aload 4, 2, x0), (56, .getfield 188, 3, xF 5 6 [275]), (59, .invokestatic 303, 3, xS 2 0 s_X6_isOfOneNight), (62, .ifCond .eq 7, 3, xN 69), (65, .iconst 0, 1, xI (0)), (66, .goto 5, 3, xN 71), (69, .bipush 8, 2, xI (8)), (71, .ireturn, 1, x0)]
theorem chk_X6_leaveReason : chkTb cX6_leaveReason "HeavyHaul" false tb_X6_leaveReason = true := by decide +kernel
theorem cal_X6_leaveReason {l : Launch} (hl : l.stackTraces = false) (hNL : NewL l) : CallsOK l "HeavyHaul" 4 tb_X6_leaveReason := callsOK_f ⟨⟨_, _, 2, 3, _, 7, (ct_X6_roadOf0 hl hNL), ⟨List.mem_of_getElem? (i := 515) (by decide +kernel), List.mem_of_getElem? (i := 26) (by decide +kernel), List.mem_of_getElem? (i := 512) (by decide +kernel), ⟨by decide +kernel, by decide +kernel⟩, by decide +kernel, by decide⟩, List.mem_of_getElem? (i := 514) (by decide +kernel), List.mem_of_getElem? (i := 7) (by decide +kernel), by decide, by decide, rc_X6_roadOf0⟩, ⟨_, _, 7, 3, _, 7, (ct_X6_isPermitted hl hNL), ⟨List.mem_of_getElem? (i := 665) (by decide +kernel), List.mem_of_getElem? (i := 26) (by decide +kernel), List.mem_of_getElem? (i := 662) (by decide +kernel), ⟨by decide +kernel, by decide +kernel⟩, by decide +kernel, by decide⟩, List.mem_of_getElem? (i := 664) (by decide +kernel), List.mem_of_getElem? (i := 15) (by decide +kernel), by decide, by decide, rc_X6_isPermitted⟩, ⟨_, _, 6, 3, _, 7, (ct_X6_isEmbargoed hl hNL), ⟨List.mem_of_getElem? (i := 669) (by decide +kernel), List.mem_of_getElem? (i := 26) (by decide +kernel), List.mem_of_getElem? (i := 666) (by decide +kernel), ⟨by decide +kernel, by decide +kernel⟩, by decide +kernel, by decide⟩, List.mem_of_getElem? (i := 668) (by decide +kernel), List.mem_of_getElem? (i := 16) (by decide +kernel), by decide, by decide, rc_X6_isEmbargoed⟩, ⟨_, _, 2, 0, _, (ct_X6_isOfOneNight hl hNL), ⟨List.mem_of_getElem? (i := 676) (by decide +kernel), List.mem_of_getElem? (i := 26) (by decide +kernel), List.mem_of_getElem? (i := 674) (by decide +kernel), ⟨by decide +kernel, by decide +kernel⟩, by decide +kernel, by decide⟩, List.mem_of_getElem? (i := 675) (by decide +kernel), by decide⟩, trivial⟩
theorem ar_X6_leaveReason : ∀ as S P, s_X6_leaveReason as S P → as.length ≤ 6 ∧ ∀ a ∈ as, catV a = 1 := fun as S P h => by
  obtain ⟨_, _, _, rfl, _⟩ := o3_ok h
  exact ar_all ⟨Nat.le_of_ble_eq_true rfl, rfl⟩
theorem rc_X6_leaveReason : ∀ as S P, s_X6_leaveReason as S P → ∃ k i r, as = aR k i :: r ∧ ci k = 7 ∧ (obK k = true ∨ k = 13) := fun as S P h => by
  obtain ⟨_, _, _, rfl, _⟩ := o3_ok h
  exact ⟨_, _, _, rfl, rfl, Or.inl rfl⟩
theorem vc_X6_leaveReason : ∀ (G : Gt) (Q : Out → Sto → Prop) (as : List AV) (S : Sto), s_X6_leaveReason as S Q → Seg tb_X6_leaveReason G Q 1 0 [] (0, fun _ => 0) → G 0 (argL as 6) [] S 0 := by
  intro G Q as S h hs
  obtain ⟨r, d, t, rfl, hW, hd, hQ⟩ := o3_ok h
  unfold leaveH at hQ
  refine hs [] 90 0 _ _ _ _ ?_
  refine ⟨rfl, rfl, hW, hd, rfl, rfl, hW, ?_⟩
  cases hp : anyN (permH S r (S.1 2 2 d.toNatClampNeg) t (t + S.1 2 6 d.toNatClampNeg)) (S.2.2 23) with
  | false =>
    rw [if_neg (by rw [hp]; decide)] at hQ
    exact ⟨fun z => absurd rfl z, fun _ => hQ⟩
  | true =>
    rw [if_pos hp] at hQ
    refine ⟨fun _ => ⟨rfl, rfl, hW, ?_⟩, fun z => absurd z (by decide)⟩
    cases he : anyN (embH S (S.1 2 2 d.toNatClampNeg) t (t + S.1 2 6 d.toNatClampNeg)) (S.2.2 24) with
    | true =>
      rw [if_pos he] at hQ
      exact ⟨fun z => absurd z (by decide), fun _ => hQ⟩
    | false =>
      rw [if_neg (by rw [he]; decide)] at hQ
      refine ⟨fun _ => ⟨rem144 t, fun z => ⟨rfl, fun _ => ?_, fun q => absurd rfl q⟩, fun z => ⟨rfl, fun q => absurd q (by decide), fun _ => ?_⟩⟩, fun z => absurd rfl z⟩
      · rw [if_neg (by unfold nightH; rw [decide_eq_false (Int32.not_le.mpr z)]; decide)] at hQ
        exact hQ
      · rw [if_pos (show nightH t (S.1 2 6 d.toNatClampNeg) = true from decide_eq_true (Int32.not_lt.mp z))] at hQ
        exact hQ
theorem ct_X6_leaveReason {l : Launch} (hl : l.stackTraces = false) (hNL : NewL l) : CT l yX6_leaveReason cX6_leaveReason 6 (some .int) 4 0 s_X6_leaveReason := CT_of hl hNL (by decide +kernel) (own := "HeavyHaul") rfl (ini := false) (fun q => nomatch q) chk_X6_leaveReason (cal_X6_leaveReason hl hNL) ar_X6_leaveReason vc_X6_leaveReason
def s_X6_reasonAgainst : SP := vS fun as S k => o3 0 as fun r d t => WfH S ∧ inN r (S.2.2 22) ∧ inN d (S.2.2 20) ∧ k (some (aI (reasonH S r d t)))
def tb_X6_reasonAgainst : Tb := [(0, .aload_n 0, 1, x0), (1, .iload_n 1, 1, x0), (2, .iload_n 2, 1, x0), (3, .iload_n 3, 1, x0), (4, .invokevirtual 254, 3, xS 4 0 s_X6_sizeReason), (7, .istore 4, 2, x0), (9, .iload 4, 2, x0), (11, .ifCond .eq 6, 3, xN 17), (14, .iload 4, 2, x0), (16, .ireturn, 1, x0), (17, .aload_n 0, 1, x0), (18, .aload_n 0, 1, x0), (19, .iload_n 1, 1, x0), (20, .invokevirtual 123, 3, xS 2 0 s_X6_rigOf0), (23, .aload_n 0, 1, x0), (24, .iload_n 2, 1, x0), (25, .invokevirtual 84, 3, xS 2 0 s_X6_roadOf0), (28, .invokevirtual 257, 3, xS 3 0 s_X6_lastingReason), (31, .istore 5, 2, x0), (33, .iload 5, 2, x0), (35, .ifCond .eq 8, 3, xN 43), (38, .iload 5, 2, x0), (40, .goto 10, 3, xN 50), (43, .aload_n 0, 1, x0), (44, .iload_n 1, 1, x0), (45, .iload_n 2, 1, x0), (46, .iload_n 3, 1, x0), (47, .invokevirtual 261, 3, xS 4 0 s_X6_leaveReason), (50, .ireturn, 1, x0)]
theorem chk_X6_reasonAgainst : chkTb cX6_reasonAgainst "HeavyHaul" false tb_X6_reasonAgainst = true := by decide +kernel
theorem cal_X6_reasonAgainst {l : Launch} (hl : l.stackTraces = false) (hNL : NewL l) : CallsOK l "HeavyHaul" 5 tb_X6_reasonAgainst := callsOK_f ⟨⟨_, _, 7, 4, _, 7, (ct_X6_sizeReason hl hNL), ⟨List.mem_of_getElem? (i := 621) (by decide +kernel), List.mem_of_getElem? (i := 26) (by decide +kernel), List.mem_of_getElem? (i := 618) (by decide +kernel), ⟨by decide +kernel, by decide +kernel⟩, by decide +kernel, by decide⟩, List.mem_of_getElem? (i := 620) (by decide +kernel), List.mem_of_getElem? (i := 10) (by decide +kernel), by decide, by decide, rc_X6_sizeReason⟩, ⟨_, _, 2, 3, _, 7, (ct_X6_rigOf0 hl hNL), ⟨List.mem_of_getElem? (i := 578) (by decide +kernel), List.mem_of_getElem? (i := 26) (by decide +kernel), List.mem_of_getElem? (i := 575) (by decide +kernel), ⟨by decide +kernel, by decide +kernel⟩, by decide +kernel, by decide⟩, List.mem_of_getElem? (i := 577) (by decide +kernel), List.mem_of_getElem? (i := 8) (by decide +kernel), by decide, by decide, rc_X6_rigOf0⟩, ⟨_, _, 2, 3, _, 7, (ct_X6_roadOf0 hl hNL), ⟨List.mem_of_getElem? (i := 515) (by decide +kernel), List.mem_of_getElem? (i := 26) (by decide +kernel), List.mem_of_getElem? (i := 512) (by decide +kernel), ⟨by decide +kernel, by decide +kernel⟩, by decide +kernel, by decide⟩, List.mem_of_getElem? (i := 514) (by decide +kernel), List.mem_of_getElem? (i := 7) (by decide +kernel), by decide, by decide, rc_X6_roadOf0⟩, ⟨_, _, 3, 4, _, 7, (ct_X6_lastingReason hl hNL), ⟨List.mem_of_getElem? (i := 634) (by decide +kernel), List.mem_of_getElem? (i := 26) (by decide +kernel), List.mem_of_getElem? (i := 631) (by decide +kernel), ⟨by decide +kernel, by decide +kernel⟩, by decide +kernel, by decide⟩, List.mem_of_getElem? (i := 633) (by decide +kernel), List.mem_of_getElem? (i := 12) (by decide +kernel), by decide, by decide, rc_X6_lastingReason⟩, ⟨_, _, 6, 4, _, 7, (ct_X6_leaveReason hl hNL), ⟨List.mem_of_getElem? (i := 661) (by decide +kernel), List.mem_of_getElem? (i := 26) (by decide +kernel), List.mem_of_getElem? (i := 658) (by decide +kernel), ⟨by decide +kernel, by decide +kernel⟩, by decide +kernel, by decide⟩, List.mem_of_getElem? (i := 660) (by decide +kernel), List.mem_of_getElem? (i := 14) (by decide +kernel), by decide, by decide, rc_X6_leaveReason⟩, trivial⟩
theorem ar_X6_reasonAgainst : ∀ as S P, s_X6_reasonAgainst as S P → as.length ≤ 6 ∧ ∀ a ∈ as, catV a = 1 := fun as S P h => by
  obtain ⟨_, _, _, rfl, _⟩ := o3_ok h
  exact ar_all ⟨Nat.le_of_ble_eq_true rfl, rfl⟩
theorem rc_X6_reasonAgainst : ∀ as S P, s_X6_reasonAgainst as S P → ∃ k i r, as = aR k i :: r ∧ ci k = 7 ∧ (obK k = true ∨ k = 13) := fun as S P h => by
  obtain ⟨_, _, _, rfl, _⟩ := o3_ok h
  exact ⟨_, _, _, rfl, rfl, Or.inl rfl⟩
theorem vc_X6_reasonAgainst : ∀ (G : Gt) (Q : Out → Sto → Prop) (as : List AV) (S : Sto), s_X6_reasonAgainst as S Q → Seg tb_X6_reasonAgainst G Q 1 0 [] (0, fun _ => 0) → G 0 (argL as 6) [] S 0 := by
  intro G Q as S h hs
  obtain ⟨r, d, t, rfl, hW, hr, hd, hQ⟩ := o3_ok h
  have hr2 := inN_lt hr (by have := hW.2.1.2.2.1; omega)
  have hd2 := inN_lt hd (by have := hW.2.1.1; omega)
  unfold reasonH at hQ
  refine hs [] 90 0 _ _ _ _ ?_
  refine ⟨rfl, rfl, hW, hr, hd, fun z1 => ⟨rfl, rfl, hW, hr, rfl, rfl, hW, hd, rfl, rfl, rfl, rfl, hW, hr2, hd2, fun z2 => ⟨rfl, rfl, hW, hd, ?_⟩, fun z2 => ?_⟩, fun z1 => ?_⟩
  · rw [if_pos z1, if_pos z2] at hQ
    exact hQ
  · rw [if_pos z1, if_neg z2] at hQ
    exact hQ
  · rw [if_neg z1] at hQ
    exact hQ
theorem ct_X6_reasonAgainst {l : Launch} (hl : l.stackTraces = false) (hNL : NewL l) : CT l yX6_reasonAgainst cX6_reasonAgainst 6 (some .int) 5 0 s_X6_reasonAgainst := CT_of hl hNL (by decide +kernel) (own := "HeavyHaul") rfl (ini := false) (fun q => nomatch q) chk_X6_reasonAgainst (cal_X6_reasonAgainst hl hNL) ar_X6_reasonAgainst vc_X6_reasonAgainst
def s_X6_isOpen : SP := vS fun as S k => o3 0 as fun r d t => WfH S ∧ inN r (S.2.2 22) ∧ inN d (S.2.2 20) ∧ k (some (aI (bV (openH S r d t))))
def tb_X6_isOpen : Tb := [(0, .iload_n 3, 1, x0), (1, .aload_n 0, 1, x0), (2, .iload_n 2, 1, x0), (3, .invokevirtual 84, 3, xS 2 0 s_X6_roadOf0), (6, .getfield 188, 3, xF 5 6 [275]), (9, .invokestatic 303, 3, xS 2 0 s_X6_isOfOneNight), (12, .ifCond .eq 27, 3, xN 39), (15, .aload_n 0, 1, x0), (16, .iload_n 1, 1, x0), (17, .iload_n 2, 1, x0), (18, .iload_n 3, 1, x0), (19, .invokevirtual 254, 3, xS 4 0 s_X6_sizeReason), (22, .ifCond .ne 17, 3, xN 39), (25, .aload_n 0, 1, x0), (26, .iload_n 1, 1, x0), (27, .iload_n 2, 1, x0), (28, .iload_n 3, 1, x0), (29, .invokevirtual 261, 3, xS 4 0 s_X6_leaveReason), (32, .ifCond .ne 7, 3, xN 39), (35, .iconst 1, 1, xI (1)), (36, .goto 4, 3, xN 40), (39, .iconst 0, 1, xI (0)), (40, .ireturn, 1, x0)]
theorem chk_X6_isOpen : chkTb cX6_isOpen "HeavyHaul" false tb_X6_isOpen = true := by decide +kernel
theorem cal_X6_isOpen {l : Launch} (hl : l.stackTraces = false) (hNL : NewL l) : CallsOK l "HeavyHaul" 5 tb_X6_isOpen := callsOK_f ⟨⟨_, _, 2, 3, _, 7, (ct_X6_roadOf0 hl hNL), ⟨List.mem_of_getElem? (i := 515) (by decide +kernel), List.mem_of_getElem? (i := 26) (by decide +kernel), List.mem_of_getElem? (i := 512) (by decide +kernel), ⟨by decide +kernel, by decide +kernel⟩, by decide +kernel, by decide⟩, List.mem_of_getElem? (i := 514) (by decide +kernel), List.mem_of_getElem? (i := 7) (by decide +kernel), by decide, by decide, rc_X6_roadOf0⟩, ⟨_, _, 2, 0, _, (ct_X6_isOfOneNight hl hNL), ⟨List.mem_of_getElem? (i := 676) (by decide +kernel), List.mem_of_getElem? (i := 26) (by decide +kernel), List.mem_of_getElem? (i := 674) (by decide +kernel), ⟨by decide +kernel, by decide +kernel⟩, by decide +kernel, by decide⟩, List.mem_of_getElem? (i := 675) (by decide +kernel), by decide⟩, ⟨_, _, 7, 4, _, 7, (ct_X6_sizeReason hl hNL), ⟨List.mem_of_getElem? (i := 621) (by decide +kernel), List.mem_of_getElem? (i := 26) (by decide +kernel), List.mem_of_getElem? (i := 618) (by decide +kernel), ⟨by decide +kernel, by decide +kernel⟩, by decide +kernel, by decide⟩, List.mem_of_getElem? (i := 620) (by decide +kernel), List.mem_of_getElem? (i := 10) (by decide +kernel), by decide, by decide, rc_X6_sizeReason⟩, ⟨_, _, 6, 4, _, 7, (ct_X6_leaveReason hl hNL), ⟨List.mem_of_getElem? (i := 661) (by decide +kernel), List.mem_of_getElem? (i := 26) (by decide +kernel), List.mem_of_getElem? (i := 658) (by decide +kernel), ⟨by decide +kernel, by decide +kernel⟩, by decide +kernel, by decide⟩, List.mem_of_getElem? (i := 660) (by decide +kernel), List.mem_of_getElem? (i := 14) (by decide +kernel), by decide, by decide, rc_X6_leaveReason⟩, trivial⟩
theorem ar_X6_isOpen : ∀ as S P, s_X6_isOpen as S P → as.length ≤ 4 ∧ ∀ a ∈ as, catV a = 1 := fun as S P h => by
  obtain ⟨_, _, _, rfl, _⟩ := o3_ok h
  exact ar_all ⟨Nat.le_of_ble_eq_true rfl, rfl⟩
theorem rc_X6_isOpen : ∀ as S P, s_X6_isOpen as S P → ∃ k i r, as = aR k i :: r ∧ ci k = 7 ∧ (obK k = true ∨ k = 13) := fun as S P h => by
  obtain ⟨_, _, _, rfl, _⟩ := o3_ok h
  exact ⟨_, _, _, rfl, rfl, Or.inl rfl⟩
theorem vc_X6_isOpen : ∀ (G : Gt) (Q : Out → Sto → Prop) (as : List AV) (S : Sto), s_X6_isOpen as S Q → Seg tb_X6_isOpen G Q 2 0 [] (0, fun _ => 0) → G 0 (argL as 4) [] S 0 := by
  intro G Q as S h hs
  obtain ⟨r, d, t, rfl, hW, hr, hd, hQ⟩ := o3_ok h
  have no : openH S r d t = false → (0 : Int32) &&& 1 = 0 ∧ Q (Sum.inl (some (aI 0))) S := fun e => by
    rw [e] at hQ
    exact ⟨rfl, hQ⟩
  refine hs [] 90 0 _ _ _ _ ?_
  refine ⟨rfl, rfl, hW, hd, rem144 t, fun z => ⟨rfl, fun _ => no ?_, fun q => absurd rfl q⟩, fun z => ⟨rfl, fun q => absurd q (by decide), fun _ => ⟨rfl, rfl, hW, hr, hd, fun z1 => no ?_, fun z1 => ⟨rfl, rfl, hW, hd, fun z2 => no ?_, fun z2 => ?_⟩⟩⟩⟩
  · unfold openH nightH
    rw [decide_eq_false (Int32.not_le.mpr z)]
    rfl
  · unfold openH
    rw [decide_eq_false z1, Bool.false_and, Bool.and_false]
  · unfold openH
    rw [decide_eq_false z2, Bool.and_false, Bool.and_false]
  · have e : openH S r d t = true := by
      unfold openH nightH
      rw [decide_eq_true (Int32.not_lt.mp z), decide_eq_true z1, decide_eq_true z2]
      rfl
    rw [e] at hQ
    exact ⟨rfl, hQ⟩
theorem ct_X6_isOpen {l : Launch} (hl : l.stackTraces = false) (hNL : NewL l) : CT l yX6_isOpen cX6_isOpen 4 (some .boolean) 5 0 s_X6_isOpen := CT_of hl hNL (by decide +kernel) (own := "HeavyHaul") rfl (ini := false) (fun q => nomatch q) chk_X6_isOpen (cal_X6_isOpen hl hNL) ar_X6_isOpen vc_X6_isOpen
