/-! THE CLASS's PUBLIC METHODS -/
def nm (v n : Int32) : Prop := ¬ v < 0 ∧ v < n
def rg (v a b : Int32) : Prop := ¬ v < a ∧ v ≤ b
theorem nm_in {v : Int32} {n : Nat} (h : nm v (nI n)) : inN v n := ⟨Int32.not_lt.mp h.1, h.2⟩
theorem nm_lt {v : Int32} {n : Nat} (h : nm v (nI n)) (hn : n ≤ 1000) : v.toNatClampNeg < n := inN_lt (nm_in h) hn
theorem nm_eq {v n : Int32} (h : ¬ v < 0) : v = nI v.toNatClampNeg := by
  obtain ⟨q, hq, rfl⟩ := nI_of h
  rw [nI_cl hq]
def s_X6_bay : SP := fun as S Q => o2 0 as fun p is => (is &&& 1 = is) ∧ (∀ i, S.1 11 0 i &&& 1 = S.1 11 0 i) ∧ (¬ nm p 10 → Q (Sum.inr 0) S) ∧ (nm p 10 → Q (Sum.inl (some (aI (S.1 11 0 p.toNatClampNeg)))) (wrI S 11 0 p.toNatClampNeg is))
def tb_X6_bay : Tb := [(0, .iload_n 1, 1, x0), (1, .bipush 10, 2, xI (10)), (3, .invokestatic 53, 3, xS 2 1 s_X6_needNumber), (6, .aload_n 0, 1, x0), (7, .getfield 9, 3, xF 7 0 [97]), (10, .iload_n 1, 1, x0), (11, .baload, 1, x0), (12, .istore_n 3, 1, x0), (13, .aload_n 0, 1, x0), (14, .getfield 9, 3, xF 7 0 [97]), (17, .iload_n 1, 1, x0), (18, .iload_n 2, 1, x0), (19, .bastore, 1, x0), (20, .iload_n 3, 1, x0), (21, .ireturn, 1, x0)]
theorem chk_X6_bay : chkTb cX6_bay "HeavyHaul" false tb_X6_bay = true := by decide +kernel
theorem cal_X6_bay {l : Launch} (hl : l.stackTraces = false) (hNL : NewL l) : CallsOK l "HeavyHaul" 1 tb_X6_bay := callsOK_f ⟨⟨_, _, 2, 0, _, (ct_X6_needNumber hl hNL), ⟨List.mem_of_getElem? (i := 144) (by decide +kernel), List.mem_of_getElem? (i := 26) (by decide +kernel), List.mem_of_getElem? (i := 142) (by decide +kernel), ⟨by decide +kernel, by decide +kernel⟩, by decide +kernel, by decide⟩, List.mem_of_getElem? (i := 143) (by decide +kernel), by decide⟩, trivial⟩
theorem ar_X6_bay : ∀ as S P, s_X6_bay as S P → as.length ≤ 4 ∧ ∀ a ∈ as, catV a = 1 := fun as S P h => by
  obtain ⟨_, _, rfl, _⟩ := o2_ok h
  exact ar_all ⟨Nat.le_of_ble_eq_true rfl, rfl⟩
theorem rc_X6_bay : ∀ as S P, s_X6_bay as S P → ∃ k i r, as = aR k i :: r ∧ ci k = 7 ∧ (obK k = true ∨ k = 13) := fun as S P h => by
  obtain ⟨_, _, rfl, _⟩ := o2_ok h
  exact ⟨_, _, _, rfl, rfl, Or.inl rfl⟩
theorem vc_X6_bay : ∀ (G : Gt) (Q : Out → Sto → Prop) (as : List AV) (S : Sto), s_X6_bay as S Q → Seg tb_X6_bay G Q 2 1 [] (0, fun _ => 0) → G 0 (argL as 4) [] S 0 := by
  intro G Q as S h hs
  obtain ⟨p, is, rfl, hb, hbb, h0, h1⟩ := o2_ok h
  refine hs [] 60 0 _ _ _ _ ?_
  refine ⟨fun q => h0 fun z => z.1 q, fun q => ⟨fun q' => ?_, fun q' => h0 fun z => q' z.2⟩⟩
  have hp : p.toNatClampNeg < 10 := nm_lt (n := 10) ⟨q, q'⟩ (by omega)
  have hv : vp_in p (al 11 0) := fun z => z.elim q fun z => absurd hp (Nat.not_lt.mpr z)
  have h2 := h1 ⟨q, q'⟩
  rw [← hb] at h2
  exact ⟨hv, hv, hbb _, h2⟩
theorem ct_X6_bay {l : Launch} (hl : l.stackTraces = false) (hNL : NewL l) : CT l yX6_bay cX6_bay 4 (some .boolean) 1 1 s_X6_bay := CT_of hl hNL (by decide +kernel) (own := "HeavyHaul") rfl (ini := false) (fun q => nomatch q) chk_X6_bay (cal_X6_bay hl hNL) ar_X6_bay vc_X6_bay
def brgS (S : Sto) (i : Nat) (a b c : Int32) : Sto := wrI (wrI (wrI S 2 7 i a) 2 8 i b) 2 9 i c
def s_X6_bridge : SP := fun as S Q => o4 0 as fun r a b c => WfH S ∧ (¬ nm r (nI (S.2.2 20)) → Q (Sum.inr 0) S) ∧ (nm r (nI (S.2.2 20)) → ¬ (rg a 1 40 ∧ rg b 1 999999 ∧ rg c 1 9999999) → Q (Sum.inr 1) S) ∧
  (nm r (nI (S.2.2 20)) → rg a 1 40 ∧ rg b 1 999999 ∧ rg c 1 9999999 → Q (Sum.inl (some (aI (if S.1 2 7 r.toNatClampNeg ≤ 0 then 0 else 1)))) (brgS S r.toNatClampNeg a b c))
def tb_X6_bridge : Tb := [(0, .aload_n 0, 1, x0), (1, .iload_n 1, 1, x0), (2, .invokevirtual 84, 3, xS 2 1 s_X6_roadOf), (5, .astore 5, 2, x0), (7, .iload_n 2, 1, x0), (8, .iconst 1, 1, xI (1)), (9, .bipush 40, 2, xI (40)), (11, .invokestatic 64, 3, xS 3 1 s_X6_needRange), (14, .iload_n 3, 1, x0), (15, .iconst 1, 1, xI (1)), (16, .ldc 88, 2, xC 0 0 999999 [530]), (18, .invokestatic 64, 3, xS 3 1 s_X6_needRange), (21, .iload 4, 2, x0), (23, .iconst 1, 1, xI (1)), (24, .ldc 89, 2, xC 0 0 9999999 [531]), (26, .invokestatic 64, 3, xS 3 1 s_X6_needRange), (29, .aload 5, 2, x0), (31, .invokevirtual 90, 3, xS 1 0 s_X4_hasBridge), (34, .istore 6, 2, x0), (36, .aload 5, 2, x0), (38, .iload_n 2, 1, x0), (39, .putfield 94, 3, xF 5 7 [277]), (42, .aload 5, 2, x0), (44, .iload_n 3, 1, x0), (45, .putfield 97, 3, xF 5 8 [278]), (48, .aload 5, 2, x0), (50, .iload 4, 2, x0), (52, .putfield 100, 3, xF 5 9 [279]), (55, .iload 6, 2, x0), (57, .ireturn, 1, x0)]
theorem chk_X6_bridge : chkTb cX6_bridge "HeavyHaul" false tb_X6_bridge = true := by decide +kernel
theorem cal_X6_bridge {l : Launch} (hl : l.stackTraces = false) (hNL : NewL l) : CallsOK l "HeavyHaul" 4 tb_X6_bridge := callsOK_f ⟨⟨_, _, 2, 3, _, 7, (ct_X6_roadOf hl hNL), ⟨List.mem_of_getElem? (i := 515) (by decide +kernel), List.mem_of_getElem? (i := 26) (by decide +kernel), List.mem_of_getElem? (i := 512) (by decide +kernel), ⟨by decide +kernel, by decide +kernel⟩, by decide +kernel, by decide⟩, List.mem_of_getElem? (i := 514) (by decide +kernel), List.mem_of_getElem? (i := 7) (by decide +kernel), by decide, by decide, rc_X6_roadOf⟩, ⟨_, _, 3, 0, _, (ct_X6_needRange hl hNL), ⟨List.mem_of_getElem? (i := 231) (by decide +kernel), List.mem_of_getElem? (i := 26) (by decide +kernel), List.mem_of_getElem? (i := 229) (by decide +kernel), ⟨by decide +kernel, by decide +kernel⟩, by decide +kernel, by decide⟩, List.mem_of_getElem? (i := 230) (by decide +kernel), by decide⟩, ⟨_, _, 3, 0, _, (ct_X6_needRange hl hNL), ⟨List.mem_of_getElem? (i := 231) (by decide +kernel), List.mem_of_getElem? (i := 26) (by decide +kernel), List.mem_of_getElem? (i := 229) (by decide +kernel), ⟨by decide +kernel, by decide +kernel⟩, by decide +kernel, by decide⟩, List.mem_of_getElem? (i := 230) (by decide +kernel), by decide⟩, ⟨_, _, 3, 0, _, (ct_X6_needRange hl hNL), ⟨List.mem_of_getElem? (i := 231) (by decide +kernel), List.mem_of_getElem? (i := 26) (by decide +kernel), List.mem_of_getElem? (i := 229) (by decide +kernel), ⟨by decide +kernel, by decide +kernel⟩, by decide +kernel, by decide⟩, List.mem_of_getElem? (i := 230) (by decide +kernel), by decide⟩, ⟨_, _, 1, 0, _, 5, (ct_X4_hasBridge hl hNL), ⟨List.mem_of_getElem? (i := 535) (by decide +kernel), List.mem_of_getElem? (i := 37) (by decide +kernel), List.mem_of_getElem? (i := 532) (by decide +kernel), ⟨by decide +kernel, by decide +kernel⟩, by decide +kernel, by decide⟩, List.mem_of_getElem? (i := 533) (by decide +kernel), List.mem_of_getElem? (i := 534) (by decide +kernel), by decide, by decide, rc_X4_hasBridge⟩, trivial⟩
theorem ar_X6_bridge : ∀ as S P, s_X6_bridge as S P → as.length ≤ 7 ∧ ∀ a ∈ as, catV a = 1 := fun as S P h => by
  obtain ⟨_, _, _, _, rfl, _⟩ := o4_ok h
  exact ar_all ⟨Nat.le_of_ble_eq_true rfl, rfl⟩
theorem rc_X6_bridge : ∀ as S P, s_X6_bridge as S P → ∃ k i r, as = aR k i :: r ∧ ci k = 7 ∧ (obK k = true ∨ k = 13) := fun as S P h => by
  obtain ⟨_, _, _, _, rfl, _⟩ := o4_ok h
  exact ⟨_, _, _, rfl, rfl, Or.inl rfl⟩
theorem vc_X6_bridge : ∀ (G : Gt) (Q : Out → Sto → Prop) (as : List AV) (S : Sto), s_X6_bridge as S Q → Seg tb_X6_bridge G Q 2 4 [] (0, fun _ => 0) → G 0 (argL as 7) [] S 0 := by
  intro G Q as S h hs
  obtain ⟨r, a, b, c, rfl, hW, h0, h1, h2⟩ := o4_ok h
  have w13 := hW.1
  refine hs [] 90 0 _ _ _ _ ?_
  refine ⟨rfl, by omega, fun q => h0 fun z => z.1 q, fun q => ⟨fun q' => ?_, fun q' => h0 fun z => q' z.2⟩⟩
  have hk : nm r (nI (S.2.2 20)) := ⟨q, q'⟩
  refine ⟨rfl, by omega, Int32.not_lt.mp q, q', ?_⟩
  refine ⟨fun a1 => h1 hk fun z => z.1.1 a1, fun a1 => ⟨fun a2 => ?_, fun a2 => h1 hk fun z => a2 z.1.2⟩⟩
  refine ⟨fun b1 => h1 hk fun z => z.2.1.1 b1, fun b1 => ⟨fun b2 => ?_, fun b2 => h1 hk fun z => b2 z.2.1.2⟩⟩
  refine ⟨fun c1 => h1 hk fun z => z.2.2.1 c1, fun c1 => ⟨fun c2 => ?_, fun c2 => h1 hk fun z => c2 z.2.2.2⟩⟩
  have h3 := h2 hk ⟨⟨a1, a2⟩, ⟨b1, b2⟩, ⟨c1, c2⟩⟩
  refine ⟨fun s1 => ⟨rfl, rfl, ?_⟩, fun s1 => ⟨rfl, rfl, ?_⟩⟩
  · have s1' : S.1 2 7 r.toNatClampNeg ≤ 0 := s1
    rw [if_pos s1'] at h3
    exact h3
  · have s1' : ¬ S.1 2 7 r.toNatClampNeg ≤ 0 := s1
    rw [if_neg s1'] at h3
    exact h3
theorem ct_X6_bridge {l : Launch} (hl : l.stackTraces = false) (hNL : NewL l) : CT l yX6_bridge cX6_bridge 7 (some .boolean) 4 4 s_X6_bridge := CT_of hl hNL (by decide +kernel) (own := "HeavyHaul") rfl (ini := false) (fun q => nomatch q) chk_X6_bridge (cal_X6_bridge hl hNL) ar_X6_bridge vc_X6_bridge
def s_X6_axle : SP := fun as S Q => o2 0 as fun r x => WfH S ∧ (¬ (nm r (nI (S.2.2 22)) ∧ nm x (S.1 4 0 r.toNatClampNeg)) → Q (Sum.inr 0) S) ∧ (nm r (nI (S.2.2 22)) ∧ nm x (S.1 4 0 r.toNatClampNeg) → Q (Sum.inl (some (aI (wtF (S.1 4 6 r.toNatClampNeg) (S.1 4 7 r.toNatClampNeg) (S.1 4 0 r.toNatClampNeg) x)))) S)
def tb_X6_axle : Tb := [(0, .aload_n 0, 1, x0), (1, .iload_n 1, 1, x0), (2, .invokevirtual 123, 3, xS 2 1 s_X6_rigOf), (5, .astore_n 3, 1, x0), (6, .iload_n 2, 1, x0), (7, .aload_n 3, 1, x0), (8, .getfield 142, 3, xF 4 0 [372]), (11, .invokestatic 53, 3, xS 2 1 s_X6_needNumber), (14, .aload_n 3, 1, x0), (15, .iload_n 2, 1, x0), (16, .invokevirtual 145, 3, xS 2 0 s_X3_weightOf), (19, .ireturn, 1, x0)]
theorem chk_X6_axle : chkTb cX6_axle "HeavyHaul" false tb_X6_axle = true := by decide +kernel
theorem cal_X6_axle {l : Launch} (hl : l.stackTraces = false) (hNL : NewL l) : CallsOK l "HeavyHaul" 4 tb_X6_axle := callsOK_f ⟨⟨_, _, 2, 3, _, 7, (ct_X6_rigOf hl hNL), ⟨List.mem_of_getElem? (i := 578) (by decide +kernel), List.mem_of_getElem? (i := 26) (by decide +kernel), List.mem_of_getElem? (i := 575) (by decide +kernel), ⟨by decide +kernel, by decide +kernel⟩, by decide +kernel, by decide⟩, List.mem_of_getElem? (i := 577) (by decide +kernel), List.mem_of_getElem? (i := 8) (by decide +kernel), by decide, by decide, rc_X6_rigOf⟩, ⟨_, _, 2, 0, _, (ct_X6_needNumber hl hNL), ⟨List.mem_of_getElem? (i := 144) (by decide +kernel), List.mem_of_getElem? (i := 26) (by decide +kernel), List.mem_of_getElem? (i := 142) (by decide +kernel), ⟨by decide +kernel, by decide +kernel⟩, by decide +kernel, by decide⟩, List.mem_of_getElem? (i := 143) (by decide +kernel), by decide⟩, ⟨_, _, 2, 0, _, 4, (ct_X3_weightOf hl hNL), ⟨List.mem_of_getElem? (i := 647) (by decide +kernel), List.mem_of_getElem? (i := 41) (by decide +kernel), List.mem_of_getElem? (i := 644) (by decide +kernel), ⟨by decide +kernel, by decide +kernel⟩, by decide +kernel, by decide⟩, List.mem_of_getElem? (i := 645) (by decide +kernel), List.mem_of_getElem? (i := 646) (by decide +kernel), by decide, by decide, rc_X3_weightOf⟩, trivial⟩
theorem ar_X6_axle : ∀ as S P, s_X6_axle as S P → as.length ≤ 4 ∧ ∀ a ∈ as, catV a = 1 := fun as S P h => by
  obtain ⟨_, _, rfl, _⟩ := o2_ok h
  exact ar_all ⟨Nat.le_of_ble_eq_true rfl, rfl⟩
theorem rc_X6_axle : ∀ as S P, s_X6_axle as S P → ∃ k i r, as = aR k i :: r ∧ ci k = 7 ∧ (obK k = true ∨ k = 13) := fun as S P h => by
  obtain ⟨_, _, rfl, _⟩ := o2_ok h
  exact ⟨_, _, _, rfl, rfl, Or.inl rfl⟩
theorem vc_X6_axle : ∀ (G : Gt) (Q : Out → Sto → Prop) (as : List AV) (S : Sto), s_X6_axle as S Q → Seg tb_X6_axle G Q 1 2 [] (0, fun _ => 0) → G 0 (argL as 4) [] S 0 := by
  intro G Q as S h hs
  obtain ⟨r, x, rfl, hW, h0, h1⟩ := o2_ok h
  have w13 := hW.1
  refine hs [] 90 0 _ _ _ _ ?_
  refine ⟨rfl, by omega, fun q => h0 fun z => z.1.1 q, fun q => ⟨fun q' => ?_, fun q' => h0 fun z => q' z.1.2⟩⟩
  refine ⟨rfl, by omega, Int32.not_lt.mp q, q', ?_⟩
  refine ⟨fun a1 => h0 fun z => z.2.1 a1, fun a1 => ⟨fun a2 => ?_, fun a2 => h0 fun z => a2 z.2.2⟩⟩
  have h2 := h1 ⟨⟨q, q'⟩, ⟨a1, a2⟩⟩
  unfold wtF at h2
  refine ⟨by decide, fun z => ?_, fun z => ?_⟩
  · have z' : S.1 4 0 r.toNatClampNeg / 2 ≤ x := z
    rw [if_pos z'] at h2
    exact h2
  · have z' : ¬ S.1 4 0 r.toNatClampNeg / 2 ≤ x := z
    rw [if_neg z'] at h2
    exact h2
theorem ct_X6_axle {l : Launch} (hl : l.stackTraces = false) (hNL : NewL l) : CT l yX6_axle cX6_axle 4 (some .int) 4 2 s_X6_axle := CT_of hl hNL (by decide +kernel) (own := "HeavyHaul") rfl (ini := false) (fun q => nomatch q) chk_X6_axle (cal_X6_axle hl hNL) ar_X6_axle vc_X6_axle
def knG (S : Sto) (d r : Int32) : Prop := nm d (nI (S.2.2 20)) ∧ nm r (nI (S.2.2 22))
def s_gre (b : Int32) : SP := fun as S Q => o3 0 as fun d r isM => WfH S ∧ (¬ knG S d r → Q (Sum.inr 0) S) ∧ (knG S d r → Q (Sum.inl (some (aI (greatH S d.toNatClampNeg r.toNatClampNeg isM b)))) S)
def s_X6_greatest : SP := s_gre 0
def tb_X6_greatest : Tb := [(0, .aload_n 0, 1, x0), (1, .iload_n 1, 1, x0), (2, .invokevirtual 84, 3, xS 2 1 s_X6_roadOf), (5, .aload_n 0, 1, x0), (6, .iload_n 2, 1, x0), (7, .invokevirtual 123, 3, xS 2 1 s_X6_rigOf), (10, .iload_n 3, 1, x0), (11, .iconst 0, 1, xI (0)), (12, .invokestatic 149, 3, xS 4 0 s_X6_greatestOver), (15, .ireturn, 1, x0)]
theorem chk_X6_greatest : chkTb cX6_greatest "HeavyHaul" false tb_X6_greatest = true := by decide +kernel
theorem cal_X6_greatest {l : Launch} (hl : l.stackTraces = false) (hNL : NewL l) : CallsOK l "HeavyHaul" 4 tb_X6_greatest := callsOK_f ⟨⟨_, _, 2, 3, _, 7, (ct_X6_roadOf hl hNL), ⟨List.mem_of_getElem? (i := 515) (by decide +kernel), List.mem_of_getElem? (i := 26) (by decide +kernel), List.mem_of_getElem? (i := 512) (by decide +kernel), ⟨by decide +kernel, by decide +kernel⟩, by decide +kernel, by decide⟩, List.mem_of_getElem? (i := 514) (by decide +kernel), List.mem_of_getElem? (i := 7) (by decide +kernel), by decide, by decide, rc_X6_roadOf⟩, ⟨_, _, 2, 3, _, 7, (ct_X6_rigOf hl hNL), ⟨List.mem_of_getElem? (i := 578) (by decide +kernel), List.mem_of_getElem? (i := 26) (by decide +kernel), List.mem_of_getElem? (i := 575) (by decide +kernel), ⟨by decide +kernel, by decide +kernel⟩, by decide +kernel, by decide⟩, List.mem_of_getElem? (i := 577) (by decide +kernel), List.mem_of_getElem? (i := 8) (by decide +kernel), by decide, by decide, rc_X6_rigOf⟩, ⟨_, _, 8, 2, _, (ct_X6_greatestOver hl hNL), ⟨List.mem_of_getElem? (i := 640) (by decide +kernel), List.mem_of_getElem? (i := 26) (by decide +kernel), List.mem_of_getElem? (i := 638) (by decide +kernel), ⟨by decide +kernel, by decide +kernel⟩, by decide +kernel, by decide⟩, List.mem_of_getElem? (i := 639) (by decide +kernel), by decide⟩, trivial⟩
theorem ar_X6_greatest : ∀ as S P, s_X6_greatest as S P → as.length ≤ 4 ∧ ∀ a ∈ as, catV a = 1 := fun as S P h => by
  obtain ⟨_, _, _, rfl, _⟩ := o3_ok h
  exact ar_all ⟨Nat.le_of_ble_eq_true rfl, rfl⟩
theorem rc_X6_greatest : ∀ as S P, s_X6_greatest as S P → ∃ k i r, as = aR k i :: r ∧ ci k = 7 ∧ (obK k = true ∨ k = 13) := fun as S P h => by
  obtain ⟨_, _, _, rfl, _⟩ := o3_ok h
  exact ⟨_, _, _, rfl, rfl, Or.inl rfl⟩
theorem vc_X6_greatest : ∀ (G : Gt) (Q : Out → Sto → Prop) (as : List AV) (S : Sto), s_X6_greatest as S Q → Seg tb_X6_greatest G Q 1 2 [] (0, fun _ => 0) → G 0 (argL as 4) [] S 0 := by
  intro G Q as S h hs
  obtain ⟨d, r, isM, rfl, hW, h0, h1⟩ := o3_ok h
  have w13 := hW.1
  refine hs [] 90 0 _ _ _ _ ?_
  refine ⟨rfl, by omega, fun q => h0 fun z => z.1.1 q, fun q => ⟨fun q' => ?_, fun q' => h0 fun z => q' z.1.2⟩⟩
  refine ⟨rfl, by omega, Int32.not_lt.mp q, q', ?_⟩
  refine ⟨rfl, by omega, fun a1 => h0 fun z => z.2.1 a1, fun a1 => ⟨fun a2 => ?_, fun a2 => h0 fun z => a2 z.2.2⟩⟩
  refine ⟨rfl, by omega, Int32.not_lt.mp a1, a2, ?_⟩
  exact ⟨rfl, rfl, hW, nm_lt ⟨q, q'⟩ (by have := hW.2.1.1; omega), nm_lt ⟨a1, a2⟩ (by have := hW.2.1.2.2.1; omega), h1 ⟨⟨q, q'⟩, ⟨a1, a2⟩⟩⟩
theorem ct_X6_greatest {l : Launch} (hl : l.stackTraces = false) (hNL : NewL l) : CT l yX6_greatest cX6_greatest 4 (some .int) 4 2 s_X6_greatest := CT_of hl hNL (by decide +kernel) (own := "HeavyHaul") rfl (ini := false) (fun q => nomatch q) chk_X6_greatest (cal_X6_greatest hl hNL) ar_X6_greatest vc_X6_greatest
def s_X6_greatestAnew : SP := s_gre 1
def tb_X6_greatestAnew : Tb := [(0, .aload_n 0, 1, x0), (1, .iload_n 1, 1, x0), (2, .invokevirtual 84, 3, xS 2 1 s_X6_roadOf), (5, .aload_n 0, 1, x0), (6, .iload_n 2, 1, x0), (7, .invokevirtual 123, 3, xS 2 1 s_X6_rigOf), (10, .iload_n 3, 1, x0), (11, .iconst 1, 1, xI (1)), (12, .invokestatic 149, 3, xS 4 0 s_X6_greatestOver), (15, .ireturn, 1, x0)]
theorem chk_X6_greatestAnew : chkTb cX6_greatestAnew "HeavyHaul" false tb_X6_greatestAnew = true := by decide +kernel
theorem cal_X6_greatestAnew {l : Launch} (hl : l.stackTraces = false) (hNL : NewL l) : CallsOK l "HeavyHaul" 4 tb_X6_greatestAnew := callsOK_f ⟨⟨_, _, 2, 3, _, 7, (ct_X6_roadOf hl hNL), ⟨List.mem_of_getElem? (i := 515) (by decide +kernel), List.mem_of_getElem? (i := 26) (by decide +kernel), List.mem_of_getElem? (i := 512) (by decide +kernel), ⟨by decide +kernel, by decide +kernel⟩, by decide +kernel, by decide⟩, List.mem_of_getElem? (i := 514) (by decide +kernel), List.mem_of_getElem? (i := 7) (by decide +kernel), by decide, by decide, rc_X6_roadOf⟩, ⟨_, _, 2, 3, _, 7, (ct_X6_rigOf hl hNL), ⟨List.mem_of_getElem? (i := 578) (by decide +kernel), List.mem_of_getElem? (i := 26) (by decide +kernel), List.mem_of_getElem? (i := 575) (by decide +kernel), ⟨by decide +kernel, by decide +kernel⟩, by decide +kernel, by decide⟩, List.mem_of_getElem? (i := 577) (by decide +kernel), List.mem_of_getElem? (i := 8) (by decide +kernel), by decide, by decide, rc_X6_rigOf⟩, ⟨_, _, 8, 2, _, (ct_X6_greatestOver hl hNL), ⟨List.mem_of_getElem? (i := 640) (by decide +kernel), List.mem_of_getElem? (i := 26) (by decide +kernel), List.mem_of_getElem? (i := 638) (by decide +kernel), ⟨by decide +kernel, by decide +kernel⟩, by decide +kernel, by decide⟩, List.mem_of_getElem? (i := 639) (by decide +kernel), by decide⟩, trivial⟩
theorem ar_X6_greatestAnew : ∀ as S P, s_X6_greatestAnew as S P → as.length ≤ 4 ∧ ∀ a ∈ as, catV a = 1 := fun as S P h => by
  obtain ⟨_, _, _, rfl, _⟩ := o3_ok h
  exact ar_all ⟨Nat.le_of_ble_eq_true rfl, rfl⟩
theorem rc_X6_greatestAnew : ∀ as S P, s_X6_greatestAnew as S P → ∃ k i r, as = aR k i :: r ∧ ci k = 7 ∧ (obK k = true ∨ k = 13) := fun as S P h => by
  obtain ⟨_, _, _, rfl, _⟩ := o3_ok h
  exact ⟨_, _, _, rfl, rfl, Or.inl rfl⟩
theorem vc_X6_greatestAnew : ∀ (G : Gt) (Q : Out → Sto → Prop) (as : List AV) (S : Sto), s_X6_greatestAnew as S Q → Seg tb_X6_greatestAnew G Q 1 2 [] (0, fun _ => 0) → G 0 (argL as 4) [] S 0 := by
  intro G Q as S h hs
  obtain ⟨d, r, isM, rfl, hW, h0, h1⟩ := o3_ok h
  have w13 := hW.1
  refine hs [] 90 0 _ _ _ _ ?_
  refine ⟨rfl, by omega, fun q => h0 fun z => z.1.1 q, fun q => ⟨fun q' => ?_, fun q' => h0 fun z => q' z.1.2⟩⟩
  refine ⟨rfl, by omega, Int32.not_lt.mp q, q', ?_⟩
  refine ⟨rfl, by omega, fun a1 => h0 fun z => z.2.1 a1, fun a1 => ⟨fun a2 => ?_, fun a2 => h0 fun z => a2 z.2.2⟩⟩
  refine ⟨rfl, by omega, Int32.not_lt.mp a1, a2, ?_⟩
  exact ⟨rfl, rfl, hW, nm_lt ⟨q, q'⟩ (by have := hW.2.1.1; omega), nm_lt ⟨a1, a2⟩ (by have := hW.2.1.2.2.1; omega), h1 ⟨⟨q, q'⟩, ⟨a1, a2⟩⟩⟩
theorem ct_X6_greatestAnew {l : Launch} (hl : l.stackTraces = false) (hNL : NewL l) : CT l yX6_greatestAnew cX6_greatestAnew 4 (some .int) 4 2 s_X6_greatestAnew := CT_of hl hNL (by decide +kernel) (own := "HeavyHaul") rfl (ini := false) (fun q => nomatch q) chk_X6_greatestAnew (cal_X6_greatestAnew hl hNL) ar_X6_greatestAnew vc_X6_greatestAnew
def s_X6_authority : SP := fun as S Q => o3 0 as fun a n x => (¬ nm a 4 → Q (Sum.inr 0) S) ∧ (nm a 4 → ¬ (rg n 0 999 ∧ rg x 1 99999) → Q (Sum.inr 1) S) ∧ (nm a 4 → rg n 0 999 ∧ rg x 1 99999 → Q (Sum.inl none) (wrI (wrI S 10 0 a.toNatClampNeg n) 10 1 a.toNatClampNeg x))
def tb_X6_authority : Tb := [(0, .iload_n 1, 1, x0), (1, .iconst 4, 1, xI (4)), (2, .invokestatic 53, 3, xS 2 1 s_X6_needNumber), (5, .iload_n 2, 1, x0), (6, .iconst 0, 1, xI (0)), (7, .sipush 999, 3, xI (999)), (10, .invokestatic 64, 3, xS 3 1 s_X6_needRange), (13, .iload_n 3, 1, x0), (14, .iconst 1, 1, xI (1)), (15, .ldc 46, 2, xC 0 0 99999 [93]), (17, .invokestatic 64, 3, xS 3 1 s_X6_needRange), (20, .aload_n 0, 1, x0), (21, .getfield 13, 3, xF 7 1 [98]), (24, .iload_n 1, 1, x0), (25, .iload_n 2, 1, x0), (26, .iastore, 1, x0), (27, .aload_n 0, 1, x0), (28, .getfield 17, 3, xF 7 2 [99]), (31, .iload_n 1, 1, x0), (32, .iload_n 3, 1, x0), (33, .iastore, 1, x0), (34, .return_, 1, x0)]
theorem chk_X6_authority : chkTb cX6_authority "HeavyHaul" false tb_X6_authority = true := by decide +kernel
theorem cal_X6_authority {l : Launch} (hl : l.stackTraces = false) (hNL : NewL l) : CallsOK l "HeavyHaul" 1 tb_X6_authority := callsOK_f ⟨⟨_, _, 2, 0, _, (ct_X6_needNumber hl hNL), ⟨List.mem_of_getElem? (i := 144) (by decide +kernel), List.mem_of_getElem? (i := 26) (by decide +kernel), List.mem_of_getElem? (i := 142) (by decide +kernel), ⟨by decide +kernel, by decide +kernel⟩, by decide +kernel, by decide⟩, List.mem_of_getElem? (i := 143) (by decide +kernel), by decide⟩, ⟨_, _, 3, 0, _, (ct_X6_needRange hl hNL), ⟨List.mem_of_getElem? (i := 231) (by decide +kernel), List.mem_of_getElem? (i := 26) (by decide +kernel), List.mem_of_getElem? (i := 229) (by decide +kernel), ⟨by decide +kernel, by decide +kernel⟩, by decide +kernel, by decide⟩, List.mem_of_getElem? (i := 230) (by decide +kernel), by decide⟩, ⟨_, _, 3, 0, _, (ct_X6_needRange hl hNL), ⟨List.mem_of_getElem? (i := 231) (by decide +kernel), List.mem_of_getElem? (i := 26) (by decide +kernel), List.mem_of_getElem? (i := 229) (by decide +kernel), ⟨by decide +kernel, by decide +kernel⟩, by decide +kernel, by decide⟩, List.mem_of_getElem? (i := 230) (by decide +kernel), by decide⟩, trivial⟩
theorem ar_X6_authority : ∀ as S P, s_X6_authority as S P → as.length ≤ 4 ∧ ∀ a ∈ as, catV a = 1 := fun as S P h => by
  obtain ⟨_, _, _, rfl, _⟩ := o3_ok h
  exact ar_all ⟨Nat.le_of_ble_eq_true rfl, rfl⟩
theorem rc_X6_authority : ∀ as S P, s_X6_authority as S P → ∃ k i r, as = aR k i :: r ∧ ci k = 7 ∧ (obK k = true ∨ k = 13) := fun as S P h => by
  obtain ⟨_, _, _, rfl, _⟩ := o3_ok h
  exact ⟨_, _, _, rfl, rfl, Or.inl rfl⟩
theorem vc_X6_authority : ∀ (G : Gt) (Q : Out → Sto → Prop) (as : List AV) (S : Sto), s_X6_authority as S Q → Seg tb_X6_authority G Q 0 3 [] (0, fun _ => 0) → G 0 (argL as 4) [] S 0 := by
  intro G Q as S h hs
  obtain ⟨a, n, x, rfl, h0, h1, h2⟩ := o3_ok h
  refine hs [] 90 0 _ _ _ _ ?_
  refine ⟨fun q => h0 fun z => z.1 q, fun q => ⟨fun q' => ?_, fun q' => h0 fun z => q' z.2⟩⟩
  have hk : nm a 4 := ⟨q, q'⟩
  have hp : a.toNatClampNeg < 4 := nm_lt (n := 4) hk (by omega)
  refine ⟨fun a1 => h1 hk fun z => z.1.1 a1, fun a1 => ⟨fun a2 => ?_, fun a2 => h1 hk fun z => a2 z.1.2⟩⟩
  refine ⟨fun b1 => h1 hk fun z => z.2.1 b1, fun b1 => ⟨fun b2 => ?_, fun b2 => h1 hk fun z => b2 z.2.2⟩⟩
  exact ⟨fun z => z.elim q fun z => absurd hp (Nat.not_lt.mpr z), fun z => z.elim q fun z => absurd hp (Nat.not_lt.mpr z), h2 hk ⟨⟨a1, a2⟩, ⟨b1, b2⟩⟩⟩
theorem ct_X6_authority {l : Launch} (hl : l.stackTraces = false) (hNL : NewL l) : CT l yX6_authority cX6_authority 4 none 1 3 s_X6_authority := CT_of hl hNL (by decide +kernel) (own := "HeavyHaul") rfl (ini := false) (fun q => nomatch q) chk_X6_authority (cal_X6_authority hl hNL) ar_X6_authority vc_X6_authority
def knY (S : Sto) (r d : Int32) : Prop := nm r (nI (S.2.2 22)) ∧ nm d (nI (S.2.2 20))
def s_X6_why : SP := fun as S Q => o3 0 as fun r d t => WfH S ∧ (¬ knY S r d → Q (Sum.inr 0) S) ∧ (knY S r d → ¬ rg t 0 9999 → Q (Sum.inr 1) S) ∧ (knY S r d → rg t 0 9999 → Q (Sum.inl (some (aI (reasonH S r d t)))) S)
def tb_X6_why : Tb := [(0, .iload_n 1, 1, x0), (1, .aload_n 0, 1, x0), (2, .getfield 30, 3, xF 7 5 [102]), (5, .invokevirtual 68, 3, xS 1 0 s_Jx4a65c_size_8abf5), (8, .invokestatic 53, 3, xS 2 1 s_X6_needNumber), (11, .iload_n 2, 1, x0), (12, .aload_n 0, 1, x0), (13, .getfield 23, 3, xF 7 3 [100]), (16, .invokevirtual 68, 3, xS 1 0 s_Jx4a65c_size_8abf5), (19, .invokestatic 53, 3, xS 2 1 s_X6_needNumber), (22, .iload_n 3, 1, x0), (23, .iconst 0, 1, xI (0)), (24, .sipush 9999, 3, xI (9999)), (27, .invokestatic 64, 3, xS 3 1 s_X6_needRange), (30, .aload_n 0, 1, x0), (31, .iload_n 1, 1, x0), (32, .iload_n 2, 1, x0), (33, .iload_n 3, 1, x0), (34, .invokevirtual 165, 3, xS 4 0 s_X6_reasonAgainst), (37, .ireturn, 1, x0)]
theorem chk_X6_why : chkTb cX6_why "HeavyHaul" false tb_X6_why = true := by decide +kernel
theorem cal_X6_why {l : Launch} (hl : l.stackTraces = false) (hNL : NewL l) : CallsOK l "HeavyHaul" 6 tb_X6_why := callsOK_f ⟨⟨_, _, 1, 0, _, 0, (ct_Jx4a65c_size_8abf5 hl hNL), ⟨List.mem_of_getElem? (i := 236) (by decide +kernel), List.mem_of_getElem? (i := 29) (by decide +kernel), List.mem_of_getElem? (i := 233) (by decide +kernel), ⟨by decide +kernel, by decide +kernel⟩, by decide +kernel, by decide⟩, List.mem_of_getElem? (i := 234) (by decide +kernel), List.mem_of_getElem? (i := 235) (by decide +kernel), by decide, by decide, rc_Jx4a65c_size_8abf5⟩, ⟨_, _, 2, 0, _, (ct_X6_needNumber hl hNL), ⟨List.mem_of_getElem? (i := 144) (by decide +kernel), List.mem_of_getElem? (i := 26) (by decide +kernel), List.mem_of_getElem? (i := 142) (by decide +kernel), ⟨by decide +kernel, by decide +kernel⟩, by decide +kernel, by decide⟩, List.mem_of_getElem? (i := 143) (by decide +kernel), by decide⟩, ⟨_, _, 1, 0, _, 0, (ct_Jx4a65c_size_8abf5 hl hNL), ⟨List.mem_of_getElem? (i := 236) (by decide +kernel), List.mem_of_getElem? (i := 29) (by decide +kernel), List.mem_of_getElem? (i := 233) (by decide +kernel), ⟨by decide +kernel, by decide +kernel⟩, by decide +kernel, by decide⟩, List.mem_of_getElem? (i := 234) (by decide +kernel), List.mem_of_getElem? (i := 235) (by decide +kernel), by decide, by decide, rc_Jx4a65c_size_8abf5⟩, ⟨_, _, 2, 0, _, (ct_X6_needNumber hl hNL), ⟨List.mem_of_getElem? (i := 144) (by decide +kernel), List.mem_of_getElem? (i := 26) (by decide +kernel), List.mem_of_getElem? (i := 142) (by decide +kernel), ⟨by decide +kernel, by decide +kernel⟩, by decide +kernel, by decide⟩, List.mem_of_getElem? (i := 143) (by decide +kernel), by decide⟩, ⟨_, _, 3, 0, _, (ct_X6_needRange hl hNL), ⟨List.mem_of_getElem? (i := 231) (by decide +kernel), List.mem_of_getElem? (i := 26) (by decide +kernel), List.mem_of_getElem? (i := 229) (by decide +kernel), ⟨by decide +kernel, by decide +kernel⟩, by decide +kernel, by decide⟩, List.mem_of_getElem? (i := 230) (by decide +kernel), by decide⟩, ⟨_, _, 6, 5, _, 7, (ct_X6_reasonAgainst hl hNL), ⟨List.mem_of_getElem? (i := 617) (by decide +kernel), List.mem_of_getElem? (i := 26) (by decide +kernel), List.mem_of_getElem? (i := 614) (by decide +kernel), ⟨by decide +kernel, by decide +kernel⟩, by decide +kernel, by decide⟩, List.mem_of_getElem? (i := 616) (by decide +kernel), List.mem_of_getElem? (i := 9) (by decide +kernel), by decide, by decide, rc_X6_reasonAgainst⟩, trivial⟩
theorem ar_X6_why : ∀ as S P, s_X6_why as S P → as.length ≤ 4 ∧ ∀ a ∈ as, catV a = 1 := fun as S P h => by
  obtain ⟨_, _, _, rfl, _⟩ := o3_ok h
  exact ar_all ⟨Nat.le_of_ble_eq_true rfl, rfl⟩
theorem rc_X6_why : ∀ as S P, s_X6_why as S P → ∃ k i r, as = aR k i :: r ∧ ci k = 7 ∧ (obK k = true ∨ k = 13) := fun as S P h => by
  obtain ⟨_, _, _, rfl, _⟩ := o3_ok h
  exact ⟨_, _, _, rfl, rfl, Or.inl rfl⟩
theorem vc_X6_why : ∀ (G : Gt) (Q : Out → Sto → Prop) (as : List AV) (S : Sto), s_X6_why as S Q → Seg tb_X6_why G Q 1 3 [] (0, fun _ => 0) → G 0 (argL as 4) [] S 0 := by
  intro G Q as S h hs
  obtain ⟨r, d, t, rfl, hW, h0, h1, h2⟩ := o3_ok h
  have w13 := hW.1
  refine hs [] 90 0 _ _ _ _ ?_
  refine ⟨rfl, by omega, fun q => h0 fun z => z.1.1 q, fun q => ⟨fun q' => ?_, fun q' => h0 fun z => q' z.1.2⟩⟩
  refine ⟨rfl, by omega, fun p => h0 fun z => z.2.1 p, fun p => ⟨fun p' => ?_, fun p' => h0 fun z => p' z.2.2⟩⟩
  have hk : knY S r d := ⟨⟨q, q'⟩, ⟨p, p'⟩⟩
  refine ⟨fun a1 => h1 hk fun z => z.1 a1, fun a1 => ⟨fun a2 => ?_, fun a2 => h1 hk fun z => a2 z.2⟩⟩
  exact ⟨rfl, rfl, hW, nm_in ⟨q, q'⟩, nm_in ⟨p, p'⟩, h2 hk ⟨a1, a2⟩⟩
theorem ct_X6_why {l : Launch} (hl : l.stackTraces = false) (hNL : NewL l) : CT l yX6_why cX6_why 4 (some .int) 6 3 s_X6_why := CT_of hl hNL (by decide +kernel) (own := "HeavyHaul") rfl (ini := false) (fun q => nomatch q) chk_X6_why (cal_X6_why hl hNL) ar_X6_why vc_X6_why
