/-! THE MODEL's PUBLIC METHODS: its checks -/
def lastS (S : Sto) (v : Int32) : Sto := wrI S 1 37 0 v
theorem isN_ok {v : Int32} {n : Nat} (hn : n ≤ 1000) : (¬ v < 0 ∧ v ≤ nI n - 1) ↔ nm v (nI n) := by
  constructor
  · intro h
    refine ⟨h.1, ?_⟩
    have h1 := Int32.le_iff_toInt_le.mp h.2
    rw [Int32.lt_iff_toInt_lt, nI_toInt (by omega)]
    have e : (nI n - 1).toInt = (n : Int) - 1 := sub_int (nI_toInt (by omega)) rfl (by omega) (by omega)
    rw [e] at h1
    omega
  · intro h
    refine ⟨h.1, ?_⟩
    have h1 := Int32.lt_iff_toInt_lt.mp h.2
    rw [nI_toInt (by omega)] at h1
    rw [Int32.le_iff_toInt_le]
    have e : (nI n - 1).toInt = (n : Int) - 1 := sub_int (nI_toInt (by omega)) rfl (by omega) (by omega)
    rw [e]
    omega
/-! answers as decisions -/
noncomputable def dP (c : Prop) : Bool := @decide c (Classical.propDecidable c)
theorem dP_t {c : Prop} (h : c) : dP c = true := @decide_eq_true c (Classical.propDecidable c) h
theorem dP_f {c : Prop} (h : ¬ c) : dP c = false := @decide_eq_false c (Classical.propDecidable c) h
theorem dz_eq {c : Prop} {A B : Prop} (h0 : ¬ c → A) (h1 : c → B) : (bV (dP c) = 0 → A) ∧ (¬ bV (dP c) = 0 → B) := by
  by_cases h : c
  · rw [dP_t h]
    exact ⟨fun z => absurd z (by decide), fun _ => h1 h⟩
  · rw [dP_f h]
    exact ⟨fun _ => h0 h, fun z => absurd rfl z⟩
theorem dz_ne {c : Prop} {A B : Prop} (h0 : ¬ c → A) (h1 : c → B) : (¬ bV (dP c) = 0 → B) ∧ (bV (dP c) = 0 → A) := ⟨(dz_eq h0 h1).2, (dz_eq h0 h1).1⟩
def i1s (as : List AV) (f : Int32 → Prop) : Prop := match as with
  | [Sum.inl a] => f a
  | _ => False
def i2s (as : List AV) (f : Int32 → Int32 → Prop) : Prop := match as with
  | [Sum.inl a, Sum.inl b] => f a b
  | _ => False
def i3s (as : List AV) (f : Int32 → Int32 → Int32 → Prop) : Prop := match as with
  | [Sum.inl a, Sum.inl b, Sum.inl c] => f a b c
  | _ => False
theorem i1s_ok {as : List AV} {f : Int32 → Prop} (h : i1s as f) : ∃ a, as = [aI a] ∧ f a := by
  unfold i1s at h
  split at h
  · exact ⟨_, rfl, h⟩
  · exact h.elim
theorem i2s_ok {as : List AV} {f : Int32 → Int32 → Prop} (h : i2s as f) : ∃ a b, as = [aI a, aI b] ∧ f a b := by
  unfold i2s at h
  split at h
  · exact ⟨_, _, rfl, h⟩
  · exact h.elim
theorem i3s_ok {as : List AV} {f : Int32 → Int32 → Int32 → Prop} (h : i3s as f) : ∃ a b c, as = [aI a, aI b, aI c] ∧ f a b c := by
  unfold i3s at h
  split at h
  · exact ⟨_, _, _, rfl, h⟩
  · exact h.elim
theorem dP_1 {c : Prop} {P : Int32 → Prop} (h : c) (k : P (bV (dP c))) : P 1 := by
  rw [dP_t h] at k
  exact k
theorem dP_0 {c : Prop} {P : Int32 → Prop} (h : ¬ c) (k : P (bV (dP c))) : P 0 := by
  rw [dP_f h] at k
  exact k
def s_X7_inB : SP := vS fun as _ k => i3s as fun v a b => k (some (aI (bV (dP (rg v a b)))))
def tb_X7_inB : Tb := [(0, .iload_n 0, 1, x0), (1, .iload_n 1, 1, x0), (2, .if_icmp .lt 12, 3, xN 14), (5, .iload_n 0, 1, x0), (6, .iload_n 2, 1, x0), (7, .if_icmp .gt 7, 3, xN 14), (10, .iconst 1, 1, xI (1)), (11, .goto 4, 3, xN 15), (14, .iconst 0, 1, xI (0)), (15, .ireturn, 1, x0)]
theorem chk_X7_inB : chkTb cX7_in "HeavyHaulModel" false tb_X7_inB = true := by decide +kernel
theorem cal_X7_inB {l : Launch} (hl : l.stackTraces = false) (hNL : NewL l) : CallsOK l "HeavyHaulModel" 0 tb_X7_inB := callsOK_f trivial
theorem ar_X7_inB : ∀ as S P, s_X7_inB as S P → as.length ≤ 3 ∧ ∀ a ∈ as, catV a = 1 := fun as S P h => by
  obtain ⟨_, _, _, rfl, _⟩ := i3s_ok h
  exact ar_all ⟨Nat.le_of_ble_eq_true rfl, rfl⟩
theorem vc_X7_inB : ∀ (G : Gt) (Q : Out → Sto → Prop) (as : List AV) (S : Sto), s_X7_inB as S Q → Seg tb_X7_inB G Q 2 0 [] (0, fun _ => 0) → G 0 (argL as 3) [] S 0 := by
  intro G Q as S h hs
  obtain ⟨v, a, b, rfl, hQ⟩ := i3s_ok h
  have h0 : ¬ rg v a b → (0 : Int32) &&& 1 = 0 ∧ Q (Sum.inl (some (aI 0))) S := fun z => by
    rw [dP_f z] at hQ
    exact ⟨rfl, hQ⟩
  have h1 : rg v a b → (1 : Int32) &&& 1 = 1 ∧ Q (Sum.inl (some (aI 1))) S := fun z => by
    rw [dP_t z] at hQ
    exact ⟨rfl, hQ⟩
  refine hs [] 60 0 _ _ _ _ ?_
  exact ⟨fun q => h0 fun z => z.1 q, fun q => ⟨fun q' => h0 fun z => absurd q' (Int32.not_lt.mpr z.2), fun q' => h1 ⟨q, Int32.not_lt.mp q'⟩⟩⟩
theorem ct_X7_inB {l : Launch} (hl : l.stackTraces = false) (hNL : NewL l) : CT l yX7_in cX7_in 3 (some .boolean) 0 0 s_X7_inB := CT_of hl hNL (by decide +kernel) (own := "HeavyHaulModel") rfl (ini := false) (fun q => nomatch q) chk_X7_inB (cal_X7_inB hl hNL) ar_X7_inB vc_X7_inB
theorem rg_nm {v : Int32} {n : Nat} (hn : n ≤ 1000) : rg v 0 (nI n - 1) ↔ nm v (nI n) := isN_ok hn
theorem dP_c {c d : Prop} (h : c ↔ d) : dP c = dP d := by
  rw [propext h]
def s_X7_isPlaceB : SP := vS fun as _ k => i1s as fun v => k (some (aI (bV (dP (nm v 10)))))
def tb_X7_isPlaceB : Tb := [(0, .iload_n 0, 1, x0), (1, .iconst 0, 1, xI (0)), (2, .bipush 9, 2, xI (9)), (4, .invokestatic 109, 3, xS 3 0 s_X7_inB), (7, .ireturn, 1, x0)]
theorem chk_X7_isPlaceB : chkTb cX7_isPlace "HeavyHaulModel" false tb_X7_isPlaceB = true := by decide +kernel
theorem cal_X7_isPlaceB {l : Launch} (hl : l.stackTraces = false) (hNL : NewL l) : CallsOK l "HeavyHaulModel" 1 tb_X7_isPlaceB := callsOK_f ⟨⟨_, _, 3, 0, _, (ct_X7_inB hl hNL), ⟨List.mem_of_getElem? (i := 911) (by decide +kernel), List.mem_of_getElem? (i := 44) (by decide +kernel), List.mem_of_getElem? (i := 909) (by decide +kernel), ⟨by decide +kernel, by decide +kernel⟩, by decide +kernel, by decide⟩, List.mem_of_getElem? (i := 910) (by decide +kernel), by decide⟩, trivial⟩
theorem ar_X7_isPlaceB : ∀ as S P, s_X7_isPlaceB as S P → as.length ≤ 1 ∧ ∀ a ∈ as, catV a = 1 := fun as S P h => by
  obtain ⟨_, rfl, _⟩ := i1s_ok h
  exact ar_all ⟨Nat.le_of_ble_eq_true rfl, rfl⟩
theorem vc_X7_isPlaceB : ∀ (G : Gt) (Q : Out → Sto → Prop) (as : List AV) (S : Sto), s_X7_isPlaceB as S Q → Seg tb_X7_isPlaceB G Q 2 0 [] (0, fun _ => 0) → G 0 (argL as 1) [] S 0 := by
  intro G Q as S h hs
  obtain ⟨v, rfl, hQ⟩ := i1s_ok h
  have e : rg v 0 9 ↔ nm v 10 := rg_nm (n := 10) (by omega)
  rw [← dP_c e] at hQ
  refine hs [] 60 0 _ _ _ _ ?_
  exact ⟨bV_1 _, hQ⟩
theorem ct_X7_isPlaceB {l : Launch} (hl : l.stackTraces = false) (hNL : NewL l) : CT l yX7_isPlace cX7_isPlace 1 (some .boolean) 1 0 s_X7_isPlaceB := CT_of hl hNL (by decide +kernel) (own := "HeavyHaulModel") rfl (ini := false) (fun q => nomatch q) chk_X7_isPlaceB (cal_X7_isPlaceB hl hNL) ar_X7_isPlaceB vc_X7_isPlaceB
def s_X7_isAuthorityB : SP := vS fun as _ k => i1s as fun v => k (some (aI (bV (dP (nm v 4)))))
def tb_X7_isAuthorityB : Tb := [(0, .iload_n 0, 1, x0), (1, .iconst 0, 1, xI (0)), (2, .iconst 3, 1, xI (3)), (3, .invokestatic 109, 3, xS 3 0 s_X7_inB), (6, .ireturn, 1, x0)]
theorem chk_X7_isAuthorityB : chkTb cX7_isAuthority "HeavyHaulModel" false tb_X7_isAuthorityB = true := by decide +kernel
theorem cal_X7_isAuthorityB {l : Launch} (hl : l.stackTraces = false) (hNL : NewL l) : CallsOK l "HeavyHaulModel" 1 tb_X7_isAuthorityB := callsOK_f ⟨⟨_, _, 3, 0, _, (ct_X7_inB hl hNL), ⟨List.mem_of_getElem? (i := 911) (by decide +kernel), List.mem_of_getElem? (i := 44) (by decide +kernel), List.mem_of_getElem? (i := 909) (by decide +kernel), ⟨by decide +kernel, by decide +kernel⟩, by decide +kernel, by decide⟩, List.mem_of_getElem? (i := 910) (by decide +kernel), by decide⟩, trivial⟩
theorem ar_X7_isAuthorityB : ∀ as S P, s_X7_isAuthorityB as S P → as.length ≤ 1 ∧ ∀ a ∈ as, catV a = 1 := fun as S P h => by
  obtain ⟨_, rfl, _⟩ := i1s_ok h
  exact ar_all ⟨Nat.le_of_ble_eq_true rfl, rfl⟩
theorem vc_X7_isAuthorityB : ∀ (G : Gt) (Q : Out → Sto → Prop) (as : List AV) (S : Sto), s_X7_isAuthorityB as S Q → Seg tb_X7_isAuthorityB G Q 2 0 [] (0, fun _ => 0) → G 0 (argL as 1) [] S 0 := by
  intro G Q as S h hs
  obtain ⟨v, rfl, hQ⟩ := i1s_ok h
  have e : rg v 0 3 ↔ nm v 4 := rg_nm (n := 4) (by omega)
  rw [← dP_c e] at hQ
  refine hs [] 60 0 _ _ _ _ ?_
  exact ⟨bV_1 _, hQ⟩
theorem ct_X7_isAuthorityB {l : Launch} (hl : l.stackTraces = false) (hNL : NewL l) : CT l yX7_isAuthority cX7_isAuthority 1 (some .boolean) 1 0 s_X7_isAuthorityB := CT_of hl hNL (by decide +kernel) (own := "HeavyHaulModel") rfl (ini := false) (fun q => nomatch q) chk_X7_isAuthorityB (cal_X7_isAuthorityB hl hNL) ar_X7_isAuthorityB vc_X7_isAuthorityB
def s_X7_isRoadB : SP := vS fun as S k => o1 1 as fun v => ∃ n : Nat, S.1 1 12 0 = nI n ∧ n ≤ 1000 ∧ k (some (aI (bV (dP (nm v (nI n))))))
def tb_X7_isRoadB : Tb := [(0, .iload_n 1, 1, x0), (1, .iconst 0, 1, xI (0)), (2, .aload_n 0, 1, x0), (3, .getfield 113, 3, xF 8 12 [795]), (6, .iconst 1, 1, xI (1)), (7, .isub, 1, x0), (8, .invokestatic 109, 3, xS 3 0 s_X7_inB), (11, .ireturn, 1, x0)]
theorem chk_X7_isRoadB : chkTb cX7_isRoad "HeavyHaulModel" false tb_X7_isRoadB = true := by decide +kernel
theorem cal_X7_isRoadB {l : Launch} (hl : l.stackTraces = false) (hNL : NewL l) : CallsOK l "HeavyHaulModel" 1 tb_X7_isRoadB := callsOK_f ⟨⟨_, _, 3, 0, _, (ct_X7_inB hl hNL), ⟨List.mem_of_getElem? (i := 911) (by decide +kernel), List.mem_of_getElem? (i := 44) (by decide +kernel), List.mem_of_getElem? (i := 909) (by decide +kernel), ⟨by decide +kernel, by decide +kernel⟩, by decide +kernel, by decide⟩, List.mem_of_getElem? (i := 910) (by decide +kernel), by decide⟩, trivial⟩
theorem ar_X7_isRoadB : ∀ as S P, s_X7_isRoadB as S P → as.length ≤ 2 ∧ ∀ a ∈ as, catV a = 1 := fun as S P h => by
  obtain ⟨_, rfl, _⟩ := o1_ok h
  exact ar_all ⟨Nat.le_of_ble_eq_true rfl, rfl⟩
theorem rc_X7_isRoadB : ∀ as S P, s_X7_isRoadB as S P → ∃ k i r, as = aR k i :: r ∧ ci k = 8 ∧ (obK k = true ∨ k = 13) := fun as S P h => by
  obtain ⟨_, rfl, _⟩ := o1_ok h
  exact ⟨_, _, _, rfl, rfl, Or.inl rfl⟩
theorem vc_X7_isRoadB : ∀ (G : Gt) (Q : Out → Sto → Prop) (as : List AV) (S : Sto), s_X7_isRoadB as S Q → Seg tb_X7_isRoadB G Q 2 0 [] (0, fun _ => 0) → G 0 (argL as 2) [] S 0 := by
  intro G Q as S h hs
  obtain ⟨v, rfl, n, hn, hn2, hQ⟩ := o1_ok h
  rw [← dP_c (rg_nm hn2), ← hn] at hQ
  refine hs [] 60 0 _ _ _ _ ?_
  exact ⟨bV_1 _, hQ⟩
theorem ct_X7_isRoadB {l : Launch} (hl : l.stackTraces = false) (hNL : NewL l) : CT l yX7_isRoad cX7_isRoad 2 (some .boolean) 1 0 s_X7_isRoadB := CT_of hl hNL (by decide +kernel) (own := "HeavyHaulModel") rfl (ini := false) (fun q => nomatch q) chk_X7_isRoadB (cal_X7_isRoadB hl hNL) ar_X7_isRoadB vc_X7_isRoadB
def s_X7_isRigB : SP := vS fun as S k => o1 1 as fun v => ∃ n : Nat, S.1 1 28 0 = nI n ∧ n ≤ 1000 ∧ k (some (aI (bV (dP (nm v (nI n))))))
def tb_X7_isRigB : Tb := [(0, .iload_n 1, 1, x0), (1, .iconst 0, 1, xI (0)), (2, .aload_n 0, 1, x0), (3, .getfield 116, 3, xF 8 28 [811]), (6, .iconst 1, 1, xI (1)), (7, .isub, 1, x0), (8, .invokestatic 109, 3, xS 3 0 s_X7_inB), (11, .ireturn, 1, x0)]
theorem chk_X7_isRigB : chkTb cX7_isRig "HeavyHaulModel" false tb_X7_isRigB = true := by decide +kernel
theorem cal_X7_isRigB {l : Launch} (hl : l.stackTraces = false) (hNL : NewL l) : CallsOK l "HeavyHaulModel" 1 tb_X7_isRigB := callsOK_f ⟨⟨_, _, 3, 0, _, (ct_X7_inB hl hNL), ⟨List.mem_of_getElem? (i := 911) (by decide +kernel), List.mem_of_getElem? (i := 44) (by decide +kernel), List.mem_of_getElem? (i := 909) (by decide +kernel), ⟨by decide +kernel, by decide +kernel⟩, by decide +kernel, by decide⟩, List.mem_of_getElem? (i := 910) (by decide +kernel), by decide⟩, trivial⟩
theorem ar_X7_isRigB : ∀ as S P, s_X7_isRigB as S P → as.length ≤ 2 ∧ ∀ a ∈ as, catV a = 1 := fun as S P h => by
  obtain ⟨_, rfl, _⟩ := o1_ok h
  exact ar_all ⟨Nat.le_of_ble_eq_true rfl, rfl⟩
theorem rc_X7_isRigB : ∀ as S P, s_X7_isRigB as S P → ∃ k i r, as = aR k i :: r ∧ ci k = 8 ∧ (obK k = true ∨ k = 13) := fun as S P h => by
  obtain ⟨_, rfl, _⟩ := o1_ok h
  exact ⟨_, _, _, rfl, rfl, Or.inl rfl⟩
theorem vc_X7_isRigB : ∀ (G : Gt) (Q : Out → Sto → Prop) (as : List AV) (S : Sto), s_X7_isRigB as S Q → Seg tb_X7_isRigB G Q 2 0 [] (0, fun _ => 0) → G 0 (argL as 2) [] S 0 := by
  intro G Q as S h hs
  obtain ⟨v, rfl, n, hn, hn2, hQ⟩ := o1_ok h
  rw [← dP_c (rg_nm hn2), ← hn] at hQ
  refine hs [] 60 0 _ _ _ _ ?_
  exact ⟨bV_1 _, hQ⟩
theorem ct_X7_isRigB {l : Launch} (hl : l.stackTraces = false) (hNL : NewL l) : CT l yX7_isRig cX7_isRig 2 (some .boolean) 1 0 s_X7_isRigB := CT_of hl hNL (by decide +kernel) (own := "HeavyHaulModel") rfl (ini := false) (fun q => nomatch q) chk_X7_isRigB (cal_X7_isRigB hl hNL) ar_X7_isRigB vc_X7_isRigB
def s_X7_areTensB : SP := vS fun as _ k => i2s as fun f t => k (some (aI (bV (dP (perF f t)))))
def tb_X7_areTensB : Tb := [(0, .iload_n 0, 1, x0), (1, .iconst 0, 1, xI (0)), (2, .sipush 9999, 3, xI (9999)), (5, .invokestatic 109, 3, xS 3 0 s_X7_inB), (8, .ifCond .eq 20, 3, xN 28), (11, .iload_n 1, 1, x0), (12, .iload_n 0, 1, x0), (13, .iconst 1, 1, xI (1)), (14, .iadd, 1, x0), (15, .sipush 9999, 3, xI (9999)), (18, .invokestatic 109, 3, xS 3 0 s_X7_inB), (21, .ifCond .eq 7, 3, xN 28), (24, .iconst 1, 1, xI (1)), (25, .goto 4, 3, xN 29), (28, .iconst 0, 1, xI (0)), (29, .ireturn, 1, x0)]
theorem chk_X7_areTensB : chkTb cX7_areTens "HeavyHaulModel" false tb_X7_areTensB = true := by decide +kernel
theorem cal_X7_areTensB {l : Launch} (hl : l.stackTraces = false) (hNL : NewL l) : CallsOK l "HeavyHaulModel" 1 tb_X7_areTensB := callsOK_f ⟨⟨_, _, 3, 0, _, (ct_X7_inB hl hNL), ⟨List.mem_of_getElem? (i := 911) (by decide +kernel), List.mem_of_getElem? (i := 44) (by decide +kernel), List.mem_of_getElem? (i := 909) (by decide +kernel), ⟨by decide +kernel, by decide +kernel⟩, by decide +kernel, by decide⟩, List.mem_of_getElem? (i := 910) (by decide +kernel), by decide⟩, ⟨_, _, 3, 0, _, (ct_X7_inB hl hNL), ⟨List.mem_of_getElem? (i := 911) (by decide +kernel), List.mem_of_getElem? (i := 44) (by decide +kernel), List.mem_of_getElem? (i := 909) (by decide +kernel), ⟨by decide +kernel, by decide +kernel⟩, by decide +kernel, by decide⟩, List.mem_of_getElem? (i := 910) (by decide +kernel), by decide⟩, trivial⟩
theorem ar_X7_areTensB : ∀ as S P, s_X7_areTensB as S P → as.length ≤ 2 ∧ ∀ a ∈ as, catV a = 1 := fun as S P h => by
  obtain ⟨_, _, rfl, _⟩ := i2s_ok h
  exact ar_all ⟨Nat.le_of_ble_eq_true rfl, rfl⟩
theorem vc_X7_areTensB : ∀ (G : Gt) (Q : Out → Sto → Prop) (as : List AV) (S : Sto), s_X7_areTensB as S Q → Seg tb_X7_areTensB G Q 2 0 [] (0, fun _ => 0) → G 0 (argL as 2) [] S 0 := by
  intro G Q as S h hs
  obtain ⟨f, t, rfl, hQ⟩ := i2s_ok h
  have h0 : ¬ perF f t → (0 : Int32) &&& 1 = 0 ∧ Q (Sum.inl (some (aI 0))) S := fun z => by
    rw [dP_f z] at hQ
    exact ⟨rfl, hQ⟩
  have h1 : perF f t → (1 : Int32) &&& 1 = 1 ∧ Q (Sum.inl (some (aI 1))) S := fun z => by
    rw [dP_t z] at hQ
    exact ⟨rfl, hQ⟩
  refine hs [] 60 0 _ _ _ _ ?_
  exact dz_eq (fun q => h0 fun z => q z.1) (fun q => dz_eq (fun q' => h0 fun z => q' z.2) (fun q' => h1 ⟨q, q'⟩))
theorem ct_X7_areTensB {l : Launch} (hl : l.stackTraces = false) (hNL : NewL l) : CT l yX7_areTens cX7_areTens 2 (some .boolean) 1 0 s_X7_areTensB := CT_of hl hNL (by decide +kernel) (own := "HeavyHaulModel") rfl (ini := false) (fun q => nomatch q) chk_X7_areTensB (cal_X7_areTensB hl hNL) ar_X7_areTensB vc_X7_areTensB
def s_X7_goesB : SP := fun as S Q => o3 1 as fun a b c => ∃ p q r : Bool, a = bV p ∧ b = bV q ∧ c = bV r ∧ (p = false → Q (Sum.inl (some (aI 0))) (lastS S 1)) ∧ (p = true → q = false → Q (Sum.inl (some (aI 0))) (lastS S 2)) ∧ (p = true → q = true → r = false → Q (Sum.inl (some (aI 0))) (lastS S 3)) ∧ (p = true → q = true → r = true → Q (Sum.inl (some (aI 1))) (lastS S 0))
def tb_X7_goesB : Tb := [(0, .aload_n 0, 1, x0), (1, .iload_n 1, 1, x0), (2, .ifCond .ne 7, 3, xN 9), (5, .iconst 1, 1, xI (1)), (6, .goto 20, 3, xN 26), (9, .iload_n 2, 1, x0), (10, .ifCond .ne 7, 3, xN 17), (13, .iconst 2, 1, xI (2)), (14, .goto 12, 3, xN 26), (17, .iload_n 3, 1, x0), (18, .ifCond .eq 7, 3, xN 25), (21, .iconst 0, 1, xI (0)), (22, .goto 4, 3, xN 26), (25, .iconst 3, 1, xI (3)), (26, .putfield 105, 3, xF 8 37 [820]), (29, .aload_n 0, 1, x0), (30, .getfield 105, 3, xF 8 37 [820]), (33, .ifCond .ne 7, 3, xN 40), (36, .iconst 1, 1, xI (1)), (37, .goto 4, 3, xN 41), (40, .iconst 0, 1, xI (0)), (41, .ireturn, 1, x0)]
theorem chk_X7_goesB : chkTb cX7_goes "HeavyHaulModel" false tb_X7_goesB = true := by decide +kernel
theorem cal_X7_goesB {l : Launch} (hl : l.stackTraces = false) (hNL : NewL l) : CallsOK l "HeavyHaulModel" 0 tb_X7_goesB := callsOK_f trivial
theorem ar_X7_goesB : ∀ as S P, s_X7_goesB as S P → as.length ≤ 4 ∧ ∀ a ∈ as, catV a = 1 := fun as S P h => by
  obtain ⟨_, _, _, rfl, _⟩ := o3_ok h
  exact ar_all ⟨Nat.le_of_ble_eq_true rfl, rfl⟩
theorem rc_X7_goesB : ∀ as S P, s_X7_goesB as S P → ∃ k i r, as = aR k i :: r ∧ ci k = 8 ∧ (obK k = true ∨ k = 13) := fun as S P h => by
  obtain ⟨_, _, _, rfl, _⟩ := o3_ok h
  exact ⟨_, _, _, rfl, rfl, Or.inl rfl⟩
theorem vc_X7_goesB : ∀ (G : Gt) (Q : Out → Sto → Prop) (as : List AV) (S : Sto), s_X7_goesB as S Q → Seg tb_X7_goesB G Q 2 0 [] (0, fun _ => 0) → G 0 (argL as 4) [] S 0 := by
  intro G Q as S h hs
  obtain ⟨a, b, c, rfl, p, q, r, rfl, rfl, rfl, h1, h2, h3, h4⟩ := o3_ok h
  have b0 : ∀ z : Bool, bV z = 0 → z = false := by decide
  have b1 : ∀ z : Bool, ¬ bV z = 0 → z = true := by decide
  refine hs [] 60 0 _ _ _ _ ?_
  refine ⟨fun z => ⟨fun y => ⟨fun x => ⟨fun _ => ⟨rfl, h3 (b1 _ z) (b1 _ y) (b0 _ x)⟩, fun w => absurd (show (3 : Int32) = 0 from w) (by decide)⟩, fun x => ⟨fun w => absurd (show (0 : Int32) = 0 from rfl) w, fun _ => ⟨rfl, h4 (b1 _ z) (b1 _ y) (b1 _ x)⟩⟩⟩, fun y => ⟨fun _ => ⟨rfl, h2 (b1 _ z) (b0 _ y)⟩, fun w => absurd (show (2 : Int32) = 0 from w) (by decide)⟩⟩, fun z => ⟨fun _ => ⟨rfl, h1 (b0 _ z)⟩, fun w => absurd (show (1 : Int32) = 0 from w) (by decide)⟩⟩
theorem ct_X7_goesB {l : Launch} (hl : l.stackTraces = false) (hNL : NewL l) : CT l yX7_goes cX7_goes 4 (some .boolean) 0 0 s_X7_goesB := CT_of hl hNL (by decide +kernel) (own := "HeavyHaulModel") rfl (ini := false) (fun q => nomatch q) chk_X7_goesB (cal_X7_goesB hl hNL) ar_X7_goesB vc_X7_goesB
