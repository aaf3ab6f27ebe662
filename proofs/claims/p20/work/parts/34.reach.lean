/-! WHERE A RIG CAN BE -/
/-- the places for each ten, step by step -/
def tabG (bay : Nat → Bool) (on ot tn : Nat → Nat) (op : Nat → Nat → Bool) (nr fr : Nat) : Nat → Nat → Nat → Bool
  | 0, g, p => decide (g = 0) && decide (p = fr)
  | n + 1, g, p => (tabG bay on ot tn op nr fr n g p || (decide (g = n + 1) && (tabG bay on ot tn op nr fr n n p && bay p))) || anyN (fun i => ((tabG bay on ot tn op nr fr n n (on i) && decide (p = ot i)) || (tabG bay on ot tn op nr fr n n (ot i) && decide (p = on i))) && (op i n && decide (g = n + tn i))) nr
def fstF (f : Nat → Bool) (ten : Int32) : Nat → Nat → Int32
  | 0, _ => -1
  | m + 1, k => if f k = true then ten + nI k else fstF f ten m (k + 1)
/-- only the class's own marks change -/
def onlyR (S S' : Sto) : Prop := S'.2 = S.2 ∧ ∀ k f i, ¬ (k = 10 ∧ f = 2) → S'.1 k f i = S.1 k f i
theorem onlyR.rf {S : Sto} : onlyR S S := ⟨rfl, fun _ _ _ _ => rfl⟩
theorem onlyR.tr {S S1 S2 : Sto} (h : onlyR S S1) (h2 : onlyR S1 S2) : onlyR S S2 := ⟨h2.1.trans h.1, fun k f i q => (h2.2 k f i q).trans (h.2 k f i q)⟩
theorem onlyR.wr {S : Sto} {i : Nat} {v : Int32} : onlyR S (wrI S 10 2 i v) := ⟨rfl, fun k f j q => wrI_ne fun z => q ⟨z.1, z.2.1⟩⟩
theorem onlyR.k {S S' : Sto} (h : onlyR S S') (k : Nat) (hk : k ≠ 10) : S'.1 k = S.1 k := by
  funext f i
  exact h.2 k f i fun q => hk q.1
theorem onlyR.a {S S' : Sto} (h : onlyR S S') (f : Nat) (hk : f ≠ 2) : S'.1 10 f = S.1 10 f := by
  funext i
  exact h.2 10 f i fun q => hk q.2
theorem onlyR.wf {S S' : Sto} (h : onlyR S S') (hW : WfH S) : WfH S' := by
  unfold WfH RoF RiF at hW ⊢
  rw [h.1, h.k 2 (by decide), h.k 3 (by decide), h.k 4 (by decide), h.k 5 (by decide), h.k 6 (by decide)]
  exact hW
theorem onlyR.op {S S' : Sto} (h : onlyR S S') (r d t : Int32) : openH S' r d t = openH S r d t := by
  unfold openH sizeH leaveH gwH gainH permH embH
  rw [h.1, h.k 2 (by decide), h.k 3 (by decide), h.k 4 (by decide), h.k 5 (by decide), h.k 6 (by decide), h.k 7 (by decide), h.k 8 (by decide), h.k 9 (by decide)]
theorem onlyR.la {S S' : Sto} (h : onlyR S S') (j i : Nat) : lastH S' j i = lastH S j i := by
  unfold lastH borneH heavH greatH lastN sumH
  rw [h.k 2 (by decide), h.k 4 (by decide), h.a 1 (by decide)]
def onN (S : Sto) (i : Nat) : Nat := (S.1 2 0 i).toNatClampNeg
def otN (S : Sto) (i : Nat) : Nat := (S.1 2 1 i).toNatClampNeg
def tnN (S : Sto) (i : Nat) : Nat := (S.1 2 6 i).toNatClampNeg
theorem ro_N {S : Sto} (hW : WfH S) {i : Nat} (hi : i < S.2.2 20) : S.1 2 0 i = nI (onN S i) ∧ S.1 2 1 i = nI (otN S i) ∧ S.1 2 6 i = nI (tnN S i) ∧ onN S i < 10 ∧ otN S i < 10 ∧ onN S i ≠ otN S i ∧ 1 ≤ tnN S i ∧ tnN S i ≤ 9 := by
  obtain ⟨p, q, a, t, s, h1, h2, -, h4, -, h6, h7, h8, -, h9, h10, -⟩ := hW.2.2.2.2.2.2.1 i hi
  have e1 : onN S i = p := by unfold onN; rw [h1]; exact nI_cl (by omega)
  have e2 : otN S i = q := by unfold otN; rw [h2]; exact nI_cl (by omega)
  have e3 : tnN S i = t := by unfold tnN; rw [h4]; exact nI_cl (by omega)
  rw [e1, e2, e3]
  exact ⟨h1, h2, h4, h6, h7, h8, h9, h10⟩
/-- the marks of one drive's road -/
def beyN (S : Sto) (i : Nat) (hr : Nat → Bool) (p : Nat) : Bool := (hr (onN S i) && decide (p = otN S i)) || (hr (otN S i) && decide (p = onN S i))
def stpN (S : Sto) (rig fit first : Int32) (hr : Nat → Bool) (gone g p n : Nat) : Bool := anyN (fun i => beyN S i hr p && ((bit fit i && openH S rig (nI i) (first + nI gone)) && decide (g = gone + tnN S i))) n
def s_X6_driveOn : SP := fun as S Q => o5 0 as fun rig fit here first gone => WfH S ∧ inN rig (S.2.2 22) ∧ ∃ gn : Nat, gone = nI gn ∧ gn < 288 ∧
  ∀ S', onlyR S S' → (∀ g p, g < 288 → p < 10 → bit (S'.1 10 2 g) p = (bit (S.1 10 2 g) p || stpN S rig fit first (bit here) gn g p (S.2.2 20))) → Q (Sum.inl none) S'
/-- a road and places -/
def rI (as : List AV) (f : Nat → Int32 → Prop) : Prop := match as with
  | [Sum.inr (Sum.inr (k, i)), Sum.inl a] => k = 2 ∧ f i a
  | _ => False
theorem rI_ok {as : List AV} {f : Nat → Int32 → Prop} (h : rI as f) : ∃ i a, as = [aR 2 i, aI a] ∧ f i a := by
  unfold rI at h
  split at h
  · obtain ⟨rfl, h⟩ := h; exact ⟨_, _, rfl, h⟩
  · exact h.elim
def s_X6_placesBeyond : SP := vS fun as S k => rI as fun i here => WfH S ∧ i < S.2.2 20 ∧ ∀ b, (∀ p, p < 10 → bit b p = beyN S i (bit here) p) → k (some (aI b))
def tb_X6_placesBeyond : Tb := [(0, .iconst 0, 1, xI (0)), (1, .istore_n 2, 1, x0), (2, .iload_n 1, 1, x0), (3, .aload_n 0, 1, x0), (4, .getfield 344, 3, xF 5 0 [263]), (7, .ishr, 1, x0), (8, .iconst 1, 1, xI (1)), (9, .iand, 1, x0), (10, .iconst 1, 1, xI (1)), (11, .if_icmp .ne 12, 3, xN 23), (14, .iload_n 2, 1, x0), (15, .iconst 1, 1, xI (1)), (16, .aload_n 0, 1, x0), (17, .getfield 345, 3, xF 5 1 [265]), (20, .ishl, 1, x0), (21, .ior, 1, x0), (22, .istore_n 2, 1, x0), (23, .iload_n 1, 1, x0), (24, .aload_n 0, 1, x0), (25, .getfield 345, 3, xF 5 1 [265]), (28, .ishr, 1, x0), (29, .iconst 1, 1, xI (1)), (30, .iand, 1, x0), (31, .iconst 1, 1, xI (1)), (32, .if_icmp .ne 12, 3, xN 44), (35, .iload_n 2, 1, x0), (36, .iconst 1, 1, xI (1)), (37, .aload_n 0, 1, x0), (38, .getfield 344, 3, xF 5 0 [263]), (41, .ishl, 1, x0), (42, .ior, 1, x0), (43, .istore_n 2, 1, x0), (44, .iload_n 2, 1, x0), (45, .ireturn, 1, x0)]
theorem chk_X6_placesBeyond : chkTb cX6_placesBeyond "HeavyHaul" false tb_X6_placesBeyond = true := by decide +kernel
theorem cal_X6_placesBeyond {l : Launch} (hl : l.stackTraces = false) (hNL : NewL l) : CallsOK l "HeavyHaul" 0 tb_X6_placesBeyond := callsOK_f trivial
theorem ar_X6_placesBeyond : ∀ as S P, s_X6_placesBeyond as S P → as.length ≤ 3 ∧ ∀ a ∈ as, catV a = 1 := fun as S P h => by
  obtain ⟨_, _, rfl, _⟩ := rI_ok h
  exact ar_all ⟨Nat.le_of_ble_eq_true rfl, rfl⟩
theorem vc_X6_placesBeyond : ∀ (G : Gt) (Q : Out → Sto → Prop) (as : List AV) (S : Sto), s_X6_placesBeyond as S Q → Seg tb_X6_placesBeyond G Q 1 0 [] (0, fun _ => 0) → G 0 (argL as 3) [] S 0 := by
  intro G Q as S h hs
  obtain ⟨i, here, rfl, hW, hi, hQ⟩ := rI_ok h
  obtain ⟨h1, h2, -, h4, h5, h6, -⟩ := ro_N hW hi
  have t1 : (here >>> (S.1 2 0 i &&& 31)) &&& 1 = 1 ↔ bit here (onN S i) = true := by rw [h1]; exact t_bit here _ (by omega)
  have t2 : (here >>> (S.1 2 1 i &&& 31)) &&& 1 = 1 ↔ bit here (otN S i) = true := by rw [h2]; exact t_bit here _ (by omega)
  have b1 : ∀ p, p < 10 → bit ((1 : Int32) <<< (S.1 2 0 i &&& 31)) p = decide (p = onN S i) := fun p hp => by rw [h1]; exact bit_1 _ (by omega) p (by omega)
  have b2 : ∀ p, p < 10 → bit ((1 : Int32) <<< (S.1 2 1 i &&& 31)) p = decide (p = otN S i) := fun p hp => by rw [h2]; exact bit_1 _ (by omega) p (by omega)
  have key : ∀ b x y, bit here (onN S i) = x → bit here (otN S i) = y → (∀ p, p < 10 → bit b p = ((x && decide (p = otN S i)) || (y && decide (p = onN S i)))) → Q (Sum.inl (some (aI b))) S := fun b x y hx hy hb => hQ b fun p hp => by
    unfold beyN
    rw [hb p hp, hx, hy]
  have nf : ∀ {q : Nat}, ¬ bit here q = true → bit here q = false := fun {q} z => by
    cases hh : bit here q with
    | true => exact absurd hh z
    | false => rfl
  refine hs [] 60 0 _ _ _ _ ?_
  refine ⟨fun z1 => ⟨fun z2 => ?_, fun z2 => ?_⟩, fun z1 => ⟨fun z2 => ?_, fun z2 => ?_⟩⟩
  · exact key _ false false (nf fun q => z1 (t1.mpr q)) (nf fun q => z2 (t2.mpr q)) fun p hp => by rw [bit_0]; rfl
  · exact key _ false true (nf fun q => z1 (t1.mpr q)) (t2.mp z2) fun p hp => by rw [bit_or, bit_0, b1 p hp]; simp
  · exact key _ true false (t1.mp z1) (nf fun q => z2 (t2.mpr q)) fun p hp => by rw [bit_or, bit_0, b2 p hp]; simp
  · exact key _ true true (t1.mp z1) (t2.mp z2) fun p hp => by rw [bit_or, bit_or, bit_0, b1 p hp, b2 p hp]; simp
theorem ct_X6_placesBeyond {l : Launch} (hl : l.stackTraces = false) (hNL : NewL l) : CT l yX6_placesBeyond cX6_placesBeyond 3 (some .int) 0 0 s_X6_placesBeyond := CT_of hl hNL (by decide +kernel) (own := "HeavyHaul") rfl (ini := false) (fun q => nomatch q) chk_X6_placesBeyond (cal_X6_placesBeyond hl hNL) ar_X6_placesBeyond vc_X6_placesBeyond
def rchS (S : Sto) (g : Nat) (v : Int32) : Sto := if g < 288 then wrI S 10 2 g (S.1 10 2 g ||| v) else S
def s_X6_reach : SP := fun as S Q => o2 0 as fun gone v => ∃ g : Nat, gone = nI g ∧ g < 1000 ∧ Q (Sum.inl none) (rchS S g v)
def tb_X6_reach : Tb := [(0, .iload_n 1, 1, x0), (1, .ifCond .lt 20, 3, xN 21), (4, .iload_n 1, 1, x0), (5, .sipush 288, 3, xI (288)), (8, .if_icmp .ge 13, 3, xN 21), (11, .aload_n 0, 1, x0), (12, .getfield 39, 3, xF 7 8 [105]), (15, .iload_n 1, 1, x0), (16, .dup2, 1, x0), (17, .iaload, 1, x0), (18, .iload_n 2, 1, x0), (19, .ior, 1, x0), (20, .iastore, 1, x0), (21, .return_, 1, x0)]
theorem chk_X6_reach : chkTb cX6_reach "HeavyHaul" false tb_X6_reach = true := by decide +kernel
theorem cal_X6_reach {l : Launch} (hl : l.stackTraces = false) (hNL : NewL l) : CallsOK l "HeavyHaul" 0 tb_X6_reach := callsOK_f trivial
theorem ar_X6_reach : ∀ as S P, s_X6_reach as S P → as.length ≤ 3 ∧ ∀ a ∈ as, catV a = 1 := fun as S P h => by
  obtain ⟨_, _, rfl, _⟩ := o2_ok h
  exact ar_all ⟨Nat.le_of_ble_eq_true rfl, rfl⟩
theorem rc_X6_reach : ∀ as S P, s_X6_reach as S P → ∃ k i r, as = aR k i :: r ∧ ci k = 7 ∧ (obK k = true ∨ k = 13) := fun as S P h => by
  obtain ⟨_, _, rfl, _⟩ := o2_ok h
  exact ⟨_, _, _, rfl, rfl, Or.inl rfl⟩
theorem vc_X6_reach : ∀ (G : Gt) (Q : Out → Sto → Prop) (as : List AV) (S : Sto), s_X6_reach as S Q → Seg tb_X6_reach G Q 0 0 [] (0, fun _ => 0) → G 0 (argL as 3) [] S 0 := by
  intro G Q as S h hs
  obtain ⟨gone, v, rfl, g, rfl, hg, hQ⟩ := o2_ok h
  unfold rchS at hQ
  have e9 : (288 : Int32) = nI 288 := rfl
  refine hs [] 60 0 _ _ _ _ ?_
  refine ⟨fun q => absurd q (nI_nn (by omega)), fun _ => ⟨fun q => ?_, fun q => ?_⟩⟩
  · rw [e9] at q
    rw [if_neg (by have := (nI_le2 (by omega) (by omega)).mp q; omega)] at hQ
    exact hQ
  · rw [e9] at q
    have hl : g < 288 := Nat.not_le.mp fun z => q ((nI_le2 (by omega) (by omega)).mpr z)
    rw [if_pos hl] at hQ
    refine ⟨nI_vin (by omega) hl, nI_vin (by omega) hl, ?_⟩
    rw [nI_cl (by omega)]
    exact hQ
theorem ct_X6_reach {l : Launch} (hl : l.stackTraces = false) (hNL : NewL l) : CT l yX6_reach cX6_reach 3 none 0 0 s_X6_reach := CT_of hl hNL (by decide +kernel) (own := "HeavyHaul") rfl (ini := false) (fun q => nomatch q) chk_X6_reach (cal_X6_reach hl hNL) ar_X6_reach vc_X6_reach
theorem rch_only {S : Sto} {g : Nat} {v : Int32} : onlyR S (rchS S g v) := by
  unfold rchS
  split
  · exact onlyR.wr
  · exact onlyR.rf
theorem rch_bit {S : Sto} {g g' p : Nat} {v : Int32} (hg' : g' < 288) : bit ((rchS S g v).1 10 2 g') p = (bit (S.1 10 2 g') p || (decide (g' = g) && bit v p)) := by
  unfold rchS
  by_cases hg : g < 288
  · rw [if_pos hg, wrI_at]
    by_cases e : g' = g
    · subst e
      rw [if_pos ⟨rfl, rfl, rfl⟩, bit_or]
      simp
    · rw [if_neg fun q => e q.2.2]
      simp [e]
  · rw [if_neg hg]
    have : ¬ g' = g := by omega
    simp [this]
def tb_X6_driveOn : Tb := [(0, .iconst 0, 1, xI (0)), (1, .istore 6, 2, x0), (3, .iload 6, 2, x0), (5, .aload_n 0, 1, x0), (6, .getfield 23, 3, xF 7 3 [100]), (9, .invokevirtual 68, 3, xS 1 0 s_Jx4a65c_size_8abf5), (12, .if_icmp .ge 87, 3, xN 99), (15, .aload_n 0, 1, x0), (16, .getfield 23, 3, xF 7 3 [100]), (19, .iload 6, 2, x0), (21, .invokevirtual 234, 3, xS 2 0 s_Jx4a65c_get_915e3), (24, .checkcast 75, 3, xF 5 0 [256]), (27, .astore 7, 2, x0), (29, .aload 7, 2, x0), (31, .iload_n 3, 1, x0), (32, .invokestatic 337, 3, xS 2 0 s_X6_placesBeyond), (35, .istore 8, 2, x0), (37, .iload_n 2, 1, x0), (38, .iload 6, 2, x0), (40, .ishr, 1, x0), (41, .iconst 1, 1, xI (1)), (42, .iand, 1, x0), (43, .iconst 1, 1, xI (1)), (44, .if_icmp .ne 7, 3, xN 51), (47, .iconst 1, 1, xI (1)), (48, .goto 4, 3, xN 52), (51, .iconst 0, 1, xI (0)), (52, .istore 9, 2, x0), (54, .iload 8, 2, x0), (56, .ifCond .eq 37, 3, xN 93), (59, .iload 9, 2, x0), (61, .ifCond .eq 32, 3, xN 93), (64, .aload_n 0, 1, x0), (65, .iload_n 1, 1, x0), (66, .iload 6, 2, x0), (68, .iload 4, 2, x0), (70, .iload 5, 2, x0), (72, .iadd, 1, x0), (73, .invokevirtual 341, 3, xS 4 0 s_X6_isOpen), (76, .ifCond .eq 17, 3, xN 93), (79, .aload_n 0, 1, x0), (80, .iload 5, 2, x0), (82, .aload 7, 2, x0), (84, .getfield 188, 3, xF 5 6 [275]), (87, .iadd, 1, x0), (88, .iload 8, 2, x0), (90, .invokevirtual 204, 3, xS 3 0 s_X6_reach), (93, .iinc 6 1, 3, xI (1)), (96, .goto (-93), 3, xN 3), (99, .return_, 1, x0)]
theorem chk_X6_driveOn : chkTb cX6_driveOn "HeavyHaul" false tb_X6_driveOn = true := by decide +kernel
theorem cal_X6_driveOn {l : Launch} (hl : l.stackTraces = false) (hNL : NewL l) : CallsOK l "HeavyHaul" 6 tb_X6_driveOn := callsOK_f ⟨⟨_, _, 1, 0, _, 0, (ct_Jx4a65c_size_8abf5 hl hNL), ⟨List.mem_of_getElem? (i := 236) (by decide +kernel), List.mem_of_getElem? (i := 29) (by decide +kernel), List.mem_of_getElem? (i := 233) (by decide +kernel), ⟨by decide +kernel, by decide +kernel⟩, by decide +kernel, by decide⟩, List.mem_of_getElem? (i := 234) (by decide +kernel), List.mem_of_getElem? (i := 235) (by decide +kernel), by decide, by decide, rc_Jx4a65c_size_8abf5⟩, ⟨_, _, 2, 2, _, 0, (ct_Jx4a65c_get_915e3 hl hNL), ⟨List.mem_of_getElem? (i := 519) (by decide +kernel), List.mem_of_getElem? (i := 29) (by decide +kernel), List.mem_of_getElem? (i := 516) (by decide +kernel), ⟨by decide +kernel, by decide +kernel⟩, by decide +kernel, by decide⟩, List.mem_of_getElem? (i := 517) (by decide +kernel), List.mem_of_getElem? (i := 518) (by decide +kernel), by decide, by decide, rc_Jx4a65c_get_915e3⟩, ⟨_, _, 3, 0, _, (ct_X6_placesBeyond hl hNL), ⟨List.mem_of_getElem? (i := 756) (by decide +kernel), List.mem_of_getElem? (i := 26) (by decide +kernel), List.mem_of_getElem? (i := 754) (by decide +kernel), ⟨by decide +kernel, by decide +kernel⟩, by decide +kernel, by decide⟩, List.mem_of_getElem? (i := 755) (by decide +kernel), by decide⟩, ⟨_, _, 4, 5, _, 7, (ct_X6_isOpen hl hNL), ⟨List.mem_of_getElem? (i := 760) (by decide +kernel), List.mem_of_getElem? (i := 26) (by decide +kernel), List.mem_of_getElem? (i := 757) (by decide +kernel), ⟨by decide +kernel, by decide +kernel⟩, by decide +kernel, by decide⟩, List.mem_of_getElem? (i := 759) (by decide +kernel), List.mem_of_getElem? (i := 24) (by decide +kernel), by decide, by decide, rc_X6_isOpen⟩, ⟨_, _, 3, 0, _, 7, (ct_X6_reach hl hNL), ⟨List.mem_of_getElem? (i := 749) (by decide +kernel), List.mem_of_getElem? (i := 26) (by decide +kernel), List.mem_of_getElem? (i := 746) (by decide +kernel), ⟨by decide +kernel, by decide +kernel⟩, by decide +kernel, by decide⟩, List.mem_of_getElem? (i := 748) (by decide +kernel), List.mem_of_getElem? (i := 22) (by decide +kernel), by decide, by decide, rc_X6_reach⟩, trivial⟩
theorem ar_X6_driveOn : ∀ as S P, s_X6_driveOn as S P → as.length ≤ 10 ∧ ∀ a ∈ as, catV a = 1 := fun as S P h => by
  obtain ⟨_, _, _, _, _, rfl, _⟩ := o5_ok h
  exact ar_all ⟨Nat.le_of_ble_eq_true rfl, rfl⟩
theorem rc_X6_driveOn : ∀ as S P, s_X6_driveOn as S P → ∃ k i r, as = aR k i :: r ∧ ci k = 7 ∧ (obK k = true ∨ k = 13) := fun as S P h => by
  obtain ⟨_, _, _, _, _, rfl, _⟩ := o5_ok h
  exact ⟨_, _, _, rfl, rfl, Or.inl rfl⟩
theorem stpN_s {S : Sto} {rig fit first : Int32} {hr : Nat → Bool} {gone g p n : Nat} : stpN S rig fit first hr gone g p (n + 1) = (stpN S rig fit first hr gone g p n || (beyN S n hr p && ((bit fit n && openH S rig (nI n) (first + nI gone)) && decide (g = gone + tnN S n)))) := rfl
theorem vc_X6_driveOn : ∀ (G : Gt) (Q : Out → Sto → Prop) (as : List AV) (S : Sto), s_X6_driveOn as S Q → Seg tb_X6_driveOn G Q 0 0 [] (0, fun _ => 0) → G 0 (argL as 10) [] S 0 := by
  intro G Q as S h hs
  obtain ⟨rig, fit, here, first, gone, rfl, hW, hr, gn, rfl, hgn, hQ⟩ := o5_ok h
  have hn : S.2.2 20 ≤ 20 := hW.2.1.1
  have loop : ∀ m k, k + m = S.2.2 20 → ∀ Sk, onlyR S Sk → (∀ g p, g < 288 → p < 10 → bit (Sk.1 10 2 g) p = (bit (S.1 10 2 g) p || stpN S rig fit first (bit here) gn g p k)) → ∀ x y z, G 3 [some (aR 0 0), some (aI rig), some (aI fit), some (aI here), some (aI first), some (aI (nI gn)), some (aI (nI k)), x, y, z] [] Sk 0 := by
    intro m
    induction m with
    | zero =>
      intro k hk Sk hO hb x y z
      obtain rfl : k = S.2.2 20 := hk
      refine hs [3] 60 3 _ _ _ _ ?_
      have hWk := hO.wf hW
      have w13 := hWk.1
      have e : Sk.2.2 20 = S.2.2 20 := by rw [hO.1]
      refine ⟨rfl, by omega, fun _ => hQ Sk hO hb, fun q => ?_⟩
      have q' : ¬ nI (Sk.2.2 20) ≤ nI (S.2.2 20) := q
      rw [e] at q'
      exact (lp_end q').elim
    | succ m ih =>
      intro k hk Sk hO hb x y z
      have hWk := hO.wf hW
      have w13 := hWk.1
      have e : Sk.2.2 20 = S.2.2 20 := by rw [hO.1]
      have hkk : k < Sk.2.2 20 := by omega
      have hnk : Sk.2.2 20 ≤ 1000 := by omega
      have e22 : Sk.2.2 22 = S.2.2 22 := by rw [hO.1]
      have hrk : inN rig (Sk.2.2 22) := by rw [e22]; exact hr
      have hdk : inN (nI k) (Sk.2.2 20) := ⟨lp_nn hnk hkk, lp_in hnk hkk⟩
      have hbn : ∀ hr p, beyN Sk k hr p = beyN S k hr p := fun hr p => by unfold beyN onN otN; rw [hO.k 2 (by decide)]
      have htn : tnN Sk k = tnN S k := by unfold tnN; rw [hO.k 2 (by decide)]
      obtain ⟨-, -, ht, -, -, -, -, ht9⟩ := ro_N hWk hkk
      have skip : ∀ y' z', (∀ g p, g < 288 → p < 10 → (beyN S k (bit here) p && ((bit fit k && openH S rig (nI k) (first + nI gn)) && decide (g = gn + tnN S k))) = false) → G 3 [some (aR 0 0), some (aI rig), some (aI fit), some (aI here), some (aI first), some (aI (nI gn)), some (aI (nI k + 1)), some (aR 2 k), y', z'] [] Sk 0 := fun y' z' hf => by
        rw [nI_s]
        exact ih (k + 1) (by omega) Sk hO (fun g p hg hp => by rw [stpN_s, hf g p hg hp, Bool.or_false]; exact hb g p hg hp) _ _ _
      refine hs [3] 60 3 _ _ _ _ ?_
      refine ⟨rfl, by omega, fun q => absurd q (lp_go hnk hkk), fun _ => ⟨rfl, by omega, lp_nn hnk hkk, lp_in hnk hkk, ?_⟩⟩
      rw [lp_cl hnk hkk]
      refine ⟨rfl, hWk, hkk, fun b hbb => ?_⟩
      have hbb' : ∀ p, p < 10 → bit b p = beyN S k (bit here) p := fun p hp => (hbb p hp).trans (hbn _ _)
      have zb : b = 0 → ∀ g p, g < 288 → p < 10 → (beyN S k (bit here) p && ((bit fit k && openH S rig (nI k) (first + nI gn)) && decide (g = gn + tnN S k))) = false := fun z0 g p _ hp => by
        rw [← hbb' p hp, z0, bit_0, Bool.false_and]
      have tf : (fit >>> (nI k &&& 31)) &&& 1 = 1 ↔ bit fit k = true := t_bit fit k (by omega)
      refine ⟨fun z1 => ⟨fun z2 => skip _ _ (zb z2), fun z2 => ⟨fun _ => skip _ _ fun g p _ _ => ?_, fun q => absurd rfl q⟩⟩, fun z1 => ⟨fun z2 => skip _ _ (zb z2), fun z2 => ⟨fun q => absurd q (by decide), fun _ => ⟨rfl, rfl, hWk, hrk, hdk, ?_⟩⟩⟩⟩
      · have : bit fit k = false := by
          cases hh : bit fit k with
          | true => exact absurd (tf.mpr hh) z1
          | false => rfl
        rw [this, Bool.false_and, Bool.false_and, Bool.and_false]
      · cases ho : openH Sk rig (nI k) (first + nI gn) with
        | false =>
          refine ⟨fun _ => skip _ _ fun g p _ _ => ?_, fun q => absurd rfl q⟩
          rw [← hO.op, ho, Bool.and_false, Bool.false_and, Bool.and_false]
        | true =>
          refine ⟨fun q => absurd q (by decide), fun _ => ⟨rfl, rfl, gn + tnN Sk k, ?_, by omega, ?_⟩⟩
          · show nI gn + Sk.1 2 6 k = _
            rw [ht, nI_add]
          · have h1 := ih (k + 1) (by omega) (rchS Sk (gn + tnN Sk k) b) (hO.tr rch_only) (fun g p hg hp => by
              rw [rch_bit hg, hb g p hg hp, stpN_s, ← hO.op, ho, tf.mp z1, hbb' p hp, htn, Bool.true_and, Bool.true_and, Bool.or_assoc, Bool.and_comm (decide _)]) (some (aR 2 k)) (some (aI b)) (some (aI 1))
            rw [← nI_s] at h1
            exact h1
  exact hs [3] 60 0 _ _ _ _ (loop (S.2.2 20) 0 (by omega) S onlyR.rf (fun g p _ _ => by show _ = (_ || false); rw [Bool.or_false]) none none none)
theorem ct_X6_driveOn {l : Launch} (hl : l.stackTraces = false) (hNL : NewL l) : CT l yX6_driveOn cX6_driveOn 10 none 6 0 s_X6_driveOn := CT_of hl hNL (by decide +kernel) (own := "HeavyHaul") rfl (ini := false) (fun q => nomatch q) chk_X6_driveOn (cal_X6_driveOn hl hNL) ar_X6_driveOn vc_X6_driveOn
