/-! THE CLASS's PUBLIC METHODS: a new rig -/
def evn (a : Int32) : Prop := a - a / 2 * 2 = 0
def fitG (a b c d e x : Int32) : Prop := rg a 2 16 ∧ evn a ∧ rg b 1 5 ∧ rg c 5 99 ∧ rg d 20 99 ∧ rg e 20 99 ∧ rg x 0 99999
def rawG (S : Sto) (p a b c d e x : Int32) : Sto := wrI (wrI (wrI (wrI (wrI (wrI (wrI (wrI (wrI (mkO S 4) 4 9 (S.2.2 4) (-1)) 4 10 (S.2.2 4) (-1)) 4 8 (S.2.2 4) p) 4 0 (S.2.2 4) a) 4 1 (S.2.2 4) b) 4 2 (S.2.2 4) c) 4 3 (S.2.2 4) d) 4 4 (S.2.2 4) e) 4 5 (S.2.2 4) x
def newG (S : Sto) (p a b c d e x : Int32) : Sto := sAdd (takeS (rawG S p a b c d e x) (S.2.2 4) 0 0) 2
theorem rawG_at {S : Sto} {p a b c d e x : Int32} {k f i : Nat} : (rawG S p a b c d e x).1 k f i = if k = 4 ∧ i = S.2.2 4 then (if f = 9 ∨ f = 10 then -1 else if f = 8 then p else if f = 0 then a else if f = 1 then b else if f = 2 then c else if f = 3 then d else if f = 4 then e else if f = 5 then x else 0) else S.1 k f i := by
  unfold rawG
  simp only [wrI_at]
  by_cases h : k = 4 ∧ i = S.2.2 4
  · obtain ⟨rfl, rfl⟩ := h
    have hr : ∀ A B : Int32, (if (4 : Nat) = 4 ∧ S.2.2 4 = S.2.2 4 then A else B) = A := fun A B => if_pos ⟨rfl, rfl⟩
    rw [hr]
    simp only [true_and, and_true]
    by_cases h5 : f = 5
    · subst h5; simp
    · by_cases h4 : f = 4
      · subst h4; simp
      · by_cases h3 : f = 3
        · subst h3; simp
        · by_cases h2 : f = 2
          · subst h2; simp
          · by_cases h1 : f = 1
            · subst h1; simp
            · by_cases h0 : f = 0
              · subst h0; simp
              · by_cases h8 : f = 8
                · subst h8; simp
                · by_cases h10 : f = 10
                  · subst h10; simp
                  · by_cases h9 : f = 9
                    · subst h9; simp
                    · simp [h5, h4, h3, h2, h1, h0, h8, h10, h9, mkO_new]
  · have hn : ∀ f', ¬ (k = 4 ∧ f = f' ∧ i = S.2.2 4) := fun f' z => h ⟨z.1, z.2.2⟩
    rw [if_neg h]
    simp only [if_neg (hn _)]
    exact mkO_ne h
theorem evn_ok : ∀ m, m ≤ 16 → nI m - nI m / 2 * 2 = 0 → m = 2 * (m / 2) := by decide +kernel
theorem rg_nI {v : Int32} {a b : Nat} (h : rg v (nI a) (nI b)) (hb : b < 2 ^ 31) (ha : a < 2 ^ 31) : ∃ n, v = nI n ∧ a ≤ n ∧ n ≤ b := by
  have h1 : nI a ≤ v := Int32.not_lt.mp h.1
  have h0 : ¬ v < 0 := fun z => absurd (Int32.lt_of_le_of_lt h1 z) (nI_nn ha)
  obtain ⟨q, hq, rfl⟩ := nI_of h0
  exact ⟨q, rfl, (nI_le2 ha hq).mp h1, (nI_le2 hq hb).mp h.2⟩
theorem rawG_ri {S : Sto} {p a b c d e x : Int32} (hp : nm p 10) (ha : rg a 2 16) (hv : evn a) (hb : rg b 1 5) : RiF (rawG S p a b c d e x) (S.2.2 4) := by
  obtain ⟨m, rfl, m1, m2⟩ := rg_nI (a := 2) (b := 16) ha (by omega) (by omega)
  obtain ⟨n, rfl, n1, n2⟩ := rg_nI (a := 1) (b := 5) hb (by omega) (by omega)
  obtain ⟨q, hq, rfl⟩ := nI_of hp.1
  have q10 : q < 10 := (nI_lt2 (b := 10) hq (by omega)).mp hp.2
  have hm := evn_ok m m2 hv
  refine ⟨m / 2, n, q, ?_, ?_, ?_, by omega, by omega, n1, n2, q10⟩
  · rw [rawG_at, if_pos ⟨rfl, rfl⟩, ← hm]
    rfl
  · rw [rawG_at, if_pos ⟨rfl, rfl⟩]
    rfl
  · rw [rawG_at, if_pos ⟨rfl, rfl⟩]
    rfl
def s_X6_rig : SP := fun as S Q => o7 0 as fun p a b c d e x => WfH S ∧ (¬ nm p 10 → Q (Sum.inr 0) S) ∧ (nm p 10 → ¬ fitG a b c d e x → Q (Sum.inr 1) S) ∧ (nm p 10 → fitG a b c d e x → ¬ nI (S.2.2 22) < 6 → Q (Sum.inr 2) S) ∧ (nm p 10 → fitG a b c d e x → nI (S.2.2 22) < 6 → Q (Sum.inl (some (aI (nI ((newG S p a b c d e x).2.2 22) - 1)))) (newG S p a b c d e x))
def tb_X6_rig : Tb := [(0, .iload_n 1, 1, x0), (1, .bipush 10, 2, xI (10)), (3, .invokestatic 53, 3, xS 2 1 s_X6_needNumber), (6, .iload_n 2, 1, x0), (7, .iconst 2, 1, xI (2)), (8, .bipush 16, 2, xI (16)), (10, .invokestatic 64, 3, xS 3 1 s_X6_needRange), (13, .iload_n 2, 1, x0), (14, .iconst 2, 1, xI (2)), (15, .irem, 1, x0), (16, .ifCond .eq 13, 3, xN 29), (19, .new 57, 10, xF 51 0 [213, 35, 115, 61]), (29, .iload_n 3, 1, x0), (30, .iconst 1, 1, xI (1)), (31, .iconst 5, 1, xI (5)), (32, .invokestatic 64, 3, xS 3 1 s_X6_needRange), (35, .iload 4, 2, x0), (37, .iconst 5, 1, xI (5)), (38, .bipush 99, 2, xI (99)), (40, .invokestatic 64, 3, xS 3 1 s_X6_needRange), (43, .iload 5, 2, x0), (45, .bipush 20, 2, xI (20)), (47, .bipush 99, 2, xI (99)), (49, .invokestatic 64, 3, xS 3 1 s_X6_needRange), (52, .iload 6, 2, x0), (54, .bipush 20, 2, xI (20)), (56, .bipush 99, 2, xI (99)), (58, .invokestatic 64, 3, xS 3 1 s_X6_needRange), (61, .iload 7, 2, x0), (63, .iconst 0, 1, xI (0)), (64, .ldc 46, 2, xC 0 0 99999 [93]), (66, .invokestatic 64, 3, xS 3 1 s_X6_needRange), (69, .aload_n 0, 1, x0), (70, .getfield 30, 3, xF 7 5 [102]), (73, .invokevirtual 68, 3, xS 1 0 s_Jx4a65c_size_8abf5), (76, .bipush 6, 2, xI (6)), (78, .invokestatic 72, 3, xS 2 1 s_X6_needRoom), (81, .new 117, 3, xF 4 0 [365, 366, 41]), (84, .dup, 1, x0), (85, .iload_n 1, 1, x0), (86, .iload_n 2, 1, x0), (87, .iload_n 3, 1, x0), (88, .iload 4, 2, x0), (90, .iload 5, 2, x0), (92, .iload 6, 2, x0), (94, .iload 7, 2, x0), (96, .invokespecial 119, 3, xS 8 0 s_X3_init), (99, .astore 8, 2, x0), (101, .aload 8, 2, x0), (103, .iconst 0, 1, xI (0)), (104, .iconst 0, 1, xI (0)), (105, .invokevirtual 120, 3, xS 3 0 s_X3_take), (108, .aload_n 0, 1, x0), (109, .getfield 30, 3, xF 7 5 [102]), (112, .aload 8, 2, x0), (114, .invokevirtual 80, 3, xS 2 1 s_Jx4a65c_add_9ea2d), (117, .pop, 1, x0), (118, .aload_n 0, 1, x0), (119, .getfield 30, 3, xF 7 5 [102]), (122, .invokevirtual 68, 3, xS 1 0 s_Jx4a65c_size_8abf5), (125, .iconst 1, 1, xI (1)), (126, .isub, 1, x0), (127, .ireturn, 1, x0)]
theorem chk_X6_rig : chkTb cX6_rig "HeavyHaul" false tb_X6_rig = true := by decide +kernel
theorem cal_X6_rig {l : Launch} (hl : l.stackTraces = false) (hNL : NewL l) : CallsOK l "HeavyHaul" 6 tb_X6_rig := callsOK_f ⟨⟨_, _, 2, 0, _, (ct_X6_needNumber hl hNL), ⟨List.mem_of_getElem? (i := 144) (by decide +kernel), List.mem_of_getElem? (i := 26) (by decide +kernel), List.mem_of_getElem? (i := 142) (by decide +kernel), ⟨by decide +kernel, by decide +kernel⟩, by decide +kernel, by decide⟩, List.mem_of_getElem? (i := 143) (by decide +kernel), by decide⟩, ⟨_, _, 3, 0, _, (ct_X6_needRange hl hNL), ⟨List.mem_of_getElem? (i := 231) (by decide +kernel), List.mem_of_getElem? (i := 26) (by decide +kernel), List.mem_of_getElem? (i := 229) (by decide +kernel), ⟨by decide +kernel, by decide +kernel⟩, by decide +kernel, by decide⟩, List.mem_of_getElem? (i := 230) (by decide +kernel), by decide⟩, ⟨_, _, 3, 0, _, (ct_X6_needRange hl hNL), ⟨List.mem_of_getElem? (i := 231) (by decide +kernel), List.mem_of_getElem? (i := 26) (by decide +kernel), List.mem_of_getElem? (i := 229) (by decide +kernel), ⟨by decide +kernel, by decide +kernel⟩, by decide +kernel, by decide⟩, List.mem_of_getElem? (i := 230) (by decide +kernel), by decide⟩, ⟨_, _, 3, 0, _, (ct_X6_needRange hl hNL), ⟨List.mem_of_getElem? (i := 231) (by decide +kernel), List.mem_of_getElem? (i := 26) (by decide +kernel), List.mem_of_getElem? (i := 229) (by decide +kernel), ⟨by decide +kernel, by decide +kernel⟩, by decide +kernel, by decide⟩, List.mem_of_getElem? (i := 230) (by decide +kernel), by decide⟩, ⟨_, _, 3, 0, _, (ct_X6_needRange hl hNL), ⟨List.mem_of_getElem? (i := 231) (by decide +kernel), List.mem_of_getElem? (i := 26) (by decide +kernel), List.mem_of_getElem? (i := 229) (by decide +kernel), ⟨by decide +kernel, by decide +kernel⟩, by decide +kernel, by decide⟩, List.mem_of_getElem? (i := 230) (by decide +kernel), by decide⟩, ⟨_, _, 3, 0, _, (ct_X6_needRange hl hNL), ⟨List.mem_of_getElem? (i := 231) (by decide +kernel), List.mem_of_getElem? (i := 26) (by decide +kernel), List.mem_of_getElem? (i := 229) (by decide +kernel), ⟨by decide +kernel, by decide +kernel⟩, by decide +kernel, by decide⟩, List.mem_of_getElem? (i := 230) (by decide +kernel), by decide⟩, ⟨_, _, 3, 0, _, (ct_X6_needRange hl hNL), ⟨List.mem_of_getElem? (i := 231) (by decide +kernel), List.mem_of_getElem? (i := 26) (by decide +kernel), List.mem_of_getElem? (i := 229) (by decide +kernel), ⟨by decide +kernel, by decide +kernel⟩, by decide +kernel, by decide⟩, List.mem_of_getElem? (i := 230) (by decide +kernel), by decide⟩, ⟨_, _, 1, 0, _, 0, (ct_Jx4a65c_size_8abf5 hl hNL), ⟨List.mem_of_getElem? (i := 236) (by decide +kernel), List.mem_of_getElem? (i := 29) (by decide +kernel), List.mem_of_getElem? (i := 233) (by decide +kernel), ⟨by decide +kernel, by decide +kernel⟩, by decide +kernel, by decide⟩, List.mem_of_getElem? (i := 234) (by decide +kernel), List.mem_of_getElem? (i := 235) (by decide +kernel), by decide, by decide, rc_Jx4a65c_size_8abf5⟩, ⟨_, _, 2, 0, _, (ct_X6_needRoom hl hNL), ⟨List.mem_of_getElem? (i := 239) (by decide +kernel), List.mem_of_getElem? (i := 26) (by decide +kernel), List.mem_of_getElem? (i := 237) (by decide +kernel), ⟨by decide +kernel, by decide +kernel⟩, by decide +kernel, by decide⟩, List.mem_of_getElem? (i := 238) (by decide +kernel), by decide⟩, ⟨_, _, 8, 0, (ct_X3_init hl hNL), ⟨List.mem_of_getElem? (i := 369) (by decide +kernel), List.mem_of_getElem? (i := 41) (by decide +kernel), List.mem_of_getElem? (i := 367) (by decide +kernel), ⟨by decide +kernel, by decide +kernel⟩, by decide +kernel, by decide⟩, List.mem_of_getElem? (i := 368) (by decide +kernel), rfl, by decide, by decide, ri_X3_init⟩, ⟨_, _, 5, 1, _, 4, (ct_X3_take hl hNL), ⟨List.mem_of_getElem? (i := 423) (by decide +kernel), List.mem_of_getElem? (i := 41) (by decide +kernel), List.mem_of_getElem? (i := 420) (by decide +kernel), ⟨by decide +kernel, by decide +kernel⟩, by decide +kernel, by decide⟩, List.mem_of_getElem? (i := 421) (by decide +kernel), List.mem_of_getElem? (i := 422) (by decide +kernel), by decide, by decide, rc_X3_take⟩, ⟨_, _, 2, 5, _, 0, (ct_Jx4a65c_add_9ea2d hl hNL), ⟨List.mem_of_getElem? (i := 304) (by decide +kernel), List.mem_of_getElem? (i := 29) (by decide +kernel), List.mem_of_getElem? (i := 301) (by decide +kernel), ⟨by decide +kernel, by decide +kernel⟩, by decide +kernel, by decide⟩, List.mem_of_getElem? (i := 302) (by decide +kernel), List.mem_of_getElem? (i := 303) (by decide +kernel), by decide, by decide, rc_Jx4a65c_add_9ea2d⟩, ⟨_, _, 1, 0, _, 0, (ct_Jx4a65c_size_8abf5 hl hNL), ⟨List.mem_of_getElem? (i := 236) (by decide +kernel), List.mem_of_getElem? (i := 29) (by decide +kernel), List.mem_of_getElem? (i := 233) (by decide +kernel), ⟨by decide +kernel, by decide +kernel⟩, by decide +kernel, by decide⟩, List.mem_of_getElem? (i := 234) (by decide +kernel), List.mem_of_getElem? (i := 235) (by decide +kernel), by decide, by decide, rc_Jx4a65c_size_8abf5⟩, trivial⟩
theorem ar_X6_rig : ∀ as S P, s_X6_rig as S P → as.length ≤ 9 ∧ ∀ a ∈ as, catV a = 1 := fun as S P h => by
  obtain ⟨_, _, _, _, _, _, _, rfl, _⟩ := o7_ok h
  exact ar_all ⟨Nat.le_of_ble_eq_true rfl, rfl⟩
theorem rc_X6_rig : ∀ as S P, s_X6_rig as S P → ∃ k i r, as = aR k i :: r ∧ ci k = 7 ∧ (obK k = true ∨ k = 13) := fun as S P h => by
  obtain ⟨_, _, _, _, _, _, _, rfl, _⟩ := o7_ok h
  exact ⟨_, _, _, rfl, rfl, Or.inl rfl⟩
set_option maxRecDepth 8000 in
theorem vc_X6_rig : ∀ (G : Gt) (Q : Out → Sto → Prop) (as : List AV) (S : Sto), s_X6_rig as S Q → Seg tb_X6_rig G Q 1 12 [] (0, fun _ => 0) → G 0 (argL as 9) [] S 0 := by
  intro G Q as S h hs
  obtain ⟨p, a, b, c, d, e, x, rfl, hW, h0, h1, h2, h3⟩ := o7_ok h
  have w13 := hW.1
  have w22 := hW.2.1.2.2.1
  have w4 := hW.2.2.1.2.2.1
  refine hs [] 150 0 _ _ _ _ ?_
  refine ⟨fun q => h0 fun z => z.1 q, fun q => ⟨fun q' => ?_, fun q' => h0 fun z => q' z.2⟩⟩
  have hk : nm p 10 := ⟨q, q'⟩
  have bad := h1 hk
  refine ⟨fun a1 => bad fun z => z.1.1 a1, fun a1 => ⟨fun a2 => ?_, fun a2 => bad fun z => a2 z.1.2⟩⟩
  refine ⟨n2z, fun v => ?_, fun v => bad fun z => v z.2.1⟩
  refine ⟨fun b1 => bad fun z => z.2.2.1.1 b1, fun b1 => ⟨fun b2 => ?_, fun b2 => bad fun z => b2 z.2.2.1.2⟩⟩
  refine ⟨fun c1 => bad fun z => z.2.2.2.1.1 c1, fun c1 => ⟨fun c2 => ?_, fun c2 => bad fun z => c2 z.2.2.2.1.2⟩⟩
  refine ⟨fun d1 => bad fun z => z.2.2.2.2.1.1 d1, fun d1 => ⟨fun d2 => ?_, fun d2 => bad fun z => d2 z.2.2.2.2.1.2⟩⟩
  refine ⟨fun e1 => bad fun z => z.2.2.2.2.2.1.1 e1, fun e1 => ⟨fun e2 => ?_, fun e2 => bad fun z => e2 z.2.2.2.2.2.1.2⟩⟩
  refine ⟨fun f1 => bad fun z => z.2.2.2.2.2.2.1 f1, fun f1 => ⟨fun f2 => ?_, fun f2 => bad fun z => f2 z.2.2.2.2.2.2.2⟩⟩
  have hf : fitG a b c d e x := ⟨⟨a1, a2⟩, v, ⟨b1, b2⟩, ⟨c1, c2⟩, ⟨d1, d2⟩, ⟨e1, e2⟩, ⟨f1, f2⟩⟩
  refine ⟨rfl, by omega, fun r => ?_, fun r => h2 hk hf r⟩
  have h4 := h3 hk hf r
  refine ⟨rfl, rawG_ri (S := S) (c := c) (d := d) (e := e) (x := x) hk ⟨a1, a2⟩ v ⟨b1, b2⟩, ?_⟩
  refine ⟨rfl, by show 2 < S.2.2 13; omega, rfl, w4, by show S.2.2 22 < 60; omega, by show S.2.2 22 < S.2.2 4 + 1; omega, ?_⟩
  exact ⟨rfl, by show 2 < S.2.2 13; omega, h4⟩
theorem ct_X6_rig {l : Launch} (hl : l.stackTraces = false) (hNL : NewL l) : CT l yX6_rig cX6_rig 9 (some .int) 6 12 s_X6_rig := CT_of hl hNL (by decide +kernel) (own := "HeavyHaul") rfl (ini := false) (fun q => nomatch q) chk_X6_rig (cal_X6_rig hl hNL) ar_X6_rig vc_X6_rig
