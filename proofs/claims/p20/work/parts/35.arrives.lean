/-! THE EARLIEST ARRIVAL -/
theorem anyN_c {p q : Nat → Bool} {n : Nat} (h : ∀ i, i < n → p i = q i) : anyN p n = anyN q n := by
  induction n with
  | zero => rfl
  | succ n ih =>
    show (anyN p n || p n) = (anyN q n || q n)
    rw [ih (fun i hi => h i (by omega)), h n (by omega)]
def tabH (S : Sto) (rig fr ten : Int32) : Nat → Nat → Nat → Bool := tabG (bayH S) (onN S) (otN S) (tnN S) (fun i n => fitH S rig.toNatClampNeg i && openH S rig (nI i) (ten + nI n)) (S.2.2 20) fr.toNatClampNeg
def arrH (S : Sto) (rig fr to ten : Int32) : Int32 := fstF (fun g => tabH S rig fr ten g g to.toNatClampNeg) ten 288 0
def knA (S : Sto) (rig fr to : Int32) : Prop := inN rig (S.2.2 22) ∧ inN fr 10 ∧ inN to 10
def tenA (ten : Int32) : Prop := ¬ ten < 0 ∧ ¬ 9999 < ten
def s_X6_arrives : SP := fun as S Q => o4 0 as fun rig fr to ten => WfH S ∧ (¬ knA S rig fr to → Q (Sum.inr 0) S) ∧ (knA S rig fr to → ¬ tenA ten → Q (Sum.inr 1) S) ∧ (knA S rig fr to → tenA ten → ∀ S', onlyR S S' → Q (Sum.inl (some (aI (arrH S rig fr to ten)))) S')
def tb_X6_arrives : Tb := [(0, .iload_n 1, 1, x0), (1, .aload_n 0, 1, x0), (2, .getfield 30, 3, xF 7 5 [102]), (5, .invokevirtual 68, 3, xS 1 0 s_Jx4a65c_size_8abf5), (8, .invokestatic 53, 3, xS 2 1 s_X6_needNumber), (11, .iload_n 2, 1, x0), (12, .bipush 10, 2, xI (10)), (14, .invokestatic 53, 3, xS 2 1 s_X6_needNumber), (17, .iload_n 3, 1, x0), (18, .bipush 10, 2, xI (10)), (20, .invokestatic 53, 3, xS 2 1 s_X6_needNumber), (23, .iload 4, 2, x0), (25, .iconst 0, 1, xI (0)), (26, .sipush 9999, 3, xI (9999)), (29, .invokestatic 64, 3, xS 3 1 s_X6_needRange), (32, .aload_n 0, 1, x0), (33, .getfield 39, 3, xF 7 8 [105]), (36, .iconst 0, 1, xI (0)), (37, .invokestatic 47, 3, xS 2 0 s_J7_fill_53178), (40, .aload_n 0, 1, x0), (41, .getfield 39, 3, xF 7 8 [105]), (44, .iconst 0, 1, xI (0)), (45, .iconst 1, 1, xI (1)), (46, .iload_n 2, 1, x0), (47, .ishl, 1, x0), (48, .iastore, 1, x0), (49, .aload_n 0, 1, x0), (50, .aload_n 0, 1, x0), (51, .iload_n 1, 1, x0), (52, .invokevirtual 123, 3, xS 2 0 s_X6_rigOf0), (55, .invokevirtual 197, 3, xS 2 0 s_X6_roadsFitFor), (58, .istore 5, 2, x0), (60, .aload_n 0, 1, x0), (61, .invokevirtual 201, 3, xS 1 0 s_X6_placesWithBay), (64, .istore 6, 2, x0), (66, .iconst 0, 1, xI (0)), (67, .istore 7, 2, x0), (69, .iload 7, 2, x0), (71, .sipush 288, 3, xI (288)), (74, .if_icmp .ge 65, 3, xN 139), (77, .aload_n 0, 1, x0), (78, .getfield 39, 3, xF 7 8 [105]), (81, .iload 7, 2, x0), (83, .iaload, 1, x0), (84, .istore 8, 2, x0), (86, .iload 8, 2, x0), (88, .iload_n 3, 1, x0), (89, .ishr, 1, x0), (90, .iconst 1, 1, xI (1)), (91, .iand, 1, x0), (92, .iconst 1, 1, xI (1)), (93, .if_icmp .ne 9, 3, xN 102), (96, .iload 4, 2, x0), (98, .iload 7, 2, x0), (100, .iadd, 1, x0), (101, .ireturn, 1, x0), (102, .aload_n 0, 1, x0), (103, .iload 7, 2, x0), (105, .iconst 1, 1, xI (1)), (106, .iadd, 1, x0), (107, .iload 8, 2, x0), (109, .iload 6, 2, x0), (111, .iand, 1, x0), (112, .invokevirtual 204, 3, xS 3 0 s_X6_reach), (115, .iload 8, 2, x0), (117, .ifCond .eq 16, 3, xN 133), (120, .aload_n 0, 1, x0), (121, .iload_n 1, 1, x0), (122, .iload 5, 2, x0), (124, .iload 8, 2, x0), (126, .iload 4, 2, x0), (128, .iload 7, 2, x0), (130, .invokevirtual 207, 3, xS 6 0 s_X6_driveOn), (133, .iinc 7 1, 3, xI (1)), (136, .goto (-67), 3, xN 69), (139, .iconst (-1), 1, xI (-1)), (140, .ireturn, 1, x0)]
theorem chk_X6_arrives : chkTb cX6_arrives "HeavyHaul" false tb_X6_arrives = true := by decide +kernel
theorem cal_X6_arrives {l : Launch} (hl : l.stackTraces = false) (hNL : NewL l) : CallsOK l "HeavyHaul" 7 tb_X6_arrives := callsOK_f ⟨⟨_, _, 1, 0, _, 0, (ct_Jx4a65c_size_8abf5 hl hNL), ⟨List.mem_of_getElem? (i := 236) (by decide +kernel), List.mem_of_getElem? (i := 29) (by decide +kernel), List.mem_of_getElem? (i := 233) (by decide +kernel), ⟨by decide +kernel, by decide +kernel⟩, by decide +kernel, by decide⟩, List.mem_of_getElem? (i := 234) (by decide +kernel), List.mem_of_getElem? (i := 235) (by decide +kernel), by decide, by decide, rc_Jx4a65c_size_8abf5⟩, ⟨_, _, 2, 0, _, (ct_X6_needNumber hl hNL), ⟨List.mem_of_getElem? (i := 144) (by decide +kernel), List.mem_of_getElem? (i := 26) (by decide +kernel), List.mem_of_getElem? (i := 142) (by decide +kernel), ⟨by decide +kernel, by decide +kernel⟩, by decide +kernel, by decide⟩, List.mem_of_getElem? (i := 143) (by decide +kernel), by decide⟩, ⟨_, _, 2, 0, _, (ct_X6_needNumber hl hNL), ⟨List.mem_of_getElem? (i := 144) (by decide +kernel), List.mem_of_getElem? (i := 26) (by decide +kernel), List.mem_of_getElem? (i := 142) (by decide +kernel), ⟨by decide +kernel, by decide +kernel⟩, by decide +kernel, by decide⟩, List.mem_of_getElem? (i := 143) (by decide +kernel), by decide⟩, ⟨_, _, 2, 0, _, (ct_X6_needNumber hl hNL), ⟨List.mem_of_getElem? (i := 144) (by decide +kernel), List.mem_of_getElem? (i := 26) (by decide +kernel), List.mem_of_getElem? (i := 142) (by decide +kernel), ⟨by decide +kernel, by decide +kernel⟩, by decide +kernel, by decide⟩, List.mem_of_getElem? (i := 143) (by decide +kernel), by decide⟩, ⟨_, _, 3, 0, _, (ct_X6_needRange hl hNL), ⟨List.mem_of_getElem? (i := 231) (by decide +kernel), List.mem_of_getElem? (i := 26) (by decide +kernel), List.mem_of_getElem? (i := 229) (by decide +kernel), ⟨by decide +kernel, by decide +kernel⟩, by decide +kernel, by decide⟩, List.mem_of_getElem? (i := 230) (by decide +kernel), by decide⟩, ⟨_, _, 4, 0, _, (ct_J7_fill_53178 hl hNL), ⟨List.mem_of_getElem? (i := 96) (by decide +kernel), List.mem_of_getElem? (i := 30) (by decide +kernel), List.mem_of_getElem? (i := 94) (by decide +kernel), ⟨by decide +kernel, by decide +kernel⟩, by decide +kernel, by decide⟩, List.mem_of_getElem? (i := 95) (by decide +kernel), by decide⟩, ⟨_, _, 2, 3, _, 7, (ct_X6_rigOf0 hl hNL), ⟨List.mem_of_getElem? (i := 578) (by decide +kernel), List.mem_of_getElem? (i := 26) (by decide +kernel), List.mem_of_getElem? (i := 575) (by decide +kernel), ⟨by decide +kernel, by decide +kernel⟩, by decide +kernel, by decide⟩, List.mem_of_getElem? (i := 577) (by decide +kernel), List.mem_of_getElem? (i := 8) (by decide +kernel), by decide, by decide, rc_X6_rigOf0⟩, ⟨_, _, 4, 5, _, 7, (ct_X6_roadsFitFor hl hNL), ⟨List.mem_of_getElem? (i := 741) (by decide +kernel), List.mem_of_getElem? (i := 26) (by decide +kernel), List.mem_of_getElem? (i := 738) (by decide +kernel), ⟨by decide +kernel, by decide +kernel⟩, by decide +kernel, by decide⟩, List.mem_of_getElem? (i := 740) (by decide +kernel), List.mem_of_getElem? (i := 20) (by decide +kernel), by decide, by decide, rc_X6_roadsFitFor⟩, ⟨_, _, 3, 1, _, 7, (ct_X6_placesWithBay hl hNL), ⟨List.mem_of_getElem? (i := 745) (by decide +kernel), List.mem_of_getElem? (i := 26) (by decide +kernel), List.mem_of_getElem? (i := 742) (by decide +kernel), ⟨by decide +kernel, by decide +kernel⟩, by decide +kernel, by decide⟩, List.mem_of_getElem? (i := 744) (by decide +kernel), List.mem_of_getElem? (i := 21) (by decide +kernel), by decide, by decide, rc_X6_placesWithBay⟩, ⟨_, _, 3, 0, _, 7, (ct_X6_reach hl hNL), ⟨List.mem_of_getElem? (i := 749) (by decide +kernel), List.mem_of_getElem? (i := 26) (by decide +kernel), List.mem_of_getElem? (i := 746) (by decide +kernel), ⟨by decide +kernel, by decide +kernel⟩, by decide +kernel, by decide⟩, List.mem_of_getElem? (i := 748) (by decide +kernel), List.mem_of_getElem? (i := 22) (by decide +kernel), by decide, by decide, rc_X6_reach⟩, ⟨_, _, 10, 6, _, 7, (ct_X6_driveOn hl hNL), ⟨List.mem_of_getElem? (i := 753) (by decide +kernel), List.mem_of_getElem? (i := 26) (by decide +kernel), List.mem_of_getElem? (i := 750) (by decide +kernel), ⟨by decide +kernel, by decide +kernel⟩, by decide +kernel, by decide⟩, List.mem_of_getElem? (i := 752) (by decide +kernel), List.mem_of_getElem? (i := 23) (by decide +kernel), by decide, by decide, rc_X6_driveOn⟩, trivial⟩
theorem ar_X6_arrives : ∀ as S P, s_X6_arrives as S P → as.length ≤ 9 ∧ ∀ a ∈ as, catV a = 1 := fun as S P h => by
  obtain ⟨_, _, _, _, rfl, _⟩ := o4_ok h
  exact ar_all ⟨Nat.le_of_ble_eq_true rfl, rfl⟩
theorem rc_X6_arrives : ∀ as S P, s_X6_arrives as S P → ∃ k i r, as = aR k i :: r ∧ ci k = 7 ∧ (obK k = true ∨ k = 13) := fun as S P h => by
  obtain ⟨_, _, _, _, rfl, _⟩ := o4_ok h
  exact ⟨_, _, _, rfl, rfl, Or.inl rfl⟩
theorem fill_only {S : Sto} {v : Int32} {n : Nat} : onlyR S (fillS S 2 v n) := ⟨rfl, fun k f i q => if_neg fun z => q ⟨z.1, z.2.1⟩⟩
theorem vc_X6_arrives : ∀ (G : Gt) (Q : Out → Sto → Prop) (as : List AV) (S : Sto), s_X6_arrives as S Q → Seg tb_X6_arrives G Q 1 4 [] (0, fun _ => 0) → G 0 (argL as 9) [] S 0 := by
  intro G Q as S h hs
  obtain ⟨rig, fr, to, ten, rfl, hW, hQ0, hQ1, hQ⟩ := o4_ok h
  have w13 := hW.1
  have hn : S.2.2 20 ≤ 20 := hW.2.1.1
  -- the main part
  have main : knA S rig fr to → tenA ten → ∀ S0, onlyR S S0 → (∀ g p, g < 288 → p < 10 → bit (S0.1 10 2 g) p = tabH S rig fr ten 0 g p) → ∀ x, G 69 [some (aR 0 0), some (aI rig), some (aI fr), some (aI to), some (aI ten), some (aI (mkW (fitH S rig.toNatClampNeg) (S.2.2 20))), some (aI (mkW (bayH S) 10)), some (aI (nI 0)), x] [] S0 4 := by
    intro hk ht
    obtain ⟨hr, hf, hto⟩ := hk
    have hQ' := hQ ⟨hr, hf, hto⟩ ht
    have ht10 : to.toNatClampNeg < 10 := inN_lt hto (by omega)
    have eto : to = nI to.toNatClampNeg := by
      obtain ⟨q, hq, rfl⟩ := nI_of (Int32.not_lt.mpr hto.1)
      rw [nI_cl hq]
    have bfit : ∀ i, i < S.2.2 20 → bit (mkW (fitH S rig.toNatClampNeg) (S.2.2 20)) i = fitH S rig.toNatClampNeg i := fun i hi => by
      rw [bit_mk _ _ _ hn (by omega), decide_eq_true hi, Bool.true_and]
    have bbay : ∀ p, p < 10 → bit (mkW (bayH S) 10) p = bayH S p := fun p hp => by
      rw [bit_mk _ _ _ (by omega) (by omega), decide_eq_true hp, Bool.true_and]
    generalize mkW (fitH S rig.toNatClampNeg) (S.2.2 20) = fit at bfit
    generalize mkW (bayH S) 10 = bays at bbay
    have loop : ∀ m k, k + m = 288 → (∀ S', onlyR S S' → Q (Sum.inl (some (aI (fstF (fun g => tabH S rig fr ten g g to.toNatClampNeg) ten m k)))) S') → ∀ Sk, onlyR S Sk → (∀ g p, g < 288 → p < 10 → bit (Sk.1 10 2 g) p = tabH S rig fr ten k g p) →
        ∀ x, G 69 [some (aR 0 0), some (aI rig), some (aI fr), some (aI to), some (aI ten), some (aI fit), some (aI bays), some (aI (nI k)), x] [] Sk 4 := by
      intro m
      induction m with
      | zero =>
        intro k hk hq Sk hO hb x
        obtain rfl : k = 288 := hk
        refine hs [69] 60 69 _ _ _ _ ?_
        exact ⟨fun _ => hq Sk hO, fun q => absurd (by decide) q⟩
      | succ m ih =>
        intro k hk hq Sk hO hb x
        have hk2 : k < 288 := by omega
        have hWk := hO.wf hW
        have e22 : Sk.2.2 22 = S.2.2 22 := by rw [hO.1]
        have e20 : Sk.2.2 20 = S.2.2 20 := by rw [hO.1]
        refine hs [69] 60 69 _ _ _ _ ?_
        refine ⟨fun q => absurd q (lp_go (n := 288) (by omega) hk2), fun _ => ⟨nI_vin (by omega) hk2, ?_⟩⟩
        rw [nI_cl (by omega)]
        have hbk := fun p hp => hb k p hk2 hp
        generalize Sk.1 10 2 k = here at hbk
        have tt : (here >>> (to &&& 31)) &&& 1 = 1 ↔ tabH S rig fr ten k k to.toNatClampNeg = true := by
          rw [eto, t_bit here _ (by omega), ← eto, hbk _ ht10]
        refine ⟨fun z => ⟨rfl, rfl, k + 1, nI_s k, by omega, ?_⟩, fun z => ?_⟩
        · have hq' : ∀ S', onlyR S S' → Q (Sum.inl (some (aI (fstF (fun g => tabH S rig fr ten g g to.toNatClampNeg) ten m (k + 1))))) S' := fun S' hS' => by
            have h1 := hq S' hS'
            unfold fstF at h1
            rw [if_neg fun q => z (tt.mpr q)] at h1
            exact h1
          have hO1 : onlyR S (rchS Sk (k + 1) (here &&& bays)) := hO.tr rch_only
          have hb1 : ∀ g p, g < 288 → p < 10 → bit ((rchS Sk (k + 1) (here &&& bays)).1 10 2 g) p = (tabH S rig fr ten k g p || (decide (g = k + 1) && (tabH S rig fr ten k k p && bayH S p))) := fun g p hg hp => by
            rw [rch_bit hg, hb g p hg hp, bit_and, hbk p hp, bbay p hp]
          have hstep : ∀ g p, tabH S rig fr ten (k + 1) g p = ((tabH S rig fr ten k g p || (decide (g = k + 1) && (tabH S rig fr ten k k p && bayH S p))) || anyN (fun i => ((tabH S rig fr ten k k (onN S i) && decide (p = otN S i)) || (tabH S rig fr ten k k (otN S i) && decide (p = onN S i))) && ((fitH S rig.toNatClampNeg i && openH S rig (nI i) (ten + nI k)) && decide (g = k + tnN S i))) (S.2.2 20)) := fun g p => rfl
          have hgo := ih (k + 1) (by omega) hq'
          refine ⟨fun z0 => ?_, fun z0 => ?_⟩
          · have h1 := hgo (rchS Sk (k + 1) (here &&& bays)) hO1 (fun g p hg hp => by
              rw [hb1 g p hg hp, hstep, anyN_f (fun i hi => ?_), Bool.or_false]
              obtain ⟨-, -, -, r4, r5, -⟩ := ro_N hW hi
              rw [← hbk _ r4, ← hbk _ r5, z0, bit_0, bit_0, Bool.false_and, Bool.false_and, Bool.or_false, Bool.false_and]) (some (aI here))
            rw [← nI_s] at h1
            exact h1
          · refine ⟨rfl, rfl, hO1.wf hW, ?_, k, rfl, hk2, fun S2 hO2 hb2 => ?_⟩
            · have e9 : (rchS Sk (k + 1) (here &&& bays)).2.2 22 = S.2.2 22 := by rw [hO1.1]
              rw [e9]
              exact hr
            · have h1 := hgo S2 (hO1.tr hO2) (fun g p hg hp => by
                rw [hb2 g p hg hp, hb1 g p hg hp, hstep]
                congr 1
                have e8 : (rchS Sk (k + 1) (here &&& bays)).2.2 20 = S.2.2 20 := by rw [hO1.1]
                unfold stpN
                rw [e8]
                refine anyN_c fun i hi => ?_
                obtain ⟨-, -, -, r4, r5, -⟩ := ro_N hW hi
                have eo : ∀ i, onN (rchS Sk (k + 1) (here &&& bays)) i = onN S i := fun i => by unfold onN; rw [hO1.k 2 (by decide)]
                have et : ∀ i, otN (rchS Sk (k + 1) (here &&& bays)) i = otN S i := fun i => by unfold otN; rw [hO1.k 2 (by decide)]
                have en : ∀ i, tnN (rchS Sk (k + 1) (here &&& bays)) i = tnN S i := fun i => by unfold tnN; rw [hO1.k 2 (by decide)]
                unfold beyN
                rw [hO1.op, bfit i hi, eo, et, en, hbk _ r4, hbk _ r5]) (some (aI here))
              rw [← nI_s] at h1
              exact h1
        · have h1 := hq Sk hO
          unfold fstF at h1
          rw [if_pos (tt.mp z)] at h1
          exact h1
    intro S0 hO hb x
    exact loop 288 0 (by omega) hQ' S0 hO hb x
  have e0 : ¬ knA S rig fr to → Q (Sum.inr 0) S := hQ0
  refine hs [69] 120 0 _ _ _ _ ?_
  refine ⟨rfl, by omega, fun a1 => e0 fun z => absurd z.1.1 (Int32.not_le.mpr a1), fun a1 => ⟨fun a2 => ?_, fun a2 => e0 fun z => a2 z.1.2⟩⟩
  refine ⟨fun b1 => e0 fun z => absurd z.2.1.1 (Int32.not_le.mpr b1), fun b1 => ⟨fun b2 => ?_, fun b2 => e0 fun z => b2 z.2.1.2⟩⟩
  refine ⟨fun c1 => e0 fun z => absurd z.2.2.1 (Int32.not_le.mpr c1), fun c1 => ⟨fun c2 => ?_, fun c2 => e0 fun z => c2 z.2.2.2⟩⟩
  have hk : knA S rig fr to := ⟨⟨Int32.not_lt.mp a1, a2⟩, ⟨Int32.not_lt.mp b1, b2⟩, ⟨Int32.not_lt.mp c1, c2⟩⟩
  refine ⟨fun d1 => hQ1 hk fun z => z.1 d1, fun d1 => ⟨fun d2 => ?_, fun d2 => hQ1 hk fun z => d2 (Int32.not_lt.mp z.2)⟩⟩
  have ht : tenA ten := ⟨d1, Int32.not_lt.mpr d2⟩
  have hfr : fr.toNatClampNeg < 10 := inN_lt hk.2.1 (by omega)
  have efr : fr = nI fr.toNatClampNeg := by
    obtain ⟨q, hq, rfl⟩ := nI_of b1
    rw [nI_cl hq]
  have hj : rig.toNatClampNeg < S.2.2 22 := inN_lt hk.1 (by have := hW.2.1.2.2.1; omega)
  refine ⟨rfl, by omega, nI_vin (a := 0) (by omega) (by decide), ?_⟩
  have hO : onlyR S (wrI (fillS S 2 0 (al 10 2)) 10 2 (0 : Int32).toNatClampNeg ((1 : Int32) <<< (fr &&& 31))) := fill_only.tr onlyR.wr
  have hb : ∀ g p, g < 288 → p < 10 → bit ((wrI (fillS S 2 0 (al 10 2)) 10 2 (0 : Int32).toNatClampNeg ((1 : Int32) <<< (fr &&& 31))).1 10 2 g) p = tabH S rig fr ten 0 g p := fun g p hg hp => by
    rw [wrI_at]
    show _ = (decide (g = 0) && decide (p = fr.toNatClampNeg))
    have ez : (0 : Int32).toNatClampNeg = 0 := nI_cl (n := 0) (by omega)
    rw [ez]
    by_cases hg0 : g = 0
    · rw [if_pos ⟨rfl, rfl, hg0⟩, decide_eq_true hg0, Bool.true_and]
      have := bit_1 fr.toNatClampNeg (by omega) p (by omega)
      rw [← efr] at this
      exact this
    · rw [if_neg fun q => hg0 q.2.2, decide_eq_false hg0, Bool.false_and]
      have e : (fillS S 2 0 (al 10 2)).1 10 2 g = 0 := if_pos ⟨rfl, rfl, hg⟩
      rw [e, bit_0]
  have hm := main hk ht _ hO hb none
  generalize wrI (fillS S 2 0 (al 10 2)) 10 2 (0 : Int32).toNatClampNeg ((1 : Int32) <<< (fr &&& 31)) = S0 at hO hm ⊢
  have e22 : S0.2.2 22 = S.2.2 22 := by rw [hO.1]
  have e20 : S0.2.2 20 = S.2.2 20 := by rw [hO.1]
  have ef : fitH S0 rig.toNatClampNeg = fitH S rig.toNatClampNeg := by
    funext i
    unfold fitH
    rw [hO.la]
  have eb : bayH S0 = bayH S := by
    funext i
    unfold bayH
    rw [hO.k 11 (by decide)]
  rw [← ef, ← eb, ← e20] at hm
  exact ⟨rfl, rfl, hO.wf hW, by rw [e22]; exact hk.1, rfl, rfl, rfl, hO.wf hW, by rw [e22]; exact hj, rfl, rfl, hm⟩
theorem ct_X6_arrives {l : Launch} (hl : l.stackTraces = false) (hNL : NewL l) : CT l yX6_arrives cX6_arrives 9 (some .int) 7 4 s_X6_arrives := CT_of hl hNL (by decide +kernel) (own := "HeavyHaul") rfl (ini := false) (fun q => nomatch q) chk_X6_arrives (cal_X6_arrives hl hNL) ar_X6_arrives vc_X6_arrives
