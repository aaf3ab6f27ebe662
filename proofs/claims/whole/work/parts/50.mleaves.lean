/-! WHERE A RIG CAN BE, by the model: one place -/
theorem nI_inj {a b : Nat} (ha : a < 2 ^ 31) (hb : b < 2 ^ 31) (h : nI a = nI b) : a = b := by
  have h1 : (nI a).toNatClampNeg = (nI b).toNatClampNeg := by rw [h]
  rwa [nI_cl ha, nI_cl hb] at h1
def onlyM (S S' : Sto) : Prop := S'.2 = S.2 ∧ ∀ k f i, ¬ (k = 11 ∧ (f = 2 ∨ f = 3)) → ¬ (k = 1 ∧ f = 37) → S'.1 k f i = S.1 k f i
theorem onlyM.rf {S : Sto} : onlyM S S := ⟨rfl, fun _ _ _ _ _ => rfl⟩
theorem onlyM.tr {S S1 S2 : Sto} (h : onlyM S S1) (h2 : onlyM S1 S2) : onlyM S S2 := ⟨h2.1.trans h.1, fun k f i q r => (h2.2 k f i q r).trans (h.2 k f i q r)⟩
theorem onlyM.wr {S : Sto} {f i : Nat} {v : Int32} (h : f = 2 ∨ f = 3) : onlyM S (wrI S 11 f i v) := ⟨rfl, fun k f' j q _ => wrI_ne fun z => q ⟨z.1, by rw [z.2.1]; exact h⟩⟩
theorem onlyM.la {S : Sto} {v : Int32} : onlyM S (lastS S v) := ⟨rfl, fun k f j _ q => wrI_ne fun z => q ⟨z.1, z.2.1⟩⟩
theorem onlyM.ref {S S' S0 : Sto} (h : onlyM S S') (hr : ref S S0) : ref S' S0 := by
  refine ⟨hr.1, fun f hf => ?_, fun a ha => ?_, ?_⟩
  · rw [← hr.2.1 f hf]
    funext i
    exact h.2 1 f i (fun q => absurd q.1 (by decide)) (fun q => hf q.2)
  · rw [← hr.2.2.1 a ha]
    funext i
    exact h.2 10 a i (fun q => absurd q.1 (by decide)) (fun q => absurd q.1 (by decide))
  · rw [← hr.2.2.2]
    funext i
    exact h.2 11 1 i (fun q => absurd q.2 (by decide)) (fun q => absurd q.1 (by decide))
/-- only the marks change -/
def onlyL (S S' : Sto) : Prop := S'.2 = S.2 ∧ ∀ k f i, ¬ (k = 11 ∧ f = 2) → S'.1 k f i = S.1 k f i
theorem onlyL.rf {S : Sto} : onlyL S S := ⟨rfl, fun _ _ _ _ => rfl⟩
theorem onlyL.tr {S S1 S2 : Sto} (h : onlyL S S1) (h2 : onlyL S1 S2) : onlyL S S2 := ⟨h2.1.trans h.1, fun k f i q => (h2.2 k f i q).trans (h.2 k f i q)⟩
theorem onlyL.wr {S : Sto} {i : Nat} {v : Int32} : onlyL S (wrI S 11 2 i v) := ⟨rfl, fun k f j q => wrI_ne fun z => q ⟨z.1, z.2.1⟩⟩
theorem onlyL.m {S S' : Sto} (h : onlyL S S') : onlyM S S' := ⟨h.1, fun k f i q _ => h.2 k f i fun z => q ⟨z.1, Or.inl z.2⟩⟩
def rm (S : Sto) (g p : Nat) : Bool := decide (S.1 11 2 (288 * p + g) ≠ 0)
theorem rm_wr {S : Sto} {g p g' p' : Nat} (hg : g < 288) (hg' : g' < 288) : rm (wrI S 11 2 (288 * p + g) 1) g' p' = (rm S g' p' || (decide (g' = g) && decide (p' = p))) := by
  unfold rm
  rw [wrI_at]
  by_cases e : g' = g ∧ p' = p
  · obtain ⟨rfl, rfl⟩ := e
    rw [if_pos ⟨rfl, rfl, rfl⟩]
    simp
  · have h1 : ¬ (288 * p' + g' = 288 * p + g) := fun q => e (by omega)
    have h2 : (decide (g' = g) && decide (p' = p)) = false := by
      simp only [Bool.and_eq_false_iff, decide_eq_false_iff_not]
      omega
    rw [if_neg fun q => h1 q.2.2, h2, Bool.or_false]
def lvC (S0 : Sto) (rig ten : Int32) (p g g' p' i : Nat) : Bool := ((decide (p = onN S0 i) && decide (p' = otN S0 i)) || (decide (p = otN S0 i) && decide (p' = onN S0 i))) && ((fitH S0 rig.toNatClampNeg i && openH S0 rig (nI i) (ten + nI g)) && decide (g' = g + tnN S0 i))
def lvN (S0 : Sto) (rig ten : Int32) (p g g' p' n : Nat) : Bool := anyN (lvC S0 rig ten p g g' p') n
theorem lvN_s {S0 : Sto} {rig ten : Int32} {p g g' p' n : Nat} : lvN S0 rig ten p g g' p' (n + 1) = (lvN S0 rig ten p g g' p' n || lvC S0 rig ten p g g' p' n) := rfl
def lvB (S S0 : Sto) (p g g' p' : Nat) : Bool := rm S g' p' || (decide (g' = g + 1) && (decide (p' = p) && bayH S0 p))
def s_X7_leaves : SP := fun as S Q => o4 1 as fun rig pl b ten => ∃ (S0 : Sto) (p g : Nat), ref S S0 ∧ inN rig (S0.2.2 22) ∧ pl = nI p ∧ b = nI g ∧ p < 10 ∧ g < 288 ∧ (∀ i, i < S0.2.2 20 → S.1 11 3 i = bV (bornH S0 (nI i) rig)) ∧
  ∀ S', onlyL S S' → (∀ g' p', g' < 288 → p' < 10 → rm S' g' p' = (lvB S S0 p g g' p' || lvN S0 rig ten p g g' p' (S0.2.2 20))) → Q (Sum.inl none) S'
def tb_X7_leaves : Tb := [(0, .aload_n 0, 1, x0), (1, .getfield 7, 3, xF 8 1 [784]), (4, .iload_n 2, 1, x0), (5, .baload, 1, x0), (6, .ifCond .eq 27, 3, xN 33), (9, .iload_n 3, 1, x0), (10, .iconst 1, 1, xI (1)), (11, .iadd, 1, x0), (12, .sipush 288, 3, xI (288)), (15, .if_icmp .ge 18, 3, xN 33), (18, .aload_n 0, 1, x0), (19, .getfield 98, 3, xF 8 35 [818]), (22, .sipush 288, 3, xI (288)), (25, .iload_n 2, 1, x0), (26, .imul, 1, x0), (27, .iload_n 3, 1, x0), (28, .iadd, 1, x0), (29, .iconst 1, 1, xI (1)), (30, .iadd, 1, x0), (31, .iconst 1, 1, xI (1)), (32, .bastore, 1, x0), (33, .iconst 0, 1, xI (0)), (34, .istore 5, 2, x0), (36, .iload 5, 2, x0), (38, .aload_n 0, 1, x0), (39, .getfield 113, 3, xF 8 12 [795]), (42, .if_icmp .ge 127, 3, xN 169), (45, .aload_n 0, 1, x0), (46, .getfield 13, 3, xF 8 2 [785]), (49, .iload 5, 2, x0), (51, .iaload, 1, x0), (52, .iload_n 2, 1, x0), (53, .if_icmp .eq 14, 3, xN 67), (56, .aload_n 0, 1, x0), (57, .getfield 17, 3, xF 8 3 [786]), (60, .iload 5, 2, x0), (62, .iaload, 1, x0), (63, .iload_n 2, 1, x0), (64, .if_icmp .ne 43, 3, xN 107), (67, .iload_n 3, 1, x0), (68, .aload_n 0, 1, x0), (69, .getfield 32, 3, xF 8 8 [791]), (72, .iload 5, 2, x0), (74, .iaload, 1, x0), (75, .iadd, 1, x0), (76, .sipush 288, 3, xI (288)), (79, .if_icmp .ge 28, 3, xN 107), (82, .aload_n 0, 1, x0), (83, .iload_n 1, 1, x0), (84, .iload 5, 2, x0), (86, .iload 4, 2, x0), (88, .iload_n 3, 1, x0), (89, .iadd, 1, x0), (90, .aload_n 0, 1, x0), (91, .getfield 101, 3, xF 8 36 [819]), (94, .iload 5, 2, x0), (96, .baload, 1, x0), (97, .invokevirtual 183, 3, xS 5 0 s_X7_whyNot), (100, .ifCond .ne 7, 3, xN 107), (103, .iconst 1, 1, xI (1)), (104, .goto 4, 3, xN 108), (107, .iconst 0, 1, xI (0)), (108, .istore 6, 2, x0), (110, .iload 6, 2, x0), (112, .ifCond .eq 51, 3, xN 163), (115, .aload_n 0, 1, x0), (116, .getfield 98, 3, xF 8 35 [818]), (119, .sipush 288, 3, xI (288)), (122, .aload_n 0, 1, x0), (123, .getfield 13, 3, xF 8 2 [785]), (126, .iload 5, 2, x0), (128, .iaload, 1, x0), (129, .iload_n 2, 1, x0), (130, .if_icmp .ne 13, 3, xN 143), (133, .aload_n 0, 1, x0), (134, .getfield 17, 3, xF 8 3 [786]), (137, .iload 5, 2, x0), (139, .iaload, 1, x0), (140, .goto 10, 3, xN 150), (143, .aload_n 0, 1, x0), (144, .getfield 13, 3, xF 8 2 [785]), (147, .iload 5, 2, x0), (149, .iaload, 1, x0), (150, .imul, 1, x0), (151, .iload_n 3, 1, x0), (152, .iadd, 1, x0), (153, .aload_n 0, 1, x0), (154, .getfield 32, 3, xF 8 8 [791]), (157, .iload 5, 2, x0), (159, .iaload, 1, x0), (160, .iadd, 1, x0), (161, .iconst 1, 1, xI (1)), (162, .bastore, 1, x0), (163, .iinc 5 1, 3, xI (1)), (166, .goto (-130), 3, xN 36), (169, .return_, 1, x0)]
theorem chk_X7_leaves : chkTb cX7_leaves "HeavyHaulModel" false tb_X7_leaves = true := by decide +kernel
theorem cal_X7_leaves {l : Launch} (hl : l.stackTraces = false) (hNL : NewL l) : CallsOK l "HeavyHaulModel" 3 tb_X7_leaves := callsOK_f ⟨⟨_, _, 5, 2, _, 8, (ct_X7_whyNot hl hNL), ⟨List.mem_of_getElem? (i := 1001) (by decide +kernel), List.mem_of_getElem? (i := 44) (by decide +kernel), List.mem_of_getElem? (i := 998) (by decide +kernel), ⟨by decide +kernel, by decide +kernel⟩, by decide +kernel, by decide⟩, List.mem_of_getElem? (i := 1000) (by decide +kernel), List.mem_of_getElem? (i := 32) (by decide +kernel), by decide, by decide, rc_X7_whyNot⟩, trivial⟩
theorem ar_X7_leaves : ∀ as S P, s_X7_leaves as S P → as.length ≤ 7 ∧ ∀ a ∈ as, catV a = 1 := fun as S P h => by
  obtain ⟨_, _, _, _, rfl, _⟩ := o4_ok h
  exact ar_all ⟨Nat.le_of_ble_eq_true rfl, rfl⟩
theorem rc_X7_leaves : ∀ as S P, s_X7_leaves as S P → ∃ k i r, as = aR k i :: r ∧ ci k = 8 ∧ (obK k = true ∨ k = 13) := fun as S P h => by
  obtain ⟨_, _, _, _, rfl, _⟩ := o4_ok h
  exact ⟨_, _, _, rfl, rfl, Or.inl rfl⟩
set_option maxRecDepth 8000 in
theorem vc_X7_leaves : ∀ (G : Gt) (Q : Out → Sto → Prop) (as : List AV) (S : Sto), s_X7_leaves as S Q → Seg tb_X7_leaves G Q 0 0 [] (0, fun _ => 0) → G 0 (argL as 7) [] S 0 := by
  intro G Q as S h hs
  obtain ⟨rig, pl, b, ten, rfl, S0, p, g, hr, hri, rfl, rfl, hp, hg, hb, hQ⟩ := o4_ok h
  have hn20 := hr.wf.2.1.1
  have loop : ∀ m k, k + m = S0.2.2 20 → ∀ Sk, onlyL S Sk → (∀ g' p', g' < 288 → p' < 10 → rm Sk g' p' = (lvB S S0 p g g' p' || lvN S0 rig ten p g g' p' k)) → ∀ x, G 36 [some (aR 1 0), some (aI rig), some (aI (nI p)), some (aI (nI g)), some (aI ten), some (aI (nI k)), x] [] Sk 0 := by
    intro m
    induction m with
    | zero =>
      intro k hk Sk hO hrm x
      obtain rfl : k = S0.2.2 20 := hk
      have e12 := (hO.m.ref hr).ct.1
      refine hs [36] 90 36 _ _ _ _ ?_
      refine ⟨fun _ => hQ Sk hO hrm, fun q => ?_⟩
      rw [e12] at q
      exact (lp_end q).elim
    | succ m ih =>
      intro k hk Sk hO hrm x
      have hrk := hO.m.ref hr
      have hkk : k < S0.2.2 20 := by omega
      obtain ⟨c3, c4, -, -, -, -, c9, -⟩ := hrk.ro hkk
      obtain ⟨n1, n2, n6, l1, l2, ne, t1, t9⟩ := ro_N hr.wf hkk
      have e12 := hrk.ct.1
      have hvk : vp_in (nI k) 20 := nI_vin (by omega) (by omega)
      have hvk2 : (nI k).toNatClampNeg = k := nI_cl (by omega)
      have hdk : inN (nI k) (S0.2.2 20) := ⟨lp_nn (by omega) hkk, lp_in (by omega) hkk⟩
      have hbk : Sk.1 11 3 k = bV (bornH S0 (nI k) rig) := by
        rw [hO.2 11 3 k (fun q => absurd q.2 (by decide))]
        exact hb k hkk
      have skip : (∀ g' p', g' < 288 → p' < 10 → lvC S0 rig ten p g g' p' k = false) → ∀ y, G 36 [some (aR 1 0), some (aI rig), some (aI (nI p)), some (aI (nI g)), some (aI ten), some (aI (nI k + 1)), y] [] Sk 0 := fun hf y => by
        rw [nI_s]
        exact ih (k + 1) (by omega) Sk hO (fun g' p' hg' hp' => by rw [lvN_s, hf g' p' hg' hp', Bool.or_false]; exact hrm g' p' hg' hp') y
      have h107 : (∀ g' p', g' < 288 → p' < 10 → lvC S0 rig ten p g g' p' k = false) → ∀ y, G 107 [some (aR 1 0), some (aI rig), some (aI (nI p)), some (aI (nI g)), some (aI ten), some (aI (nI k)), y] [] Sk 0 := fun hf y => by
        refine hs [36] 90 107 _ _ _ _ ?_
        exact ⟨fun _ => skip hf _, fun z => absurd rfl z⟩
      have fin : ∀ X, X < 10 → (∀ p', p' < 10 → ((decide (p = onN S0 k) && decide (p' = otN S0 k)) || (decide (p = otN S0 k) && decide (p' = onN S0 k))) = decide (p' = X)) → (fitH S0 rig.toNatClampNeg k && openH S0 rig (nI k) (ten + nI g)) = true → g + tnN S0 k < 288 →
          vp_in ((288 : Int32) * nI X + nI g + nI (tnN S0 k)) 2880 ∧ ∀ y, G 36 [some (aR 1 0), some (aI rig), some (aI (nI p)), some (aI (nI g)), some (aI ten), some (aI (nI k + 1)), y] [] (wrI Sk 11 2 ((288 : Int32) * nI X + nI g + nI (tnN S0 k)).toNatClampNeg 1) 0 := fun X hX hc ho ht => by
        have ei : (288 : Int32) * nI X + nI g + nI (tnN S0 k) = nI (288 * X + (g + tnN S0 k)) := by
          rw [show (288 : Int32) = nI 288 from rfl, nI_mul, nI_add, nI_add, Nat.add_assoc]
        rw [ei, nI_cl (by omega), nI_s]
        refine ⟨nI_vin (by omega) (by omega), fun y => ih (k + 1) (by omega) _ (hO.tr onlyL.wr) (fun g' p' hg' hp' => ?_) y⟩
        have hl : lvC S0 rig ten p g g' p' k = (decide (p' = X) && decide (g' = g + tnN S0 k)) := by
          unfold lvC
          rw [hc p' hp', ho, Bool.true_and]
        rw [rm_wr ht hg', hrm g' p' hg' hp', lvN_s, hl, Bool.or_assoc, Bool.and_comm (decide (p' = X))]
      have h67 : (onN S0 k = p ∨ otN S0 k = p) → ∀ y, G 67 [some (aR 1 0), some (aI rig), some (aI (nI p)), some (aI (nI g)), some (aI ten), some (aI (nI k)), y] [] Sk 0 := fun ho y => by
        have ro := reason_open S0 rig (nI k) (ten + nI g)
        rw [hvk2] at ro
        refine hs [36, 107] 120 67 _ _ _ _ ?_
        refine ⟨hvk, ?_⟩
        rw [hvk2, c9, n6]
        refine ⟨fun z => h107 (fun g' p' hg' hp' => ?_) y, fun z => ⟨hvk, ?_⟩⟩
        · have z' : nI 288 ≤ nI g + nI (tnN S0 k) := z
          rw [nI_add] at z'
          have z2 := (nI_le2 (by omega) (by omega)).mp z'
          unfold lvC
          rw [decide_eq_false (show ¬ g' = g + tnN S0 k by omega), Bool.and_false, Bool.and_false]
        · have ht : g + tnN S0 k < 288 := Nat.not_le.mp fun z9 => z (by
            show nI 288 ≤ nI g + nI (tnN S0 k)
            rw [nI_add]
            exact (nI_le2 (by omega) (by omega)).mpr z9)
          rw [hvk2, hbk]
          refine ⟨rfl, rfl, S0, hrk, hri, hdk, ?_⟩
          rw [wn_reason]
          refine ⟨fun z1 => h107 (fun g' p' hg' hp' => ?_) y, fun z1 => ⟨fun w => absurd w (by decide), fun _ => ⟨hvk, ?_⟩⟩⟩
          · have h9 : (fitH S0 rig.toNatClampNeg k && openH S0 rig (nI k) (ten + nI g)) = false := by
              cases hh : (fitH S0 rig.toNatClampNeg k && openH S0 rig (nI k) (ten + nI g)) with
              | false => rfl
              | true => exact absurd (ro.mpr hh) z1
            unfold lvC
            rw [h9, Bool.false_and, Bool.and_false]
          · have hop := ro.mp z1
            rw [hvk2, c3, n1]
            refine ⟨fun z3 => ⟨hvk, ?_⟩, fun z3 => ⟨hvk, ?_⟩⟩
            · rw [hvk2, c3, n1]
              have hne : ¬ onN S0 k = p := fun q => z3 (by rw [q])
              have hot : otN S0 k = p := ho.resolve_left hne
              have hf := fin (onN S0 k) l1 (fun p' hp' => by
                rw [decide_eq_false (show ¬ p = onN S0 k from fun q => hne q.symm), decide_eq_true hot.symm, Bool.false_and, Bool.false_or, Bool.true_and]) hop ht
              refine ⟨hvk, ?_⟩
              rw [hvk2, c9, n6]
              exact ⟨hf.1, hf.2 _⟩
            · rw [hvk2, c4, n2]
              have hon : onN S0 k = p := nI_inj (by omega) (by omega) z3
              have hf := fin (otN S0 k) l2 (fun p' hp' => by
                rw [decide_eq_true hon.symm, decide_eq_false (show ¬ p = otN S0 k from fun q => ne (hon.trans q)), Bool.false_and, Bool.or_false, Bool.true_and]) hop ht
              refine ⟨hvk, ?_⟩
              rw [hvk2, c9, n6]
              exact ⟨hf.1, hf.2 _⟩
      refine hs [36, 67, 107] 90 36 _ _ _ _ ?_
      refine ⟨fun q => ?_, fun _ => ⟨hvk, ?_⟩⟩
      · rw [e12] at q
        exact absurd q (lp_go (by omega) hkk)
      · rw [hvk2, c3, n1]
        refine ⟨fun z => h67 (Or.inl (nI_inj (by omega) (by omega) z)) x, fun z => ⟨hvk, ?_⟩⟩
        rw [hvk2, c4, n2]
        refine ⟨fun z2 => h107 (fun g' p' hg' hp' => ?_) x, fun z2 => h67 (Or.inr (nI_inj (by omega) (by omega) z2)) x⟩
        unfold lvC
        rw [decide_eq_false (show ¬ p = onN S0 k from fun q => z (by rw [q])), decide_eq_false (show ¬ p = otN S0 k from fun q => z2 (by rw [q])), Bool.false_and, Bool.false_and, Bool.false_or, Bool.false_and]
  have hO0 : onlyL S S := onlyL.rf
  have hbay : S.1 11 1 p = 0 ↔ bayH S0 p = false := by
    rw [hr.2.2.2, ← (hr.1.2.2.2.2.2.2.2.2.2.2.1 p).1]
    unfold bayH
    simp
  have hvp : vp_in (nI p) 10 := nI_vin (by omega) hp
  have hp2 : (nI p).toNatClampNeg = p := nI_cl (by omega)
  have no : (∀ g', g' < 288 → (decide (g' = g + 1) && bayH S0 p) = false) → ∀ x y, G 33 [some (aR 1 0), some (aI rig), some (aI (nI p)), some (aI (nI g)), some (aI ten), x, y] [] S 0 := fun hf x y => by
    refine hs [36] 90 33 _ _ _ _ ?_
    refine loop (S0.2.2 20) 0 (by omega) S onlyL.rf (fun g' p' hg' hp' => ?_) y
    unfold lvB
    rw [show lvN S0 rig ten p g g' p' 0 = false from rfl, Bool.or_false, Bool.and_comm (decide (p' = p)), ← Bool.and_assoc, hf g' hg', Bool.false_and, Bool.or_false]
  refine hs [33, 36] 90 0 _ _ _ _ ?_
  refine ⟨hvp, ?_⟩
  rw [hp2]
  refine ⟨fun z => no (fun g' _ => by rw [hbay.mp z, Bool.and_false]) none none, fun z => ?_⟩
  have hb1 : bayH S0 p = true := by
    cases hh : bayH S0 p with
    | true => rfl
    | false => exact absurd (hbay.mpr hh) z
  refine ⟨fun z1 => no (fun g' hg' => ?_) none none, fun z1 => ?_⟩
  · have z' : nI 288 ≤ nI g + 1 := z1
    rw [nI_s] at z'
    have z2 := (nI_le2 (by omega) (by omega)).mp z'
    rw [decide_eq_false (show ¬ g' = g + 1 by omega), Bool.false_and]
  · have hg1 : g + 1 < 288 := Nat.not_le.mp fun z9 => z1 (by
      show nI 288 ≤ nI g + 1
      rw [nI_s]
      exact (nI_le2 (by omega) (by omega)).mpr z9)
    have ei : (288 : Int32) * nI p + nI g + 1 = nI (288 * p + (g + 1)) := by
      rw [show (288 : Int32) = nI 288 from rfl, nI_mul, nI_add, nI_s, Nat.add_assoc]
    have hv2 : vp_in ((288 : Int32) * nI p + nI g + 1) 2880 := by
      rw [ei]
      exact nI_vin (by omega) (by omega)
    have hfin : ∀ x y, G 33 [some (aR 1 0), some (aI rig), some (aI (nI p)), some (aI (nI g)), some (aI ten), x, y] [] (wrI S 11 2 ((288 : Int32) * nI p + nI g + 1).toNatClampNeg 1) 0 := fun x y => by
      rw [ei, nI_cl (by omega)]
      refine hs [36] 90 33 _ _ _ _ ?_
      refine loop (S0.2.2 20) 0 (by omega) _ onlyL.wr (fun g' p' hg' hp' => ?_) y
      refine (rm_wr hg1 hg').trans ?_
      unfold lvB
      rw [show lvN S0 rig ten p g g' p' 0 = false from rfl, Bool.or_false, hb1, Bool.and_true]
    exact ⟨hv2, hfin none none⟩
theorem ct_X7_leaves {l : Launch} (hl : l.stackTraces = false) (hNL : NewL l) : CT l yX7_leaves cX7_leaves 7 none 3 0 s_X7_leaves := CT_of hl hNL (by decide +kernel) (own := "HeavyHaulModel") rfl (ini := false) (fun q => nomatch q) chk_X7_leaves (cal_X7_leaves hl hNL) ar_X7_leaves vc_X7_leaves
