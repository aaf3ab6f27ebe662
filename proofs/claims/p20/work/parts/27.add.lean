/-! THE JDK's LISTS: adding -/
section JD5
variable {p : Program} {l : Launch} {e : Env} {R : Room} {s : State} {m : MethodId} {args : Array Value} {below : List Frame} {meth : Method} {c : Code} {H : Heap} {locs : List Loc} {cells slots : Nat} {Q : State → Prop}
variable {pc : Nat} {ls : Array Slot} {rest : List Value} {g : GT} {α : Nat → Nat → Nat} {h : HT} {S : Sto} {own : String} {idx nL rk cb sb B : Nat} {ini : Bool}
theorem nI_cl {n : Nat} (h : n < 2 ^ 31) : (nI n).toNatClampNeg = n := ofNat_cl h
theorem nI_nn {n : Nat} (h : n < 2 ^ 31) : ¬ nI n < 0 := ofNat_nn h
set_option maxHeartbeats 1000000 in
theorem add_tail {i : Nat} (C : Cx p l s m meth c R cJx4a65c_add_72be8 "java/util/ArrayList" nL rk cb sb B ini g) (hr : meth.sig.returnType = none) (hR : Rep g α h S H) (hS : va_S (AB g) s.heap H locs) (hi : i < S.2.2 13) (hc : S.2.2 (20 + i) < (h i).1) (hj : S.2.2 (20 + i) < S.2.2 (lk i)) (hcs : cells ≤ 1 ∧ slots ≤ 120) (b0 : ls[0]? = some (.val (.ref (α 13 i)))) (b1 : ls[1]? = some (.val (.ref (α (lk i) (S.2.2 (20 + i)))))) (b2 : ls[2]? = some (.val (.ref (h i).2.1))) (b3 : ls[3]? = some (.val (.int (nI (S.2.2 (20 + i)))))) :
    W p l e R s m args below meth c H locs cells slots (vx_MQ below (QA g α S i) XN args s 1 (120 * 1) (AB g)) (F0 m 11 ls []) := by
  have hWT := C.2.2.2.2.2.2.2.1
  have hK := C.2.2.2.2.2.2.1
  have hlocks := C.2.2.2.2.1
  have h9 := hR.2.2.2.2.1 i hi
  have h0 : (h i).1 ≠ 0 := by omega
  refine lv_aload_n C.1 C.2.1 dJx4a65c_add_72be8_11 rfl b2 ?_
  refine lv_iload_n C.1 C.2.1 dJx4a65c_add_72be8_12 rfl b3 ?_
  refine lv_aload_n C.1 C.2.1 dJx4a65c_add_72be8_13 rfl b1 ?_
  have hla : va_P g.1 vwCl [((h i).2.1, arO g (h i).1 (elF α S i))] H := hR.lar hi h0
  obtain ⟨cv, g1, g2, ⟨kC, hkC⟩, hasg⟩ := any_el hK hWT hR (lk_or i) hj
  obtain ⟨kA, comp, k1, k2, k3, -⟩ := (hK.2 3 _ rfl).2
  obtain ⟨kE, hkE, -⟩ := Vm.findClass_spec k3
  have l15 : Lv h S 15 i := by rw [Lv, if_pos rfl]; exact ⟨hi, h0⟩
  have l13 : Lv h S 13 i := Lv_of (Or.inr rfl) hi
  have a15 : adr α h 15 i = (h i).2.1 := by rw [adr, if_pos rfl]
  have a13 : adr α h 13 i = α 13 i := adr_of (Or.inr rfl)
  have hne : (h i).2.1 ≠ α 13 i := fun z => by
    have := hR.2.1 15 i 13 i l15 l13 (by rw [a15, a13]; exact z)
    exact absurd this.1 (by decide)
  have hAB15 : AB g (h i).2.1 := by have := hR.2.2.1 15 i l15; rwa [a15] at this
  refine W.aast C.1 C.2.1 (hla 0 _ rfl) (fun q h => by cases h) (fun h => by cases h) k1 k2 rfl hkE ⟨nI_nn (by omega), by show _ < (arrV _ _ _).slots.size; rw [arrV_size, nI_cl (by omega)]; exact hc⟩ g1 (fun q h => by rw [h] at g2; cases g2) hkC (hasg comp k3) rfl rfl dJx4a65c_add_72be8_14 fun H2 e2 z2 o2 => ?_
  have hS2 := hS.put (k := (nI (S.2.2 (20 + i))).toNatClampNeg) z2 o2 hAB15
  refine W.eq (g2 := F0 m 15 ls []) rfl ?_
  refine lv_aload_n C.1 C.2.1 dJx4a65c_add_72be8_15 rfl b0 ?_
  refine lv_iload_n C.1 C.2.1 dJx4a65c_add_72be8_16 rfl b3 ?_
  refine lv_iconst (v := 1) C.1 C.2.1 dJx4a65c_add_72be8_17 rfl ?_
  refine lv_iadd C.1 C.2.1 dJx4a65c_add_72be8_18 ?_
  have hP2 : va_P g.1 vwCl [(α 13 i, .inr (0, lfs g h S i))] H2 := va_P1 ((hR.lst hi 0 _ rfl).kept (o2 _ hne.symm))
  refine w_putL C.1 C.2.1 C.2.2.2.1 hK hWT hS2 hP2 (lst_AB hR hi) 2 (by decide) rfl (wt_at (w := 80) hWT (by decide +kernel) rfl) (fun _ h => h) rfl ⟨rfl, rfl⟩ dJx4a65c_add_72be8_19 (fun H3 locs3 hP3 z3 o3 hS3 => ?_)
  have ha9 : va_P g.1 vwCl [((h i).2.1, arO g (h i).1 (elF α (sAdd S i) i))] H3 := by
    refine va_P1 ?_
    show H3[(h i).2.1]? = some (vp_cell _ _)
    rw [o3 _ hne]
    refine e2.trans ?_
    rw [vp_cell_q, vp_cell_q, nI_cl (by omega), arrV_store]
    congr 2
    funext q
    have hb : (sAdd S i).2.2 (20 + i) = S.2.2 (20 + i) + 1 := bump_k
    unfold elF
    rw [hb]
    by_cases hq : q = S.2.2 (20 + i)
    · subst hq
      simp [updV, va_rf]
    · have : q < S.2.2 (20 + i) + 1 ↔ q < S.2.2 (20 + i) := by omega
      simp [updV, hq, this]
  have hR3 : Rep g α (h1n h i (h i)) (sAdd S i) H3 := by
    have hb : (sAdd S i).2.2 (20 + i) = S.2.2 (20 + i) + 1 := bump_k
    refine hR.lupd (v := h i) hi rfl rfl (fun k hk => bump_ne hk) (by rw [hb]; omega) (by rw [hb]; omega) (by rw [hb]; omega) h9.2.2.2.1 h9.2.2.2.2 (fun _ => ⟨hAB15, fun k i' z g1 => fun w => g1 (hR.2.1 k i' 15 i z l15 (by rw [a15]; exact w))⟩) ?_ (fun _ => ha9) (fun k i' z g1 g2 => ?_)
    · have e : lfs g (h1n h i (h i)) (sAdd S i) i = (lfs g h S i).set 2 (.int (nI (S.2.2 (20 + i)) + 1)) := by
        unfold lfs ed
        rw [h1n_eq, hb, nI_succ]
        rfl
      rw [e]
      exact hP3
    · rw [o3 _ (adr_ne13 hR hi z g1)]
      exact o2 _ fun w => g2 (hR.2.1 k i' 15 i z l15 (by rw [a15]; exact w))
  refine W.widen (k := 1) (n := 120 * 1) (by omega) (by omega) (vx_ret ?_)
  exact W.vret C.1 C.2.1 hr (fun t' ht _ => ⟨_, rfl, by rw [ht]; exact hR3, hS3.F ht⟩) hS3.2.2 dJx4a65c_add_72be8_22
end JD5
theorem ct_add3 {l : Launch} (hl : l.stackTraces = false) {g : GT} {α : Nat → Nat → Nat} {h : HT} {S : Sto} {i : Nat} (hi : i < S.2.2 13) (hj : S.2.2 (20 + i) < S.2.2 (lk i)) (h60 : S.2.2 (20 + i) < 60) :
    vx_Met l yJx4a65c_add_72be8 [.code yJx4a65c_add_72be8 cJx4a65c_add_72be8 4 none] (rmx 4 1) (va_Pc [.ref (α 13 i), .ref (α (lk i) (S.2.2 (20 + i))), .ref (ed g h i), .int (nI (S.2.2 (20 + i)))] (fun U => Wd g α h S U ∧ True)) (QA g α S i) XN 1 (120 * 1) (AB g) := by
  refine Met_z (X := fun _ => True) (own := "java/util/ArrayList") hl (by decide +kernel) rfl (Nat.le_refl 4) (fun v hv => ?_) ?_
  · simp only [List.mem_cons, List.not_mem_nil, or_false] at hv
    rcases hv with rfl | rfl | rfl | rfl <;> rfl
  · intro p e R s m below meth c ls C hr hR hX hl9
    have hWT := C.2.2.2.2.2.2.2.1
    have hK := C.2.2.2.2.2.2.1
    have hST := C.2.2.2.2.2.2.2.2.1
    have h30 := C.2.2.2.2.2.2.2.2.2.2.2.2.1
    have h31 := C.2.2.2.2.2.2.2.2.2.2.2.2.2.1
    have h9 := hR.2.2.2.2.1 i hi
    have b0 := hl9.2.2 (0, .ref (α 13 i)) List.mem_cons_self
    have b1 := hl9.2.2 (1, .ref (α (lk i) (S.2.2 (20 + i)))) (List.mem_cons_of_mem _ List.mem_cons_self)
    have b2 := hl9.2.2 (2, .ref (ed g h i)) (List.mem_cons_of_mem _ (List.mem_cons_of_mem _ List.mem_cons_self))
    have b3 := hl9.2.2 (3, .int (nI (S.2.2 (20 + i)))) (List.mem_cons_of_mem _ (List.mem_cons_of_mem _ (List.mem_cons_of_mem _ List.mem_cons_self)))
    have hgrow : (h i).1 = S.2.2 (20 + i) → W p l e R s m #[.ref (α 13 i), .ref (α (lk i) (S.2.2 (20 + i))), .ref (ed g h i), .int (nI (S.2.2 (20 + i)))] below meth c s.heap [] 0 0 (vx_MQ below (QA g α S i) XN #[.ref (α 13 i), .ref (α (lk i) (S.2.2 (20 + i))), .ref (ed g h i), .int (nI (S.2.2 (20 + i)))] s 1 (120 * 1) (AB g)) (F0 m 6 ls []) := fun hfull => by
      refine lv_aload_n C.1 C.2.1 dJx4a65c_add_72be8_6 rfl b0 ?_
      have hlk : LkB "java/util/ArrayList" 129 yJx4a65c_grow_d5877 cJx4a65c_grow_d5877 1 (some (.array (.object "java/lang/Object"))) 0 := ⟨List.mem_of_getElem? (i := 312) (by decide +kernel), List.mem_of_getElem? (i := 29) (by decide +kernel), List.mem_of_getElem? (i := 309) (by decide +kernel), ⟨by decide +kernel, by decide +kernel⟩, by decide +kernel, by decide⟩
      have hpre := pre_Wz C hR (X := fun _ => True) (fun _ _ => trivial) (fun _ _ _ _ => trivial) va_S.rf [.ref (α 13 i)]
      refine w_afterQ (mc := 1) (ms := 120 * 1) (rest := []) (vx_runV (Ts := []) (own := "java/util/ArrayList") (C := "java/util/ArrayList") (b := α 13 i) (As := []) ⟨C.1, C.2.1, C.2.2.1, C.2.2.2.1, fun _ h => nomatch h⟩ (ct_grow0 hl (g := g) (α := α) (h := h) (S := S) hi hfull h60) ⟨lkB_call C hlk (by decide), wt_at (w := 311) hWT (by decide +kernel) rfl, wt_at (w := 2) hWT (by decide +kernel) rfl⟩ ⟨hpre.1, recv_ob hK hR (Or.inr rfl) hi, hpre.2⟩ rfl rfl hl9.1 rfl (by show 2 * 0 + 0 ≤ 8; decide) dJx4a65c_add_72be8_7 ⟨by omega, by omega⟩) va_S.rf (fun v st₀ t _ hz => qg_F v st₀ t hz) (fun v st₀ t locs1 hst hz hS1 => ?_) (fun E st₀ t hx => hx)
      obtain ⟨h', ho, hc, hR1, hF⟩ := hz
      cases ho
      refine lv_astore_n (lv' := [(2, .ref (h' i).2.1), (0, .ref (α 13 i)), (1, .ref (α (lk i) (S.2.2 (20 + i)))), (3, .int (nI (S.2.2 (20 + i))))]) C.1 C.2.1 dJx4a65c_add_72be8_10 rfl hl9 (by decide) rfl fun ls1 hl1 => ?_
      exact add_tail C hr hR1 hS1 hi hc hj ⟨by omega, by omega⟩ (hl1.2.2 (0, _) (List.mem_cons_of_mem _ List.mem_cons_self)) (hl1.2.2 (1, _) (List.mem_cons_of_mem _ (List.mem_cons_of_mem _ List.mem_cons_self))) (hl1.2.2 (2, _) List.mem_cons_self) (hl1.2.2 (3, _) (List.mem_cons_of_mem _ (List.mem_cons_of_mem _ (List.mem_cons_of_mem _ List.mem_cons_self))))
    refine lv_iload_n C.1 C.2.1 dJx4a65c_add_72be8_0 rfl b3 ?_
    refine lv_aload_n C.1 C.2.1 dJx4a65c_add_72be8_1 rfl b2 ?_
    by_cases h0 : (h i).1 = 0
    · rw [show ed g h i = g.2.2.1 from if_pos h0] at hgrow ⊢
      obtain ⟨hde, cell, hc1, hc2, hc3, hc4⟩ := hST.2.2.2.2.1
      have hs0 : S.2.2 (20 + i) = 0 := by omega
      refine W.alen (n := 0) (ty := .object "java/lang/Object") C.1 C.2.1 hc1 hc2 (by rw [hc4]; rfl) rfl rfl dJx4a65c_add_72be8_2 ?_
      refine lv_icmp_ne (tgt := 11) C.1 C.2.1 dJx4a65c_add_72be8_3 rfl (fun q => absurd (by rw [hs0]; rfl) q) fun _ => ?_
      exact hgrow (by omega)
    · have e1 : ed g h i = (h i).2.1 := if_neg h0
      rw [e1] at hgrow b2 ⊢
      refine va_alen (ty := .object "java/lang/Object") C.1 C.2.1 hK (hR.lar hi h0) 0 3 rfl rfl rfl dJx4a65c_add_72be8_2 ?_
      refine lv_icmp_ne (tgt := 11) C.1 C.2.1 dJx4a65c_add_72be8_3 rfl (fun q => ?_) fun q => ?_
      · have hlt : S.2.2 (20 + i) < (h i).1 := by
          have : S.2.2 (20 + i) ≠ (h i).1 := fun z => q (by rw [z]; rfl)
          omega
        exact add_tail C hr hR va_S.rf hi hlt hj ⟨by omega, by omega⟩ b0 b1 b2 b3
      · refine hgrow ?_
        have q1 := congrArg Int32.toNatClampNeg q
        rw [nI_cl (by omega), ofNat_cl (by omega)] at q1
        exact q1.symm
theorem ct_add {l : Launch} (hl : l.stackTraces = false) : CT l yJx4a65c_add_9ea2d cJx4a65c_add_9ea2d 2 (some .boolean) 5 1 s_add := by
  refine CT_w (own := "java/util/ArrayList") hl (by decide +kernel) rfl (fun as S P h => ?_) ?_
  · obtain ⟨i, rfl, -⟩ := s_add_ok h
    exact ⟨Nat.le_refl _, fun a ha => by
      rcases List.mem_cons.mp ha with rfl | ha
      · rfl
      · rw [List.mem_singleton.mp ha]; rfl⟩
  · intro p e R s m below meth c g α h S as P ls hsp C hr hR hLv hle
    obtain ⟨i, rfl, hi, h60, hj, hP⟩ := s_add_ok hsp
    have hWT := C.2.2.2.2.2.2.2.1
    have hK := C.2.2.2.2.2.2.1
    have h30 := C.2.2.2.2.2.2.2.2.2.2.2.2.1
    have h31 := C.2.2.2.2.2.2.2.2.2.2.2.2.2.1
    have h9 := hR.2.2.2.2.1 i hi
    have hk9 : lk i ≠ 99 := (ob_ne (Or.inl (lk_ok (i := i)))).2.1
    have b0 : ls[0]? = some (.val (.ref (α 13 i))) := hle.2.2 (0, .ref (α 13 i)) List.mem_cons_self
    have b1 : ls[1]? = some (.val (.ref (α (lk i) (S.2.2 (20 + i))))) := by
      have := hle.2.2 (1, conc α (aR (lk i) (S.2.2 (20 + i)))) (List.mem_cons_of_mem _ List.mem_cons_self)
      rw [conc_ob hk9] at this
      exact this
    have hsm : ∀ x, s.fieldFound? ((vC 0).2.1 0).1 ((vC 0).2.1 0).2.1 ((vC 0).2.1 0).2.2.1 = some x → s.fieldFound? "java/util/ArrayList" ((vC 0).2.1 0).2.1 ((vC 0).2.1 0).2.2.1 = some x := fun x hx => u_same (args := #[]) (hWT _ (List.mem_of_getElem? (i := 83) (by decide +kernel)) rfl _) x hx
    refine lv_aload_n C.1 C.2.1 dJx4a65c_add_9ea2d_0 rfl b0 ?_
    refine lv_dup C.1 C.2.1 dJx4a65c_add_9ea2d_1 rfl ?_
    refine w_lget C.1 C.2.1 C.2.2.2.1 hK hWT hR hi 0 (by decide) (wt_at (w := 82) hWT (by decide +kernel) rfl) hsm rfl dJx4a65c_add_9ea2d_2 ?_
    refine lv_iconst (v := 1) C.1 C.2.1 dJx4a65c_add_9ea2d_5 rfl ?_
    refine lv_iadd C.1 C.2.1 dJx4a65c_add_9ea2d_6 ?_
    refine w_putL C.1 C.2.1 C.2.2.2.1 hK hWT va_S.rf (hR.lst hi) (lst_AB hR hi) 0 (by decide) rfl (wt_at (w := 82) hWT (by decide +kernel) rfl) hsm rfl ⟨rfl, rfl⟩ dJx4a65c_add_9ea2d_7 (fun H1 locs1 hP1 z1 o1 hS1 => ?_)
    have hR1 : Rep g α (h1n h i ((h i).1, (h i).2.1, (h i).2.2 + 1)) S H1 := by
      refine hR.lupd (v := ((h i).1, (h i).2.1, (h i).2.2 + 1)) hi rfl rfl (fun _ _ => rfl) (Nat.le_refl _) h9.2.1 h9.2.2.1 h9.2.2.2.1 h9.2.2.2.2 (fun h0 => ?_) ?_ (fun h0 => ?_) (fun k i' z g1 _ => o1 _ (adr_ne13 hR hi z g1))
      · have l15 : Lv h S 15 i := by rw [Lv, if_pos rfl]; exact ⟨hi, h0⟩
        have a15 : adr α h 15 i = (h i).2.1 := by rw [adr, if_pos rfl]
        exact ⟨by have := hR.2.2.1 15 i l15; rwa [a15] at this, fun k i' z g1 => fun w => g1 (hR.2.1 k i' 15 i z l15 (by rw [a15]; exact w))⟩
      · have e : lfs g (h1n h i ((h i).1, (h i).2.1, (h i).2.2 + 1)) S i = (lfs g h S i).set 0 (.int ((h i).2.2 + 1)) := by
          unfold lfs ed
          rw [h1n_eq]
          rfl
        rw [e]
        exact hP1
      · have l15 : Lv h S 15 i := by rw [Lv, if_pos rfl]; exact ⟨hi, h0⟩
        have a15 : adr α h 15 i = (h i).2.1 := by rw [adr, if_pos rfl]
        exact va_P1 ((hR.lar hi h0 0 _ rfl).kept (o1 _ (by have := adr_ne13 hR hi l15 (fun q => absurd q.1 (by decide)); rwa [a15] at this)))
    have eed : ed g (h1n h i ((h i).1, (h i).2.1, (h i).2.2 + 1)) i = ed g h i := by
      unfold ed
      rw [h1n_eq]
    generalize h1n h i ((h i).1, (h i).2.1, (h i).2.2 + 1) = h1 at hR1 eed
    refine lv_aload_n C.1 C.2.1 dJx4a65c_add_9ea2d_10 rfl b0 ?_
    refine lv_aload_n C.1 C.2.1 dJx4a65c_add_9ea2d_11 rfl b1 ?_
    refine lv_aload_n C.1 C.2.1 dJx4a65c_add_9ea2d_12 rfl b0 ?_
    refine w_lget C.1 C.2.1 C.2.2.2.1 hK hWT hR1 hi 1 (by decide) (wt_at (w := 79) hWT (by decide +kernel) rfl) (fun _ h => h) rfl dJx4a65c_add_9ea2d_13 ?_
    refine lv_aload_n C.1 C.2.1 dJx4a65c_add_9ea2d_16 rfl b0 ?_
    refine w_lget C.1 C.2.1 C.2.2.2.1 hK hWT hR1 hi 2 (by decide) (wt_at (w := 80) hWT (by decide +kernel) rfl) (fun _ h => h) rfl dJx4a65c_add_9ea2d_17 ?_
    have hlk : LkB "java/util/ArrayList" 131 yJx4a65c_add_72be8 cJx4a65c_add_72be8 4 none 3 := ⟨List.mem_of_getElem? (i := 308) (by decide +kernel), List.mem_of_getElem? (i := 29) (by decide +kernel), List.mem_of_getElem? (i := 305) (by decide +kernel), ⟨by decide +kernel, by decide +kernel⟩, by decide +kernel, by decide⟩
    have hpre := pre_Wz C hR1 (X := fun _ => True) (fun _ _ => trivial) (fun _ _ _ _ => trivial) hS1 [.ref (α 13 i), .ref (α (lk i) (S.2.2 (20 + i))), .ref (ed g h1 i), .int (nI (S.2.2 (20 + i)))]
    refine w_afterQ (mc := 1) (ms := 120 * 1) (rest := []) (vx_runV (Ts := []) (own := "java/util/ArrayList") (C := "java/util/ArrayList") (b := α 13 i) (As := [.ref (α (lk i) (S.2.2 (20 + i))), .ref (ed g h1 i), .int (nI (S.2.2 (20 + i)))]) ⟨C.1, C.2.1, C.2.2.1, C.2.2.2.1, fun _ h => nomatch h⟩ (ct_add3 hl (g := g) (α := α) (h := h1) (S := S) hi hj h60) ⟨lkB_call C hlk (by decide), wt_at (w := 307) hWT (by decide +kernel) rfl, wt_at (w := 1) hWT (by decide +kernel) rfl⟩ ⟨hpre.1, recv_ob hK hR1 (Or.inr rfl) hi, hpre.2⟩ rfl rfl hle.1 rfl (by show 2 * 0 + 0 ≤ 8; decide) dJx4a65c_add_9ea2d_20 ⟨by omega, by omega⟩) hS1 (fun v st₀ t _ hz => qa_F v st₀ t hz) (fun v st₀ t locs2 hst hz hS2 => ?_) (fun E st₀ t hx => hx)
    obtain ⟨h', ho, hR2, hF⟩ := hz
    cases ho
    refine lv_iconst (v := 1) C.1 C.2.1 dJx4a65c_add_9ea2d_23 rfl ?_
    exact fin_ret (u := 1) (r := some (aI 1)) C hr hP (Nat.le_refl _) hR2 ⟨fun _ _ _ => rfl, fun k => bump_le k⟩ trivial hS2 ⟨Or.inr ⟨rfl, rfl⟩, dJx4a65c_add_9ea2d_24⟩
