/-! THE JDK's LISTS: grow -/
theorem dJ8_newLength_cabcc_0 : decode cJ8_newLength_cabcc 0 = .ok (.iload_n 0, 1) := by decide +kernel
theorem dJ8_newLength_cabcc_1 : decode cJ8_newLength_cabcc 1 = .ok (.iload_n 1, 1) := by decide +kernel
theorem dJ8_newLength_cabcc_2 : decode cJ8_newLength_cabcc 2 = .ok (.iload_n 2, 1) := by decide +kernel
theorem dJ8_newLength_cabcc_3 : decode cJ8_newLength_cabcc 3 = .ok (.invokestatic 194, 3) := by decide +kernel
theorem dJ8_newLength_cabcc_6 : decode cJ8_newLength_cabcc 6 = .ok (.iadd, 1) := by decide +kernel
theorem dJ8_newLength_cabcc_7 : decode cJ8_newLength_cabcc 7 = .ok (.istore_n 3, 1) := by decide +kernel
theorem dJ8_newLength_cabcc_8 : decode cJ8_newLength_cabcc 8 = .ok (.iconst 0, 1) := by decide +kernel
theorem dJ8_newLength_cabcc_9 : decode cJ8_newLength_cabcc 9 = .ok (.iload_n 3, 1) := by decide +kernel
theorem dJ8_newLength_cabcc_10 : decode cJ8_newLength_cabcc 10 = .ok (.if_icmp .ge 11, 3) := by decide +kernel
theorem dJ8_newLength_cabcc_13 : decode cJ8_newLength_cabcc 13 = .ok (.iload_n 3, 1) := by decide +kernel
theorem dJ8_newLength_cabcc_14 : decode cJ8_newLength_cabcc 14 = .ok (.ldc 200, 2) := by decide +kernel
theorem dJ8_newLength_cabcc_16 : decode cJ8_newLength_cabcc 16 = .ok (.if_icmp .gt 5, 3) := by decide +kernel
theorem dJ8_newLength_cabcc_19 : decode cJ8_newLength_cabcc 19 = .ok (.iload_n 3, 1) := by decide +kernel
theorem dJ8_newLength_cabcc_20 : decode cJ8_newLength_cabcc 20 = .ok (.ireturn, 1) := by decide +kernel
theorem dJ8_newLength_cabcc_21 : decode cJ8_newLength_cabcc 21 = .ok (.iload_n 0, 1) := by decide +kernel
theorem dJ8_newLength_cabcc_22 : decode cJ8_newLength_cabcc 22 = .ok (.iload_n 1, 1) := by decide +kernel
theorem dJ8_newLength_cabcc_23 : decode cJ8_newLength_cabcc 23 = .ok (.invokestatic 201, 3) := by decide +kernel
theorem dJ8_newLength_cabcc_26 : decode cJ8_newLength_cabcc 26 = .ok (.ireturn, 1) := by decide +kernel
def nlD (c : Nat) : Int32 := Int32.ofNat c + (if nI (c + 1) - Int32.ofNat c < Int32.ofNat c >>> ((1 : Int32) &&& 31) then Int32.ofNat c >>> ((1 : Int32) &&& 31) else nI (c + 1) - Int32.ofNat c)
theorem nl_ok : ∀ c : Nat, c < 60 → 10 ≤ c → (0 < Int32.ofNat c) ∧ (¬ nlD c ≤ 0) ∧ (¬ (2147483639 : Int32) < nlD c) ∧ (¬ nlD c < 0) ∧ c < (nlD c).toNatClampNeg ∧ (nlD c).toNatClampNeg ≤ 100 := by decide +kernel
def QP (r : Int32) : Array Value → State → Outcome → State → Prop := fun _ st o t => o = .returned (some (.int r)) ∧ t.heap = st.heap
theorem qp_F {g : GT} {r : Int32} {a : Array Value} (v : Option Value) (st t : State) (h : QP r a st (.returned v) t) : va_F (AB g) st t := ⟨by rw [h.2]; exact Nat.le_refl _, fun q _ _ => by rw [h.2]⟩
theorem ct_nl {l : Launch} (hl : l.stackTraces = false) {g : GT} {α : Nat → Nat → Nat} {h : HT} {S : Sto} {c0 : Nat} (h10 : 10 ≤ c0) (h60 : c0 < 60) :
    vx_Met l yJ8_newLength_cabcc [.code yJ8_newLength_cabcc cJ8_newLength_cabcc 4 (some .int)] (rmx 0 0) (va_Pc [.int (Int32.ofNat c0), .int (nI (c0 + 1) - Int32.ofNat c0), .int (Int32.ofNat c0 >>> ((1 : Int32) &&& 31))] (fun U => Wd g α h S U ∧ True)) (QP (nlD c0)) XN 0 (120 * 0) (AB g) := by
  refine Met_z (X := fun _ => True) (own := "jdk/internal/util/ArraysSupport") hl (by decide +kernel) rfl (Nat.le_of_ble_eq_true rfl) (fun v hv => ?_) ?_
  · simp only [List.mem_cons, List.not_mem_nil, or_false] at hv
    rcases hv with rfl | rfl | rfl <;> rfl
  · intro p e R s m below meth c ls C hr hR hX hl9
    have hWT := C.2.2.2.2.2.2.2.1
    have hlocks := C.2.2.2.2.1
    have hfr := C.2.2.2.2.2.2.2.2.2.2.1
    have hlo := C.2.2.2.2.2.2.2.2.2.2.2.1
    obtain ⟨n1, n2, n3, n4, n5, n6⟩ := nl_ok c0 h60 h10
    refine lv_iload_n C.1 C.2.1 dJ8_newLength_cabcc_0 rfl (hl9.2.2 (0, .int (Int32.ofNat c0)) List.mem_cons_self) ?_
    refine lv_iload_n C.1 C.2.1 dJ8_newLength_cabcc_1 rfl (hl9.2.2 (1, .int (nI (c0 + 1) - Int32.ofNat c0)) (List.mem_cons_of_mem _ List.mem_cons_self)) ?_
    refine lv_iload_n C.1 C.2.1 dJ8_newLength_cabcc_2 rfl (hl9.2.2 (2, .int (Int32.ofNat c0 >>> ((1 : Int32) &&& 31))) (List.mem_cons_of_mem _ (List.mem_cons_of_mem _ List.mem_cons_self))) ?_
    refine va_mmax C.1 C.2.1 (by rw [C.2.2.1, hl9.1]) C.2.2.2.1 (wt_at (w := 320) hWT (by decide +kernel) rfl) (hWT _ mathI_ok.2.1 rfl _) (hWT _ mathI_ok.1 rfl _) (hWT _ mathI_ok.2.2.1 rfl _) (by omega) (by show 1 + 13 ≤ _; omega) (Nat.zero_le _) (Nat.zero_le _) dJ8_newLength_cabcc_3 ?_
    refine lv_iadd C.1 C.2.1 dJ8_newLength_cabcc_6 ?_
    refine lv_istore_n C.1 C.2.1 dJ8_newLength_cabcc_7 rfl hl9 (by decide) rfl fun ls1 hl1 => ?_
    have b3 : ls1[3]? = some (.val (.int (nlD c0))) := hl1.2.2 (3, .int (nlD c0)) List.mem_cons_self
    refine lv_iconst (v := 0) C.1 C.2.1 dJ8_newLength_cabcc_8 rfl ?_
    refine lv_iload_n C.1 C.2.1 dJ8_newLength_cabcc_9 rfl b3 ?_
    refine lv_icmp_ge (tgt := 21) C.1 C.2.1 dJ8_newLength_cabcc_10 rfl (fun q => absurd q n2) fun _ => ?_
    refine lv_iload_n C.1 C.2.1 dJ8_newLength_cabcc_13 rfl b3 ?_
    refine lv_ldc (v := 2147483639) C.1 C.2.1 C.2.2.2.1 (wt_at (w := 323) hWT (by decide +kernel) rfl) dJ8_newLength_cabcc_14 ?_
    refine lv_icmp_gt (tgt := 21) C.1 C.2.1 dJ8_newLength_cabcc_16 rfl (fun q => absurd q n3) fun _ => ?_
    refine lv_iload_n C.1 C.2.1 dJ8_newLength_cabcc_19 rfl b3 ?_
    refine vx_ret ?_
    exact W.iret C.1 C.2.1 hr (fun t ht _ => ⟨rfl, ht⟩) (fun _ q => nomatch q) dJ8_newLength_cabcc_20
def QG (g : GT) (α : Nat → Nat → Nat) (S : Sto) (i : Nat) : Array Value → State → Outcome → State → Prop := fun _ st o t => ∃ h' : HT, o = .returned (some (.ref (h' i).2.1)) ∧ S.2.2 (20 + i) < (h' i).1 ∧ Rep g α h' S t.heap ∧ va_F (AB g) st t
theorem qg_F {g : GT} {α : Nat → Nat → Nat} {S : Sto} {i : Nat} {a : Array Value} (v : Option Value) (st t : State) (h : QG g α S i a st (.returned v) t) : va_F (AB g) st t := by
  obtain ⟨h', -, -, -, h1⟩ := h
  exact h1
theorem adr_ne13 {g : GT} {α : Nat → Nat → Nat} {h : HT} {S : Sto} {H : Heap} (hR : Rep g α h S H) {i : Nat} (hi : i < S.2.2 13) {k i' : Nat} (hl : Lv h S k i') (hne : ¬ (k = 13 ∧ i' = i)) : adr α h k i' ≠ α 13 i := fun e => by
  have l13 : Lv h S 13 i := Lv_of (Or.inr rfl) hi
  exact hne (hR.2.1 k i' 13 i hl l13 (by rw [e, adr_of (Or.inr rfl)]))
theorem lst_AB {g : GT} {α : Nat → Nat → Nat} {h : HT} {S : Sto} {H : Heap} (hR : Rep g α h S H) {i : Nat} (hi : i < S.2.2 13) : AB g (α 13 i) := by
  have := hR.2.2.1 13 i (Lv_of (Or.inr rfl) hi)
  rwa [adr_of (Or.inr rfl)] at this
theorem ct_growi {l : Launch} (hl : l.stackTraces = false) {g : GT} {α : Nat → Nat → Nat} {h : HT} {S : Sto} {i : Nat} (hi : i < S.2.2 13) (hfull : (h i).1 = S.2.2 (20 + i)) (h60 : S.2.2 (20 + i) < 60) :
    vx_Met l yJx4a65c_grow_92f84 [.code yJx4a65c_grow_92f84 cJx4a65c_grow_92f84 4 (some (.array (.object "java/lang/Object")))] (rmx 2 1) (va_Pc [.ref (α 13 i), .int (nI (S.2.2 (20 + i) + 1))] (fun U => Wd g α h S U ∧ True)) (QG g α S i) XN 1 (120 * 1) (AB g) := by
  refine Met_z (X := fun _ => True) (own := "java/util/ArrayList") hl (by decide +kernel) rfl (Nat.le_of_ble_eq_true rfl) (fun v hv => ?_) ?_
  · simp only [List.mem_cons, List.not_mem_nil, or_false] at hv
    rcases hv with rfl | rfl <;> rfl
  · intro p e R s m below meth c ls C hr hR hX hl9
    have hWT := C.2.2.2.2.2.2.2.1
    have hK := C.2.2.2.2.2.2.1
    have hST := C.2.2.2.2.2.2.2.2.1
    have hlocks := C.2.2.2.2.1
    have hfr := C.2.2.2.2.2.2.2.2.2.2.1
    have hlo := C.2.2.2.2.2.2.2.2.2.2.2.1
    have h30 := C.2.2.2.2.2.2.2.2.2.2.2.2.1
    have h31 := C.2.2.2.2.2.2.2.2.2.2.2.2.2.1
    have h9 := hR.2.2.2.2.1 i hi
    have a0 := hl9.2.2 (0, .ref (α 13 i)) List.mem_cons_self
    refine lv_aload_n C.1 C.2.1 dJx4a65c_grow_92f84_0 rfl a0 ?_
    refine w_lget C.1 C.2.1 C.2.2.2.1 hK hWT hR hi 1 (by decide) (wt_at (w := 79) hWT (by decide +kernel) rfl) (fun _ h => h) rfl dJx4a65c_grow_92f84_1 ?_
    by_cases h0 : (h i).1 = 0
    · have hs0 : S.2.2 (20 + i) = 0 := by omega
      rw [show ed g h i = g.2.2.1 from if_pos h0]
      obtain ⟨hde, cell, hc1, hc2, hc3, hc4⟩ := hST.2.2.2.2.1
      refine W.alen (n := 0) (ty := .object "java/lang/Object") C.1 C.2.1 hc1 hc2 (by rw [hc4]; rfl) rfl rfl dJx4a65c_grow_92f84_4 ?_
      refine lv_istore_n (lv' := [(2, .int 0), (0, .ref (α 13 i)), (1, .int (nI (S.2.2 (20 + i) + 1)))]) C.1 C.2.1 dJx4a65c_grow_92f84_5 rfl hl9 (by decide) rfl fun ls1 hl1 => ?_
      have b0 := hl1.2.2 (0, .ref (α 13 i)) (List.mem_cons_of_mem _ List.mem_cons_self)
      have b1 := hl1.2.2 (1, .int (nI (S.2.2 (20 + i) + 1))) (List.mem_cons_of_mem _ (List.mem_cons_of_mem _ List.mem_cons_self))
      refine lv_iload_n C.1 C.2.1 dJx4a65c_grow_92f84_6 rfl (hl1.2.2 (2, .int 0) List.mem_cons_self) ?_
      refine lv_if_gt (tgt := 20) C.1 C.2.1 dJx4a65c_grow_92f84_7 rfl (fun q => absurd q (by decide)) fun _ => ?_
      refine lv_aload_n C.1 C.2.1 dJx4a65c_grow_92f84_10 rfl b0 ?_
      refine w_lget C.1 C.2.1 C.2.2.2.1 hK hWT hR hi 1 (by decide) (wt_at (w := 79) hWT (by decide +kernel) rfl) (fun _ h => h) rfl dJx4a65c_grow_92f84_11 ?_
      rw [show ed g h i = g.2.2.1 from if_pos h0]
      refine va_gets C.1 C.2.1 hST.2.2.2.1 va_S.rf C.2.2.2.1 (wt_at (w := 77) hWT (by decide +kernel) rfl) (fun _ h => h) dJx4a65c_grow_92f84_14 ?_
      refine lv_acmp_eq (tgt := 45) (rx := some g.2.2.1) (ry := some g.2.2.1) C.1 C.2.1 dJx4a65c_grow_92f84_17 rfl (fun _ => ?_) (fun q => absurd rfl q)
      refine lv_aload_n C.1 C.2.1 dJx4a65c_grow_92f84_45 rfl b0 ?_
      refine lv_bipush (v := 10) C.1 C.2.1 dJx4a65c_grow_92f84_46 rfl ?_
      refine lv_iload_n C.1 C.2.1 dJx4a65c_grow_92f84_48 rfl b1 ?_
      refine va_mmax C.1 C.2.1 (by rw [C.2.2.1, hl1.1]) C.2.2.2.1 (wt_at (w := 357) hWT (by decide +kernel) rfl) (hWT _ mathI_ok.2.1 rfl _) (hWT _ mathI_ok.1 rfl _) (hWT _ mathI_ok.2.2.1 rfl _) (by omega) (by show 1 + 13 ≤ _; omega) (by omega) (by omega) dJx4a65c_grow_92f84_49 ?_
      have e10 : (if (10 : Int32) < nI (S.2.2 (20 + i) + 1) then nI (S.2.2 (20 + i) + 1) else 10) = 10 := by rw [hs0]; decide
      rw [e10]
      refine w_anewO (g := g) (N := 10) C.1 C.2.1 C.2.2.2.1 hK hWT (by decide) (by decide) (by decide) (wt_at (w := 358) hWT (by decide +kernel) rfl) (by omega) (by omega) dJx4a65c_grow_92f84_52 fun H1 z1 o1 hP1 => ?_
      have hR1 : Rep g α h S H1 := hR.cong fun q h1 _ => o1 q h1
      refine lv_dup_x1 C.1 C.2.1 dJx4a65c_grow_92f84_55 rfl rfl ?_
      have hS1 : va_S (AB g) s.heap H1 [] := ⟨by omega, fun x h1 _ => o1 x h1, fun _ q => nomatch q⟩
      have hbs := C.2.2.2.2.2.2.2.2.2.1
      refine w_putL C.1 C.2.1 C.2.2.2.1 hK hWT hS1 (hR1.lst hi) (lst_AB hR hi) 1 (by decide) rfl (wt_at (w := 79) hWT (by decide +kernel) rfl) (fun _ h => h) rfl ((rty_ok rfl).2 _) dJx4a65c_grow_92f84_56 (fun H2 locs2 hP2 z2 o2 hS2 => ?_)
      have hne : s.heap.size ≠ α 13 i := fun q => by
        have := hR.lt (Lv_of (h := h) (Or.inr rfl) hi)
        rw [adr_of (Or.inr rfl)] at this
        omega
      have hR2 : Rep g α (h1n h i (10, s.heap.size, (h i).2.2)) S H2 := by
        refine hR1.lupd (v := (10, s.heap.size, (h i).2.2)) hi rfl rfl (fun _ _ => rfl) (Nat.le_refl _) h9.2.1 (by show S.2.2 (20 + i) ≤ 10; omega) (show 10 ≤ 100 by decide) (Or.inr (show 10 ≤ 10 by decide)) (fun _ => ⟨hbs, fun k i' q _ => Nat.ne_of_lt (hR.lt q)⟩) ?_ (fun _ => ?_) (fun k i' q g1 _ => o2 _ (adr_ne13 hR hi q g1))
        · have e : lfs g (h1n h i (10, s.heap.size, (h i).2.2)) S i = (lfs g h S i).set 1 (.ref s.heap.size) := by
            unfold lfs ed
            rw [h1n_eq]
            rfl
          rw [e]
          exact hP2
        · intro k q hk
          have hk1 : k < 1 := (List.getElem?_eq_some_iff.mp hk).1
          obtain rfl : k = 0 := by omega
          cases hk
          have h3 := hP1 0 _ rfl
          have e : elF α S i = fun _ => none := by
            funext j
            unfold elF
            rw [if_neg (by omega)]
          rw [e]
          exact h3.kept (o2 _ hne)
      refine W.widen (k := 1) (n := 120 * 1) (by omega) (by omega) (vx_ret ?_)
      exact W.aret (rt := .array (.object "java/lang/Object")) C.1 C.2.1 hr (Or.inr ⟨_, rfl⟩) (Or.inr ⟨_, rfl⟩) (fun t' ht _ => ⟨h1n h i (10, s.heap.size, (h i).2.2), by rw [h1n_eq], by rw [h1n_eq]; show S.2.2 (20 + i) < 10; omega, by rw [ht]; exact hR2, hS2.F ht⟩) hS2.2.2 dJx4a65c_grow_92f84_59
    · rw [show ed g h i = (h i).2.1 from if_neg h0]
      have h10 : 10 ≤ (h i).1 := h9.2.2.2.2.resolve_left h0
      obtain ⟨n1, n2, n3, n4, n5, n6⟩ := nl_ok (h i).1 (by omega) h10
      refine va_alen (ty := .object "java/lang/Object") C.1 C.2.1 hK (hR.lar hi h0) 0 3 rfl rfl rfl dJx4a65c_grow_92f84_4 ?_
      refine lv_istore_n (lv' := [(2, .int (Int32.ofNat (h i).1)), (0, .ref (α 13 i)), (1, .int (nI (S.2.2 (20 + i) + 1)))]) C.1 C.2.1 dJx4a65c_grow_92f84_5 rfl hl9 (by decide) rfl fun ls1 hl1 => ?_
      have b0 := hl1.2.2 (0, .ref (α 13 i)) (List.mem_cons_of_mem _ List.mem_cons_self)
      have b1 := hl1.2.2 (1, .int (nI (S.2.2 (20 + i) + 1))) (List.mem_cons_of_mem _ (List.mem_cons_of_mem _ List.mem_cons_self))
      have b2 := hl1.2.2 (2, .int (Int32.ofNat (h i).1)) List.mem_cons_self
      refine lv_iload_n C.1 C.2.1 dJx4a65c_grow_92f84_6 rfl b2 ?_
      refine lv_if_gt (tgt := 20) C.1 C.2.1 dJx4a65c_grow_92f84_7 rfl (fun _ => ?_) fun q => absurd n1 q
      refine lv_iload_n C.1 C.2.1 dJx4a65c_grow_92f84_20 rfl b2 ?_
      refine lv_iload_n C.1 C.2.1 dJx4a65c_grow_92f84_21 rfl b1 ?_
      refine lv_iload_n C.1 C.2.1 dJx4a65c_grow_92f84_22 rfl b2 ?_
      refine lv_isub C.1 C.2.1 dJx4a65c_grow_92f84_23 ?_
      refine lv_iload_n C.1 C.2.1 dJx4a65c_grow_92f84_24 rfl b2 ?_
      refine lv_iconst (v := 1) C.1 C.2.1 dJx4a65c_grow_92f84_25 rfl ?_
      refine lv_ishr C.1 C.2.1 dJx4a65c_grow_92f84_26 ?_
      rw [← hfull] at b1 ⊢
      have hlk1 : LkB "java/util/ArrayList" 73 yJ8_newLength_cabcc cJ8_newLength_cabcc 4 (some .int) 3 := ⟨List.mem_of_getElem? (i := 319) (by decide +kernel), List.mem_of_getElem? (i := 38) (by decide +kernel), List.mem_of_getElem? (i := 317) (by decide +kernel), ⟨by decide +kernel, by decide +kernel⟩, by decide +kernel, by decide⟩
      refine w_afterQ (mc := 0) (ms := 120 * 0) (rest := []) (vx_runS (Ts := []) (own := "java/util/ArrayList") (As := [.int (Int32.ofNat (h i).1), .int (nI ((h i).1 + 1) - Int32.ofNat (h i).1), .int (Int32.ofNat (h i).1 >>> ((1 : Int32) &&& 31))]) ⟨C.1, C.2.1, C.2.2.1, C.2.2.2.1, fun _ h => nomatch h⟩ (ct_nl hl (g := g) (α := α) (h := h) (S := S) h10 (by omega)) ⟨lkB_call C hlk1 (by decide), wt_at (w := 318) hWT (by decide +kernel) rfl⟩ (pre_Wz C hR (X := fun _ => True) (fun _ _ => trivial) (fun _ _ _ _ => trivial) va_S.rf _) rfl rfl hl1.1 rfl (by show 2 * 0 + 0 ≤ 8; decide) dJx4a65c_grow_92f84_27 ⟨by omega, by omega⟩) va_S.rf (fun v st₀ t _ hz => qp_F v st₀ t hz) (fun v st₀ t locs1 hst hz hS1 => ?_) (fun E st₀ t hx => hx)
      obtain ⟨ho, hth⟩ := hz
      cases ho
      have hR1 : Rep g α h S t.heap := by rw [hth, hst]; exact hR
      refine lv_istore_n (lv' := [(3, .int (nlD (h i).1)), (2, .int (Int32.ofNat (h i).1)), (0, .ref (α 13 i)), (1, .int (nI ((h i).1 + 1)))]) C.1 C.2.1 dJx4a65c_grow_92f84_30 rfl hl1 (by decide) (by rw [hfull]; rfl) fun ls2 hl2 => ?_
      have d0 := hl2.2.2 (0, .ref (α 13 i)) (List.mem_cons_of_mem _ (List.mem_cons_of_mem _ List.mem_cons_self))
      have d3 := hl2.2.2 (3, .int (nlD (h i).1)) List.mem_cons_self
      refine lv_aload_n C.1 C.2.1 dJx4a65c_grow_92f84_31 rfl d0 ?_
      refine lv_aload_n C.1 C.2.1 dJx4a65c_grow_92f84_32 rfl d0 ?_
      refine w_lget C.1 C.2.1 C.2.2.2.1 hK hWT hR1 hi 1 (by decide) (wt_at (w := 79) hWT (by decide +kernel) rfl) (fun _ h => h) rfl dJx4a65c_grow_92f84_33 ?_
      rw [show ed g h i = (h i).2.1 from if_neg h0]
      refine lv_iload_n C.1 C.2.1 dJx4a65c_grow_92f84_36 rfl d3 ?_
      have hlk2 : LkB "java/util/ArrayList" 66 yJ7_copyOf_1904c cJ7_copyOf_1904c 2 (some (.array (.object "java/lang/Object"))) 2 := ⟨List.mem_of_getElem? (i := 329) (by decide +kernel), List.mem_of_getElem? (i := 30) (by decide +kernel), List.mem_of_getElem? (i := 327) (by decide +kernel), ⟨by decide +kernel, by decide +kernel⟩, by decide +kernel, by decide⟩
      refine w_afterQ (mc := 1) (ms := 120 * 1) (rest := [.ref (α 13 i)]) (vx_runS (Ts := []) (own := "java/util/ArrayList") (As := [.ref (h i).2.1, .int (nlD (h i).1)]) ⟨C.1, C.2.1, C.2.2.1, C.2.2.2.1, fun _ h => nomatch h⟩ (ct_cp2 hl (g := g) (α := α) (h := h) (S := S) hi h0 n4 rfl (Nat.le_of_lt n5) n6) ⟨lkB_call C hlk2 (by decide), wt_at (w := 328) hWT (by decide +kernel) rfl⟩ (pre_Wz C hR1 (X := fun _ => True) (fun _ _ => trivial) (fun _ _ _ _ => trivial) hS1 _) rfl rfl hl2.1 rfl (by show 2 * 0 + 1 ≤ 8; decide) dJx4a65c_grow_92f84_37 ⟨by show 0 + 0 + 1 ≤ _; omega, by show 0 + 120 * 0 + 120 * 1 ≤ _; omega⟩) hS1 (fun v st₀ t _ hz => qn_F v st₀ t hz) (fun v st2 t2 locs2 hst2 hz hS2 => ?_) (fun E st₀ t hx => hx)
      obtain ⟨q, ho, hq, hP, hsz, hoth⟩ := hz
      cases ho
      have hlt9 : ∀ k i', Lv h S k i' → adr α h k i' < st2.heap.size := fun k i' z => by rw [hst2]; exact hR1.lt z
      have hR2 : Rep g α h S t2.heap := by
        rw [← hst2] at hR1
        exact hR1.cong fun x hx _ => hoth x hx
      have hABq : AB g q := Nat.le_trans C.2.2.2.2.2.2.2.2.2.1 (Nat.le_trans hS1.1 (by rw [← hst2]; exact hq))
      refine lv_dup_x1 C.1 C.2.1 dJx4a65c_grow_92f84_40 rfl rfl ?_
      refine w_putL C.1 C.2.1 C.2.2.2.1 hK hWT hS2 (hR2.lst hi) (lst_AB hR hi) 1 (by decide) rfl (wt_at (w := 79) hWT (by decide +kernel) rfl) (fun _ h => h) rfl ((rty_ok rfl).2 _) dJx4a65c_grow_92f84_41 (fun H3 locs3 hP3 z3 o3 hS3 => ?_)
      have hne : q ≠ α 13 i := fun z => by
        have := hlt9 13 i (Lv_of (Or.inr rfl) hi)
        rw [adr_of (Or.inr rfl), ← z] at this
        exact absurd hq (Nat.not_le.mpr this)
      have hR3 : Rep g α (h1n h i ((nlD (h i).1).toNatClampNeg, q, (h i).2.2)) S H3 := by
        refine hR2.lupd (v := ((nlD (h i).1).toNatClampNeg, q, (h i).2.2)) hi rfl rfl (fun _ _ => rfl) (Nat.le_refl _) h9.2.1 (by show S.2.2 (20 + i) ≤ (nlD (h i).1).toNatClampNeg; omega) n6 (Or.inr (by show 10 ≤ (nlD (h i).1).toNatClampNeg; omega)) (fun _ => ⟨hABq, fun k i' z _ => Nat.ne_of_lt (Nat.lt_of_lt_of_le (hlt9 k i' z) hq)⟩) ?_ (fun _ => ?_) (fun k i' z g1 _ => o3 _ (adr_ne13 hR hi z g1))
        · have e : lfs g (h1n h i ((nlD (h i).1).toNatClampNeg, q, (h i).2.2)) S i = (lfs g h S i).set 1 (.ref q) := by
            unfold lfs ed
            rw [h1n_eq]
            show _ = [Value.int (h i).2.2, .ref q, .int (nI (S.2.2 (20 + i)))]
            have hnz : ¬ (nlD (h i).1).toNatClampNeg = 0 := by omega
            simp only [if_neg hnz]
          rw [e]
          exact hP3
        · intro k z hk
          have hk1 : k < 1 := (List.getElem?_eq_some_iff.mp hk).1
          obtain rfl : k = 0 := by omega
          cases hk
          exact (hP 0 _ rfl).kept (o3 _ hne)
      refine W.widen (k := 1) (n := 120 * 1) (by omega) (by omega) (vx_ret ?_)
      exact W.aret (rt := .array (.object "java/lang/Object")) C.1 C.2.1 hr (Or.inr ⟨_, rfl⟩) (Or.inr ⟨_, rfl⟩) (fun t' ht _ => ⟨h1n h i ((nlD (h i).1).toNatClampNeg, q, (h i).2.2), by rw [h1n_eq], by rw [h1n_eq]; show S.2.2 (20 + i) < (nlD (h i).1).toNatClampNeg; omega, by rw [ht]; exact hR3, hS3.F ht⟩) hS3.2.2 dJx4a65c_grow_92f84_44
theorem ct_grow0 {l : Launch} (hl : l.stackTraces = false) {g : GT} {α : Nat → Nat → Nat} {h : HT} {S : Sto} {i : Nat} (hi : i < S.2.2 13) (hfull : (h i).1 = S.2.2 (20 + i)) (h60 : S.2.2 (20 + i) < 60) :
    vx_Met l yJx4a65c_grow_d5877 [.code yJx4a65c_grow_d5877 cJx4a65c_grow_d5877 1 (some (.array (.object "java/lang/Object")))] (rmx 3 1) (va_Pc [.ref (α 13 i)] (fun U => Wd g α h S U ∧ True)) (QG g α S i) XN 1 (120 * 1) (AB g) := by
  refine Met_z (X := fun _ => True) (own := "java/util/ArrayList") hl (by decide +kernel) rfl (Nat.le_refl 1) (fun v hv => by rw [List.mem_singleton.mp hv]; rfl) ?_
  intro p e R s m below meth c ls C hr hR hX hl9
  have hWT := C.2.2.2.2.2.2.2.1
  have hK := C.2.2.2.2.2.2.1
  have hlocks := C.2.2.2.2.1
  have h30 := C.2.2.2.2.2.2.2.2.2.2.2.2.1
  have h31 := C.2.2.2.2.2.2.2.2.2.2.2.2.2.1
  have a0 := hl9.2.2 (0, .ref (α 13 i)) List.mem_cons_self
  refine lv_aload_n C.1 C.2.1 dJx4a65c_grow_d5877_0 rfl a0 ?_
  refine lv_aload_n C.1 C.2.1 dJx4a65c_grow_d5877_1 rfl a0 ?_
  refine w_lget C.1 C.2.1 C.2.2.2.1 hK hWT hR hi 2 (by decide) (wt_at (w := 80) hWT (by decide +kernel) rfl) (fun _ h => h) rfl dJx4a65c_grow_d5877_2 ?_
  refine lv_iconst (v := 1) C.1 C.2.1 dJx4a65c_grow_d5877_5 rfl ?_
  refine lv_iadd C.1 C.2.1 dJx4a65c_grow_d5877_6 ?_
  have e1 : nI (S.2.2 (20 + i)) + 1 = nI (S.2.2 (20 + i) + 1) := by
    show Int32.ofNat _ + 1 = Int32.ofNat _
    rw [Int32.ofNat_add]
    rfl
  rw [e1]
  have hlk : LkB "java/util/ArrayList" 69 yJx4a65c_grow_92f84 cJx4a65c_grow_92f84 4 (some (.array (.object "java/lang/Object"))) 1 := ⟨List.mem_of_getElem? (i := 316) (by decide +kernel), List.mem_of_getElem? (i := 29) (by decide +kernel), List.mem_of_getElem? (i := 313) (by decide +kernel), ⟨by decide +kernel, by decide +kernel⟩, by decide +kernel, by decide⟩
  have hpre := pre_Wz C hR (X := fun _ => True) (fun _ _ => trivial) (fun _ _ _ _ => trivial) va_S.rf [.ref (α 13 i), .int (nI (S.2.2 (20 + i) + 1))]
  refine w_afterQ (mc := 1) (ms := 120 * 1) (rest := []) (vx_runV (Ts := []) (own := "java/util/ArrayList") (C := "java/util/ArrayList") (b := α 13 i) (As := [.int (nI (S.2.2 (20 + i) + 1))]) ⟨C.1, C.2.1, C.2.2.1, C.2.2.2.1, fun _ h => nomatch h⟩ (ct_growi hl (g := g) (α := α) (h := h) (S := S) hi hfull h60) ⟨lkB_call C hlk (by decide), wt_at (w := 315) hWT (by decide +kernel) rfl, wt_at (w := 3) hWT (by decide +kernel) rfl⟩ ⟨hpre.1, recv_ob hK hR (Or.inr rfl) hi, hpre.2⟩ rfl rfl hl9.1 rfl (by show 2 * 0 + 0 ≤ 8; decide) dJx4a65c_grow_d5877_7 ⟨by omega, by omega⟩) va_S.rf (fun v st₀ t _ hz => qg_F v st₀ t hz) (fun v st₀ t locs1 hst hz hS1 => ?_) (fun E st₀ t hx => hx)
  obtain ⟨h', ho, hc, hR1, hF⟩ := hz
  cases ho
  refine W.widen (k := 1) (n := 120 * 1) (by omega) (by omega) (vx_ret ?_)
  exact W.aret (rt := .array (.object "java/lang/Object")) C.1 C.2.1 hr (Or.inr ⟨_, rfl⟩) (Or.inr ⟨_, rfl⟩) (fun t' ht _ => ⟨h', rfl, hc, by rw [ht]; exact hR1, hS1.F ht⟩) hS1.2.2 dJx4a65c_grow_d5877_10
/-- the adding itself: a list, and an object that is the next of its kind -/
def a2 (as : List AV) (k : Nat → Nat → Nat → Prop) : Prop := match as with
  | [Sum.inr (Sum.inr (a, i)), Sum.inr (Sum.inr (b, j))] => a = 13 ∧ k i b j
  | _ => False
def sAdd (S : Sto) (i : Nat) : Sto := (S.1, S.2.1, bump S.2.2 (20 + i))
def s_add : SP := fun as S Q => a2 as fun i b j => i < S.2.2 13 ∧ b = lk i ∧ j = S.2.2 (20 + i) ∧ S.2.2 (20 + i) < 60 ∧ S.2.2 (20 + i) < S.2.2 (lk i) ∧ Q (Sum.inl (some (aI 1))) (sAdd S i)
theorem s_add_ok {as : List AV} {S : Sto} {Q : Out → Sto → Prop} (h : s_add as S Q) : ∃ i, as = [aR 13 i, aR (lk i) (S.2.2 (20 + i))] ∧ i < S.2.2 13 ∧ S.2.2 (20 + i) < 60 ∧ S.2.2 (20 + i) < S.2.2 (lk i) ∧ Q (Sum.inl (some (aI 1))) (sAdd S i) := by
  unfold s_add a2 at h
  split at h
  · obtain ⟨rfl, h1, rfl, rfl, h2⟩ := h
    exact ⟨_, rfl, h1, h2⟩
  · exact h.elim
def QA (g : GT) (α : Nat → Nat → Nat) (S : Sto) (i : Nat) : Array Value → State → Outcome → State → Prop := fun _ st o t => ∃ h' : HT, o = .returned none ∧ Rep g α h' (sAdd S i) t.heap ∧ va_F (AB g) st t
theorem qa_F {g : GT} {α : Nat → Nat → Nat} {S : Sto} {i : Nat} {a : Array Value} (v : Option Value) (st t : State) (h : QA g α S i a st (.returned v) t) : va_F (AB g) st t := by
  obtain ⟨h', -, -, h1⟩ := h
  exact h1
