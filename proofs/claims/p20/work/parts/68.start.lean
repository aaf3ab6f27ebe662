/-! WHAT HOLDS AT THE LAW's ENTRY -/
theorem WT_of {s : State} {A : Array Value} (hts : ∀ w ∈ lw_tbl, w.before A s = true) : WT s := by
  intro w hw hg a
  by_cases h1 : goodWord w = true
  · exact word_at (State.WarmedH.refl s) (good_of_word h1) (hts w hw)
  · have h2 : isDC w = true := by
      rw [Bool.or_eq_true] at hg
      exact hg.resolve_left h1
    have h3 := hts w hw
    cases w <;> first | (simp [isDC] at h2; done) | exact va_Nw.use rfl (va_Nw.of rfl h3) | (rename_i ty9; cases ty9 <;> first | (simp [isDC] at h2; done) | exact (va_AO.of h3))
theorem kn_of {s : State} {A : Array Value} (hts : ∀ w ∈ lw_tbl, w.before A s = true) {a : Nat} (hK : KF a) (hi : Cond.instantiable (vC a).1 (vC a).2.2 ∈ lw_tbl) : ∃ (c : ClassId) (iS : Nat → Nat), ∀ q, vwCl[a]? = some q → u_Kn s q.1 q.2.1 q.2.2 c iS := by
  obtain ⟨c, iS, h⟩ := u_known (C := (vC a).1) (T := (vC a).2.1) (N := (vC a).2.2) (n := (vC a).2.2) hts (fun w hw => (hK.2.2.2 w hw).1) (hts _ hi)
  refine ⟨c, iS, fun q hq => ?_⟩
  have e := Option.some.inj (hq.symm.trans hK.1)
  rw [e]
  exact h
theorem kn_all {s : State} {A : Array Value} (hts : ∀ w ∈ lw_tbl, w.before A s = true) : ∀ a : Nat, ∃ (c : ClassId) (iS : Nat → Nat), ∀ q, vwCl[a]? = some q → u_Kn s q.1 q.2.1 q.2.2 c iS := by
  intro a
  by_cases h9 : a < 8
  · have h : a = 0 ∨ a = 1 ∨ a = 2 ∨ a = 3 ∨ a = 4 ∨ a = 5 ∨ a = 6 ∨ a = 7 := by omega
    rcases h with rfl | rfl | rfl | rfl | rfl | rfl | rfl | rfl
    · exact kn_of hts KF0 (List.mem_of_getElem? (i := 66) (by decide +kernel))
    · exact kn_of hts KF1 (List.mem_of_getElem? (i := 448) (by decide +kernel))
    · exact kn_of hts KF2 (List.mem_of_getElem? (i := 450) (by decide +kernel))
    · exact kn_of hts KF3 (List.mem_of_getElem? (i := 481) (by decide +kernel))
    · exact kn_of hts KF4 (List.mem_of_getElem? (i := 366) (by decide +kernel))
    · exact kn_of hts KF5 (List.mem_of_getElem? (i := 257) (by decide +kernel))
    · exact kn_of hts KF6 (List.mem_of_getElem? (i := 546) (by decide +kernel))
    · exact kn_of hts KF7 (List.mem_of_getElem? (i := 58) (by decide +kernel))
  · refine ⟨0, fun _ => 0, fun q hq => ?_⟩
    have h8 : a < vwCl.length := (List.getElem?_eq_some_iff.mp hq).1
    exact absurd h8 h9
theorem ar_of {s : State} {A : Array Value} {ty : FieldType} (h : (Cond.arrayClass ty).before A s = true) : ∃ cA : ClassId, ArrOfT s cA ty ∧ s.vm.findClass ("[" ++ ty.toString) = some cA := by
  obtain ⟨cA, kA, comp, h1, h2, h3⟩ := Cond.arrayClass_spec h
  exact ⟨cA, fun n z => ⟨fun k h => (by cases h), kA, h2, comp, h3⟩, h1⟩
theorem ar_ofO {s : State} {A : Array Value} {C : String} (h : (Cond.arrayOver (.object C)).before A s = true) : ∃ cA : ClassId, ArrOfT s cA (.object C) ∧ va_RA s cA (.object C) := by
  obtain ⟨comp, cA, kA, h1, -, h2, h3, h4⟩ := Cond.arrayOver_spec h
  exact ⟨cA, fun n z => ⟨fun k h => (by cases h), kA, h2, comp, h3⟩, kA, comp, h2, h3, h1, h4⟩
theorem len0 {s : State} {A : Array Value} {t : Term} {a : Addr} {cell : Cell} (h : (Cond.eq (.length t) (.int 0)).before A s = true) (ht : t.eval A s none [] s = some (.ref a)) (hc : s.heap[a]? = some cell) : cell.slots.size = 0 := by
  have h1 : (Term.length t).eval A s none [] s = some (.int 0) := by
    cases hv : (Term.length t).eval A s none [] s with
    | none => simp [Cond.before, Cond.holds, Cond.value, hv] at h
    | some w =>
      have hz : (Term.int 0).eval A s none [] s = some (.int 0) := rfl
      simp only [Cond.before, Cond.holds, Cond.value, hv, hz] at h
      cases w <;> simp_all
  simp only [Term.eval, Option.bind_eq_bind, ht, Option.bind_some] at h1
  cases ha : s.arrayAt? a with
  | none => simp [ha] at h1
  | some c2 =>
    simp only [ha, Option.bind_some] at h1
    obtain ⟨hcb, -⟩ := State.arrayAt?_spec ha
    have e : c2 = cell := Option.some.inj (hcb.symm.trans hc)
    subst e
    by_cases hs : c2.slots.size < 2 ^ 31
    · rw [if_pos hs] at h1
      have h2 : c2.slots.size.toInt32 = 0 := Value.int.inj (Option.some.inj h1)
      have h3 : (Int32.ofNat c2.slots.size).toInt = (0 : Int32).toInt := by rw [show Int32.ofNat c2.slots.size = 0 from h2]
      rw [Int32.toInt_ofNat_of_lt hs] at h3
      exact Int.ofNat_eq_zero.mp h3
    · rw [if_neg hs] at h1
      cases h1
theorem str_of {s : State} {A : Array Value} {n : Nat} {tx : String} (h1 : (Cond.stringRef "HeavyHaul" n tx).before A s = true) (h2 : (Cond.exactly (.string "HeavyHaul" n) "java/lang/String").before A s = true) : ∃ a, vk_R "HeavyHaul" n tx a s := by
  obtain ⟨a, c, cell, k, h3, -⟩ := Cond.exactly_spec h2
  exact ⟨a, vk_R.of h1 h3⟩
theorem start_g {s : State} {b N : Nat} {xs : Nat → Int32} (hN : N ≤ 260) (hX : va_X b N xs s s.heap) (hbl : b < s.heap.size) (hts : ∀ w ∈ lw_tbl, w.before #[Value.ref b] s = true) (hgv : (Jvm.Cond.and given_1 narrow_1).before #[Value.ref b] s = true) : ∃ g : GT, va_K g.1 vwCl (tysG g) s ∧ WT s ∧ ST g s s.heap ∧ g.2.2.2 = s.heap.size ∧ scA g = b := by
  have hs := flat_of_before _ hgv
  obtain ⟨dC, hdC⟩ := Classical.axiomOfChoice (kn_all hts)
  obtain ⟨dI, hdI⟩ := Classical.axiomOfChoice hdC
  obtain ⟨cI, i1, i2⟩ := ar_of (hts _ (List.mem_of_getElem? (i := 92) (by decide +kernel) : Cond.arrayClass .int ∈ lw_tbl))
  obtain ⟨cZ, z1, z2⟩ := ar_of (hts _ (List.mem_of_getElem? (i := 91) (by decide +kernel) : Cond.arrayClass .boolean ∈ lw_tbl))
  obtain ⟨cJ, j1, j2⟩ := ar_of (hts _ (List.mem_of_getElem? (i := 767) (by decide +kernel) : Cond.arrayClass .long ∈ lw_tbl))
  obtain ⟨cO, o1, o2⟩ := ar_ofO (hts _ (List.mem_of_getElem? (i := 349) (by decide +kernel) : Cond.arrayOver (.object "java/lang/Object") ∈ lw_tbl))
  have f1 := hs (Cond.exactly (.static "java/util/ArrayList" "DEFAULTCAPACITY_EMPTY_ELEMENTDATA" "[Ljava/lang/Object;") "[Ljava/lang/Object;") (by decide +kernel)
  have f2 := hs (Cond.arrayOf (.static "java/util/ArrayList" "DEFAULTCAPACITY_EMPTY_ELEMENTDATA" "[Ljava/lang/Object;") (.object "java/lang/Object")) (by decide +kernel)
  have f3 := hs (Cond.eq (.length (.static "java/util/ArrayList" "DEFAULTCAPACITY_EMPTY_ELEMENTDATA" "[Ljava/lang/Object;")) (.int 0)) (by decide +kernel)
  have f4 := hs (Cond.isRef (.static "java/lang/Throwable" "UNASSIGNED_STACK" "[Ljava/lang/StackTraceElement;")) (by decide +kernel)
  have f5 := hs (Cond.isRef (.static "java/lang/Throwable" "SUPPRESSED_SENTINEL" "Ljava/util/List;")) (by decide +kernel)
  have f6 := hs (Cond.isRef (.mirror "[Ljava/lang/Object;")) (by decide +kernel)
  obtain ⟨ed, cD, cell, kD, e1, e2, e3, e4, e5, e6, e7⟩ := Cond.exactly_spec f1
  obtain ⟨k1, k2⟩ := Cond.arrayOf_spec f2 e1 e3
  have k3 := len0 f3 e1 e3
  have hA : ∀ a : Nat, a < s.heap.size → ¬ s.heap.size ≤ a := fun a h => Nat.not_le.mpr h
  refine ⟨((dC, dI), (cI, cZ, cJ, cO, b), ed, s.heap.size), ⟨fun c q hq => hdI c q hq, fun k q hk => ?_⟩, WT_of hts, ⟨?_, ?_, ?_, ?_, ?_, ?_, ?_, hbl, N, xs, hN, hX⟩, rfl, rfl⟩
  · have hk4 : k < 4 := (List.getElem?_eq_some_iff.mp hk).1
    have h4 : k = 0 ∨ k = 1 ∨ k = 2 ∨ k = 3 := by omega
    rcases h4 with rfl | rfl | rfl | rfl
    · cases hk
      exact ⟨i1, i2⟩
    · cases hk
      exact ⟨z1, z2⟩
    · cases hk
      exact ⟨j1, j2⟩
    · cases hk
      exact ⟨o1, o2⟩
  · exact vx_Zqof (hts _ (List.mem_of_getElem? (i := 172) (by decide +kernel))) (hts _ (List.mem_of_getElem? (i := 31) (by decide +kernel))) f4 hA
  · exact vx_Zqof (hts _ (List.mem_of_getElem? (i := 174) (by decide +kernel))) (hts _ (List.mem_of_getElem? (i := 31) (by decide +kernel))) f5 hA
  · intro q hq
    have h12 : q = (115, "the axles are not even") ∨ q = (133, "the rig drives") ∨ q = (140, "the centre is not between the halves") ∨ q = (153, "the notice is too short") ∨ q = (176, "the rig does not stand at an end of the road") ∨ q = (178, "the rig may not begin the drive") ∨ q = (183, "another rig is on the road with the bridge") ∨ q = (220, "time ends") ∨ q = (227, "there is no such number") ∨ q = (230, "an argument is out of range") ∨ q = (232, "there are as many as there may be") ∨ q = (59, "both places are the same") := by
      simpa [strs] using hq
    rcases h12 with rfl | rfl | rfl | rfl | rfl | rfl | rfl | rfl | rfl | rfl | rfl | rfl
    · exact str_of (hts _ (List.mem_of_getElem? (i := 364) (by decide +kernel))) (hs (Cond.exactly (.string "HeavyHaul" 115) "java/lang/String") (by decide +kernel))
    · exact str_of (hts _ (List.mem_of_getElem? (i := 584) (by decide +kernel))) (hs (Cond.exactly (.string "HeavyHaul" 133) "java/lang/String") (by decide +kernel))
    · exact str_of (hts _ (List.mem_of_getElem? (i := 589) (by decide +kernel))) (hs (Cond.exactly (.string "HeavyHaul" 140) "java/lang/String") (by decide +kernel))
    · exact str_of (hts _ (List.mem_of_getElem? (i := 479) (by decide +kernel))) (hs (Cond.exactly (.string "HeavyHaul" 153) "java/lang/String") (by decide +kernel))
    · exact str_of (hts _ (List.mem_of_getElem? (i := 613) (by decide +kernel))) (hs (Cond.exactly (.string "HeavyHaul" 176) "java/lang/String") (by decide +kernel))
    · exact str_of (hts _ (List.mem_of_getElem? (i := 677) (by decide +kernel))) (hs (Cond.exactly (.string "HeavyHaul" 178) "java/lang/String") (by decide +kernel))
    · exact str_of (hts _ (List.mem_of_getElem? (i := 682) (by decide +kernel))) (hs (Cond.exactly (.string "HeavyHaul" 183) "java/lang/String") (by decide +kernel))
    · exact str_of (hts _ (List.mem_of_getElem? (i := 698) (by decide +kernel))) (hs (Cond.exactly (.string "HeavyHaul" 220) "java/lang/String") (by decide +kernel))
    · exact str_of (hts _ (List.mem_of_getElem? (i := 186) (by decide +kernel))) (hs (Cond.exactly (.string "HeavyHaul" 227) "java/lang/String") (by decide +kernel))
    · exact str_of (hts _ (List.mem_of_getElem? (i := 232) (by decide +kernel))) (hs (Cond.exactly (.string "HeavyHaul" 230) "java/lang/String") (by decide +kernel))
    · exact str_of (hts _ (List.mem_of_getElem? (i := 249) (by decide +kernel))) (hs (Cond.exactly (.string "HeavyHaul" 232) "java/lang/String") (by decide +kernel))
    · exact str_of (hts _ (List.mem_of_getElem? (i := 222) (by decide +kernel))) (hs (Cond.exactly (.string "HeavyHaul" 59) "java/lang/String") (by decide +kernel))
  · exact va_Zof (hts _ (List.mem_of_getElem? (i := 78) (by decide +kernel))) (hts _ (List.mem_of_getElem? (i := 29) (by decide +kernel))) e1 hA
  · exact ⟨(Array.getElem?_eq_some_iff.mp e3).1, cell, e3, k1, k2, k3⟩
  · exact va_Mi.of f6
  · intro q hq
    have h6 : q = ("java/lang/IllegalArgumentException", "java/lang/IndexOutOfBoundsException") ∨ q = ("java/lang/IllegalArgumentException", "java/lang/IllegalStateException") ∨ q = ("java/lang/IllegalStateException", "java/lang/IndexOutOfBoundsException") ∨ q = ("java/lang/IllegalStateException", "java/lang/IllegalArgumentException") ∨ q = ("java/lang/IndexOutOfBoundsException", "java/lang/IllegalArgumentException") ∨ q = ("java/lang/IndexOutOfBoundsException", "java/lang/IllegalStateException") := by
      simpa [ncs] using hq
    rcases h6 with rfl | rfl | rfl | rfl | rfl | rfl
    · exact va_Nc.of (hs (Cond.not (.castable "java/lang/IllegalArgumentException" "java/lang/IndexOutOfBoundsException")) (by decide +kernel))
    · exact va_Nc.of (hs (Cond.not (.castable "java/lang/IllegalArgumentException" "java/lang/IllegalStateException")) (by decide +kernel))
    · exact va_Nc.of (hs (Cond.not (.castable "java/lang/IllegalStateException" "java/lang/IndexOutOfBoundsException")) (by decide +kernel))
    · exact va_Nc.of (hs (Cond.not (.castable "java/lang/IllegalStateException" "java/lang/IllegalArgumentException")) (by decide +kernel))
    · exact va_Nc.of (hs (Cond.not (.castable "java/lang/IndexOutOfBoundsException" "java/lang/IllegalArgumentException")) (by decide +kernel))
    · exact va_Nc.of (hs (Cond.not (.castable "java/lang/IndexOutOfBoundsException" "java/lang/IllegalStateException")) (by decide +kernel))
