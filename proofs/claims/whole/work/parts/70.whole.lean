/-! FROM THE LAW's ENTRY TO ITS END -/
def tb_lwst : Tb := [(0, .new 8, 3, xF 17 0 [62, 63, 39]), (3, .dup, 1, x0), (4, .invokespecial 76, 3, xS 1 130 s_X6_init), (7, .astore_n 1, 1, x0), (8, .new 77, 3, xF 18 0 [776, 777, 44]), (11, .dup, 1, x0), (12, .invokespecial 79, 3, xS 1 940 s_X7_init), (15, .astore_n 2, 1, x0), (16, .iconst 1, 1, xI (1))]
theorem chk_lwst : chkTb cL_law "HeavyHaulLaw" false tb_lwst = true := by decide +kernel
theorem cal_lwst {l : Launch} (hl : l.stackTraces = false) (hNL : NewL l) : CallsOK l "HeavyHaulLaw" 9 tb_lwst := callsOK_f ⟨⟨_, _, 1, 1, (ct_X6_init hl hNL), ⟨List.mem_of_getElem? (i := 66) (by decide +kernel), List.mem_of_getElem? (i := 39) (by decide +kernel), List.mem_of_getElem? (i := 64) (by decide +kernel), ⟨by decide +kernel, by decide +kernel⟩, by decide +kernel, by decide⟩, List.mem_of_getElem? (i := 65) (by decide +kernel), rfl, by decide, by decide, ri_X6_init⟩, ⟨_, _, 2, 0, (ct_X7_init hl hNL), ⟨List.mem_of_getElem? (i := 780) (by decide +kernel), List.mem_of_getElem? (i := 44) (by decide +kernel), List.mem_of_getElem? (i := 778) (by decide +kernel), ⟨by decide +kernel, by decide +kernel⟩, by decide +kernel, by decide⟩, List.mem_of_getElem? (i := 779) (by decide +kernel), rfl, by decide, by decide, ri_X7_init⟩, trivial⟩
def tb_lwsu : Tb := [(19, .astore_n 3, 1, x0), (20, .iconst 0, 1, xI (0)), (21, .istore 4, 2, x0), (23, .iload 4, 2, x0)]
theorem chk_lwsu : chkTb cL_law "HeavyHaulLaw" false tb_lwsu = true := by decide +kernel
theorem cal_lwsu {l : Launch} (hl : l.stackTraces = false) (hNL : NewL l) : CallsOK l "HeavyHaulLaw" 9 tb_lwsu := callsOK_f trivial
theorem dl_16 : decode code 16 = .ok (.iconst 1, 1) := by decide +kernel
theorem dl_17 : decode code 17 = .ok (.newarray .long, 2) := by decide +kernel
def QL : Out → Sto → Prop := fun o _ => o = Sum.inl (some (aI 1))
section WH
variable {p : Program} {l : Launch} {e : Env} {s : State} {m : MethodId} {below : List Frame} {meth : Method} {c : Code} {b : Nat} {g : GT}
theorem fin_law (hr : meth.sig.returnType = ret) (C : Cx p l s m meth c room_1 code "HeavyHaulLaw" 7 9 0 0 9000 false g) (hg : g.2.2.2 = s.heap.size) (hNL : NewL l) {α0 : Nat → Nat → Nat} {S0 : Sto} : Fin p l e room_1 s m #[Value.ref b] below meth c (lw_Z below #[Value.ref b] s) g α0 S0 7 0 0 9000 code "HeavyHaulLaw" QL 2 [] := by
  refine ⟨fun r S u α h H locs pc ls hq hu hR hE hlo hS hra => ?_, fun x S u α h H locs pc ls rest q ce hq => (nomatch hq), fun x t u H locs pc ls rest q ce hh => (nomatch hh), fun x pc i len xl S u α h H locs ls rest hc hq => (nomatch hq), fun pc i len xl S' u' α' h' H locs ls rest hc h5 h0 hu hR hS hsz hct kk => hNL p e _ s m _ below meth c _ g code "HeavyHaulLaw" 7 9 0 0 9000 false pc i len xl S' u' α' h' H locs ls rest C hc h5 h0 hu hR hS hsz hct kk⟩
  have hq' : r = some (aI 1) := Sum.inl.inj hq
  subst hq'
  refine va_forget (fun q hq => ?_) ?_
  · have h9 : g.2.2.2 ≤ q.base := hS.2.2 q hq
    rw [hg] at h9
    exact h9
  · refine W.widen (k := 601024) (n := 7293034) (by omega) (by omega) ?_
    exact lw_ret C.1 C.2.1 hr C.2.2.2.2.1 hra.2
theorem aF_agr {α : Nat → Nat → Nat} {q : Nat} {α0 : Nat → Nat → Nat} (h : AgR S00 α0 α) : AgR S00 α0 (aF α q) := by
  intro k i hl
  rw [← h k i hl]
  rcases hl with rfl | rfl | hl
  · exact aF_o (by decide)
  · exact aF_o (by decide)
  · exact absurd hl.2 (Nat.not_lt_zero i)
theorem whole_start' (hr : meth.sig.returnType = ret) (hl : l.stackTraces = false) (C : Cx p l s m meth c room_1 code "HeavyHaulLaw" 7 9 0 0 9000 false g) (hg : g.2.2.2 = s.heap.size) {L : Nat} {xs : Nat → Int32} (hL : L ≤ 4096) (hX : va_X b L xs s s.heap) (hbl : b < s.heap.size) :
    W p l e room_1 s m #[Value.ref b] below meth c s.heap [] 0 0 (lw_Z below #[Value.ref b] s) (entryFrame m ([Value.ref b] : List Value).toArray 7) := by
  have hNL : NewL l := newL hl
  obtain ⟨α0, ha0⟩ : ∃ α0 : Nat → Nat → Nat, α0 = fun _ _ => b := ⟨_, rfl⟩
  have ha : α0 14 0 = b := by rw [ha0]
  have hf := fin_law (e := e) (below := below) (b := b) hr C hg hNL (α0 := α0) (S0 := S00)
  have hsc : 0 < (L + 1, xs).1 → ScrOK s g α0 (L + 1, xs) := fun _ => by
    refine ⟨?_, ?_, ?_⟩
    · rw [ha]
      exact hX
    · rw [ha]
      exact hbl
    · rw [ha, hg]
      exact hbl
  have s1 := seg_sound (scr := (0, fun _ => 0)) C hf (fun q => absurd q (by decide)) chk_lwst (cal_lwst hl hNL)
  have s2 := seg_sound (scr := (0, fun _ => 0)) C hf (fun q => absurd q (by decide)) chk_lwsu (cal_lwsu hl hNL)
  have s3 := seg_sound C hf hsc chk_law (cal_law hl hNL)
  have h23 := lw_loop (sl := slC) (sm := smC) (fun S hI => ops_ok hI) hL (fun S => rfl) s3 512 0 1073 (by omega) (by omega) (by omega) SF inv_SF none none
  have h19 : Ga p l e room_1 s m #[Value.ref b] below meth c (lw_Z below #[Value.ref b] s) g α0 S00 7 0 0 9000 19 [some (aR 14 0), some (aR 0 0), some (aR 1 0), none, none, none, none] [aR 12 0] SF 1073 := by
    refine s2 [23] 60 19 _ _ _ _ ?_
    exact h23
  have h16 : Ga p l e room_1 s m #[Value.ref b] below meth c (lw_Z below #[Value.ref b] s) g α0 S00 7 0 0 9000 16 [some (aR 14 0), some (aR 17 0), some (aR 18 0), none, none, none, none] [] cX 1072 := by
    intro hu α h H locs ls hR hE hLl hst hS hLH
    refine lv_iconst (v := 1) C.1 C.2.1 dl_16 (by decide) ?_
    refine va_newaK (atype := .long) (N := 1) C.1 C.2.1 (C.2.2.2.2.2.2.2.1 (Cond.arrayClass .long) (List.mem_of_getElem? (i := 1038) (by decide +kernel)) rfl _) rfl dl_17 rfl (by decide) (by decide) (by decide) (by show 0 + 1072 + 1 ≤ 601024; omega) (by show 0 + 120 * 1072 + 1 ≤ 7293034; omega) rfl fun H1 cA q1 z1 o1 hAr hNm => ?_
    have hcA : cA = g.2.1.2.2.1 := Option.some.inj (hNm.symm.trans ((C.2.2.2.2.2.2.1.2 2 _ rfl).2 : s.vm.findClass _ = some _))
    subst hcA
    have hR1 := hR.start (hbase C hS) q1 o1
    have hS1 : va_S (AB g) s.heap H1 locs := ⟨Nat.le_trans hS.1 (by omega), fun x h1 h2 => (o1 x (Nat.lt_of_lt_of_le h1 hS.1)).trans (hS.2.1 x h1 h2), hS.2.2⟩
    have hLH1 : LH (aF α H.size) ls 7 [some (aR 14 0), some (aR 0 0), some (aR 1 0), none, none, none, none] := by
      refine ⟨hLH.1, rfl, hLH.2.2.1, fun i a hi => ?_⟩
      have hi7 : i < 7 := (List.getElem?_eq_some_iff.mp hi).1
      have h7 : i = 0 ∨ i = 1 ∨ i = 2 ∨ i = 3 ∨ i = 4 ∨ i = 5 ∨ i = 6 := by omega
      rcases h7 with rfl | rfl | rfl | rfl | rfl | rfl | rfl
      · cases hi
        exact hLH.2.2.2 0 (aR 14 0) rfl
      · cases hi
        exact hLH.2.2.2 1 (aR 17 0) rfl
      · cases hi
        exact hLH.2.2.2 2 (aR 18 0) rfl
      all_goals cases hi
    have hlv : ∀ a, some a ∈ [some (aR 14 0), some (aR 0 0), some (aR 1 0), none, none, none, (none : Option AV)] → LvV SF a := fun a hm => by
      simp only [List.mem_cons, Option.some.injEq, reduceCtorEq, List.not_mem_nil, or_false] at hm
      rcases hm with rfl | rfl | rfl
      · exact Or.inr (Or.inl rfl)
      · exact Or.inr (Or.inr ⟨Or.inl rfl, by decide⟩)
      · exact Or.inr (Or.inr ⟨Or.inl rfl, by decide⟩)
    have hst1 : ∀ a ∈ [aR 12 0], LvV SF a := fun a hm => by
      rw [List.mem_singleton.mp hm]
      exact Or.inr (Or.inr ⟨Or.inr rfl, by decide⟩)
    have h9 := h19 (by omega) (aF α H.size) h H1 locs ls hR1 ⟨aF_agr hE.1, fun k => Nat.zero_le _⟩ hlv hst1 hS1 hLH1
    refine W.widen (k := 0 + 1073) (n := 0 + 120 * 1073) (by omega) (by omega) ?_
    exact h9
  have h0 : Ga p l e room_1 s m #[Value.ref b] below meth c (lw_Z below #[Value.ref b] s) g α0 S00 7 0 0 9000 0 (argL [aR 14 0] 7) [] S00 0 := by
    rw [← eMx] at h16
    refine s1 [16] 60 0 _ _ _ _ ?_
    exact ⟨rfl, rfl, rfl, rfl, h16⟩
  have hR0 : Rep g α0 (fun _ => (0, 0, 0)) S00 s.heap := by
    refine ⟨fun k i hl9 => ?_, fun k i k' i' hl9 => ?_, fun k i hl9 => ?_, fun k i f hk hi => absurd hi (Nat.not_lt_zero i), fun i hi => absurd hi (Nat.not_lt_zero i)⟩
    all_goals
      rcases Lv_un hl9 with ⟨-, z, -⟩ | ⟨-, -, z⟩ <;> exact absurd z (Nat.not_lt_zero _)
  have h1 := start_of (as := [aR 14 0]) hR0 (fun a hm => by rw [List.mem_singleton.mp hm]; exact Or.inr (Or.inl rfl)) (by decide) (fun a hm => by rw [List.mem_singleton.mp hm]; rfl) (p := p) (l := l) (e := e) (R := room_1) (s := s) (m := m) (below := below) (meth := meth) (c := c) (Qm := lw_Z below #[Value.ref b] s) (nL := 7) (B := 9000) (by
    have e9 : (([aR 14 0] : List AV).map (conc α0)).toArray = #[Value.ref b] := by
      show #[Value.ref (α0 14 0)] = _
      rw [ha]
    rw [e9]
    exact h0)
  have e8 : ([aR 14 0] : List AV).map (conc α0) = [Value.ref b] := by
    show [Value.ref (α0 14 0)] = _
    rw [ha]
  rw [e8] at h1
  exact h1
end WH
theorem whole_start {p : Program} {e : Env} {s : State} {m : MethodId} {below : List Frame} {meth : Method} {c : Code} (l : Launch) (hflags : l.flags = flags0) {b L : Nat} {xs : Nat → Int32} (hL : L ≤ 4096) (C0 : lw_At p s m meth c b L xs) : W p l e room_1 s m #[Value.ref b] below meth c s.heap [] 0 0 (lw_Z below #[Value.ref b] s) (entryFrame m ([Value.ref b] : List Value).toArray 7) := by
  obtain ⟨hx, hb, hr, hml, hown, hts, hX, hbl, hlocks, hgv⟩ := id C0
  have hl : l.stackTraces = false := by
    unfold Launch.stackTraces
    rw [hflags]
    decide +kernel
  obtain ⟨g, hK, hWT, hST, hg⟩ := start_g hts hgv
  have C : Cx p l s m meth c room_1 code "HeavyHaulLaw" 7 9 0 0 9000 false g := ⟨hx, hb, hml, hown, hlocks, fun q => (nomatch q), hK, hWT, hST, by rw [hg]; exact Nat.le_refl _, by show 6 + 9 ≤ 15; omega, by show 100 + 40 * 9 ≤ 602; omega, by show 0 + 9000 ≤ 601024; omega, by show 0 + 120 * 9000 ≤ 7293034; omega, hl⟩
  exact whole_start' hr hl C hg hL hX hbl
