/-! FROM THE LAW's ENTRY TO ITS END -/
def s_L_isHeld : SP := fun as S Q => as = [aR 14 0] ∧ S = S00 ∧ ∀ S', Q (Sum.inl (some (aI 1))) S'
def tb_L_isHeld : Tb := [(0, .aload_n 0, 1, x0), (1, .invokestatic 132, 3, xS 1 5000 s_L_holds), (4, .ireturn, 1, x0), (5, .astore_n 1, 1, x0), (6, .iconst 0, 1, xI (0)), (7, .ireturn, 1, x0), (8, .astore_n 1, 1, x0), (9, .iconst 0, 1, xI (0)), (10, .ireturn, 1, x0), (11, .astore_n 1, 1, x0), (12, .iconst 0, 1, xI (0)), (13, .ireturn, 1, x0)]
theorem chk_L_isHeld : chkTb cL_isHeld "HeavyHaulLaw" false tb_L_isHeld = true := by decide +kernel
theorem cal_L_isHeld {l : Launch} (hl : l.stackTraces = false) (hNL : NewL l) : CallsOK l "HeavyHaulLaw" 10 tb_L_isHeld := callsOK_f ⟨⟨_, _, 15, 9, _, (ct_L_holds hl hNL), ⟨List.mem_of_getElem? (i := 56) (by decide +kernel), List.mem_of_getElem? (i := 25) (by decide +kernel), List.mem_of_getElem? (i := 54) (by decide +kernel), ⟨by decide +kernel, by decide +kernel⟩, by decide +kernel, by decide⟩, List.mem_of_getElem? (i := 55) (by decide +kernel), by decide⟩, trivial⟩
theorem ar_L_isHeld : ∀ as S P, s_L_isHeld as S P → as.length ≤ 2 ∧ ∀ a ∈ as, catV a = 1 := fun as S P h => by
  obtain ⟨rfl, -⟩ := h
  exact ar_all ⟨Nat.le_of_ble_eq_true rfl, rfl⟩
theorem vc_L_isHeld : ∀ (G : Gt) (Q : Out → Sto → Prop) (as : List AV) (S : Sto), s_L_isHeld as S Q → Seg tb_L_isHeld G (noX Q) 2 5000 (hnOf [(0, 4, 5, 136), (0, 4, 8, 138), (0, 4, 11, 140)]) (0, fun _ => 0) → G 0 (argL as 2) [] S 0 := by
  intro G Q as S h hs
  obtain ⟨rfl, rfl, hQ⟩ := h
  refine hs [] 60 0 _ _ _ _ ?_
  exact ⟨rfl, rfl, fun S' => ⟨rfl, hQ S'⟩⟩
theorem ct_L_isHeld {l : Launch} (hl : l.stackTraces = false) (hNL : NewL l) : CTW l yL_isHeld cL_isHeld 2 (some .boolean) [(0, 4, 5, 136), (0, 4, 8, 138), (0, 4, 11, 140)] 10 5000 s_L_isHeld := CTW_of hl hNL (by decide +kernel) rfl (by decide) chk_L_isHeld (cal_L_isHeld hl hNL) ar_L_isHeld vc_L_isHeld
def tb_L_law : Tb := [(0, .aload_n 0, 1, x0), (1, .invokestatic 142, 3, ((1, 9, 0), [], (5000, s_L_isHeld))), (4, .ireturn, 1, x0)]
theorem chk_L_law : chkTb cL_law "HeavyHaulLaw" false tb_L_law = true := by decide +kernel
theorem cal_L_law {l : Launch} (hl : l.stackTraces = false) (hNL : NewL l) : CallsOK l "HeavyHaulLaw" 11 tb_L_law := callsOK_f ⟨⟨_, _, 2, 10, _, _, (ct_L_isHeld hl hNL), ⟨List.mem_of_getElem? (i := 50) (by decide +kernel), List.mem_of_getElem? (i := 25) (by decide +kernel), List.mem_of_getElem? (i := 48) (by decide +kernel), ⟨by decide +kernel, by decide +kernel⟩, by decide +kernel, by decide⟩, List.mem_of_getElem? (i := 49) (by decide +kernel), by decide⟩, trivial⟩
def QL : Out → Sto → Prop := fun o _ => o = Sum.inl (some (aI 1))
section WH
variable {p : Program} {l : Launch} {e : Env} {s : State} {m : MethodId} {below : List Frame} {meth : Method} {c : Code} {b : Nat} {g : GT}
theorem fin_law (hr : meth.sig.returnType = ret) (C : Cx p l s m meth c room_1 code "HeavyHaulLaw" 1 11 0 0 9000 false g) (hg : g.2.2.2 = s.heap.size) (hNL : NewL l) {α0 : Nat → Nat → Nat} {S0 : Sto} : Fin p l e room_1 s m #[Value.ref b] below meth c (lw_Z below #[Value.ref b] s) g α0 S0 1 0 0 9000 code "HeavyHaulLaw" QL 2 [] := by
  refine ⟨fun r S u α h H locs pc ls hq hu hR hE hlo hS hra => ?_, fun x S u α h H locs pc ls rest q ce hq => (nomatch hq), fun x t u H locs pc ls rest q ce hh => (nomatch hh), fun x pc i len xl S u α h H locs ls rest hc hq => (nomatch hq), fun pc i len xl S' u' α' h' H locs ls rest hc h5 h0 hu hR hS hsz hct kk => hNL p e _ s m _ below meth c _ g code "HeavyHaulLaw" 1 11 0 0 9000 false pc i len xl S' u' α' h' H locs ls rest C hc h5 h0 hu hR hS hsz hct kk⟩
  have hq' : r = some (aI 1) := Sum.inl.inj hq
  subst hq'
  refine va_forget (fun q hq => ?_) ?_
  · have h9 : g.2.2.2 ≤ q.base := hS.2.2 q hq
    rw [hg] at h9
    exact h9
  · refine W.widen (k := 600064) (n := 7301640) (by omega) (by omega) ?_
    exact lw_ret C.1 C.2.1 hr C.2.2.2.2.1 hra.2
theorem whole_start' (hr : meth.sig.returnType = ret) (hl : l.stackTraces = false) (C : Cx p l s m meth c room_1 code "HeavyHaulLaw" 1 11 0 0 9000 false g) (hg : g.2.2.2 = s.heap.size) (hb : scA g = b) :
    W p l e room_1 s m #[Value.ref b] below meth c s.heap [] 0 0 (lw_Z below #[Value.ref b] s) (entryFrame m ([Value.ref b] : List Value).toArray 1) := by
  have hNL : NewL l := newL hl
  obtain ⟨α0, ha0⟩ : ∃ α0 : Nat → Nat → Nat, α0 = fun _ _ => b := ⟨_, rfl⟩
  have ha : α0 14 0 = b := by rw [ha0]
  have hf := fin_law (e := e) (below := below) (b := b) hr C hg hNL (α0 := α0) (S0 := S00)
  have s1 := seg_sound (scr := (0, fun _ => 0)) C hf (fun q => absurd q (by decide)) chk_L_law (cal_L_law hl hNL)
  have h0 : Ga p l e room_1 s m #[Value.ref b] below meth c (lw_Z below #[Value.ref b] s) g α0 S00 1 0 0 9000 0 (argL [aR 14 0] 1) [] S00 0 := by
    refine s1 [] 60 0 _ _ _ _ ?_
    exact ⟨rfl, rfl, fun S' => ⟨rfl, rfl⟩⟩
  have hR0 : Rep g α0 (fun _ => (0, 0, 0)) S00 s.heap := by
    refine ⟨fun k i hl9 => ?_, fun k i k' i' hl9 => ?_, fun k i hl9 => ?_, fun k i f hk hi => absurd hi (Nat.not_lt_zero i), fun i hi => absurd hi (Nat.not_lt_zero i), by rw [ha, hb]⟩
    all_goals
      rcases Lv_un hl9 with ⟨-, z, -⟩ | ⟨-, -, z⟩ <;> exact absurd z (Nat.not_lt_zero _)
  have h1 := start_of (as := [aR 14 0]) hR0 (fun a hm => by rw [List.mem_singleton.mp hm]; exact Or.inr (Or.inl rfl)) (by decide) (fun a hm => by rw [List.mem_singleton.mp hm]; rfl) (p := p) (l := l) (e := e) (R := room_1) (s := s) (m := m) (below := below) (meth := meth) (c := c) (Qm := lw_Z below #[Value.ref b] s) (nL := 1) (B := 9000) (by
    have e9 : (([aR 14 0] : List AV).map (conc α0)).toArray = #[Value.ref b] := by
      show #[Value.ref (α0 14 0)] = _
      rw [ha]
    rw [e9]
    exact h0)
  have e8 : ([aR 14 0] : List AV).map (conc α0) = [Value.ref b] := by
    show [Value.ref (α0 14 0)] = _
    rw [ha]
  rw [e8] at h1
  exact h1
end WH
theorem whole_start {p : Program} {e : Env} {s : State} {m : MethodId} {below : List Frame} {meth : Method} {c : Code} (l : Launch) (hflags : l.flags = flags0) {b L : Nat} {xs : Nat → Int32} (hL : L ≤ 260) (C0 : lw_At p s m meth c b L xs) : W p l e room_1 s m #[Value.ref b] below meth c s.heap [] 0 0 (lw_Z below #[Value.ref b] s) (entryFrame m ([Value.ref b] : List Value).toArray 1) := by
  obtain ⟨hx, hb, hr, hml, hown, hts, hX, hbl, hlocks, hgv⟩ := id C0
  have hl : l.stackTraces = false := by
    unfold Launch.stackTraces
    rw [hflags]
    decide +kernel
  obtain ⟨g, hK, hWT, hST, hg, hsc⟩ := start_g hL hX hbl hts hgv
  have C : Cx p l s m meth c room_1 code "HeavyHaulLaw" 1 11 0 0 9000 false g := ⟨hx, hb, hml, hown, hlocks, fun q => (nomatch q), hK, hWT, hST, by rw [hg]; exact Nat.le_refl _, by show 6 + 11 ≤ 17; omega, by show 100 + 40 * 11 ≤ 754; omega, by show 0 + 9000 ≤ 600064; omega, by show 0 + 120 * 9000 ≤ 7301640; omega, hl⟩
  exact whole_start' hr hl C hg hsc
