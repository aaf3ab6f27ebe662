/-! THE LISTS' CONTRACTS by the names that the tables use, and Arrays.fill -/
abbrev s_Jx4a65c_size_8abf5 : SP := s_size
theorem ct_Jx4a65c_size_8abf5 {l : Launch} (hl : l.stackTraces = false) (_ : NewL l) : CT l yJx4a65c_size_8abf5 cJx4a65c_size_8abf5 1 (some .int) 0 0 s_Jx4a65c_size_8abf5 := ct_size hl
theorem rc_Jx4a65c_size_8abf5 : ∀ as S P, s_Jx4a65c_size_8abf5 as S P → ∃ k i r, as = aR k i :: r ∧ ci k = 0 ∧ (obK k = true ∨ k = 13) := fun as S P h => by
  obtain ⟨i, rfl, -⟩ := l1_ok h
  exact ⟨13, i, [], rfl, rfl, Or.inr rfl⟩
abbrev s_Jx4a65c_get_915e3 : SP := s_get
theorem ct_Jx4a65c_get_915e3 {l : Launch} (hl : l.stackTraces = false) (_ : NewL l) : CT l yJx4a65c_get_915e3 cJx4a65c_get_915e3 2 (some (.object "java/lang/Object")) 2 0 s_Jx4a65c_get_915e3 := ct_get hl
theorem rc_Jx4a65c_get_915e3 : ∀ as S P, s_Jx4a65c_get_915e3 as S P → ∃ k i r, as = aR k i :: r ∧ ci k = 0 ∧ (obK k = true ∨ k = 13) := fun as S P h => by
  obtain ⟨i, j, rfl, -⟩ := l2i_ok h
  exact ⟨13, i, _, rfl, rfl, Or.inr rfl⟩
abbrev s_Jx4a65c_add_9ea2d : SP := s_add
theorem ct_Jx4a65c_add_9ea2d {l : Launch} (hl : l.stackTraces = false) (_ : NewL l) : CT l yJx4a65c_add_9ea2d cJx4a65c_add_9ea2d 2 (some .boolean) 5 1 s_Jx4a65c_add_9ea2d := ct_add hl
theorem rc_Jx4a65c_add_9ea2d : ∀ as S P, s_Jx4a65c_add_9ea2d as S P → ∃ k i r, as = aR k i :: r ∧ ci k = 0 ∧ (obK k = true ∨ k = 13) := fun as S P h => by
  obtain ⟨i, rfl, -⟩ := s_add_ok h
  exact ⟨13, i, _, rfl, rfl, Or.inr rfl⟩
/-- Int32 by Int -/
theorem nI_int {n : Nat} (h : n < 2 ^ 31) : (nI n).toInt = n := Int32.toInt_ofNat_of_lt h
theorem nI_le2 {a b : Nat} (ha : a < 2 ^ 31) (hb : b < 2 ^ 31) : nI a ≤ nI b ↔ a ≤ b := by
  rw [Int32.le_iff_toInt_le, nI_int ha, nI_int hb]
  omega
theorem nI_lt2 {a b : Nat} (ha : a < 2 ^ 31) (hb : b < 2 ^ 31) : nI a < nI b ↔ a < b := by
  rw [Int32.lt_iff_toInt_lt, nI_int ha, nI_int hb]
  omega
theorem nI_vin {a b : Nat} (ha : a < 2 ^ 31) (h : a < b) : vp_in (nI a) b := fun q => q.elim (nI_nn ha) fun q => by
  rw [nI_cl ha] at q
  omega
def fillS (S : Sto) (a : Nat) (v : Int32) (n : Nat) : Sto := (fun k f i => if k = 10 ∧ f = a ∧ i < n then v else S.1 k f i, S.2)
theorem fillS_0 (S : Sto) (a : Nat) (v : Int32) : fillS S a v 0 = S := by
  have e : (fun k f i => if k = 10 ∧ f = a ∧ i < 0 then v else S.1 k f i) = S.1 := by
    funext k f i
    rw [if_neg (by omega)]
  show ((fun k f i => if k = 10 ∧ f = a ∧ i < 0 then v else S.1 k f i), S.2) = S
  rw [e]
theorem sto_eq {S S' : Sto} (h1 : ∀ k f i, S.1 k f i = S'.1 k f i) (h2 : S.2 = S'.2) : S = S' := by
  obtain ⟨a, b⟩ := S
  obtain ⟨a', b'⟩ := S'
  have e : a = a' := by funext k f i; exact h1 k f i
  cases e
  cases h2
  rfl
theorem fillS_s (S : Sto) (a : Nat) (v : Int32) (n : Nat) : wrI (fillS S a v n) 10 a n v = fillS S a v (n + 1) := by
  refine sto_eq (fun k f i => ?_) rfl
  rw [wrI_at]
  show (if k = 10 ∧ f = a ∧ i = n then v else if k = 10 ∧ f = a ∧ i < n then v else S.1 k f i) = if k = 10 ∧ f = a ∧ i < n + 1 then v else S.1 k f i
  by_cases h1 : k = 10 ∧ f = a ∧ i = n
  · rw [if_pos h1, if_pos ⟨h1.1, h1.2.1, by omega⟩]
  · rw [if_neg h1]
    by_cases h2 : k = 10 ∧ f = a ∧ i < n
    · rw [if_pos h2, if_pos ⟨h2.1, h2.2.1, by omega⟩]
    · rw [if_neg h2, if_neg fun q => by
        rcases Nat.lt_succ_iff_lt_or_eq.mp q.2.2 with z | z
        · exact h2 ⟨q.1, q.2.1, z⟩
        · exact h1 ⟨q.1, q.2.1, z⟩]
def ra (as : List AV) (k : Nat → Int32 → Prop) : Prop := match as with
  | [Sum.inr (Sum.inr (a, i)), Sum.inl v] => a = 10 ∧ k i v
  | _ => False
theorem ra_ok {as : List AV} {k : Nat → Int32 → Prop} (h : ra as k) : ∃ i v, as = [aR 10 i, aI v] ∧ k i v := by
  unfold ra at h
  split at h
  · obtain ⟨rfl, h⟩ := h; exact ⟨_, _, rfl, h⟩
  · exact h.elim
def s_J7_fill_53178 : SP := fun as S Q => ra as fun a v => a < 31 ∧ Q (Sum.inl none) (fillS S a v (al 10 a))
def tb_J7_fill_53178 : Tb := [(0, .iconst 0, 1, xI (0)), (1, .istore_n 2, 1, x0), (2, .aload_n 0, 1, x0), (3, .arraylength, 1, x0), (4, .istore_n 3, 1, x0), (5, .iload_n 2, 1, x0), (6, .iload_n 3, 1, x0), (7, .if_icmp .ge 13, 3, xN 20), (10, .aload_n 0, 1, x0), (11, .iload_n 2, 1, x0), (12, .iload_n 1, 1, x0), (13, .iastore, 1, x0), (14, .iinc 2 1, 3, xI (1)), (17, .goto (-12), 3, xN 5), (20, .return_, 1, x0)]
theorem chk_J7_fill_53178 : chkTb cJ7_fill_53178 "java/util/Arrays" false tb_J7_fill_53178 = true := by decide +kernel
theorem cal_J7_fill_53178 {l : Launch} (hl : l.stackTraces = false) (hNL : NewL l) : CallsOK l "java/util/Arrays" 0 tb_J7_fill_53178 := callsOK_f trivial
theorem ar_J7_fill_53178 : ∀ as S P, s_J7_fill_53178 as S P → as.length ≤ 4 ∧ ∀ a ∈ as, catV a = 1 := fun as S P h => by
  obtain ⟨i, v, rfl, -⟩ := ra_ok h
  exact ⟨by show 2 ≤ 4; decide, fun a ha => by
    rcases List.mem_cons.mp ha with rfl | ha
    · rfl
    · rw [List.mem_singleton.mp ha]; rfl⟩
theorem vc_J7_fill_53178 : ∀ (G : Gt) (Q : Out → Sto → Prop) (as : List AV) (S : Sto), s_J7_fill_53178 as S Q → Seg tb_J7_fill_53178 G Q 0 0 [] (0, fun _ => 0) → G 0 (argL as 4) [] S 0 := by
  intro G Q as S h hs
  obtain ⟨a, v, rfl, ha, hQ⟩ := ra_ok h
  have hal : al 10 a ≤ 3000 := al_le
  have loop : ∀ m j, j + m = al 10 a → G 5 [some (aR 10 a), some (aI v), some (aI (nI j)), some (aI (nI (al 10 a)))] [] (fillS S a v j) 0 := by
    intro m
    induction m with
    | zero =>
      intro j hj
      refine hs [5] 60 5 _ _ _ _ ?_
      refine ⟨fun _ => ?_, fun q => absurd ((nI_le2 (by omega) (by omega)).mpr (by omega)) q⟩
      obtain rfl : j = al 10 a := hj
      exact hQ
    | succ m ih =>
      intro j hj
      refine hs [5] 60 5 _ _ _ _ ?_
      refine ⟨fun q => absurd ((nI_le2 (by omega) (by omega)).mp q) (by omega), fun _ => ⟨nI_vin (by omega) (by omega), ?_⟩⟩
      have h1 := ih (j + 1) (by omega)
      rw [← show nI j + 1 = nI (j + 1) from by rw [nI_succ], ← fillS_s] at h1
      have e : (nI j).toNatClampNeg = j := nI_cl (by omega)
      show G 5 [some (aR 10 a), some (aI v), some (aI (nI j + 1)), some (aI (nI (al 10 a)))] [] (wrI (fillS S a v j) 10 a (nI j).toNatClampNeg v) 0
      rw [e]
      exact h1
  refine hs [5] 60 0 _ _ _ _ ?_
  have h0 := loop (al 10 a) 0 (by omega)
  rw [fillS_0] at h0
  exact h0
theorem ct_J7_fill_53178 {l : Launch} (hl : l.stackTraces = false) (hNL : NewL l) : CT l yJ7_fill_53178 cJ7_fill_53178 4 none 0 0 s_J7_fill_53178 := CT_of hl hNL (by decide +kernel) (own := "java/util/Arrays") rfl (ini := false) (fun q => nomatch q) chk_J7_fill_53178 (cal_J7_fill_53178 hl hNL) ar_J7_fill_53178 vc_J7_fill_53178
def tb_X6_roadOf : Tb := [(0, .iload_n 1, 1, x0), (1, .aload_n 0, 1, x0), (2, .getfield 23, 3, xF 7 3 [100]), (5, .invokevirtual 68, 3, xS 1 0 s_Jx4a65c_size_8abf5), (8, .invokestatic 53, 3, xS 2 1 s_X6_needNumber), (11, .aload_n 0, 1, x0), (12, .getfield 23, 3, xF 7 3 [100]), (15, .iload_n 1, 1, x0), (16, .invokevirtual 234, 3, xS 2 0 s_Jx4a65c_get_915e3), (19, .checkcast 75, 3, xF 5 0 [256]), (22, .areturn, 1, x0)]
theorem chk_X6_roadOf : chkTb cX6_roadOf "HeavyHaul" false tb_X6_roadOf = true := by decide +kernel
theorem cal_X6_roadOf {l : Launch} (hl : l.stackTraces = false) (hNL : NewL l) : CallsOK l "HeavyHaul" 3 tb_X6_roadOf := callsOK_f ⟨⟨_, _, 1, 0, _, 0, (ct_Jx4a65c_size_8abf5 hl hNL), ⟨List.mem_of_getElem? (i := 236) (by decide +kernel), List.mem_of_getElem? (i := 29) (by decide +kernel), List.mem_of_getElem? (i := 233) (by decide +kernel), ⟨by decide +kernel, by decide +kernel⟩, by decide +kernel, by decide⟩, List.mem_of_getElem? (i := 234) (by decide +kernel), List.mem_of_getElem? (i := 235) (by decide +kernel), by decide, by decide, rc_Jx4a65c_size_8abf5⟩, ⟨_, _, 2, 0, _, (ct_X6_needNumber hl hNL), ⟨List.mem_of_getElem? (i := 144) (by decide +kernel), List.mem_of_getElem? (i := 26) (by decide +kernel), List.mem_of_getElem? (i := 142) (by decide +kernel), ⟨by decide +kernel, by decide +kernel⟩, by decide +kernel, by decide⟩, List.mem_of_getElem? (i := 143) (by decide +kernel), by decide⟩, ⟨_, _, 2, 2, _, 0, (ct_Jx4a65c_get_915e3 hl hNL), ⟨List.mem_of_getElem? (i := 519) (by decide +kernel), List.mem_of_getElem? (i := 29) (by decide +kernel), List.mem_of_getElem? (i := 516) (by decide +kernel), ⟨by decide +kernel, by decide +kernel⟩, by decide +kernel, by decide⟩, List.mem_of_getElem? (i := 517) (by decide +kernel), List.mem_of_getElem? (i := 518) (by decide +kernel), by decide, by decide, rc_Jx4a65c_get_915e3⟩, trivial⟩
def s_X6_roadOf : SP := aM tb_X6_roadOf 7 2 2 3 1
theorem ct_X6_roadOf {l : Launch} (hl : l.stackTraces = false) (hNL : NewL l) : CT l yX6_roadOf cX6_roadOf 2 (some (.object "HeavyHaul$Road")) 3 1 s_X6_roadOf := CT_of hl hNL (by decide +kernel) (own := "HeavyHaul") rfl (ini := false) (fun q => nomatch q) chk_X6_roadOf (cal_X6_roadOf hl hNL) (aM_args (by decide)) aM_vc
theorem rc_X6_roadOf : ∀ as S P, s_X6_roadOf as S P → ∃ k i r, as = aR k i :: r ∧ ci k = 7 ∧ (obK k = true ∨ k = 13) := aM_rc
def tb_X6_rigOf : Tb := [(0, .iload_n 1, 1, x0), (1, .aload_n 0, 1, x0), (2, .getfield 30, 3, xF 7 5 [102]), (5, .invokevirtual 68, 3, xS 1 0 s_Jx4a65c_size_8abf5), (8, .invokestatic 53, 3, xS 2 1 s_X6_needNumber), (11, .aload_n 0, 1, x0), (12, .getfield 30, 3, xF 7 5 [102]), (15, .iload_n 1, 1, x0), (16, .invokevirtual 234, 3, xS 2 0 s_Jx4a65c_get_915e3), (19, .checkcast 117, 3, xF 4 0 [365]), (22, .areturn, 1, x0)]
theorem chk_X6_rigOf : chkTb cX6_rigOf "HeavyHaul" false tb_X6_rigOf = true := by decide +kernel
theorem cal_X6_rigOf {l : Launch} (hl : l.stackTraces = false) (hNL : NewL l) : CallsOK l "HeavyHaul" 3 tb_X6_rigOf := callsOK_f ⟨⟨_, _, 1, 0, _, 0, (ct_Jx4a65c_size_8abf5 hl hNL), ⟨List.mem_of_getElem? (i := 236) (by decide +kernel), List.mem_of_getElem? (i := 29) (by decide +kernel), List.mem_of_getElem? (i := 233) (by decide +kernel), ⟨by decide +kernel, by decide +kernel⟩, by decide +kernel, by decide⟩, List.mem_of_getElem? (i := 234) (by decide +kernel), List.mem_of_getElem? (i := 235) (by decide +kernel), by decide, by decide, rc_Jx4a65c_size_8abf5⟩, ⟨_, _, 2, 0, _, (ct_X6_needNumber hl hNL), ⟨List.mem_of_getElem? (i := 144) (by decide +kernel), List.mem_of_getElem? (i := 26) (by decide +kernel), List.mem_of_getElem? (i := 142) (by decide +kernel), ⟨by decide +kernel, by decide +kernel⟩, by decide +kernel, by decide⟩, List.mem_of_getElem? (i := 143) (by decide +kernel), by decide⟩, ⟨_, _, 2, 2, _, 0, (ct_Jx4a65c_get_915e3 hl hNL), ⟨List.mem_of_getElem? (i := 519) (by decide +kernel), List.mem_of_getElem? (i := 29) (by decide +kernel), List.mem_of_getElem? (i := 516) (by decide +kernel), ⟨by decide +kernel, by decide +kernel⟩, by decide +kernel, by decide⟩, List.mem_of_getElem? (i := 517) (by decide +kernel), List.mem_of_getElem? (i := 518) (by decide +kernel), by decide, by decide, rc_Jx4a65c_get_915e3⟩, trivial⟩
def s_X6_rigOf : SP := aM tb_X6_rigOf 7 2 2 3 1
theorem ct_X6_rigOf {l : Launch} (hl : l.stackTraces = false) (hNL : NewL l) : CT l yX6_rigOf cX6_rigOf 2 (some (.object "HeavyHaul$Rig")) 3 1 s_X6_rigOf := CT_of hl hNL (by decide +kernel) (own := "HeavyHaul") rfl (ini := false) (fun q => nomatch q) chk_X6_rigOf (cal_X6_rigOf hl hNL) (aM_args (by decide)) aM_vc
theorem rc_X6_rigOf : ∀ as S P, s_X6_rigOf as S P → ∃ k i r, as = aR k i :: r ∧ ci k = 7 ∧ (obK k = true ∨ k = 13) := aM_rc
