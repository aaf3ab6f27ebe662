/-! THE LAW's OWN NUMBERS: any, within their bound -/
def fr2 (as : List AV) (f : Int32 → Int32 → Prop) : Prop := match as with
  | [Sum.inr (Sum.inr (k, i)), Sum.inl a, Sum.inl b] => k = 14 ∧ i = 0 ∧ f a b
  | _ => False
theorem fr2_ok {as : List AV} {f : Int32 → Int32 → Prop} (h : fr2 as f) : ∃ a b, as = [aR 14 0, aI a, aI b] ∧ f a b := by
  unfold fr2 at h
  split at h
  · obtain ⟨rfl, rfl, h⟩ := h; exact ⟨_, _, rfl, h⟩
  · exact h.elim
def s_L_from : SP := vS fun as _ k => fr2 as fun a b => ∃ q n : Nat, a = nI q ∧ q < 1000 ∧ b = nI n ∧ 0 < n ∧ n < 2 ^ 31 ∧ ∀ r : Nat, r < n → k (some (aI (nI r)))
def tb_L_from : Tb := [(0, .aload_n 0, 1, x0), (1, .arraylength, 1, x0), (2, .ifCond .ne 14, 3, xN 16), (5, .sipush 557, 3, xI (557)), (8, .iload_n 1, 1, x0), (9, .imul, 1, x0), (10, .bipush 71, 2, xI (71)), (12, .iadd, 1, x0), (13, .goto 14, 3, xN 27), (16, .aload_n 0, 1, x0), (17, .iload_n 1, 1, x0), (18, .aload_n 0, 1, x0), (19, .arraylength, 1, x0), (20, .irem, 1, x0), (21, .iaload, 1, x0), (22, .ldc 7, 2, xC 0 0 611953 [135]), (24, .iload_n 1, 1, x0), (25, .imul, 1, x0), (26, .ixor, 1, x0), (27, .istore_n 3, 1, x0), (28, .iload_n 3, 1, x0), (29, .ldc 8, 2, xC 0 0 2147483647 [136]), (31, .iand, 1, x0), (32, .iload_n 2, 1, x0), (33, .irem, 1, x0), (34, .ireturn, 1, x0)]
theorem chk_L_from : chkTb cL_from "HeavyHaulLaw" false tb_L_from = true := by decide +kernel
theorem cal_L_from {l : Launch} (hl : l.stackTraces = false) (hNL : NewL l) : CallsOK l "HeavyHaulLaw" 0 tb_L_from := callsOK_f trivial
theorem ar_L_from : ∀ as S P, s_L_from as S P → as.length ≤ 4 ∧ ∀ a ∈ as, catV a = 1 := fun as S P h => by
  obtain ⟨_, _, rfl, _⟩ := fr2_ok h
  exact ar_all ⟨Nat.le_of_ble_eq_true rfl, rfl⟩
theorem vc_L_from : ∀ (N : Nat) (xs : Nat → Int32) (_ : N ≤ 260) (G : Gt) (Q : Out → Sto → Prop) (as : List AV) (S : Sto), s_L_from as S Q → Seg tb_L_from G Q 1 0 [] (N + 1, xs) → G 0 (argL as 4) [] S 0 := by
  intro N xs hN G Q as S h hs
  obtain ⟨a, b, rfl, q, n, rfl, hq, rfl, h0, hn, hQ⟩ := fr2_ok h
  have hn0 : ¬ nI n = 0 := nI_ne0 h0 hn
  have fin : ∀ v : Int32, ¬ nI n = 0 ∧ Q (Sum.inl (some (aI ((v &&& 2147483647) - (v &&& 2147483647) / nI n * nI n)))) S := fun v => by
    obtain ⟨m, hm, e⟩ := pk_andE v (m := 2147483647) 31 (by decide)
    rw [e, pk_rem hm h0 hn]
    exact ⟨hn0, hQ _ (Nat.mod_lt m h0)⟩
  refine hs [] 60 0 _ _ _ _ ?_
  refine ⟨fun z => ?_, fun z => fin _⟩
  have hN0 : 0 < N := by
    rcases Nat.eq_zero_or_pos N with e | e
    · subst e
      exact absurd rfl z
    · exact e
  refine ⟨nI_ne0 hN0 (by omega), ?_⟩
  have er : nI q - nI q / nI N * nI N = nI (q % N) := pk_rem (by omega) hN0 (by omega)
  have hv : vp_in (nI q - nI q / nI N * nI N) N := by
    rw [er]
    exact nI_vin (by have := Nat.mod_lt q hN0; omega) (Nat.mod_lt q hN0)
  exact ⟨hv, fin _⟩
theorem ct_L_from {l : Launch} (hl : l.stackTraces = false) (hNL : NewL l) : CT l yL_from cL_from 4 (some .int) 0 0 s_L_from := CT_ofS hl hNL (by decide +kernel) (own := "HeavyHaulLaw") rfl (ini := false) (fun q => nomatch q) chk_L_from (cal_L_from hl hNL) ar_L_from vc_L_from
