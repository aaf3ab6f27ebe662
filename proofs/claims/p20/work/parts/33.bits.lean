/-! BITS; places with a bay, roads that fit -/
def bit (w : Int32) (p : Nat) : Bool := w.toBitVec.getLsbD p
theorem bit_or (a b : Int32) (p : Nat) : bit (a ||| b) p = (bit a p || bit b p) := by
  simp [bit]
theorem bit_and (a b : Int32) (p : Nat) : bit (a &&& b) p = (bit a p && bit b p) := by
  simp [bit]
theorem bit_0 (p : Nat) : bit 0 p = false := by
  simp [bit]
theorem bit_1 : ∀ p, p < 20 → ∀ q, q < 20 → bit ((1 : Int32) <<< (nI p &&& 31)) q = decide (q = p) := by decide +kernel
theorem sh_ok : ∀ p, p < 20 → (nI p &&& 31) = nI p ∧ (nI p).toBitVec.toNat = p := by decide +kernel
theorem sh_sm : ∀ p, p < 20 → ((nI p &&& 31).toBitVec.smod 32).toNat = p := by decide +kernel
theorem t_bit (w : Int32) (p : Nat) (hp : p < 20) : (w >>> (nI p &&& 31)) &&& 1 = 1 ↔ bit w p = true := by
  have h : ((nI p &&& 31).toBitVec.smod 32).toNat = p := sh_sm p hp
  rw [← Int32.toBitVec_inj, Int32.toBitVec_and, Int32.toBitVec_shiftRight]
  unfold BitVec.sshiftRight'
  rw [h]
  show w.toBitVec.sshiftRight p &&& 1#32 = 1#32 ↔ _
  rw [BitVec.and_one_eq_setWidth_ofBool_getLsbD, BitVec.getLsbD_sshiftRight]
  have h2 : (!decide (32 ≤ 0) && (if p + 0 < 32 then w.toBitVec.getLsbD (p + 0) else w.toBitVec.msb)) = bit w p := by
    rw [if_pos (by omega)]
    simp [bit]
  rw [h2]
  cases bit w p <;> decide
def mkW (f : Nat → Bool) : Nat → Int32
  | 0 => 0
  | n + 1 => if f n = true then mkW f n ||| (1 : Int32) <<< (nI n &&& 31) else mkW f n
theorem bit_mk (f : Nat → Bool) (n p : Nat) (hn : n ≤ 20) (hp : p < 20) : bit (mkW f n) p = (decide (p < n) && f p) := by
  induction n with
  | zero => exact bit_0 p
  | succ n ih =>
    unfold mkW
    by_cases hf : f n = true
    · rw [if_pos hf, bit_or, ih (by omega), bit_1 n (by omega) p hp]
      by_cases e : p = n
      · subst e
        simp [hf]
      · have : decide (p < n + 1) = decide (p < n) := by
          apply decide_eq_decide.mpr
          omega
        rw [this]
        simp [e]
    · rw [if_neg hf, ih (by omega)]
      by_cases e : p = n
      · subst e
        simp [hf]
      · have : decide (p < n + 1) = decide (p < n) := by
          apply decide_eq_decide.mpr
          omega
        rw [this]
def bayH (S : Sto) (p : Nat) : Bool := decide (S.1 11 0 p ≠ 0)
def s_X6_placesWithBay : SP := vS fun as S k => o0 0 as (k (some (aI (mkW (bayH S) 10))))
def tb_X6_placesWithBay : Tb := [(0, .iconst 0, 1, xI (0)), (1, .istore_n 1, 1, x0), (2, .iconst 0, 1, xI (0)), (3, .istore_n 2, 1, x0), (4, .iload_n 2, 1, x0), (5, .bipush 10, 2, xI (10)), (7, .if_icmp .ge 23, 3, xN 30), (10, .aload_n 0, 1, x0), (11, .iload_n 2, 1, x0), (12, .invokevirtual 334, 3, xS 2 0 s_X6_hasBay), (15, .ifCond .eq 9, 3, xN 24), (18, .iload_n 1, 1, x0), (19, .iconst 1, 1, xI (1)), (20, .iload_n 2, 1, x0), (21, .ishl, 1, x0), (22, .ior, 1, x0), (23, .istore_n 1, 1, x0), (24, .iinc 2 1, 3, xI (1)), (27, .goto (-23), 3, xN 4), (30, .iload_n 1, 1, x0), (31, .ireturn, 1, x0)]
theorem chk_X6_placesWithBay : chkTb cX6_placesWithBay "HeavyHaul" false tb_X6_placesWithBay = true := by decide +kernel
theorem cal_X6_placesWithBay {l : Launch} (hl : l.stackTraces = false) (hNL : NewL l) : CallsOK l "HeavyHaul" 1 tb_X6_placesWithBay := callsOK_f ⟨⟨_, _, 2, 0, _, 7, (ct_X6_hasBay hl hNL), ⟨List.mem_of_getElem? (i := 710) (by decide +kernel), List.mem_of_getElem? (i := 26) (by decide +kernel), List.mem_of_getElem? (i := 707) (by decide +kernel), ⟨by decide +kernel, by decide +kernel⟩, by decide +kernel, by decide⟩, List.mem_of_getElem? (i := 709) (by decide +kernel), List.mem_of_getElem? (i := 19) (by decide +kernel), by decide, by decide, rc_X6_hasBay⟩, trivial⟩
theorem ar_X6_placesWithBay : ∀ as S P, s_X6_placesWithBay as S P → as.length ≤ 3 ∧ ∀ a ∈ as, catV a = 1 := fun as S P h => by
  obtain ⟨rfl, _⟩ := o0_ok h
  exact ar_all ⟨Nat.le_of_ble_eq_true rfl, rfl⟩
theorem rc_X6_placesWithBay : ∀ as S P, s_X6_placesWithBay as S P → ∃ k i r, as = aR k i :: r ∧ ci k = 7 ∧ (obK k = true ∨ k = 13) := fun as S P h => by
  obtain ⟨rfl, _⟩ := o0_ok h
  exact ⟨_, _, _, rfl, rfl, Or.inl rfl⟩
theorem vc_X6_placesWithBay : ∀ (G : Gt) (Q : Out → Sto → Prop) (as : List AV) (S : Sto), s_X6_placesWithBay as S Q → Seg tb_X6_placesWithBay G Q 1 0 [] (0, fun _ => 0) → G 0 (argL as 3) [] S 0 := by
  intro G Q as S h hs
  obtain ⟨rfl, hQ⟩ := o0_ok h
  have loop : ∀ m k, k + m = 10 → G 4 [some (aR 0 0), some (aI (mkW (bayH S) k)), some (aI (nI k))] [] S 0 := by
    intro m
    induction m with
    | zero =>
      intro k hk
      obtain rfl : k = 10 := hk
      refine hs [4] 60 4 _ _ _ _ ?_
      exact ⟨fun _ => hQ, fun q => absurd (by decide) q⟩
    | succ m ih =>
      intro k hk
      refine hs [4] 60 4 _ _ _ _ ?_
      have h1 := ih (k + 1) (by omega)
      rw [← nI_s] at h1
      refine ⟨fun q => absurd q (lp_go (n := 10) (by omega) (by omega)), fun _ => ⟨fun q => absurd q (nI_nn (by omega)), fun _ => ⟨fun q => absurd q (lp_go (n := 10) (by omega) (by omega)), fun _ => ⟨nI_vin (by omega) (show k < 10 by omega), fun q => ⟨rfl, fun _ => ?_, fun z => absurd rfl z⟩, fun q => ⟨rfl, fun z => absurd z (by decide), fun _ => ?_⟩⟩⟩⟩⟩
      · have q2 : S.1 11 0 (nI k).toNatClampNeg = 0 := q
        rw [nI_cl (by omega)] at q2
        have e : mkW (bayH S) (k + 1) = mkW (bayH S) k := if_neg (by unfold bayH; rw [decide_eq_false (fun z => z q2)]; decide)
        rw [e] at h1
        exact h1
      · have q2 : S.1 11 0 (nI k).toNatClampNeg ≠ 0 := q
        rw [nI_cl (by omega)] at q2
        have e : mkW (bayH S) (k + 1) = mkW (bayH S) k ||| (1 : Int32) <<< (nI k &&& 31) := if_pos (decide_eq_true q2)
        rw [e] at h1
        exact h1
  exact hs [4] 60 0 _ _ _ _ (loop 10 0 rfl)
theorem ct_X6_placesWithBay {l : Launch} (hl : l.stackTraces = false) (hNL : NewL l) : CT l yX6_placesWithBay cX6_placesWithBay 3 (some .int) 1 0 s_X6_placesWithBay := CT_of hl hNL (by decide +kernel) (own := "HeavyHaul") rfl (ini := false) (fun q => nomatch q) chk_X6_placesWithBay (cal_X6_placesWithBay hl hNL) ar_X6_placesWithBay vc_X6_placesWithBay
def fitH (S : Sto) (j : Nat) (i : Nat) : Bool := decide (lastH S j i = 0)
def s_X6_roadsFitFor : SP := vS fun as S k => oR 0 4 as fun j => WfH S ∧ j < S.2.2 22 ∧ k (some (aI (mkW (fitH S j) (S.2.2 20))))
def tb_X6_roadsFitFor : Tb := [(0, .iconst 0, 1, xI (0)), (1, .istore_n 2, 1, x0), (2, .iconst 0, 1, xI (0)), (3, .istore_n 3, 1, x0), (4, .iload_n 3, 1, x0), (5, .aload_n 0, 1, x0), (6, .getfield 23, 3, xF 7 3 [100]), (9, .invokevirtual 68, 3, xS 1 0 s_Jx4a65c_size_8abf5), (12, .if_icmp .ge 34, 3, xN 46), (15, .aload_n 0, 1, x0), (16, .aload_n 1, 1, x0), (17, .aload_n 0, 1, x0), (18, .getfield 23, 3, xF 7 3 [100]), (21, .iload_n 3, 1, x0), (22, .invokevirtual 234, 3, xS 2 0 s_Jx4a65c_get_915e3), (25, .checkcast 75, 3, xF 5 0 [256]), (28, .invokevirtual 257, 3, xS 3 0 s_X6_lastingReason), (31, .ifCond .ne 9, 3, xN 40), (34, .iload_n 2, 1, x0), (35, .iconst 1, 1, xI (1)), (36, .iload_n 3, 1, x0), (37, .ishl, 1, x0), (38, .ior, 1, x0), (39, .istore_n 2, 1, x0), (40, .iinc 3 1, 3, xI (1)), (43, .goto (-39), 3, xN 4), (46, .iload_n 2, 1, x0), (47, .ireturn, 1, x0)]
theorem chk_X6_roadsFitFor : chkTb cX6_roadsFitFor "HeavyHaul" false tb_X6_roadsFitFor = true := by decide +kernel
theorem cal_X6_roadsFitFor {l : Launch} (hl : l.stackTraces = false) (hNL : NewL l) : CallsOK l "HeavyHaul" 5 tb_X6_roadsFitFor := callsOK_f ⟨⟨_, _, 1, 0, _, 0, (ct_Jx4a65c_size_8abf5 hl hNL), ⟨List.mem_of_getElem? (i := 236) (by decide +kernel), List.mem_of_getElem? (i := 29) (by decide +kernel), List.mem_of_getElem? (i := 233) (by decide +kernel), ⟨by decide +kernel, by decide +kernel⟩, by decide +kernel, by decide⟩, List.mem_of_getElem? (i := 234) (by decide +kernel), List.mem_of_getElem? (i := 235) (by decide +kernel), by decide, by decide, rc_Jx4a65c_size_8abf5⟩, ⟨_, _, 2, 2, _, 0, (ct_Jx4a65c_get_915e3 hl hNL), ⟨List.mem_of_getElem? (i := 519) (by decide +kernel), List.mem_of_getElem? (i := 29) (by decide +kernel), List.mem_of_getElem? (i := 516) (by decide +kernel), ⟨by decide +kernel, by decide +kernel⟩, by decide +kernel, by decide⟩, List.mem_of_getElem? (i := 517) (by decide +kernel), List.mem_of_getElem? (i := 518) (by decide +kernel), by decide, by decide, rc_Jx4a65c_get_915e3⟩, ⟨_, _, 3, 4, _, 7, (ct_X6_lastingReason hl hNL), ⟨List.mem_of_getElem? (i := 634) (by decide +kernel), List.mem_of_getElem? (i := 26) (by decide +kernel), List.mem_of_getElem? (i := 631) (by decide +kernel), ⟨by decide +kernel, by decide +kernel⟩, by decide +kernel, by decide⟩, List.mem_of_getElem? (i := 633) (by decide +kernel), List.mem_of_getElem? (i := 12) (by decide +kernel), by decide, by decide, rc_X6_lastingReason⟩, trivial⟩
theorem ar_X6_roadsFitFor : ∀ as S P, s_X6_roadsFitFor as S P → as.length ≤ 4 ∧ ∀ a ∈ as, catV a = 1 := fun as S P h => by
  obtain ⟨_, rfl, _⟩ := oR_ok h
  exact ar_all ⟨Nat.le_of_ble_eq_true rfl, rfl⟩
theorem rc_X6_roadsFitFor : ∀ as S P, s_X6_roadsFitFor as S P → ∃ k i r, as = aR k i :: r ∧ ci k = 7 ∧ (obK k = true ∨ k = 13) := fun as S P h => by
  obtain ⟨_, rfl, _⟩ := oR_ok h
  exact ⟨_, _, _, rfl, rfl, Or.inl rfl⟩
theorem vc_X6_roadsFitFor : ∀ (G : Gt) (Q : Out → Sto → Prop) (as : List AV) (S : Sto), s_X6_roadsFitFor as S Q → Seg tb_X6_roadsFitFor G Q 1 0 [] (0, fun _ => 0) → G 0 (argL as 4) [] S 0 := by
  intro G Q as S h hs
  obtain ⟨j, rfl, hW, hj, hQ⟩ := oR_ok h
  have w13 := hW.1
  have hn : S.2.2 20 ≤ 1000 := by have := hW.2.1.1; omega
  have loop : ∀ m k, k + m = S.2.2 20 → G 4 [some (aR 0 0), some (aR 4 j), some (aI (mkW (fitH S j) k)), some (aI (nI k))] [] S 0 := by
    intro m
    induction m with
    | zero =>
      intro k hk
      obtain rfl : k = S.2.2 20 := hk
      refine hs [4] 60 4 _ _ _ _ ?_
      exact ⟨rfl, by omega, fun _ => hQ, fun q => (lp_end q).elim⟩
    | succ m ih =>
      intro k hk
      have hk2 : k < S.2.2 20 := by omega
      refine hs [4] 60 4 _ _ _ _ ?_
      refine ⟨rfl, by omega, fun q => absurd q (lp_go hn hk2), fun _ => ⟨rfl, by omega, lp_nn hn hk2, lp_in hn hk2, ?_⟩⟩
      rw [lp_cl hn hk2]
      have h1 := ih (k + 1) (by omega)
      rw [← nI_s] at h1
      refine ⟨rfl, rfl, rfl, rfl, hW, hj, hk2, fun q => ?_, fun q => ?_⟩
      · have e : mkW (fitH S j) (k + 1) = mkW (fitH S j) k := if_neg (by unfold fitH; rw [decide_eq_false q]; decide)
        rw [e] at h1
        exact h1
      · have e : mkW (fitH S j) (k + 1) = mkW (fitH S j) k ||| (1 : Int32) <<< (nI k &&& 31) := if_pos (decide_eq_true q)
        rw [e] at h1
        exact h1
  exact hs [4] 60 0 _ _ _ _ (loop (S.2.2 20) 0 (by omega))
theorem ct_X6_roadsFitFor {l : Launch} (hl : l.stackTraces = false) (hNL : NewL l) : CT l yX6_roadsFitFor cX6_roadsFitFor 4 (some .int) 5 0 s_X6_roadsFitFor := CT_of hl hNL (by decide +kernel) (own := "HeavyHaul") rfl (ini := false) (fun q => nomatch q) chk_X6_roadsFitFor (cal_X6_roadsFitFor hl hNL) ar_X6_roadsFitFor vc_X6_roadsFitFor
