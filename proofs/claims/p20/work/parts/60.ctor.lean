/-! THE CONSTRUCTOR; the object under its name -/
def S00 : Sto := (fun _ _ _ => 0, fun _ _ => 0, fun _ => 0)
def cH0 : Sto := mkO S00 17
def cH1 : Sto := wrI (mkA cH0 11) 17 0 0 1
def cH2 : Sto := wrI (mkA cH1 10) 17 1 0 1
def cH3 : Sto := wrI (mkA cH2 10) 17 2 0 1
def cH4 : Sto := wrI (mkL cH3) 17 3 0 1
def cH5 : Sto := wrI (mkL cH4) 17 4 0 1
def cH6 : Sto := wrI (mkL cH5) 17 5 0 1
def cH7 : Sto := wrI (mkL cH6) 17 6 0 1
def cH8 : Sto := wrI (mkL cH7) 17 7 0 1
def cH9 : Sto := wrI (mkA cH8 10) 17 8 0 1
def cHa : Sto := wrI cH9 17 9 0 0
def cHb : Sto := fillS cHa 1 99999 4
def s_X6_init : SP := fun as S Q => as = [aR 17 0] ∧ S = cH0 ∧ Q (Sum.inl none) cHb
def tb_X6_init : Tb := [(0, .aload_n 0, 1, x0), (1, .invokespecial 1, 3, xO), (4, .aload_n 0, 1, x0), (5, .bipush 10, 2, xI (10)), (7, .newarray .boolean, 2, xF 11 0 [91]), (9, .putfield 9, 3, xF 7 0 [97]), (12, .aload_n 0, 1, x0), (13, .iconst 4, 1, xI (4)), (14, .newarray .int, 2, xF 10 0 [92]), (16, .putfield 13, 3, xF 7 1 [98]), (19, .aload_n 0, 1, x0), (20, .iconst 4, 1, xI (4)), (21, .newarray .int, 2, xF 10 0 [92]), (23, .putfield 17, 3, xF 7 2 [99]), (26, .aload_n 0, 1, x0), (27, .new 20, 7, xF 13 0 [65, 22]), (34, .putfield 23, 3, xF 7 3 [100]), (37, .aload_n 0, 1, x0), (38, .new 20, 7, xF 13 0 [65, 22]), (45, .putfield 27, 3, xF 7 4 [101]), (48, .aload_n 0, 1, x0), (49, .new 20, 7, xF 13 0 [65, 22]), (56, .putfield 30, 3, xF 7 5 [102]), (59, .aload_n 0, 1, x0), (60, .new 20, 7, xF 13 0 [65, 22]), (67, .putfield 33, 3, xF 7 6 [103]), (70, .aload_n 0, 1, x0), (71, .new 20, 7, xF 13 0 [65, 22]), (78, .putfield 36, 3, xF 7 7 [104]), (81, .aload_n 0, 1, x0), (82, .sipush 288, 3, xI (288)), (85, .newarray .int, 2, xF 10 0 [92]), (87, .putfield 39, 3, xF 7 8 [105]), (90, .aload_n 0, 1, x0), (91, .iconst 0, 1, xI (0)), (92, .putfield 42, 3, xF 7 9 [106]), (95, .aload_n 0, 1, x0), (96, .getfield 17, 3, xF 7 2 [99]), (99, .ldc 46, 2, xC 0 0 99999 [93]), (101, .invokestatic 47, 3, xS 2 0 s_J7_fill_53178), (104, .return_, 1, x0)]
theorem chk_X6_init : chkTb cX6_init "HeavyHaul" true tb_X6_init = true := by decide +kernel
theorem cal_X6_init {l : Launch} (hl : l.stackTraces = false) (hNL : NewL l) : CallsOK l "HeavyHaul" 1 tb_X6_init := callsOK_f ⟨(List.mem_of_getElem? (i := 62) (by decide +kernel)), ⟨_, _, 4, 0, _, (ct_J7_fill_53178 hl hNL), ⟨List.mem_of_getElem? (i := 96) (by decide +kernel), List.mem_of_getElem? (i := 30) (by decide +kernel), List.mem_of_getElem? (i := 94) (by decide +kernel), ⟨by decide +kernel, by decide +kernel⟩, by decide +kernel, by decide⟩, List.mem_of_getElem? (i := 95) (by decide +kernel), by decide⟩, trivial⟩
theorem ar_X6_init : ∀ as S P, s_X6_init as S P → as.length ≤ 1 ∧ ∀ a ∈ as, catV a = 1 := fun as S P h => by
  obtain ⟨rfl, -⟩ := h
  exact ar_all ⟨Nat.le_of_ble_eq_true rfl, rfl⟩
theorem ri_X6_init : ∀ as S P, s_X6_init as S P → ∃ k i r, as = aR k i :: r ∧ (obK k = true ∨ k = 13) := fun as S P h => by
  obtain ⟨rfl, -⟩ := h
  exact ⟨17, 0, [], rfl, Or.inl rfl⟩
set_option maxRecDepth 20000 in
theorem vc_X6_init : ∀ (G : Gt) (Q : Out → Sto → Prop) (as : List AV) (S : Sto), s_X6_init as S Q → Seg tb_X6_init G Q 0 130 [] (0, fun _ => 0) → G 0 (argL as 1) [] S 0 := by
  intro G Q as S h hs
  obtain ⟨rfl, rfl, hQ⟩ := h
  refine hs [] 100 0 _ _ _ _ ?_
  exact ⟨rfl, rfl, rfl, (by decide : 0 < 5), rfl, (by decide : 1 < 5), rfl, (by decide : 2 < 5), rfl, (by decide : 3 < 5), rfl, (by decide : 4 < 5), rfl, rfl, (by decide : ¬ (1 : Int32) = 0), rfl, (by decide : 1 < 31), hQ⟩
theorem ct_X6_init {l : Launch} (hl : l.stackTraces = false) (hNL : NewL l) : CT l yX6_init cX6_init 1 none 1 130 s_X6_init := CT_of hl hNL (by decide +kernel) (own := "HeavyHaul") rfl (ini := true) (fun _ => rfl) chk_X6_init (cal_X6_init hl hNL) ar_X6_init vc_X6_init
def SF : Sto := (fun k f i => if k = 0 then cHb.1 17 f i else cHb.1 k f i, fun _ _ => 0, fun k => if k = 0 then 1 else if k = 17 then 0 else cHb.2.2 k)
def aF (α : Nat → Nat → Nat) : Nat → Nat → Nat := fun k i => if k = 0 then α 17 i else α k i
theorem aF_o {α : Nat → Nat → Nat} {k i : Nat} (h : k ≠ 0) : aF α k i = α k i := if_neg h
theorem SF_n {k : Nat} (h : k ≠ 0 ∧ k ≠ 17) : SF.2.2 k = cHb.2.2 k := by
  show (if k = 0 then 1 else if k = 17 then 0 else cHb.2.2 k) = _
  rw [if_neg h.1, if_neg h.2]
def tl (k : Nat) : Nat := if k = 0 then 17 else k
theorem SF_val {α : Nat → Nat → Nat} {h : HT} {k i : Nat} (hl : Lv h SF k i) : ((k = 0 ∧ i = 0) ∨ k = 10 ∨ k = 11 ∨ k = 13 ∨ k = 15) ∧ Lv h cHb (tl k) i ∧ adr (aF α) h k i = adr α h (tl k) i := by
  rcases Lv_un hl with ⟨rfl, h1, h2⟩ | ⟨h1, h2, h3⟩
  · refine ⟨by omega, ?_, rfl⟩
    show Lv h cHb 15 i
    rw [Lv, if_pos rfl]
    exact ⟨h1, h2⟩
  · rcases h2 with h2 | h2
    · rcases obK_or h2 with rfl | rfl | rfl | rfl | rfl | rfl | rfl | rfl | rfl | rfl
      · have h3' : i < 1 := h3
        obtain rfl : i = 0 := by omega
        exact ⟨by omega, Lv_of (k := 17) (Or.inl rfl) (show 0 < 1 by decide), rfl⟩
      all_goals exact absurd h3 (Nat.not_lt_zero i)
    · rcases ar_or h2 with rfl | rfl | rfl | rfl
      · exact ⟨by omega, Lv_of (k := 10) (Or.inr rfl) h3, rfl⟩
      · exact ⟨by omega, Lv_of (k := 11) (Or.inr rfl) h3, rfl⟩
      · exact absurd h3 (Nat.not_lt_zero i)
      · exact ⟨by omega, Lv_of (k := 13) (Or.inr rfl) h3, rfl⟩
set_option maxRecDepth 20000 in
theorem fs_0 {α : Nat → Nat → Nat} : fs (aF α) SF 0 0 = fs α cHb 17 0 := by
  refine List.map_congr_left fun f hf => ?_
  have hf2 : f < 10 := List.mem_range.mp hf
  have h10 : f = 0 ∨ f = 1 ∨ f = 2 ∨ f = 3 ∨ f = 4 ∨ f = 5 ∨ f = 6 ∨ f = 7 ∨ f = 8 ∨ f = 9 := by omega
  rcases h10 with rfl | rfl | rfl | rfl | rfl | rfl | rfl | rfl | rfl | rfl <;> rfl
theorem tl_inj {k k' : Nat} (h1 : k = 0 ∨ k = 10 ∨ k = 11 ∨ k = 13 ∨ k = 15) (h2 : k' = 0 ∨ k' = 10 ∨ k' = 11 ∨ k' = 13 ∨ k' = 15) (h : tl k = tl k') : k = k' := by
  unfold tl at h
  rcases h1 with rfl | rfl | rfl | rfl | rfl <;> rcases h2 with rfl | rfl | rfl | rfl | rfl <;> first | rfl | exact absurd h (by decide)
theorem tk_or {k i : Nat} (h : (k = 0 ∧ i = 0) ∨ k = 10 ∨ k = 11 ∨ k = 13 ∨ k = 15) : k = 0 ∨ k = 10 ∨ k = 11 ∨ k = 13 ∨ k = 15 := by omega
theorem Rep.start {g : GT} {α : Nat → Nat → Nat} {h : HT} {H : Heap} (hR : Rep g α h cHb H) : Rep g (aF α) h SF H := by
  have n20 : ∀ i, SF.2.2 (20 + i) = cHb.2.2 (20 + i) := fun i => SF_n (by omega)
  refine ⟨fun k i hl => ?_, fun k i k' i' hl hl' he => ?_, fun k i hl => ?_, fun k i f hk hi hf hne => ?_, fun i hi => ?_, hR.2.2.2.2.2⟩
  · obtain ⟨hk, hl2, ha⟩ := SF_val (α := α) hl
    rw [ha]
    have hold := hR.1 _ _ hl2
    rcases hk with ⟨rfl, rfl⟩ | rfl | rfl | rfl | rfl
    · have e : ent g (aF α) h SF 0 0 = ent g α h cHb 17 0 := by
        rw [ent_ob rfl, ent_ob rfl, fs_0]
        rfl
      rw [e]
      exact hold
    · exact hold
    · exact hold
    · have e : ent g (aF α) h SF 13 i = ent g α h cHb 13 i := by
        rw [ent_13, ent_13, n20]
      rw [e]
      exact hold
    · have e : ent g (aF α) h SF 15 i = ent g α h cHb 15 i := by
        rw [ent_15, ent_15, n20]
        congr 7
        funext j
        have := lk_or i
        rw [aF_o (by omega)]
      rw [e]
      exact hold
  · obtain ⟨hk, hl2, ha⟩ := SF_val (α := α) hl
    obtain ⟨hk', hl2', ha'⟩ := SF_val (α := α) hl'
    rw [ha, ha'] at he
    obtain ⟨h8, h9⟩ := hR.2.1 _ _ _ _ hl2 hl2' he
    exact ⟨tl_inj (tk_or hk) (tk_or hk') h8, h9⟩
  · obtain ⟨hk, hl2, ha⟩ := SF_val (α := α) hl
    rw [ha]
    exact hR.2.2.1 _ _ hl2
  · obtain ⟨h9, -, -⟩ := SF_val (α := α) (h := h) (Lv_of (Or.inl hk) hi)
    rcases h9 with ⟨rfl, rfl⟩ | rfl | rfl | rfl | rfl
    · right
      have h10 : f = 0 ∨ f = 1 ∨ f = 2 ∨ f = 3 ∨ f = 4 ∨ f = 5 ∨ f = 6 ∨ f = 7 ∨ f = 8 ∨ f = 9 := by
        have : f < 10 := hf
        omega
      have hall : ∀ f, f < 9 → LvR SF (fR 0 f 0).1 (fR 0 f 0).2 := by
        intro f hf
        have h10 : f = 0 ∨ f = 1 ∨ f = 2 ∨ f = 3 ∨ f = 4 ∨ f = 5 ∨ f = 6 ∨ f = 7 ∨ f = 8 := by omega
        rcases h10 with rfl | rfl | rfl | rfl | rfl | rfl | rfl | rfl | rfl <;> exact Or.inr (Or.inr ⟨Or.inr rfl, by decide⟩)
      by_cases h11 : f < 9
      · exact hall f h11
      · obtain rfl : f = 9 := by omega
        exact absurd rfl hne
    all_goals exact absurd hk (by decide)
  · have hi5 : i < 5 := hi
    have h9 := hR.2.2.2.2.1 i (show i < 5 from hi)
    rw [n20, SF_n (by have := lk_or i; omega)]
    exact h9
theorem aF_agr {α : Nat → Nat → Nat} {α0 : Nat → Nat → Nat} (h : AgR S00 α0 α) : AgR S00 α0 (aF α) := by
  intro k i hl
  rw [← h k i hl]
  rcases hl with rfl | rfl | hl
  · exact aF_o (by decide)
  · exact aF_o (by decide)
  · exact absurd hl.2 (Nat.not_lt_zero i)
/-- the law's rows, all new -/
def SB : Sto := mkA (mkA (mkA (mkA (mkA (mkA (mkA SF 10) 10) 10) 10) 10) 10) 10
theorem nz {n : Nat} (h : n = 0) {i : Nat} (hi : i < n) : False := by omega
set_option maxRecDepth 20000 in
theorem beg_SB : BegI 0 0 SB := by
  have z20 : SB.2.2 20 = 0 := rfl
  have z21 : SB.2.2 21 = 0 := rfl
  have z22 : SB.2.2 22 = 0 := rfl
  have z23 : SB.2.2 23 = 0 := rfl
  have z24 : SB.2.2 24 = 0 := rfl
  have e11 : ∀ i, SB.1 11 0 i = 0 := fun i => rfl
  have e91 : SB.1 10 9 1 = 0 := rfl
  refine ⟨⟨rfl, ⟨by rw [z20]; omega, by rw [z21]; omega, by rw [z22]; omega, by rw [z23]; omega, by rw [z24]; omega⟩, ⟨rfl, rfl, rfl, rfl, rfl, rfl, rfl, rfl⟩, fun i hi => (nz z21 hi).elim, fun i hi => (nz z23 hi).elim, fun i hi => (nz z24 hi).elim, fun i hi => (nz z20 hi).elim, fun i hi => (nz z22 hi).elim⟩, ⟨z20, z22, z21, z23, z24⟩, fun i hi => (Nat.not_lt_zero i hi).elim, fun i _ => rfl, fun i hi => (Nat.not_lt_zero i hi).elim, fun i _ => rfl, fun i => ⟨rfl, fun hi => ⟨rfl, ?_⟩⟩, ⟨rfl, rfl, ?_, ?_, ?_⟩, fun p _ => ?_, fun i => ?_⟩
  · show (if (10 : Nat) = 10 ∧ (1 : Nat) = 1 ∧ i < 4 then (99999 : Int32) else _) = 99999
    rw [if_pos ⟨rfl, rfl, hi⟩]
  · rw [z21]
    rfl
  · rw [z23]
    rfl
  · rw [z24]
    rfl
  · rw [e91, bit_0]
    unfold bayH
    rw [e11]
    rfl
  · rw [e11]
    rfl
