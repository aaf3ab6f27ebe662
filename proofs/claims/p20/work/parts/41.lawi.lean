/-! THE CLASS AND THE LAW's OWN ROWS, column by column -/
/-- roads of the law: array 3; rigs: 5; works: 4; permits: 6; embargoes: 7; authorities: 8; the rest: 9 -/
def RoL (S : Sto) (n : Nat) : Prop := ∀ i, i < n → (∀ f, f < 10 → S.1 10 3 (10 * i + f) = S.1 2 f i) ∧ onN S i < 5 ∧ otN S i < 5
def gmF : Nat → Nat
  | 0 => 8
  | 1 => 0
  | 2 => 1
  | 3 => 2
  | 4 => 3
  | 5 => 4
  | 6 => 5
  | f => f
def LoF (S : Sto) (i : Nat) (L C : Int32) : Prop := (∃ l c o : Nat, L = nI l ∧ C = nI c ∧ S.1 4 5 i = nI o ∧ l ≤ 200000 ∧ c ≤ 80 ∧ o ≤ 99999) ∧ canT S i L C ∧ S.1 4 6 i = shrF S i (L - reaF S i L C) ∧ S.1 4 7 i = shrF S i (reaF S i L C)
def DrF (S : Sto) (T i : Nat) : Prop := (∃ p : Nat, S.1 4 8 i = nI p ∧ p < 5) ∧ (S.1 4 9 i = -1 ∨ ∃ d q : Nat, S.1 4 9 i = nI d ∧ d < 6 ∧ S.1 4 10 i = nI q ∧ T < q ∧ q < 20000)
def RiL (S : Sto) (n T : Nat) : Prop := ∀ i, i < n → (∀ f, f < 13 → f ≠ 7 → f ≠ 8 → S.1 10 5 (14 * i + f) = S.1 4 (gmF f) i) ∧ LoF S i (S.1 10 5 (14 * i + 7)) (S.1 10 5 (14 * i + 8)) ∧ DrF S T i
def WoL (S : Sto) : Prop := ∀ i, i < S.2.2 21 → S.1 10 4 (5 * i) = S.1 3 0 i ∧ S.1 10 4 (5 * i + 1) = S.1 3 1 i ∧ S.1 10 4 (5 * i + 2) = S.1 3 2 i ∧ S.1 10 4 (5 * i + 3) = S.1 7 0 i ∧ S.1 10 4 (5 * i + 4) = S.1 7 1 i
def PeL (S : Sto) : Prop := ∀ i, i < S.2.2 23 → S.1 10 6 (4 * i) = S.1 5 0 i ∧ S.1 10 6 (4 * i + 1) = S.1 5 1 i ∧ S.1 10 6 (4 * i + 2) = S.1 8 0 i ∧ S.1 10 6 (4 * i + 3) = S.1 8 1 i
def EmL (S : Sto) : Prop := ∀ i, i < S.2.2 24 → S.1 10 7 (3 * i) = S.1 6 0 i ∧ S.1 10 7 (3 * i + 1) = S.1 9 0 i ∧ S.1 10 7 (3 * i + 2) = S.1 9 1 i ∧ S.1 9 0 i < S.1 9 1 i
def AuL (S : Sto) : Prop := ∀ i, i < 4 → S.1 10 8 i = S.1 10 0 i ∧ S.1 10 8 (4 + i) = S.1 10 1 i ∧ ∃ x : Nat, S.1 10 0 i = nI x ∧ x ≤ 39
def MmL (T : Nat) (S : Sto) : Prop := S.1 10 9 0 = nI T ∧ S.1 0 9 0 = nI T ∧ S.1 10 9 2 = nI (S.2.2 21) ∧ S.1 10 9 3 = nI (S.2.2 23) ∧ S.1 10 9 4 = nI (S.2.2 24)
def BaL (S : Sto) : Prop := (∀ p, p < 5 → bit (S.1 10 9 1) p = bayH S p) ∧ ∀ i, S.1 11 0 i &&& 1 = S.1 11 0 i
def LawI (T : Nat) (S : Sto) : Prop :=
  WfH S ∧ (S.2.2 20 = 6 ∧ S.2.2 22 = 2 ∧ S.2.2 21 ≤ 6 ∧ S.2.2 23 ≤ 12 ∧ S.2.2 24 ≤ 3) ∧ RoL S 6 ∧ RiL S 2 T ∧ WoL S ∧ PeL S ∧ EmL S ∧ AuL S ∧ MmL T S ∧ BaL S
section LI
variable {T : Nat} {S : Sto}
theorem LawI.wf (h : LawI T S) : WfH S := h.1
theorem LawI.n (h : LawI T S) : S.2.2 20 = 6 ∧ S.2.2 22 = 2 ∧ S.2.2 21 ≤ 6 ∧ S.2.2 23 ≤ 12 ∧ S.2.2 24 ≤ 3 := h.2.1
theorem LawI.ro (h : LawI T S) : RoL S 6 := h.2.2.1
theorem LawI.ri (h : LawI T S) : RiL S 2 T := h.2.2.2.1
theorem LawI.wo (h : LawI T S) : WoL S := h.2.2.2.2.1
theorem LawI.pe (h : LawI T S) : PeL S := h.2.2.2.2.2.1
theorem LawI.em (h : LawI T S) : EmL S := h.2.2.2.2.2.2.1
theorem LawI.au (h : LawI T S) : AuL S := h.2.2.2.2.2.2.2.1
theorem LawI.mm (h : LawI T S) : MmL T S := h.2.2.2.2.2.2.2.2.1
theorem LawI.ba (h : LawI T S) : BaL S := h.2.2.2.2.2.2.2.2.2
theorem ix_1 (a k : Nat) (h : a * k < 2 ^ 31) : (nI a * nI k).toNatClampNeg = a * k := by
  rw [nI_mul]
  exact nI_cl h
theorem ix_2 (a k c : Nat) (h : a * k + c < 2 ^ 31) : (nI a * nI k + nI c).toNatClampNeg = a * k + c := by
  rw [nI_mul, nI_add]
  exact nI_cl h
theorem iv_1 {a k n : Nat} (hn : n ≤ 3000) (h : a * k < n) : vp_in (nI a * nI k) n := by
  rw [nI_mul]
  exact nI_vin (by omega) h
theorem iv_2 {a k c n : Nat} (hn : n ≤ 3000) (h : a * k + c < n) : vp_in (nI a * nI k + nI c) n := by
  rw [nI_mul, nI_add]
  exact nI_vin (by omega) h
/-- rows of roads -/
theorem aA0 {i : Nat} (h : LawI T S) (hi : i < 6) : S.1 10 3 (nI 10 * nI i).toNatClampNeg = S.1 2 0 i := by
  rw [ix_1 10 i (by omega)]
  exact (h.ro i hi).1 0 (by decide)
theorem aA {i : Nat} (h : LawI T S) (hi : i < 6) (f : Nat) (hf : f < 10) : S.1 10 3 (nI 10 * nI i + nI f).toNatClampNeg = S.1 2 f i := by
  rw [ix_2 10 i f (by omega)]
  exact (h.ro i hi).1 f hf
theorem vA0 {i : Nat} (_ : LawI T S) (hi : i < 6) : vp_in (nI 10 * nI i) 60 := iv_1 (by omega) (by omega)
theorem vA {i : Nat} (_ : LawI T S) (hi : i < 6) (f : Nat) (hf : f < 10) : vp_in (nI 10 * nI i + nI f) 60 := iv_2 (by omega) (by omega)
/-- rows of rigs -/
theorem aG0 {i : Nat} (h : LawI T S) (hi : i < 2) : S.1 10 5 (nI 14 * nI i).toNatClampNeg = S.1 4 8 i := by
  rw [ix_1 14 i (by omega)]
  exact (h.ri i hi).1 0 (by decide) (by decide) (by decide)
def gvF (S : Sto) (i f : Nat) : Int32 := if f = 7 ∨ f = 8 then S.1 10 5 (14 * i + f) else S.1 4 (gmF f) i
theorem aG {i : Nat} (h : LawI T S) (hi : i < 2) (f : Nat) (hf : f < 13) : S.1 10 5 (nI 14 * nI i + nI f).toNatClampNeg = gvF S i f := by
  rw [ix_2 14 i f (by omega)]
  unfold gvF
  by_cases h7 : f = 7 ∨ f = 8
  · rw [if_pos h7]
  · rw [if_neg h7]
    exact (h.ri i hi).1 f hf (fun q => h7 (Or.inl q)) (fun q => h7 (Or.inr q))
theorem vG0 {i : Nat} (_ : LawI T S) (hi : i < 2) : vp_in (nI 14 * nI i) 28 := iv_1 (by omega) (by omega)
theorem vG {i : Nat} (_ : LawI T S) (hi : i < 2) (f : Nat) (hf : f < 13) : vp_in (nI 14 * nI i + nI f) 28 := iv_2 (by omega) (by omega)
/-- rows of works -/
theorem aW0 {i : Nat} (h : LawI T S) (hi : i < S.2.2 21) : S.1 10 4 (nI 5 * nI i).toNatClampNeg = S.1 3 0 i := by
  have := h.n.2.2.1
  rw [ix_1 5 i (by omega)]
  exact (h.wo i hi).1
def wvF (S : Sto) (i : Nat) : Nat → Int32
  | 0 => S.1 3 0 i
  | 1 => S.1 3 1 i
  | 2 => S.1 3 2 i
  | 3 => S.1 7 0 i
  | _ => S.1 7 1 i
theorem aW {i : Nat} (h : LawI T S) (hi : i < S.2.2 21) (f : Nat) (hf : f < 5) : S.1 10 4 (nI 5 * nI i + nI f).toNatClampNeg = wvF S i f := by
  have := h.n.2.2.1
  rw [ix_2 5 i f (by omega)]
  obtain ⟨h0, h1, h2, h3, h4⟩ := h.wo i hi
  have h5 : f = 0 ∨ f = 1 ∨ f = 2 ∨ f = 3 ∨ f = 4 := by omega
  rcases h5 with rfl | rfl | rfl | rfl | rfl
  · exact h0
  · exact h1
  · exact h2
  · exact h3
  · exact h4
theorem vW0 {i : Nat} (h : LawI T S) (hi : i < S.2.2 21) : vp_in (nI 5 * nI i) 30 := by
  have := h.n.2.2.1
  exact iv_1 (by omega) (by omega)
theorem vW {i : Nat} (h : LawI T S) (hi : i < S.2.2 21) (f : Nat) (hf : f < 5) : vp_in (nI 5 * nI i + nI f) 30 := by
  have := h.n.2.2.1
  exact iv_2 (by omega) (by omega)
/-- rows of permits -/
theorem aP0 {i : Nat} (h : LawI T S) (hi : i < S.2.2 23) : S.1 10 6 (nI 4 * nI i).toNatClampNeg = S.1 5 0 i := by
  have := h.n.2.2.2.1
  rw [ix_1 4 i (by omega)]
  exact (h.pe i hi).1
def pvF (S : Sto) (i : Nat) : Nat → Int32
  | 0 => S.1 5 0 i
  | 1 => S.1 5 1 i
  | 2 => S.1 8 0 i
  | _ => S.1 8 1 i
theorem aP {i : Nat} (h : LawI T S) (hi : i < S.2.2 23) (f : Nat) (hf : f < 4) : S.1 10 6 (nI 4 * nI i + nI f).toNatClampNeg = pvF S i f := by
  have := h.n.2.2.2.1
  rw [ix_2 4 i f (by omega)]
  obtain ⟨h0, h1, h2, h3⟩ := h.pe i hi
  have h5 : f = 0 ∨ f = 1 ∨ f = 2 ∨ f = 3 := by omega
  rcases h5 with rfl | rfl | rfl | rfl
  · exact h0
  · exact h1
  · exact h2
  · exact h3
theorem vP0 {i : Nat} (h : LawI T S) (hi : i < S.2.2 23) : vp_in (nI 4 * nI i) 48 := by
  have := h.n.2.2.2.1
  exact iv_1 (by omega) (by omega)
theorem vP {i : Nat} (h : LawI T S) (hi : i < S.2.2 23) (f : Nat) (hf : f < 4) : vp_in (nI 4 * nI i + nI f) 48 := by
  have := h.n.2.2.2.1
  exact iv_2 (by omega) (by omega)
/-- rows of embargoes -/
theorem aE0 {i : Nat} (h : LawI T S) (hi : i < S.2.2 24) : S.1 10 7 (nI 3 * nI i).toNatClampNeg = S.1 6 0 i := by
  have := h.n.2.2.2.2
  rw [ix_1 3 i (by omega)]
  exact (h.em i hi).1
def evF (S : Sto) (i : Nat) : Nat → Int32
  | 0 => S.1 6 0 i
  | 1 => S.1 9 0 i
  | _ => S.1 9 1 i
theorem aE {i : Nat} (h : LawI T S) (hi : i < S.2.2 24) (f : Nat) (hf : f < 3) : S.1 10 7 (nI 3 * nI i + nI f).toNatClampNeg = evF S i f := by
  have := h.n.2.2.2.2
  rw [ix_2 3 i f (by omega)]
  obtain ⟨h0, h1, h2, -⟩ := h.em i hi
  have h5 : f = 0 ∨ f = 1 ∨ f = 2 := by omega
  rcases h5 with rfl | rfl | rfl
  · exact h0
  · exact h1
  · exact h2
theorem vE0 {i : Nat} (h : LawI T S) (hi : i < S.2.2 24) : vp_in (nI 3 * nI i) 9 := by
  have := h.n.2.2.2.2
  exact iv_1 (by omega) (by omega)
theorem vE {i : Nat} (h : LawI T S) (hi : i < S.2.2 24) (f : Nat) (hf : f < 3) : vp_in (nI 3 * nI i + nI f) 9 := by
  have := h.n.2.2.2.2
  exact iv_2 (by omega) (by omega)
/-- the same but for the class's marks and arrays of longs -/
def sameL (S S' : Sto) : Prop := (∀ k, k ≠ 12 → S'.2.2 k = S.2.2 k) ∧ ∀ k f i, ¬ (k = 10 ∧ f = 2) → S'.1 k f i = S.1 k f i
theorem sameL.rf : sameL S S := ⟨fun _ _ => rfl, fun _ _ _ _ => rfl⟩
theorem sameL.tr {S1 S2 : Sto} (h : sameL S S1) (h2 : sameL S1 S2) : sameL S S2 := ⟨fun k q => (h2.1 k q).trans (h.1 k q), fun k f i q => (h2.2 k f i q).trans (h.2 k f i q)⟩
theorem sameL.of {S' : Sto} (h : onlyR S S') : sameL S S' := ⟨fun k _ => by rw [h.1], h.2⟩
theorem sameL.k {S' : Sto} (h : sameL S S') (k : Nat) (hk : k ≠ 10) : S'.1 k = S.1 k := by
  funext f i
  exact h.2 k f i fun q => hk q.1
theorem sameL.a {S' : Sto} (h : sameL S S') (f : Nat) (hk : f ≠ 2) : S'.1 10 f = S.1 10 f := by
  funext i
  exact h.2 10 f i fun q => hk q.2
theorem sameL.wf {S' : Sto} (h : sameL S S') (hW : WfH S) : WfH S' := by
  unfold WfH RoF RiF at hW ⊢
  rw [h.1 13 (by decide), h.1 20 (by decide), h.1 21 (by decide), h.1 22 (by decide), h.1 23 (by decide), h.1 24 (by decide), h.1 2 (by decide), h.1 3 (by decide), h.1 4 (by decide), h.1 5 (by decide), h.1 6 (by decide), h.1 7 (by decide), h.1 8 (by decide), h.1 9 (by decide), h.k 2 (by decide), h.k 3 (by decide), h.k 4 (by decide), h.k 5 (by decide), h.k 6 (by decide)]
  exact hW
theorem sameL.inv {S' : Sto} (h : sameL S S') (hI : LawI T S) : LawI T S' := by
  refine ⟨h.wf hI.1, ?_⟩
  have h9 := hI.2
  unfold RoL RiL WoL PeL EmL AuL MmL BaL LoF DrF canT shrF reaF levF basF onN otN bayH at h9 ⊢
  rw [h.1 20 (by decide), h.1 21 (by decide), h.1 22 (by decide), h.1 23 (by decide), h.1 24 (by decide), h.k 0 (by decide), h.k 2 (by decide), h.k 3 (by decide), h.k 4 (by decide), h.k 5 (by decide), h.k 6 (by decide), h.k 7 (by decide), h.k 8 (by decide), h.k 9 (by decide), h.k 11 (by decide), h.a 0 (by decide), h.a 1 (by decide), h.a 3 (by decide), h.a 4 (by decide), h.a 5 (by decide), h.a 6 (by decide), h.a 7 (by decide), h.a 8 (by decide), h.a 9 (by decide)]
  exact h9
theorem sameL.rea {S' : Sto} (h : sameL S S') (r d t : Int32) : reasonH S' r d t = reasonH S r d t := by
  unfold reasonH sizeH leaveH gwH gainH permH embH lastH borneH heavH greatH lastN sumH
  rw [h.1 21 (by decide), h.1 23 (by decide), h.1 24 (by decide), h.k 2 (by decide), h.k 3 (by decide), h.k 4 (by decide), h.k 5 (by decide), h.k 6 (by decide), h.k 7 (by decide), h.k 8 (by decide), h.k 9 (by decide), h.a 1 (by decide)]
theorem sameL.bor {S' : Sto} (h : sameL S S') (i j : Nat) : borneH S' i j = borneH S i j := by
  unfold borneH greatH lastN sumH
  rw [h.k 2 (by decide), h.k 4 (by decide)]
end LI
/-- a contract of a method that reads the script -/
theorem CT_ofS {l : Launch} {y : MethodName} {cc : ByteArray} {maxL rk u : Nat} {ret : Option FieldType} {sp : SP} {own : String} {tb : Tb} {ini : Bool} (hl : l.stackTraces = false) (hNL : NewL l) (hy : plainName y.cls = true) (hcls : y.cls = own) (hini : ini = true → y.name = "<init>")
    (hchk : chkTb cc own ini tb = true) (hcalls : CallsOK l own rk tb) (hargs : ∀ as S P, sp as S P → as.length ≤ maxL ∧ ∀ a ∈ as, catV a = 1)
    (vc : ∀ (N : Nat) (xs : Nat → Int32) (_ : N ≤ 260) (G : Gt) (Q : Out → Sto → Prop) (as : List AV) (S : Sto), sp as S Q → Seg tb G Q (rtOf ret) u [] (N + 1, xs) → G 0 (argL as maxL) [] S 0) : CT l y cc maxL ret rk u sp := by
  intro g α h S as P hsp
  obtain ⟨hlen, hcat⟩ := hargs as S P hsp
  refine vx_ofW (cc := cc) (maxL := maxL) (ret := ret) hy rfl ?_
  intro p e s m args below meth c s₁ B hml hout hv
  obtain ⟨rfl, hW, hLv⟩ := hv
  have C := cx_of hl hcls hini B hml hW
  have hf : Fin p l e (headSpec [Cond.code y cc maxL ret] (rmx rk u)).room s m (as.map (conc α)).toArray below meth c (vx_MQ below (QC g α S P) (XC g α S P) (as.map (conc α)).toArray s u (120 * u) (AB g)) g α S maxL 0 0 u cc own P (rtOf ret) [] :=
    ⟨fun r S' u' α' h' H locs pc ls hq hu hR hE hlo hS hra => fin_ret C B.returns hq hu hR hE hlo hS hra,
     fun x S' u' α' h' H locs pc ls rest q ce hq hu hR hE hS _ hce hcv hcl => fin_out C (fun z hz => (hout z hz).elim) hq hu hR hE hS hce hcv hcl,
     fun x t u' H locs pc ls rest q ce hh => (nomatch hh),
     fun x pc i len xl S' u' α' h' H locs ls rest hc hq hu hR hE hS hsz hct => fin_throw C hout hc hq hu hR hE hS hsz hct,
     fun pc i len xl S' u' α' h' H locs ls rest hc h5 h0 hu hR hS hsz hct kk => hNL p e _ s m _ below meth c _ g cc own maxL rk 0 0 u ini pc i len xl S' u' α' h' H locs ls rest C hc h5 h0 hu hR hS hsz hct kk⟩
  obtain ⟨-, -, -, -, -, -, -, x1, N, xs, x2, x3⟩ := hW.2.2.2.1
  have h14 : α 14 0 = scA g := hW.1.2.2.2.2.2
  have hsc : 0 < (N + 1, xs).1 → ScrOK s g α (N + 1, xs) := fun _ => by
    refine ⟨?_, ?_, ?_⟩
    · rw [h14]
      exact x3
    · rw [h14]
      exact Nat.lt_of_lt_of_le x1 hW.2.2.2.2
    · rw [h14]
      exact x1
  exact start_of hW.1 hLv hlen hcat (vc N xs x2 _ P as S hsp (seg_sound C hf hsc hchk hcalls))
