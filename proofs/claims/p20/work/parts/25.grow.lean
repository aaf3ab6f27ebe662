/-! THE JDK's LISTS: growing -/
section JD4
variable {p : Program} {l : Launch} {e : Env} {R : Room} {s : State} {m : MethodId} {args : Array Value} {below : List Frame} {meth : Method} {c : Code} {H : Heap} {locs : List Loc} {cells slots : Nat} {Q : State → Prop}
variable {cc : ByteArray} {pc : Nat} {ls : Array Slot} {rest st0 : List Value} {g : GT} {α : Nat → Nat → Nat} {h : HT} {S : Sto} {H0 : Heap} {own : String} {idx nL rk cb sb B : Nat} {ini : Bool} {P : Out → Sto → Prop}
abbrev arO (g : GT) (N : Nat) (f : Nat → Option Nat) : va_E := .inl (g.2.1.2.2.2.1, N, .inr (.inr (.inr (.inr f))))
def elF (α : Nat → Nat → Nat) (S : Sto) (i : Nat) : Nat → Option Nat := fun j => if j < S.2.2 (20 + i) then some (α (lk i) j) else none
theorem w_anewO (hx : p.tables.exec = Jvm.exec) (hb : c.code = cc) (hown : s.vm.findClass own = some m.cls) (hK : va_K g.1 vwCl (tysG g) s) (hWT : WT s) {n : Int32} {N : Nat} (hn : ¬ n < 0) (hN : n.toNatClampNeg = N) (hN2 : N ≤ 100) (hclink : (Cond.classLink own idx "java/lang/Object").before args s = true) (hcells : cells + 1 ≤ R.cells) (hslots : slots + N ≤ R.slots) (hdg : decode cc pc = .ok (.anewarray idx, 3))
    (kk : ∀ H1 : Heap, H1.size = H.size + 1 → (∀ q : Nat, q < H.size → H1[q]? = H[q]?) → va_P g.1 vwCl [(H.size, arO g N fun _ => none)] H1 → W p l e R s m args below meth c H1 locs (cells + 1) (slots + N) Q (F0 m (pc + 3) ls (.ref H.size :: rest))) : W p l e R s m args below meth c H locs cells slots Q (F0 m pc ls (.int n :: rest)) := by
  subst hN
  refine W.anew hx hb hown hclink (wt_at (w := 349) hWT (by decide +kernel) rfl) rfl hdg rfl hn (by omega) hcells hslots fun cA kA comp f1 f2 f3 f4 => ?_
  have hcA : cA = g.2.1.2.2.2.1 := by
    obtain ⟨kA', comp', k1, k2, k3, k4⟩ := (hK.2 3 _ rfl).2
    exact Option.some.inj (f1.symm.trans k4)
  subst hcA
  generalize hH1 : H.push ({ cls := g.2.1.2.2.2.1, slots := Array.replicate n.toNatClampNeg .null, vm := .none } : Cell) = H1
  have z1 : H1.size = H.size + 1 := by rw [← hH1, Array.size_push]
  have e1 : H1[H.size]? = some (arrV g.2.1.2.2.2.1 n.toNatClampNeg (fun _ => .null)) := by rw [← hH1, Array.getElem?_push_size, ← arrV_new]
  have o1 : ∀ q : Nat, q < H.size → H1[q]? = H[q]? := fun q hq => by rw [← hH1, Array.getElem?_push, if_neg (Nat.ne_of_lt hq)]
  exact kk H1 z1 o1 (va_P1 e1)
end JD4
def QN (g : GT) (α : Nat → Nat → Nat) (S : Sto) (i N : Nat) : Array Value → State → Outcome → State → Prop := fun _ st o t => ∃ q, o = .returned (some (.ref q)) ∧ st.heap.size ≤ q ∧ va_P g.1 vwCl [(q, arO g N (elF α S i))] t.heap ∧ st.heap.size ≤ t.heap.size ∧ ∀ q' : Nat, q' < st.heap.size → t.heap[q']? = st.heap[q']?
theorem qn_F {g : GT} {α : Nat → Nat → Nat} {S : Sto} {i N : Nat} {a : Array Value} (v : Option Value) (st t : State) (h : QN g α S i N a st (.returned v) t) : va_F (AB g) st t := by
  obtain ⟨q, -, -, -, h1, h2⟩ := h
  exact ⟨h1, fun q' hq _ => h2 q' hq⟩
theorem any_el {s : State} {g : GT} {α : Nat → Nat → Nat} {h : HT} {S : Sto} {H : Heap} (hK : va_K g.1 vwCl (tysG g) s) (hWT : WT s) (hR : Rep g α h S H) {k j : Nat} (hk : k = 2 ∨ k = 3 ∨ k = 4 ∨ k = 5 ∨ k = 6) (hj : j < S.2.2 k) : va_Any "java/lang/Object" s H (α k j) := by
  have hob : obK k = true := by rcases hk with rfl | rfl | rfl | rfl | rfl <;> rfl
  refine va_rAny hK (hR.ob hob hj) (q0 := 0) rfl (kd_KF hob).1.1 fun comp c0 h1 h2 => ?_
  have key : ∀ nm : String, Cond.castable nm "java/lang/Object" ∈ lw_tbl → s.vm.findClass nm = some c0 → s.vm.assignable c0 comp = true := fun nm hw hc => by
    obtain ⟨c1, t1, f1, f2, f3⟩ := Cond.castable_spec (hWT _ hw rfl #[])
    cases hc.symm.trans f1
    cases h1.symm.trans f2
    exact f3
  rcases hk with rfl | rfl | rfl | rfl | rfl
  · exact key _ (List.mem_of_getElem? (i := 774) (by decide +kernel)) h2
  · exact key _ (List.mem_of_getElem? (i := 779) (by decide +kernel)) h2
  · exact key _ (List.mem_of_getElem? (i := 775) (by decide +kernel)) h2
  · exact key _ (List.mem_of_getElem? (i := 778) (by decide +kernel)) h2
  · exact key _ (List.mem_of_getElem? (i := 776) (by decide +kernel)) h2
theorem lk_or (i : Nat) : lk i = 2 ∨ lk i = 3 ∨ lk i = 4 ∨ lk i = 5 ∨ lk i = 6 := by
  unfold lk
  split <;> simp
theorem Met_z {l : Launch} {y : MethodName} {cc : ByteArray} {maxL rk u : Nat} {ret : Option FieldType} {own : String} (hl : l.stackTraces = false) (hy : plainName y.cls = true) (hcls : y.cls = own) {g : GT} {α : Nat → Nat → Nat} {h : HT} {S : Sto} {X : State → Prop} {vs : List Value} {Qc : Array Value → State → Outcome → State → Prop} {XCc : String → State → State → Prop} (hlen : vs.length ≤ maxL) (hcat : ∀ v ∈ vs, v.category = 1)
    (body : ∀ (p : Program) (e : Env) (R : Room) (s : State) (m : MethodId) (below : List Frame) (meth : Method) (c : Code) (ls : Array Slot), Cx p l s m meth c R cc own maxL rk 0 0 u false g → meth.sig.returnType = ret → Rep g α h S s.heap → X s → lv_has ls maxL (lv_args 0 vs) →
      W p l e R s m vs.toArray below meth c s.heap [] 0 0 (vx_MQ below Qc XCc vs.toArray s u (120 * u) (AB g)) (F0 m 0 ls [])) : vx_Met l y [.code y cc maxL ret] (rmx rk u) (va_Pc vs (fun U => Wd g α h S U ∧ X U)) Qc XCc u (120 * u) (AB g) := by
  refine vx_ofW (cc := cc) (maxL := maxL) (ret := ret) hy rfl ?_
  intro p e s m args below meth c s₁ B hml hout hv
  obtain ⟨rfl, hW, hX⟩ := hv
  have C := cx_of (ini := false) hl hcls (fun q => nomatch q) B hml hW
  rw [lg_entry_eq]
  have hl1 : (lg_sl vs).length ≤ maxL := by rw [lg_len1 hcat]; exact hlen
  have hle := lv_entry vs (n := maxL) hl1
  generalize (lg_sl vs ++ List.replicate (maxL - (lg_sl vs).length) Slot.unset).toArray = ls at hle ⊢
  exact body p e _ s m below meth c ls C B.returns hW.1 hX hle
theorem pre_Wz {p : Program} {l : Launch} {R : Room} {s : State} {m : MethodId} {meth : Method} {c : Code} {H : Heap} {locs : List Loc} {cc : ByteArray} {own : String} {nL rk cb sb B : Nat} {ini : Bool} {g : GT} {α : Nat → Nat → Nat} {h : HT} {S : Sto} (C : Cx p l s m meth c R cc own nL rk cb sb B ini g) (hR : Rep g α h S H) {X : State → Prop} (hX : ∀ U : State, s.vm.Alike U.vm → X U) (hX2 : ∀ U U' : State, U.vm.Alike U'.vm → X U → X U') (hS : va_S (AB g) s.heap H locs) (vs : List Value) : PreS s H (va_Pc vs (fun U => Wd g α h S U ∧ X U)) vs := by
  have h1 := pre_Wd C hR hS vs
  refine ⟨?_, fun U hU hW => ⟨rfl, (h1.2 U hU hW).2, hX U hW.alike⟩⟩
  intro a U f mk q
  obtain ⟨q1, ⟨q2, q3, q4, q5, q6⟩, q7⟩ := q
  exact ⟨q1, ⟨q2, va_K.moved (u := U) (U := U.calling f mk a) (Vm.Alike.refl U.vm) q3, WT.warm (s := U) (U := U.calling f mk a) (State.WarmedH.refl U) q4, ST.moved (s := U) (U := U.calling f mk a) (State.WarmedH.refl U) q5, q6⟩, hX2 U _ (Vm.Alike.refl U.vm) q7⟩
theorem ofNat_cl {n : Nat} (h : n < 2 ^ 31) : (Int32.ofNat n).toNatClampNeg = n := by
  show (Int32.ofNat n).toInt.toNat = n
  rw [Int32.toInt_ofNat_of_lt h]
  rfl
theorem ofNat_nn {n : Nat} (h : n < 2 ^ 31) : ¬ Int32.ofNat n < 0 := by
  rw [Int32.lt_iff_toInt_lt, Int32.toInt_ofNat_of_lt h]
  show ¬ (n : Int) < 0
  omega
/-- Arrays.copyOf of the array of a list -/
theorem ct_cp3 {l : Launch} (hl : l.stackTraces = false) {g : GT} {α : Nat → Nat → Nat} {h : HT} {S : Sto} {i N mi : Nat} {n : Int32} (hi : i < S.2.2 13) (h0 : (h i).1 ≠ 0) (hn0 : ¬ n < 0) (hN : n.toNatClampNeg = N) (hle : (h i).1 ≤ N) (hN2 : N ≤ 100) :
    vx_Met l yJ7_copyOf_6403c [.code yJ7_copyOf_6403c cJ7_copyOf_6403c 4 (some (.array (.object "java/lang/Object")))] (rmx 0 1) (va_Pc [.ref (h i).2.1, .int n, .ref mi] (fun U => Wd g α h S U ∧ va_Mi "[Ljava/lang/Object;" mi U)) (QN g α S i N) XN 1 (120 * 1) (AB g) := by
  refine Met_z (X := va_Mi "[Ljava/lang/Object;" mi) (own := "java/util/Arrays") hl (by decide +kernel) rfl (Nat.le_of_ble_eq_true rfl) (fun v hv => ?_) ?_
  · simp only [List.mem_cons, List.not_mem_nil, or_false] at hv
    rcases hv with rfl | rfl | rfl <;> rfl
  · intro p e R s m below meth c ls C hr hR hX hl9
    have hWT := C.2.2.2.2.2.2.2.1
    have hK := C.2.2.2.2.2.2.1
    have hlocks := C.2.2.2.2.1
    have hfr := C.2.2.2.2.2.2.2.2.2.2.1
    have hlo := C.2.2.2.2.2.2.2.2.2.2.2.1
    have h30 := C.2.2.2.2.2.2.2.2.2.2.2.2.1
    have h31 := C.2.2.2.2.2.2.2.2.2.2.2.2.2.1
    have h9 := hR.2.2.2.2.1 i hi
    have a0 := hl9.2.2 (0, .ref (h i).2.1) List.mem_cons_self
    have a1 := hl9.2.2 (1, .int n) (List.mem_cons_of_mem _ List.mem_cons_self)
    have a2 := hl9.2.2 (2, .ref mi) (List.mem_cons_of_mem _ (List.mem_cons_of_mem _ List.mem_cons_self))
    refine lv_aload_n C.1 C.2.1 dJ7_copyOf_6403c_0 rfl a2 ?_
    refine va_ldcM C.1 C.2.1 C.2.2.2.1 (wt_at (w := 348) hWT (by decide +kernel) rfl) hX dJ7_copyOf_6403c_1 ?_
    refine lv_acmp_ne (tgt := 13) (rx := some mi) (ry := some mi) C.1 C.2.1 dJ7_copyOf_6403c_3 rfl (fun q => absurd rfl q) fun _ => ?_
    refine lv_iload_n C.1 C.2.1 dJ7_copyOf_6403c_6 rfl a1 ?_
    refine w_anewO (g := g) C.1 C.2.1 C.2.2.2.1 hK hWT hn0 hN hN2 (wt_at (w := 350) hWT (by decide +kernel) rfl) (by omega) (by omega) dJ7_copyOf_6403c_7 fun H1 z1 o1 hP1 => ?_
    refine lv_goto (tgt := 24) C.1 C.2.1 dJ7_copyOf_6403c_10 rfl ?_
    refine lv_astore_n (lv' := [(3, .ref s.heap.size), (0, .ref (h i).2.1), (1, .int n), (2, .ref mi)]) C.1 C.2.1 dJ7_copyOf_6403c_24 rfl hl9 (by decide) rfl fun ls1 hl1 => ?_
    have b3 := hl1.2.2 (3, .ref s.heap.size) List.mem_cons_self
    have b0 := hl1.2.2 (0, .ref (h i).2.1) (List.mem_cons_of_mem _ List.mem_cons_self)
    have b1 := hl1.2.2 (1, .int n) (List.mem_cons_of_mem _ (List.mem_cons_of_mem _ List.mem_cons_self))
    have hR1 : Rep g α h S H1 := hR.cong fun q h1 _ => o1 q h1
    have hla := hR1.lar hi h0
    have hlt : (h i).2.1 < s.heap.size := by
      have := hR.lt (k := 15) (i := i) (by rw [Lv, if_pos rfl]; exact ⟨hi, h0⟩)
      rwa [adr, if_pos rfl] at this
    have hab : AB g (h i).2.1 := by
      have := hR.2.2.1 15 i (by rw [Lv, if_pos rfl]; exact ⟨hi, h0⟩)
      rwa [adr, if_pos rfl] at this
    refine lv_aload_n C.1 C.2.1 dJ7_copyOf_6403c_25 rfl b0 ?_
    refine lv_iconst C.1 C.2.1 dJ7_copyOf_6403c_26 rfl ?_
    refine lv_aload_n C.1 C.2.1 dJ7_copyOf_6403c_27 rfl b3 ?_
    refine lv_iconst C.1 C.2.1 dJ7_copyOf_6403c_28 rfl ?_
    refine lv_aload_n C.1 C.2.1 dJ7_copyOf_6403c_29 rfl b0 ?_
    refine va_alen (ty := .object "java/lang/Object") C.1 C.2.1 hK hla 0 3 rfl rfl rfl dJ7_copyOf_6403c_30 ?_
    refine lv_iload_n C.1 C.2.1 dJ7_copyOf_6403c_31 rfl b1 ?_
    refine va_mmin C.1 C.2.1 (by rw [C.2.2.1, hl1.1]) C.2.2.2.1 (wt_at (w := 351) hWT (by decide +kernel) rfl) (hWT _ mathI_ok.2.2.2.1 rfl _) (hWT _ mathI_ok.1 rfl _) (hWT _ mathI_ok.2.2.2.2 rfl _) (by omega) (by show 4 + 13 ≤ _; omega) (by omega) (by omega) dJ7_copyOf_6403c_32 ?_
    have hnl : ¬ n < Int32.ofNat (h i).1 := by
      have e1 : n.toInt = N := by
        have : n.toInt.toNat = N := hN
        have h2 : 0 ≤ n.toInt := by
          have := Int32.not_lt.mp hn0
          simpa using Int32.le_iff_toInt_le.mp this
        omega
      rw [Int32.lt_iff_toInt_lt, e1, Int32.toInt_ofNat_of_lt (by omega)]
      omega
    rw [if_neg hnl]
    have hP2 : va_P g.1 vwCl [((h i).2.1, arO g (h i).1 (elF α S i)), (s.heap.size, arO g N fun _ => none)] H1 := hla.app hP1
    refine va_copyM (D := g.1) (cl := vwCl) (A := fun x => x = s.heap.size ∨ x = (h i).2.1) (H0 := H1) C.1 C.2.1 (by rw [C.2.2.1, hl1.1]) C.2.2.2.1 (wt_at (w := 354) hWT (by decide +kernel) rfl) (wt_at (w := 356) hWT (by decide +kernel) rfl) (wt_at (w := 355) hWT (by decide +kernel) rfl) (wt_at (w := 40) hWT (by decide +kernel) rfl) hK hP2 ?_ va_S.rf 0 1 3 3 rfl rfl rfl rfl (by decide) (by decide) (ofNat_nn (by omega)) (by show 0 + (Int32.ofNat (h i).1).toNatClampNeg ≤ (h i).1; have := ofNat_cl (n := (h i).1) (by omega); omega) (by show 0 + (Int32.ofNat (h i).1).toNatClampNeg ≤ N; have := ofNat_cl (n := (h i).1) (by omega); omega) (fun j hj y hy => ?_) (by omega) (by show 0 + (_ + 11) ≤ _; have e : nativeFrameWords "java/lang/System" "arraycopy" 5 ≤ 40 := (by decide +kernel); omega) dJ7_copyOf_6403c_35 (fun H2 locs2 hP3 hD3 hS3 => ?_)
    · refine ⟨fun a b x y hx hy he => ?_, fun a x hx => ?_⟩
      · rcases a with _ | _ | a <;> rcases b with _ | _ | b
        · rfl
        · cases hx; cases hy; exact absurd he (Nat.ne_of_lt hlt)
        · cases hy
        · cases hx; cases hy; exact absurd he.symm (Nat.ne_of_lt hlt)
        · rfl
        · cases hy
        · cases hx
        · cases hx
        · cases hx
      · rcases a with _ | _ | a
        · cases hx; exact Or.inr rfl
        · cases hx; exact Or.inl rfl
        · cases hx
    · unfold elF at hy
      split at hy
      · rename_i hj2
        cases hy
        exact any_el hK hWT hR1 (lk_or i) (by omega)
      · cases hy
    · refine lv_aload_n C.1 C.2.1 dJ7_copyOf_6403c_38 rfl b3 ?_
      refine W.widen (k := 1) (n := 120 * 1) (by omega) (by omega) (vx_ret ?_)
      have hq9 : H2[(h i).2.1]? = H1[(h i).2.1]? := (hP3 0 _ rfl).trans (hla 0 _ rfl).symm
      have hk2 : ∀ x : Nat, x < s.heap.size → H2[x]? = s.heap[x]? := fun x hx => by
        by_cases hxe : x = (h i).2.1
        · rw [hxe, hq9, o1 _ hlt]
        · rw [hS3.2.1 x (by omega) (fun q => q.elim (fun q => by omega) hxe), o1 x hx]
      have hcpy : va_cpy (elF α S i) (fun _ => none) (0 : Int32).toNatClampNeg (0 : Int32).toNatClampNeg (Int32.ofNat (h i).1).toNatClampNeg = elF α S i := by
        rw [ofNat_cl (by omega)]
        funext k
        show (if 0 ≤ k ∧ k < 0 + (h i).1 then elF α S i (0 + (k - 0)) else none) = elF α S i k
        by_cases hk : 0 ≤ k ∧ k < 0 + (h i).1
        · rw [if_pos hk, Nat.sub_zero, Nat.zero_add]
        · rw [if_neg hk]
          unfold elF
          rw [if_neg (by omega)]
      have hfin : va_P g.1 vwCl [(s.heap.size, arO g N (elF α S i))] H2 := by
        have h3 : va_at g.1 vwCl (s.heap.size, arO g N (va_cpy (elF α S i) (fun _ => none) (0 : Int32).toNatClampNeg (0 : Int32).toNatClampNeg (Int32.ofNat (h i).1).toNatClampNeg)) H2 := hP3 1 _ rfl
        rw [hcpy] at h3
        exact va_P1 h3
      refine W.aret (rt := .array (.object "java/lang/Object")) C.1 C.2.1 hr (Or.inr ⟨_, rfl⟩) (Or.inr ⟨_, rfl⟩) (fun t ht _ => ⟨s.heap.size, rfl, Nat.le_refl _, by rw [ht]; exact hfin, by rw [ht]; have := hS3.1; omega, fun x hx => by rw [ht]; exact hk2 x hx⟩) (fun x hx => ?_) dJ7_copyOf_6403c_39
      rcases hS3.2.2 x hx with q | q
      · rw [q]; exact C.2.2.2.2.2.2.2.2.2.1
      · rw [q]; exact hab
/-- a list's own cells are written: its object, its array -/
theorem Rep.lupd {g : GT} {α : Nat → Nat → Nat} {h : HT} {S S' : Sto} {H H1 : Heap} (R : Rep g α h S H) {i : Nat} {v : Nat × Nat × Int32} (hi : i < S.2.2 13) (e1 : S'.1 = S.1) (e2 : S'.2.1 = S.2.1) (e3 : ∀ k, k ≠ 20 + i → S'.2.2 k = S.2.2 k) (e4 : S.2.2 (20 + i) ≤ S'.2.2 (20 + i))
    (c1 : S'.2.2 (20 + i) ≤ S.2.2 (lk i)) (c2 : S'.2.2 (20 + i) ≤ v.1) (c3 : v.1 ≤ 100) (c4 : v.1 = 0 ∨ 10 ≤ v.1) (hq : v.1 ≠ 0 → AB g v.2.1 ∧ ∀ k i', Lv h S k i' → ¬ (k = 15 ∧ i' = i) → adr α h k i' ≠ v.2.1)
    (hl : va_P g.1 vwCl [(α 13 i, .inr (0, lfs g (h1n h i v) S' i))] H1) (ha : v.1 ≠ 0 → va_P g.1 vwCl [(v.2.1, arO g v.1 (elF α S' i))] H1)
    (hoth : ∀ k i', Lv h S k i' → ¬ (k = 13 ∧ i' = i) → ¬ (k = 15 ∧ i' = i) → H1[adr α h k i']? = H[adr α h k i']?) : Rep g α (h1n h i v) S' H1 := by
  have n13 : S'.2.2 13 = S.2.2 13 := e3 13 (by omega)
  have hv : h1n h i v i = v := h1n_eq
  have f1 : ∀ k i', Lv (h1n h i v) S' k i' → ¬ (k = 15 ∧ i' = i) → Lv h S k i' := fun k i' q hne => by
    rcases Lv_un q with ⟨rfl, h2, h3⟩ | ⟨h2, h3, h4⟩
    · have hne' : i' ≠ i := fun e => hne ⟨rfl, e⟩
      rw [h1n_ne hne'] at h3
      rw [n13] at h2
      rw [Lv, if_pos rfl]
      exact ⟨h2, h3⟩
    · rw [e3 k (by have := (ob_ne h3).2.2.2; omega)] at h4
      exact Lv_of h3 h4
  have f2 : ∀ k i', ¬ (k = 15 ∧ i' = i) → adr α (h1n h i v) k i' = adr α h k i' := fun k i' hne => by
    unfold adr
    by_cases h15 : k = 15
    · rw [if_pos h15, if_pos h15, h1n_ne fun e => hne ⟨h15, e⟩]
    · rw [if_neg h15, if_neg h15]
  have f3 : adr α (h1n h i v) 15 i = v.2.1 := by rw [adr, if_pos rfl, hv]
  have f4 : ∀ k i', Lv h S k i' → ¬ (k = 13 ∧ i' = i) → ¬ (k = 15 ∧ i' = i) → ent g α (h1n h i v) S' k i' = ent g α h S k i' := fun k i' q g1 g2 => by
    have e20 : i' ≠ i → S'.2.2 (20 + i') = S.2.2 (20 + i') := fun z => e3 _ (by omega)
    have efv : ∀ f, fv α S' k i' f = fv α S k i' f := fun f => by unfold fv; rw [e1]
    have efs : fs α S' k i' = fs α S k i' := List.map_congr_left fun f _ => efv f
    rcases Lv_un q with ⟨rfl, -, -⟩ | ⟨-, q9, -⟩
    · have z : i' ≠ i := fun z => g2 ⟨rfl, z⟩
      rw [ent_15, ent_15, h1n_ne z, e20 z]
    · rcases q9 with q9 | q9
      · rw [ent_ob q9, ent_ob q9, efs]
      · rcases ar_or q9 with rfl | rfl | rfl | rfl
        · rw [ent_10, ent_10, e1]
        · rw [ent_11, ent_11, e1]
        · rw [ent_12, ent_12, e2]
        · have z : i' ≠ i := fun z => g1 ⟨rfl, z⟩
          rw [ent_13, ent_13, h1n_ne z, e20 z]
  have l13 : Lv h S 13 i := Lv_of (Or.inr rfl) hi
  refine ⟨fun k i' q => ?_, fun k1 i1 k2 i2 q1 q2 he => ?_, fun k i' q => ?_, fun k i' f g1 g2 g3 g4 => ?_, fun i' q => ?_, R.2.2.2.2.2⟩
  · by_cases g2 : k = 15 ∧ i' = i
    · obtain ⟨rfl, rfl⟩ := g2
      rcases Lv_un q with ⟨-, -, h3⟩ | ⟨h2, -, -⟩
      · rw [hv] at h3
        rw [f3, ent_15, hv]
        exact ha h3 0 _ rfl
      · exact absurd rfl h2
    · by_cases g1 : k = 13 ∧ i' = i
      · obtain ⟨rfl, rfl⟩ := g1
        rw [f2 13 i' g2, adr_of (Or.inr rfl)]
        exact hl 0 _ rfl
      · rw [f2 k i' g2, f4 k i' (f1 k i' q g2) g1 g2]
        exact (R.1 k i' (f1 k i' q g2)).kept (hoth k i' (f1 k i' q g2) g1 g2)
  · by_cases g1 : k1 = 15 ∧ i1 = i <;> by_cases g2 : k2 = 15 ∧ i2 = i
    · exact ⟨g1.1.trans g2.1.symm, g1.2.trans g2.2.symm⟩
    · obtain ⟨rfl, rfl⟩ := g1
      rw [f3, f2 k2 i2 g2] at he
      rcases Lv_un q1 with ⟨-, -, h3⟩ | ⟨h2, -, -⟩
      · rw [hv] at h3
        exact absurd he.symm ((hq h3).2 k2 i2 (f1 k2 i2 q2 g2) g2)
      · exact absurd rfl h2
    · obtain ⟨rfl, rfl⟩ := g2
      rw [f3, f2 k1 i1 g1] at he
      rcases Lv_un q2 with ⟨-, -, h3⟩ | ⟨h2, -, -⟩
      · rw [hv] at h3
        exact absurd he ((hq h3).2 k1 i1 (f1 k1 i1 q1 g1) g1)
      · exact absurd rfl h2
    · rw [f2 k1 i1 g1, f2 k2 i2 g2] at he
      exact R.2.1 _ _ _ _ (f1 k1 i1 q1 g1) (f1 k2 i2 q2 g2) he
  · by_cases g2 : k = 15 ∧ i' = i
    · obtain ⟨rfl, rfl⟩ := g2
      rcases Lv_un q with ⟨-, -, h3⟩ | ⟨h2, -, -⟩
      · rw [hv] at h3
        rw [f3]
        exact (hq h3).1
      · exact absurd rfl h2
    · rw [f2 k i' g2]
      exact R.2.2.1 k i' (f1 k i' q g2)
  · have n9 : ∀ k, S.2.2 k ≤ S'.2.2 k := fun k => by
      by_cases hk : k = 20 + i
      · rw [hk]; exact e4
      · rw [e3 k hk]; exact Nat.le_refl _
    rw [e3 k (by have := (ob_ne (Or.inl g1)).2.2.2; omega)] at g2
    rw [e1]
    rcases R.2.2.2.1 k i' f g1 g2 g3 g4 with g5 | g5
    · exact Or.inl g5
    · exact Or.inr (LvR_le n9 g5)
  · rw [n13] at q
    have hlk : S'.2.2 (lk i') = S.2.2 (lk i') := e3 _ (by have := (ob_ne (Or.inl (lk_ok (i := i')))).2.2.2; omega)
    rw [hlk]
    by_cases z : i' = i
    · subst z
      rw [hv]
      exact ⟨(R.2.2.2.2.1 i' q).1, c1, c2, c3, c4⟩
    · rw [h1n_ne z, e3 _ (by omega)]
      exact R.2.2.2.2.1 i' q
theorem cO_cls {s : State} {g : GT} (hK : va_K g.1 vwCl (tysG g) s) : s.vm.findClass "[Ljava/lang/Object;" = some g.2.1.2.2.2.1 := by
  obtain ⟨kA', comp', k1, k2, k3, k4⟩ := (hK.2 3 _ rfl).2
  exact k4
theorem ct_cp2 {l : Launch} (hl : l.stackTraces = false) {g : GT} {α : Nat → Nat → Nat} {h : HT} {S : Sto} {i N : Nat} {n : Int32} (hi : i < S.2.2 13) (h0 : (h i).1 ≠ 0) (hn0 : ¬ n < 0) (hN : n.toNatClampNeg = N) (hle : (h i).1 ≤ N) (hN2 : N ≤ 100) :
    vx_Met l yJ7_copyOf_1904c [.code yJ7_copyOf_1904c cJ7_copyOf_1904c 2 (some (.array (.object "java/lang/Object")))] (rmx 1 1) (va_Pc [.ref (h i).2.1, .int n] (fun U => Wd g α h S U ∧ True)) (QN g α S i N) XN 1 (120 * 1) (AB g) := by
  refine Met_z (X := fun _ => True) (own := "java/util/Arrays") hl (by decide +kernel) rfl (Nat.le_of_ble_eq_true rfl) (fun v hv => ?_) ?_
  · simp only [List.mem_cons, List.not_mem_nil, or_false] at hv
    rcases hv with rfl | rfl <;> rfl
  · intro p e R s m below meth c ls C hr hR hX hl9
    have hWT := C.2.2.2.2.2.2.2.1
    have hK := C.2.2.2.2.2.2.1
    have hlocks := C.2.2.2.2.1
    have hfr := C.2.2.2.2.2.2.2.2.2.2.1
    have hlo := C.2.2.2.2.2.2.2.2.2.2.2.1
    have h30 := C.2.2.2.2.2.2.2.2.2.2.2.2.1
    have h31 := C.2.2.2.2.2.2.2.2.2.2.2.2.2.1
    obtain ⟨mi, hMi⟩ := C.2.2.2.2.2.2.2.2.1.2.2.2.2.2.1
    have a0 := hl9.2.2 (0, .ref (h i).2.1) List.mem_cons_self
    have a1 := hl9.2.2 (1, .int n) (List.mem_cons_of_mem _ List.mem_cons_self)
    have hla := hR.lar hi h0
    refine lv_aload_n C.1 C.2.1 dJ7_copyOf_1904c_0 rfl a0 ?_
    refine lv_iload_n C.1 C.2.1 dJ7_copyOf_1904c_1 rfl a1 ?_
    refine lv_aload_n C.1 C.2.1 dJ7_copyOf_1904c_2 rfl a0 ?_
    refine va_getC (C := "[Ljava/lang/Object;") C.1 C.2.1 (by rw [C.2.2.1, hl9.1]) C.2.2.2.1 (wt_at (w := 330) hWT (by decide +kernel) rfl) (wt_at (w := 784) hWT (by decide +kernel) rfl) (wt_at (w := 783) hWT (by decide +kernel) rfl) (wt_at (w := 331) hWT (by decide +kernel) rfl) (wt_at (w := 344) hWT (by decide +kernel) rfl) hMi ⟨_, hla 0 _ rfl, rfl, cO_cls hK⟩ (by omega) (by show 2 + 14 ≤ _; omega) dJ7_copyOf_1904c_3 ?_
    have hlk : LkB "java/util/Arrays" 300 yJ7_copyOf_6403c cJ7_copyOf_6403c 4 (some (.array (.object "java/lang/Object"))) 3 := ⟨List.mem_of_getElem? (i := 347) (by decide +kernel), List.mem_of_getElem? (i := 30) (by decide +kernel), List.mem_of_getElem? (i := 345) (by decide +kernel), ⟨by decide +kernel, by decide +kernel⟩, by decide +kernel, by decide⟩
    refine w_afterQ (rest := []) (mc := 1) (ms := 120 * 1) (vx_runS (Ts := []) (own := "java/util/Arrays") (As := [.ref (h i).2.1, .int n, .ref mi]) ⟨C.1, C.2.1, C.2.2.1, C.2.2.2.1, fun _ h => nomatch h⟩ (ct_cp3 hl (g := g) (α := α) (mi := mi) hi h0 hn0 hN hle hN2) ⟨lkB_call C hlk (by decide), wt_at (w := 346) hWT (by decide +kernel) rfl⟩ (pre_Wz C hR (X := va_Mi "[Ljava/lang/Object;" mi) (fun U hU => hMi.moved hU) (fun U U' hU hx => hx.moved hU) va_S.rf _) rfl rfl hl9.1 rfl (by show 2 * 0 + 0 ≤ 8; decide) dJ7_copyOf_1904c_6 ⟨by omega, by omega⟩) va_S.rf (fun v st₀ t _ hz => qn_F v st₀ t hz) (fun v st₀ t locs1 hst hz hS1 => ?_) (fun E st₀ t hx => hx)
    obtain ⟨q, ho, hq, hP, hsz, hoth⟩ := hz
    cases ho
    refine W.widen (k := 1) (n := 120 * 1) (by omega) (by omega) (vx_ret ?_)
    exact W.aret (rt := .array (.object "java/lang/Object")) C.1 C.2.1 hr (Or.inr ⟨_, rfl⟩) (Or.inr ⟨_, rfl⟩) (fun t' ht _ => ⟨q, rfl, by rw [← hst]; exact hq, by rw [ht]; exact hP, by rw [ht, ← hst]; exact hsz, fun x hx => by rw [ht, hoth x (by rw [hst]; exact hx), hst]⟩) hS1.2.2 dJ7_copyOf_1904c_9
