/-! SOUND, instruction by instruction: constants, arithmetic, branches -/
section STQ
variable {p : Program} {l : Launch} {e : Env} {R : Room} {s : State} {m : MethodId} {args : Array Value} {below : List Frame} {meth : Method} {c : Code} {Qm : State → Prop} {g : GT} {α0 : Nat → Nat → Nat} {S0 : Sto} {cc : ByteArray} {own : String} {nL rk cb sb B : Nat} {ini : Bool} {rb : Nat}
variable {tb : Tb} {Q : Out → Sto → Prop} {hn : List (Nat × Nat × Nat × Nat)} {scr : Nat × (Nat → Int32)}
variable {pc len xa xb : Nat} {xv : Int32} {xl : List Nat} {xu : Nat} {xs : SP} {nx : Tb} {K : Tb → Lo → List AV → Sto → Nat → Prop} {L : Lo} {st : List AV} {S : Sto} {u : Nat}
theorem s_iconst {k : Int} (hd : (dcd cc pc (.iconst k) len && len == 1) = true) (hv : Int32.ofInt k = xv) (h : K nx L (aI xv :: st) S u) (C : Cx p l s m meth c R cc own nL rk cb sb B ini g) (hK : KOK tb (Ga p l e R s m args below meth c Qm g α0 S0 nL cb sb B) K) (hsx : nx <:+ tb) (hnx : ∀ q ∈ nx.head?, q.1 = pc + len) : Go p l e R s m args below meth c Qm g α0 S0 nL cb sb B pc L st S u := by
  obtain ⟨hdg, rfl⟩ := chk_plain (own := own) (ini := ini) (xa := 0) (xb := 0) (xv := 0) (xl := []) hd
  exact go_push (kok_next hK hsx hnx h) (fun _ _ hst => lvV_cons trivial hst) fun α H locs ls hLH kk => lv_iconst C.1 C.2.1 hdg hv kk
theorem s_bipush {k : Int} (hd : (dcd cc pc (.bipush k) len && len == 2) = true) (hv : (Int8.ofInt k).toInt32 = xv) (h : K nx L (aI xv :: st) S u) (C : Cx p l s m meth c R cc own nL rk cb sb B ini g) (hK : KOK tb (Ga p l e R s m args below meth c Qm g α0 S0 nL cb sb B) K) (hsx : nx <:+ tb) (hnx : ∀ q ∈ nx.head?, q.1 = pc + len) : Go p l e R s m args below meth c Qm g α0 S0 nL cb sb B pc L st S u := by
  obtain ⟨hdg, rfl⟩ := chk_plain (own := own) (ini := ini) (xa := 0) (xb := 0) (xv := 0) (xl := []) hd
  exact go_push (kok_next hK hsx hnx h) (fun _ _ hst => lvV_cons trivial hst) fun α H locs ls hLH kk => lv_bipush C.1 C.2.1 hdg hv kk
theorem s_sipush {k : Int} (hd : (dcd cc pc (.sipush k) len && len == 3) = true) (hv : (Int16.ofInt k).toInt32 = xv) (h : K nx L (aI xv :: st) S u) (C : Cx p l s m meth c R cc own nL rk cb sb B ini g) (hK : KOK tb (Ga p l e R s m args below meth c Qm g α0 S0 nL cb sb B) K) (hsx : nx <:+ tb) (hnx : ∀ q ∈ nx.head?, q.1 = pc + len) : Go p l e R s m args below meth c Qm g α0 S0 nL cb sb B pc L st S u := by
  obtain ⟨hdg, rfl⟩ := chk_plain (own := own) (ini := ini) (xa := 0) (xb := 0) (xv := 0) (xl := []) hd
  exact go_push (kok_next hK hsx hnx h) (fun _ _ hst => lvV_cons trivial hst) fun α H locs ls hLH kk => lv_sipush C.1 C.2.1 hdg hv kk
theorem s_ldc {k w : Nat} (hd : (dcd cc pc (.ldc k) len && len == 2) = true) (hv : wdAt w (.constant own k xv) = true) (h : K nx L (aI xv :: st) S u) (C : Cx p l s m meth c R cc own nL rk cb sb B ini g) (hK : KOK tb (Ga p l e R s m args below meth c Qm g α0 S0 nL cb sb B) K) (hsx : nx <:+ tb) (hnx : ∀ q ∈ nx.head?, q.1 = pc + len) : Go p l e R s m args below meth c Qm g α0 S0 nL cb sb B pc L st S u := by
  obtain ⟨hdg, rfl⟩ := chk_plain (own := own) (ini := ini) (xa := 0) (xb := 0) (xv := 0) (xl := []) hd
  exact go_push (kok_next hK hsx hnx h) (fun _ _ hst => lvV_cons trivial hst) fun α H locs ls hLH kk => lv_ldc C.1 C.2.1 C.2.2.2.1 (wdAt_ok hv C.2.2.2.2.2.2.2.1 _) hdg kk
theorem s_lconst {k : Fin 2} (hd : (dcd cc pc (.lconst k) len && len == 1) = true) (h : K nx L (aL (bif k.val == 0 then 0 else 1) :: st) S u) (C : Cx p l s m meth c R cc own nL rk cb sb B ini g) (hK : KOK tb (Ga p l e R s m args below meth c Qm g α0 S0 nL cb sb B) K) (hsx : nx <:+ tb) (hnx : ∀ q ∈ nx.head?, q.1 = pc + len) : Go p l e R s m args below meth c Qm g α0 S0 nL cb sb B pc L st S u := by
  obtain ⟨hdg, rfl⟩ := chk_plain (own := own) (ini := ini) (xa := 0) (xb := 0) (xv := 0) (xl := []) hd
  exact go_push (kok_next hK hsx hnx h) (fun _ _ hst => lvV_cons trivial hst) fun α H locs ls hLH kk => lv_lconst C.1 C.2.1 hdg (by rcases k with ⟨_ | _ | k, hk⟩ <;> first | rfl | omega) kk
theorem s_iadd (hd : (dcd cc pc .iadd len && len == 1) = true) (h : i2 st fun a b r => K nx L (aI (a + b) :: r) S u) (C : Cx p l s m meth c R cc own nL rk cb sb B ini g) (hK : KOK tb (Ga p l e R s m args below meth c Qm g α0 S0 nL cb sb B) K) (hsx : nx <:+ tb) (hnx : ∀ q ∈ nx.head?, q.1 = pc + len) : Go p l e R s m args below meth c Qm g α0 S0 nL cb sb B pc L st S u := by
  obtain ⟨hdg, rfl⟩ := chk_plain (own := own) (ini := ini) (xa := 0) (xb := 0) (xv := 0) (xl := []) hd
  obtain ⟨a, b, r, rfl, h⟩ := i2_ok h
  exact go_push (kok_next hK hsx hnx h) (fun _ _ hst => lvV_cons trivial (lvV_tail (lvV_tail hst))) fun α H locs ls hLH kk => lv_iadd C.1 C.2.1 hdg kk
theorem s_isub (hd : (dcd cc pc .isub len && len == 1) = true) (h : i2 st fun a b r => K nx L (aI (a - b) :: r) S u) (C : Cx p l s m meth c R cc own nL rk cb sb B ini g) (hK : KOK tb (Ga p l e R s m args below meth c Qm g α0 S0 nL cb sb B) K) (hsx : nx <:+ tb) (hnx : ∀ q ∈ nx.head?, q.1 = pc + len) : Go p l e R s m args below meth c Qm g α0 S0 nL cb sb B pc L st S u := by
  obtain ⟨hdg, rfl⟩ := chk_plain (own := own) (ini := ini) (xa := 0) (xb := 0) (xv := 0) (xl := []) hd
  obtain ⟨a, b, r, rfl, h⟩ := i2_ok h
  exact go_push (kok_next hK hsx hnx h) (fun _ _ hst => lvV_cons trivial (lvV_tail (lvV_tail hst))) fun α H locs ls hLH kk => lv_isub C.1 C.2.1 hdg kk
theorem s_imul (hd : (dcd cc pc .imul len && len == 1) = true) (h : i2 st fun a b r => K nx L (aI (a * b) :: r) S u) (C : Cx p l s m meth c R cc own nL rk cb sb B ini g) (hK : KOK tb (Ga p l e R s m args below meth c Qm g α0 S0 nL cb sb B) K) (hsx : nx <:+ tb) (hnx : ∀ q ∈ nx.head?, q.1 = pc + len) : Go p l e R s m args below meth c Qm g α0 S0 nL cb sb B pc L st S u := by
  obtain ⟨hdg, rfl⟩ := chk_plain (own := own) (ini := ini) (xa := 0) (xb := 0) (xv := 0) (xl := []) hd
  obtain ⟨a, b, r, rfl, h⟩ := i2_ok h
  exact go_push (kok_next hK hsx hnx h) (fun _ _ hst => lvV_cons trivial (lvV_tail (lvV_tail hst))) fun α H locs ls hLH kk => lv_imul C.1 C.2.1 hdg kk
theorem s_iand (hd : (dcd cc pc .iand len && len == 1) = true) (h : i2 st fun a b r => K nx L (aI (a &&& b) :: r) S u) (C : Cx p l s m meth c R cc own nL rk cb sb B ini g) (hK : KOK tb (Ga p l e R s m args below meth c Qm g α0 S0 nL cb sb B) K) (hsx : nx <:+ tb) (hnx : ∀ q ∈ nx.head?, q.1 = pc + len) : Go p l e R s m args below meth c Qm g α0 S0 nL cb sb B pc L st S u := by
  obtain ⟨hdg, rfl⟩ := chk_plain (own := own) (ini := ini) (xa := 0) (xb := 0) (xv := 0) (xl := []) hd
  obtain ⟨a, b, r, rfl, h⟩ := i2_ok h
  exact go_push (kok_next hK hsx hnx h) (fun _ _ hst => lvV_cons trivial (lvV_tail (lvV_tail hst))) fun α H locs ls hLH kk => lv_iand C.1 C.2.1 hdg kk
theorem s_ior (hd : (dcd cc pc .ior len && len == 1) = true) (h : i2 st fun a b r => K nx L (aI (a ||| b) :: r) S u) (C : Cx p l s m meth c R cc own nL rk cb sb B ini g) (hK : KOK tb (Ga p l e R s m args below meth c Qm g α0 S0 nL cb sb B) K) (hsx : nx <:+ tb) (hnx : ∀ q ∈ nx.head?, q.1 = pc + len) : Go p l e R s m args below meth c Qm g α0 S0 nL cb sb B pc L st S u := by
  obtain ⟨hdg, rfl⟩ := chk_plain (own := own) (ini := ini) (xa := 0) (xb := 0) (xv := 0) (xl := []) hd
  obtain ⟨a, b, r, rfl, h⟩ := i2_ok h
  exact go_push (kok_next hK hsx hnx h) (fun _ _ hst => lvV_cons trivial (lvV_tail (lvV_tail hst))) fun α H locs ls hLH kk => lv_ior C.1 C.2.1 hdg kk
theorem s_ishl (hd : (dcd cc pc .ishl len && len == 1) = true) (h : i2 st fun a b r => K nx L (aI (a <<< (b &&& 31)) :: r) S u) (C : Cx p l s m meth c R cc own nL rk cb sb B ini g) (hK : KOK tb (Ga p l e R s m args below meth c Qm g α0 S0 nL cb sb B) K) (hsx : nx <:+ tb) (hnx : ∀ q ∈ nx.head?, q.1 = pc + len) : Go p l e R s m args below meth c Qm g α0 S0 nL cb sb B pc L st S u := by
  obtain ⟨hdg, rfl⟩ := chk_plain (own := own) (ini := ini) (xa := 0) (xb := 0) (xv := 0) (xl := []) hd
  obtain ⟨a, b, r, rfl, h⟩ := i2_ok h
  exact go_push (kok_next hK hsx hnx h) (fun _ _ hst => lvV_cons trivial (lvV_tail (lvV_tail hst))) fun α H locs ls hLH kk => lv_ishl C.1 C.2.1 hdg kk
theorem s_ishr (hd : (dcd cc pc .ishr len && len == 1) = true) (h : i2 st fun a b r => K nx L (aI (a >>> (b &&& 31)) :: r) S u) (C : Cx p l s m meth c R cc own nL rk cb sb B ini g) (hK : KOK tb (Ga p l e R s m args below meth c Qm g α0 S0 nL cb sb B) K) (hsx : nx <:+ tb) (hnx : ∀ q ∈ nx.head?, q.1 = pc + len) : Go p l e R s m args below meth c Qm g α0 S0 nL cb sb B pc L st S u := by
  obtain ⟨hdg, rfl⟩ := chk_plain (own := own) (ini := ini) (xa := 0) (xb := 0) (xv := 0) (xl := []) hd
  obtain ⟨a, b, r, rfl, h⟩ := i2_ok h
  exact go_push (kok_next hK hsx hnx h) (fun _ _ hst => lvV_cons trivial (lvV_tail (lvV_tail hst))) fun α H locs ls hLH kk => lv_ishr C.1 C.2.1 hdg kk
theorem s_idiv (hd : (dcd cc pc .idiv len && len == 1) = true) (h : i2 st fun a b r => ¬ b = 0 ∧ K nx L (aI (a / b) :: r) S u) (C : Cx p l s m meth c R cc own nL rk cb sb B ini g) (hK : KOK tb (Ga p l e R s m args below meth c Qm g α0 S0 nL cb sb B) K) (hsx : nx <:+ tb) (hnx : ∀ q ∈ nx.head?, q.1 = pc + len) : Go p l e R s m args below meth c Qm g α0 S0 nL cb sb B pc L st S u := by
  obtain ⟨hdg, rfl⟩ := chk_plain (own := own) (ini := ini) (xa := 0) (xb := 0) (xv := 0) (xl := []) hd
  obtain ⟨a, b, r, rfl, h0, h⟩ := i2_ok h
  exact go_push (kok_next hK hsx hnx h) (fun _ _ hst => lvV_cons trivial (lvV_tail (lvV_tail hst))) fun α H locs ls hLH kk => lv_idiv C.1 C.2.1 hdg h0 kk
theorem s_irem (hd : (dcd cc pc .irem len && len == 1) = true) (h : i2 st fun a b r => ¬ b = 0 ∧ K nx L (aI (a - a / b * b) :: r) S u) (C : Cx p l s m meth c R cc own nL rk cb sb B ini g) (hK : KOK tb (Ga p l e R s m args below meth c Qm g α0 S0 nL cb sb B) K) (hsx : nx <:+ tb) (hnx : ∀ q ∈ nx.head?, q.1 = pc + len) : Go p l e R s m args below meth c Qm g α0 S0 nL cb sb B pc L st S u := by
  obtain ⟨hdg, rfl⟩ := chk_plain (own := own) (ini := ini) (xa := 0) (xb := 0) (xv := 0) (xl := []) hd
  obtain ⟨a, b, r, rfl, h0, h⟩ := i2_ok h
  exact go_push (kok_next hK hsx hnx h) (fun _ _ hst => lvV_cons trivial (lvV_tail (lvV_tail hst))) fun α H locs ls hLH kk => lv_irem C.1 C.2.1 hdg h0 kk
theorem s_ladd (hd : (dcd cc pc .ladd len && len == 1) = true) (h : l2 st fun a b r => K nx L (aL (a + b) :: r) S u) (C : Cx p l s m meth c R cc own nL rk cb sb B ini g) (hK : KOK tb (Ga p l e R s m args below meth c Qm g α0 S0 nL cb sb B) K) (hsx : nx <:+ tb) (hnx : ∀ q ∈ nx.head?, q.1 = pc + len) : Go p l e R s m args below meth c Qm g α0 S0 nL cb sb B pc L st S u := by
  obtain ⟨hdg, rfl⟩ := chk_plain (own := own) (ini := ini) (xa := 0) (xb := 0) (xv := 0) (xl := []) hd
  obtain ⟨a, b, r, rfl, h⟩ := l2_ok h
  exact go_push (kok_next hK hsx hnx h) (fun _ _ hst => lvV_cons trivial (lvV_tail (lvV_tail hst))) fun α H locs ls hLH kk => lv_ladd C.1 C.2.1 hdg kk
theorem s_lsub (hd : (dcd cc pc .lsub len && len == 1) = true) (h : l2 st fun a b r => K nx L (aL (a - b) :: r) S u) (C : Cx p l s m meth c R cc own nL rk cb sb B ini g) (hK : KOK tb (Ga p l e R s m args below meth c Qm g α0 S0 nL cb sb B) K) (hsx : nx <:+ tb) (hnx : ∀ q ∈ nx.head?, q.1 = pc + len) : Go p l e R s m args below meth c Qm g α0 S0 nL cb sb B pc L st S u := by
  obtain ⟨hdg, rfl⟩ := chk_plain (own := own) (ini := ini) (xa := 0) (xb := 0) (xv := 0) (xl := []) hd
  obtain ⟨a, b, r, rfl, h⟩ := l2_ok h
  exact go_push (kok_next hK hsx hnx h) (fun _ _ hst => lvV_cons trivial (lvV_tail (lvV_tail hst))) fun α H locs ls hLH kk => lv_lsub C.1 C.2.1 hdg kk
theorem s_lmul (hd : (dcd cc pc .lmul len && len == 1) = true) (h : l2 st fun a b r => K nx L (aL (a * b) :: r) S u) (C : Cx p l s m meth c R cc own nL rk cb sb B ini g) (hK : KOK tb (Ga p l e R s m args below meth c Qm g α0 S0 nL cb sb B) K) (hsx : nx <:+ tb) (hnx : ∀ q ∈ nx.head?, q.1 = pc + len) : Go p l e R s m args below meth c Qm g α0 S0 nL cb sb B pc L st S u := by
  obtain ⟨hdg, rfl⟩ := chk_plain (own := own) (ini := ini) (xa := 0) (xb := 0) (xv := 0) (xl := []) hd
  obtain ⟨a, b, r, rfl, h⟩ := l2_ok h
  exact go_push (kok_next hK hsx hnx h) (fun _ _ hst => lvV_cons trivial (lvV_tail (lvV_tail hst))) fun α H locs ls hLH kk => lv_lmul C.1 C.2.1 hdg kk
theorem s_ldiv (hd : (dcd cc pc .ldiv len && len == 1) = true) (h : l2 st fun a b r => ¬ b = 0 ∧ K nx L (aL (a / b) :: r) S u) (C : Cx p l s m meth c R cc own nL rk cb sb B ini g) (hK : KOK tb (Ga p l e R s m args below meth c Qm g α0 S0 nL cb sb B) K) (hsx : nx <:+ tb) (hnx : ∀ q ∈ nx.head?, q.1 = pc + len) : Go p l e R s m args below meth c Qm g α0 S0 nL cb sb B pc L st S u := by
  obtain ⟨hdg, rfl⟩ := chk_plain (own := own) (ini := ini) (xa := 0) (xb := 0) (xv := 0) (xl := []) hd
  obtain ⟨a, b, r, rfl, h0, h⟩ := l2_ok h
  exact go_push (kok_next hK hsx hnx h) (fun _ _ hst => lvV_cons trivial (lvV_tail (lvV_tail hst))) fun α H locs ls hLH kk => lv_ldiv C.1 C.2.1 hdg h0 kk
theorem s_ixor (hd : (dcd cc pc .ixor len && len == 1) = true) (h : i2 st fun a b r => K nx L (aI (a ^^^ b) :: r) S u) (C : Cx p l s m meth c R cc own nL rk cb sb B ini g) (hK : KOK tb (Ga p l e R s m args below meth c Qm g α0 S0 nL cb sb B) K) (hsx : nx <:+ tb) (hnx : ∀ q ∈ nx.head?, q.1 = pc + len) : Go p l e R s m args below meth c Qm g α0 S0 nL cb sb B pc L st S u := by
  obtain ⟨hdg, rfl⟩ := chk_plain (own := own) (ini := ini) (xa := 0) (xb := 0) (xv := 0) (xl := []) hd
  obtain ⟨a, b, r, rfl, h⟩ := i2_ok h
  exact go_push (kok_next hK hsx hnx h) (fun _ _ hst => lvV_cons trivial (lvV_tail (lvV_tail hst))) fun α H locs ls hLH kk => lv_ixor C.1 C.2.1 hdg kk
theorem s_ineg (hd : (dcd cc pc .ineg len && len == 1) = true) (h : i1 st fun a r => K nx L (aI (-a) :: r) S u) (C : Cx p l s m meth c R cc own nL rk cb sb B ini g) (hK : KOK tb (Ga p l e R s m args below meth c Qm g α0 S0 nL cb sb B) K) (hsx : nx <:+ tb) (hnx : ∀ q ∈ nx.head?, q.1 = pc + len) : Go p l e R s m args below meth c Qm g α0 S0 nL cb sb B pc L st S u := by
  obtain ⟨hdg, rfl⟩ := chk_plain (own := own) (ini := ini) (xa := 0) (xb := 0) (xv := 0) (xl := []) hd
  obtain ⟨a, r, rfl, h⟩ := i1_ok h
  exact go_push (kok_next hK hsx hnx h) (fun _ _ hst => lvV_cons trivial (lvV_tail hst)) fun α H locs ls hLH kk => lv_ineg C.1 C.2.1 hdg kk
theorem s_lrem (hd : (dcd cc pc .lrem len && len == 1) = true) (h : l2 st fun a b r => ¬ b = 0 ∧ K nx L (aL (a - a / b * b) :: r) S u) (C : Cx p l s m meth c R cc own nL rk cb sb B ini g) (hK : KOK tb (Ga p l e R s m args below meth c Qm g α0 S0 nL cb sb B) K) (hsx : nx <:+ tb) (hnx : ∀ q ∈ nx.head?, q.1 = pc + len) : Go p l e R s m args below meth c Qm g α0 S0 nL cb sb B pc L st S u := by
  obtain ⟨hdg, rfl⟩ := chk_plain (own := own) (ini := ini) (xa := 0) (xb := 0) (xv := 0) (xl := []) hd
  obtain ⟨a, b, r, rfl, h0, h⟩ := l2_ok h
  exact go_push (kok_next hK hsx hnx h) (fun _ _ hst => lvV_cons trivial (lvV_tail (lvV_tail hst))) fun α H locs ls hLH kk => lv_lrem C.1 C.2.1 hdg h0 kk
theorem s_land (hd : (dcd cc pc .land len && len == 1) = true) (h : l2 st fun a b r => K nx L (aL (a &&& b) :: r) S u) (C : Cx p l s m meth c R cc own nL rk cb sb B ini g) (hK : KOK tb (Ga p l e R s m args below meth c Qm g α0 S0 nL cb sb B) K) (hsx : nx <:+ tb) (hnx : ∀ q ∈ nx.head?, q.1 = pc + len) : Go p l e R s m args below meth c Qm g α0 S0 nL cb sb B pc L st S u := by
  obtain ⟨hdg, rfl⟩ := chk_plain (own := own) (ini := ini) (xa := 0) (xb := 0) (xv := 0) (xl := []) hd
  obtain ⟨a, b, r, rfl, h⟩ := l2_ok h
  exact go_push (kok_next hK hsx hnx h) (fun _ _ hst => lvV_cons trivial (lvV_tail (lvV_tail hst))) fun α H locs ls hLH kk => lv_land C.1 C.2.1 hdg kk
theorem s_lor (hd : (dcd cc pc .lor len && len == 1) = true) (h : l2 st fun a b r => K nx L (aL (a ||| b) :: r) S u) (C : Cx p l s m meth c R cc own nL rk cb sb B ini g) (hK : KOK tb (Ga p l e R s m args below meth c Qm g α0 S0 nL cb sb B) K) (hsx : nx <:+ tb) (hnx : ∀ q ∈ nx.head?, q.1 = pc + len) : Go p l e R s m args below meth c Qm g α0 S0 nL cb sb B pc L st S u := by
  obtain ⟨hdg, rfl⟩ := chk_plain (own := own) (ini := ini) (xa := 0) (xb := 0) (xv := 0) (xl := []) hd
  obtain ⟨a, b, r, rfl, h⟩ := l2_ok h
  exact go_push (kok_next hK hsx hnx h) (fun _ _ hst => lvV_cons trivial (lvV_tail (lvV_tail hst))) fun α H locs ls hLH kk => lv_lor C.1 C.2.1 hdg kk
theorem s_lshl (hd : (dcd cc pc .lshl len && len == 1) = true) (h : il st fun a b r => K nx L (aL (a <<< (b.toInt64 &&& 63)) :: r) S u) (C : Cx p l s m meth c R cc own nL rk cb sb B ini g) (hK : KOK tb (Ga p l e R s m args below meth c Qm g α0 S0 nL cb sb B) K) (hsx : nx <:+ tb) (hnx : ∀ q ∈ nx.head?, q.1 = pc + len) : Go p l e R s m args below meth c Qm g α0 S0 nL cb sb B pc L st S u := by
  obtain ⟨hdg, rfl⟩ := chk_plain (own := own) (ini := ini) (xa := 0) (xb := 0) (xv := 0) (xl := []) hd
  obtain ⟨a, b, r, rfl, h⟩ := il_ok h
  exact go_push (kok_next hK hsx hnx h) (fun _ _ hst => lvV_cons trivial (lvV_tail (lvV_tail hst))) fun α H locs ls hLH kk => lv_lshl C.1 C.2.1 hdg rfl kk
theorem s_lshr (hd : (dcd cc pc .lshr len && len == 1) = true) (h : il st fun a b r => K nx L (aL (a >>> (b.toInt64 &&& 63)) :: r) S u) (C : Cx p l s m meth c R cc own nL rk cb sb B ini g) (hK : KOK tb (Ga p l e R s m args below meth c Qm g α0 S0 nL cb sb B) K) (hsx : nx <:+ tb) (hnx : ∀ q ∈ nx.head?, q.1 = pc + len) : Go p l e R s m args below meth c Qm g α0 S0 nL cb sb B pc L st S u := by
  obtain ⟨hdg, rfl⟩ := chk_plain (own := own) (ini := ini) (xa := 0) (xb := 0) (xv := 0) (xl := []) hd
  obtain ⟨a, b, r, rfl, h⟩ := il_ok h
  exact go_push (kok_next hK hsx hnx h) (fun _ _ hst => lvV_cons trivial (lvV_tail (lvV_tail hst))) fun α H locs ls hLH kk => lv_lshr C.1 C.2.1 hdg rfl kk
theorem s_lcmp (hd : (dcd cc pc .lcmp len && len == 1) = true) (h : l2 st fun a b r => K nx L (aI (lg_cmp a b) :: r) S u) (C : Cx p l s m meth c R cc own nL rk cb sb B ini g) (hK : KOK tb (Ga p l e R s m args below meth c Qm g α0 S0 nL cb sb B) K) (hsx : nx <:+ tb) (hnx : ∀ q ∈ nx.head?, q.1 = pc + len) : Go p l e R s m args below meth c Qm g α0 S0 nL cb sb B pc L st S u := by
  obtain ⟨hdg, rfl⟩ := chk_plain (own := own) (ini := ini) (xa := 0) (xb := 0) (xv := 0) (xl := []) hd
  obtain ⟨a, b, r, rfl, h⟩ := l2_ok h
  exact go_push (kok_next hK hsx hnx h) (fun _ _ hst => lvV_cons trivial (lvV_tail (lvV_tail hst))) fun α H locs ls hLH kk => W.lcmp C.1 C.2.1 hdg kk
theorem s_i2l (hd : (dcd cc pc .i2l len && len == 1) = true) (h : i1 st fun a r => K nx L (aL a.toInt64 :: r) S u) (C : Cx p l s m meth c R cc own nL rk cb sb B ini g) (hK : KOK tb (Ga p l e R s m args below meth c Qm g α0 S0 nL cb sb B) K) (hsx : nx <:+ tb) (hnx : ∀ q ∈ nx.head?, q.1 = pc + len) : Go p l e R s m args below meth c Qm g α0 S0 nL cb sb B pc L st S u := by
  obtain ⟨hdg, rfl⟩ := chk_plain (own := own) (ini := ini) (xa := 0) (xb := 0) (xv := 0) (xl := []) hd
  obtain ⟨a, r, rfl, h⟩ := i1_ok h
  exact go_push (kok_next hK hsx hnx h) (fun _ _ hst => lvV_cons trivial (lvV_tail hst)) fun α H locs ls hLH kk => lv_i2l C.1 C.2.1 hdg rfl kk
theorem s_l2i (hd : (dcd cc pc .l2i len && len == 1) = true) (h : match st with
        | Sum.inr (Sum.inl a) :: r => K nx L (aI a.toInt32 :: r) S u
        | _ => False) (C : Cx p l s m meth c R cc own nL rk cb sb B ini g) (hK : KOK tb (Ga p l e R s m args below meth c Qm g α0 S0 nL cb sb B) K) (hsx : nx <:+ tb) (hnx : ∀ q ∈ nx.head?, q.1 = pc + len) : Go p l e R s m args below meth c Qm g α0 S0 nL cb sb B pc L st S u := by
  obtain ⟨hdg, rfl⟩ := chk_plain (own := own) (ini := ini) (xa := 0) (xb := 0) (xv := 0) (xl := []) hd
  obtain ⟨a, r, rfl, h⟩ := j1_ok (k := fun a r => K nx L (aI a.toInt32 :: r) S u) h
  exact go_push (kok_next hK hsx hnx h) (fun _ _ hst => lvV_cons trivial (lvV_tail hst)) fun α H locs ls hLH kk => lv_l2i C.1 C.2.1 hdg rfl kk
theorem s_lstore_n {i : Fin 4} (hd : (dcd cc pc (.lstore_n i) len && len == 1) = true) (h : match st with
        | Sum.inr (Sum.inl a) :: r => bif Nat.blt (i.val + 1) L.length then forceL (setL2 L i.val (aL a)) fun L' => K nx L' r S u else False
        | _ => False) (C : Cx p l s m meth c R cc own nL rk cb sb B ini g) (hK : KOK tb (Ga p l e R s m args below meth c Qm g α0 S0 nL cb sb B) K) (hsx : nx <:+ tb) (hnx : ∀ q ∈ nx.head?, q.1 = pc + len) : Go p l e R s m args below meth c Qm g α0 S0 nL cb sb B pc L st S u := by
  obtain ⟨a, r, rfl, h1⟩ := j1_ok (k := fun a r => bif Nat.blt (i.val + 1) L.length then forceL (setL2 L i.val (aL a)) fun L' => K nx L' r S u else False) h
  obtain ⟨h2, h3⟩ := cond_ok h1
  obtain ⟨hdg, hl⟩ := chk_plain (own := own) (ini := ini) (xa := 0) (xb := 0) (xv := 0) (xl := []) hd
  exact s_store2 (v := aL a) h2 hl (fun hh hi kk => lv_lstore_n C.1 C.2.1 hdg rfl hh hi rfl kk) (forceL_ok h3) hK hsx hnx
theorem s_lstore {i : Nat} (hd : (dcd cc pc (.lstore i) len && len == 2) = true) (h : match st with
        | Sum.inr (Sum.inl a) :: r => bif Nat.blt (i + 1) L.length then forceL (setL2 L i (aL a)) fun L' => K nx L' r S u else False
        | _ => False) (C : Cx p l s m meth c R cc own nL rk cb sb B ini g) (hK : KOK tb (Ga p l e R s m args below meth c Qm g α0 S0 nL cb sb B) K) (hsx : nx <:+ tb) (hnx : ∀ q ∈ nx.head?, q.1 = pc + len) : Go p l e R s m args below meth c Qm g α0 S0 nL cb sb B pc L st S u := by
  obtain ⟨a, r, rfl, h1⟩ := j1_ok (k := fun a r => bif Nat.blt (i + 1) L.length then forceL (setL2 L i (aL a)) fun L' => K nx L' r S u else False) h
  obtain ⟨h2, h3⟩ := cond_ok h1
  obtain ⟨hdg, hl⟩ := chk_plain (own := own) (ini := ini) (xa := 0) (xb := 0) (xv := 0) (xl := []) hd
  exact s_store2 (v := aL a) h2 hl (fun hh hi kk => lv_lstore C.1 C.2.1 hdg hh hi rfl kk) (forceL_ok h3) hK hsx hnx
theorem s_dup (hd : (dcd cc pc .dup len && len == 1) = true) (h : match st with
        | v :: r => bif catV v == 1 then K nx L (v :: v :: r) S u else False
        | _ => False) (C : Cx p l s m meth c R cc own nL rk cb sb B ini g) (hK : KOK tb (Ga p l e R s m args below meth c Qm g α0 S0 nL cb sb B) K) (hsx : nx <:+ tb) (hnx : ∀ q ∈ nx.head?, q.1 = pc + len) : Go p l e R s m args below meth c Qm g α0 S0 nL cb sb B pc L st S u := by
  obtain ⟨hdg, rfl⟩ := chk_plain (own := own) (ini := ini) (xa := 0) (xb := 0) (xv := 0) (xl := []) hd
  rcases st with _ | ⟨v, r⟩
  · exact h.elim
  · obtain ⟨h1, h⟩ := cond_ok h
    exact go_push (kok_next hK hsx hnx h) (fun _ _ hst => lvV_cons (lvV_hd hst) hst) fun α H locs ls hLH kk => lv_dup C.1 C.2.1 hdg (by rw [cat_conc]; exact eq_of_beq h1) kk
theorem s_pop (hd : (dcd cc pc .pop len && len == 1) = true) (h : match st with
        | v :: r => bif catV v == 1 then K nx L r S u else False
        | _ => False) (C : Cx p l s m meth c R cc own nL rk cb sb B ini g) (hK : KOK tb (Ga p l e R s m args below meth c Qm g α0 S0 nL cb sb B) K) (hsx : nx <:+ tb) (hnx : ∀ q ∈ nx.head?, q.1 = pc + len) : Go p l e R s m args below meth c Qm g α0 S0 nL cb sb B pc L st S u := by
  obtain ⟨hdg, rfl⟩ := chk_plain (own := own) (ini := ini) (xa := 0) (xb := 0) (xv := 0) (xl := []) hd
  rcases st with _ | ⟨v, r⟩
  · exact h.elim
  · obtain ⟨h1, h⟩ := cond_ok h
    exact go_push (kok_next hK hsx hnx h) (fun _ _ hst => lvV_tail hst) fun α H locs ls hLH kk => lv_pop C.1 C.2.1 hdg (by rw [cat_conc]; exact eq_of_beq h1) kk
theorem s_dup2 (hd : (dcd cc pc .dup2 len && len == 1) = true) (h : match st with
        | v :: w :: r => bif catV v == 1 && catV w == 1 then K nx L (v :: w :: v :: w :: r) S u else False
        | _ => False) (C : Cx p l s m meth c R cc own nL rk cb sb B ini g) (hK : KOK tb (Ga p l e R s m args below meth c Qm g α0 S0 nL cb sb B) K) (hsx : nx <:+ tb) (hnx : ∀ q ∈ nx.head?, q.1 = pc + len) : Go p l e R s m args below meth c Qm g α0 S0 nL cb sb B pc L st S u := by
  obtain ⟨hdg, rfl⟩ := chk_plain (own := own) (ini := ini) (xa := 0) (xb := 0) (xv := 0) (xl := []) hd
  rcases st with _ | ⟨v, _ | ⟨w, r⟩⟩
  · exact h.elim
  · exact h.elim
  · obtain ⟨h1, h⟩ := cond_ok h
    rw [Bool.and_eq_true] at h1
    exact go_push (kok_next hK hsx hnx h) (fun _ _ hst => lvV_cons (lvV_hd hst) (lvV_cons (lvV_hd (lvV_tail hst)) hst)) fun α H locs ls hLH kk => lv_dup2_11 C.1 C.2.1 hdg (by rw [cat_conc]; exact eq_of_beq h1.1) (by rw [cat_conc]; exact eq_of_beq h1.2) kk
theorem s_goto {off : Int} (hd : (dcd cc pc (.goto off) len && len == 3) = true) (hv : (pc : Int) + off = (xa : Int)) (h : K (drp tb xa) L st S u) (C : Cx p l s m meth c R cc own nL rk cb sb B ini g) (hK : KOK tb (Ga p l e R s m args below meth c Qm g α0 S0 nL cb sb B) K) (hsx : nx <:+ tb) (hnx : ∀ q ∈ nx.head?, q.1 = pc + len) : Go p l e R s m args below meth c Qm g α0 S0 nL cb sb B pc L st S u := by
  obtain ⟨hdg, rfl⟩ := chk_plain (own := own) (ini := ini) (xa := 0) (xb := 0) (xv := 0) (xl := []) hd
  exact go_push (kok_jump hK h) (fun _ _ hst => hst) fun α H locs ls hLH kk => lv_goto C.1 C.2.1 hdg hv kk
theorem s_if {o : ClassFile.Cond} {off : Int} (hd : (dcd cc pc (.ifCond o off) len && len == 3) = true) (hv : (pc : Int) + off = (xa : Int)) (h : i1 st fun a r => br1 o a (K (drp tb xa) L r S u) (K nx L r S u)) (C : Cx p l s m meth c R cc own nL rk cb sb B ini g) (hK : KOK tb (Ga p l e R s m args below meth c Qm g α0 S0 nL cb sb B) K) (hsx : nx <:+ tb) (hnx : ∀ q ∈ nx.head?, q.1 = pc + len) : Go p l e R s m args below meth c Qm g α0 S0 nL cb sb B pc L st S u := by
  obtain ⟨hdg, rfl⟩ := chk_plain (own := own) (ini := ini) (xa := 0) (xb := 0) (xv := 0) (xl := []) hd
  obtain ⟨a, r, rfl, h⟩ := i1_ok h
  intro hu α h9 H locs ls hR hE hL hst hS hLH
  have k1 : K (drp tb xa) L r S u → W p l e R s m args below meth c H locs (cb + u) (sb + 120 * u) Qm (F0 m xa ls (r.map (conc α))) := fun h => kok_jump hK h hu α h9 H locs ls hR hE hL (lvV_tail hst) hS hLH
  have k2 : K nx L r S u → W p l e R s m args below meth c H locs (cb + u) (sb + 120 * u) Qm (F0 m (pc + 3) ls (r.map (conc α))) := fun h => kok_next hK hsx hnx h hu α h9 H locs ls hR hE hL (lvV_tail hst) hS hLH
  cases o
  · exact lv_if_eq C.1 C.2.1 hdg hv (fun z => k1 (h.1 z)) (fun z => k2 (h.2 z))
  · exact lv_if_ne C.1 C.2.1 hdg hv (fun z => k1 (h.1 z)) (fun z => k2 (h.2 z))
  · exact lv_if_lt C.1 C.2.1 hdg hv (fun z => k1 (h.1 z)) (fun z => k2 (h.2 z))
  · exact lv_if_ge C.1 C.2.1 hdg hv (fun z => k1 (h.1 z)) (fun z => k2 (h.2 z))
  · exact lv_if_gt C.1 C.2.1 hdg hv (fun z => k1 (h.1 z)) (fun z => k2 (h.2 z))
  · exact lv_if_le C.1 C.2.1 hdg hv (fun z => k1 (h.1 z)) (fun z => k2 (h.2 z))
theorem s_icmp {o : ClassFile.Cond} {off : Int} (hd : (dcd cc pc (.if_icmp o off) len && len == 3) = true) (hv : (pc : Int) + off = (xa : Int)) (h : i2 st fun a b r => br2 o a b (K (drp tb xa) L r S u) (K nx L r S u)) (C : Cx p l s m meth c R cc own nL rk cb sb B ini g) (hK : KOK tb (Ga p l e R s m args below meth c Qm g α0 S0 nL cb sb B) K) (hsx : nx <:+ tb) (hnx : ∀ q ∈ nx.head?, q.1 = pc + len) : Go p l e R s m args below meth c Qm g α0 S0 nL cb sb B pc L st S u := by
  obtain ⟨hdg, rfl⟩ := chk_plain (own := own) (ini := ini) (xa := 0) (xb := 0) (xv := 0) (xl := []) hd
  obtain ⟨a, b, r, rfl, h⟩ := i2_ok h
  intro hu α h9 H locs ls hR hE hL hst hS hLH
  have k1 : K (drp tb xa) L r S u → W p l e R s m args below meth c H locs (cb + u) (sb + 120 * u) Qm (F0 m xa ls (r.map (conc α))) := fun h => kok_jump hK h hu α h9 H locs ls hR hE hL (lvV_tail (lvV_tail hst)) hS hLH
  have k2 : K nx L r S u → W p l e R s m args below meth c H locs (cb + u) (sb + 120 * u) Qm (F0 m (pc + 3) ls (r.map (conc α))) := fun h => kok_next hK hsx hnx h hu α h9 H locs ls hR hE hL (lvV_tail (lvV_tail hst)) hS hLH
  cases o
  · exact lv_icmp_eq C.1 C.2.1 hdg hv (fun z => k1 (h.1 z)) (fun z => k2 (h.2 z))
  · exact lv_icmp_ne C.1 C.2.1 hdg hv (fun z => k1 (h.1 z)) (fun z => k2 (h.2 z))
  · exact lv_icmp_lt C.1 C.2.1 hdg hv (fun z => k1 (h.1 z)) (fun z => k2 (h.2 z))
  · exact lv_icmp_ge C.1 C.2.1 hdg hv (fun z => k1 (h.1 z)) (fun z => k2 (h.2 z))
  · exact lv_icmp_gt C.1 C.2.1 hdg hv (fun z => k1 (h.1 z)) (fun z => k2 (h.2 z))
  · exact lv_icmp_le C.1 C.2.1 hdg hv (fun z => k1 (h.1 z)) (fun z => k2 (h.2 z))
theorem swc_ok {k : Nat → Prop} {ts : List Nat} {v : Int} {y : Int32} (h : swc k ts v y) {j t : Nat} (hj : ts[j]? = some t) (hy : y.toInt = v + j) : k t := by
  induction ts generalizing v j with
  | nil => cases hj
  | cons a r ih =>
    cases j with
    | zero =>
      cases hj
      exact h.1 (by omega)
    | succ j => exact ih h.2 hj (by omega)
theorem s_tsw {d lo hi : Int} {offs : Array Int} (hd : dcd cc pc (.tableswitch d lo hi offs) len = true) (hv : (pc : Int) + d = (xa : Int)) (ho : offs.toList.map (fun o => (pc : Int) + o) = xl.map (fun (t : Nat) => (t : Int))) (hh : hi + 1 = lo + (xl.length : Int)) (h : i1 st fun a r => ((a.toInt < lo ∨ hi < a.toInt) → K (drp tb xa) L r S u) ∧ swc (fun t => K (drp tb t) L r S u) xl lo a) (C : Cx p l s m meth c R cc own nL rk cb sb B ini g) (hK : KOK tb (Ga p l e R s m args below meth c Qm g α0 S0 nL cb sb B) K) (hsx : nx <:+ tb) (hnx : ∀ q ∈ nx.head?, q.1 = pc + len) : Go p l e R s m args below meth c Qm g α0 S0 nL cb sb B pc L st S u := by
  have hdg := dcd_ok hd
  obtain ⟨a, r, rfl, h⟩ := i1_ok h
  intro hu α h9 H locs ls hR hE hL hst hS hLH
  by_cases hr : a.toInt < lo ∨ hi < a.toInt
  · exact lv_tableOut C.1 C.2.1 hdg hr hv (kok_jump hK (h.1 hr) hu α h9 H locs ls hR hE hL (lvV_tail hst) hS hLH)
  · have h1 : ¬ a.toInt < lo := fun q => hr (Or.inl q)
    have h2 : ¬ hi < a.toInt := fun q => hr (Or.inr q)
    have hlen : offs.toList.length = xl.length := by
      have := congrArg List.length ho
      simpa using this
    have hj : (a.toInt - lo).toNat < xl.length := by omega
    obtain ⟨t, ht⟩ : ∃ t, xl[(a.toInt - lo).toNat]? = some t := ⟨_, List.getElem?_eq_getElem hj⟩
    obtain ⟨o, hoo⟩ : ∃ o, offs.toList[(a.toInt - lo).toNat]? = some o := ⟨_, List.getElem?_eq_getElem (by omega)⟩
    have hot : (pc : Int) + o = (t : Int) := by
      have e1 := congrArg (fun z => z[(a.toInt - lo).toNat]?) ho
      simp only [List.getElem?_map, ht, hoo] at e1
      exact Option.some.inj e1
    exact lv_tableIn C.1 C.2.1 hdg h1 h2 (by rw [← Array.getElem?_toList]; exact hoo) hot (kok_jump hK (swc_ok h.2 ht (by omega)) hu α h9 H locs ls hR hE hL (lvV_tail hst) hS hLH)
end STQ
