def tb_in : Tb := [(0, .iload_n 0, 1, x0), (1, .iload_n 1, 1, x0), (2, .if_icmp .lt 12, 3, xN 14), (5, .iload_n 0, 1, x0), (6, .iload_n 2, 1, x0), (7, .if_icmp .gt 7, 3, xN 14), (10, .iconst 1, 1, xI 1), (11, .goto 4, 3, xN 15), (14, .iconst 0, 1, xI 0), (15, .ireturn, 1, x0)]
def sv_in : SV := fun as _ Q => match as with
  | [Sum.inl v, Sum.inl a, Sum.inl b] => Q (some (aI (bI (a ≤ v ∧ v ≤ b))))
  | _ => False
theorem t_in {G Q B hn scr} (hG : Seg tb_in G Q true B hn scr) {a b v : Int32} {S : Sto} (h : Q (Sum.inl (some (aI (bI (a ≤ v ∧ v ≤ b))))) S) : G 0 [some (aI v), some (aI a), some (aI b)] [] S 0 := by
  refine hG [] 40 0 _ _ _ _ ?_
  refine ⟨fun h1 => ?_, fun h1 => ⟨fun h2 => ?_, fun h2 => ?_⟩⟩
  · sorry
  · sorry
  · sorry
