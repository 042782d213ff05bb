theorem m_X6_has {E : EE} {K : Nat → Nat} {M : MM} {b : Nat} {n : Int} (hS : StageK K b) (hn : i32 n) : CnB E 0 yX6_has cX6_has 2 [.ref (b + 1), vI n] K M (0 ≤ n ∧ n < M (b + 1) 0 ∧ n < 20) := by
  refine Cn_of RX6 (by decide) rfl (by decide) (fun X hX hQ => ?_)
  refine J_iload_n hX dX6_has_0 rfl ?_
  refine J_if_lt hX 22 dX6_has_1 (by omega) (by decide) (fun c1 => ?_) (fun c1 => ?_)
  · refine J_iconst hX dX6_has_22 ?_
    exact J_retF hX hQ dX6_has_23 (by omega) rfl rfl (by omega) (by omega)
  · refine J_iload_n hX dX6_has_4 rfl ?_
    refine J_aload_n hX dX6_has_5 rfl ?_
    refine J_geti hX fi_RX6_39 dX6_has_6 (show K (b + 1) = 6 from hS 1 (by decide)) (fun r1 => ?_)
    sorry
