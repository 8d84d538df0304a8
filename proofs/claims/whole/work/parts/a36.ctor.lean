/-! constructors: a table -/
theorem mi_table {S : am_S} {d : Nat} {v : AH} (m : Int) (hm : am_i32 m) (hd : 1 ≤ d) : am_Out S zX10_init d 1 [aR (v.length + 0), aI m] (v ++ [cO 9 [aI 0, aN, aI 0]]) (.inl none) (v ++ [cO 9 [aI (if 12 < m then 12 else m), aR (v.length + 1), aI 0], cP 0 48 (fun _ => 0)]) := by
  refine am_body rfl (by decide +kernel) rfl (am_cats_cons rfl (am_cats_cons rfl (am_cats_nil))) (Nat.le_of_ble_eq_true rfl) (?_ : am_T _ _ _ _ _ 0 [some (aR (v.length + 0)), some (aI m)] [] (v ++ [cO 9 [aI 0, aN, aI 0]]))
  refine T_aload_n (am_dec tX10_init_0 0 rfl) rfl ?_
  refine T_objInit (am_dec tX10_init_0 1 rfl) (am_m1 47 rfl rfl) (am_m1 34 rfl rfl) (am_m1 35 rfl rfl) (by decide) hd ?_
  refine T_aload_n (am_dec tX10_init_0 2 rfl) rfl ?_
  refine T_bipush 48 (am_dec tX10_init_0 3 rfl) rfl ⟨by decide, by decide⟩ ?_
  refine C_newI (k9 := 1) (am_dec tX10_init_0 4 rfl) (am_m1 68 rfl rfl) (by decide) (by decide) (by decide) rfl ?_
  refine C_putF (fs' := [aI 0, aR (v.length + 1), aI 0]) (l' := [cO 9 [aI 0, aR (v.length + 1), aI 0], cP 0 48 (fun _ => 0)]) 9 1 (am_dec tX10_init_0 5 rfl) flX10_11_9 rfl rfl rfl rfl rfl trivial rfl (by decide) rfl rfl ?_
  refine T_aload_n (am_dec tX10_init_0 6 rfl) rfl ?_
  refine T_iload_n (am_dec tX10_init_0 7 rfl) rfl ?_
  refine T_bipush 12 (am_dec tX10_init_0 8 rfl) rfl ⟨by decide, by decide⟩ ?_
  refine T_mmin (am_dec tX10_init_0 9 rfl) lkX10_15 (Nat.le_of_ble_eq_true rfl) (by omega) ?_
  refine C_putF (fs' := [aI (if 12 < m then 12 else m), aR (v.length + 1), aI 0]) (l' := [cO 9 [aI (if 12 < m then 12 else m), aR (v.length + 1), aI 0], cP 0 48 (fun _ => 0)]) 9 0 (am_dec tX10_init_0 10 rfl) flX10_21_9 rfl rfl rfl rfl rfl trivial rfl (by simp) rfl rfl ?_
  exact T_return (am_dec tX10_init_0 11 rfl) rfl ⟨rfl, rfl⟩
