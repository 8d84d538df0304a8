/-! constructors: the readers -/
theorem mi_reader5 {S : am_S} {d : Nat} {v : AH} (t : Nat) (hd : 1 ≤ d) : am_Out S zX6_init d 0 [aR (v.length + 0), aR t] (v ++ [cO 5 [aN, aI 0, aI 0, aI 0, aI 0, aI 0, aN, aI 0, aI 0, aI 0, aI 0]]) (.inl none) (v ++ [cO 5 [aR t, aI 0, aI 0, aI 0, aI 0, aI 0, aN, aI 0, aI 0, aI 0, aI 0]]) := by
  refine am_body rfl (by decide +kernel) rfl (am_cats_cons rfl (am_cats_cons rfl (am_cats_nil))) (Nat.le_of_ble_eq_true rfl) (?_ : am_T _ _ _ _ _ 0 [some (aR (v.length + 0)), some (aR t)] [] (v ++ [cO 5 [aN, aI 0, aI 0, aI 0, aI 0, aI 0, aN, aI 0, aI 0, aI 0, aI 0]]))
  refine T_aload_n (am_dec tX6_init_0 0 rfl) rfl ?_
  refine T_objInit (am_dec tX6_init_0 1 rfl) (am_m1 191 rfl rfl) (am_m1 34 rfl rfl) (am_m1 35 rfl rfl) (by decide) hd ?_
  refine T_aload_n (am_dec tX6_init_0 2 rfl) rfl ?_
  refine T_aload_n (am_dec tX6_init_0 3 rfl) rfl ?_
  refine C_putF (fs' := [aR t, aI 0, aI 0, aI 0, aI 0, aI 0, aN, aI 0, aI 0, aI 0, aI 0]) (l' := [cO 5 [aR t, aI 0, aI 0, aI 0, aI 0, aI 0, aN, aI 0, aI 0, aI 0, aI 0]]) 5 0 (am_dec tX6_init_0 4 rfl) flX6_9_5 rfl rfl rfl rfl rfl trivial rfl (by simp) rfl rfl ?_
  exact T_return (am_dec tX6_init_0 5 rfl) rfl ⟨rfl, rfl⟩
theorem mi_portReader {S : am_S} {d : Nat} {v : AH} (t : Nat) (hd : 2 ≤ d) : am_Out S zX5_init d 0 [aR (v.length + 0), aR t] (v ++ [cO 5 [aN, aI 0, aI 0, aI 0, aI 0, aI 0, aN, aI 0, aI 0, aI 0, aI 0]]) (.inl none) (v ++ [cO 5 [aR t, aI 0, aI 0, aI 0, aI 0, aI 0, aN, aI 0, aI 0, aI 0, aI 0]]) := by
  refine am_body rfl (by decide +kernel) rfl (am_cats_cons rfl (am_cats_cons rfl (am_cats_nil))) (Nat.le_of_ble_eq_true rfl) (?_ : am_T _ _ _ _ _ 0 [some (aR (v.length + 0)), some (aR t)] [] (v ++ [cO 5 [aN, aI 0, aI 0, aI 0, aI 0, aI 0, aN, aI 0, aI 0, aI 0, aI 0]]))
  refine T_aload_n (am_dec tX5_init_0 0 rfl) rfl ?_
  refine T_aload_n (am_dec tX5_init_0 1 rfl) rfl ?_
  refine T_callI (as := [aR t]) rfl (am_dec tX5_init_0 2 rfl) lkX5_3 rfl (Nat.le_of_ble_eq_true rfl) (by omega) (by omega) (mi_reader5 (d := d - 1) t (by omega)) (fun _ => ?_)
  exact T_return (am_dec tX5_init_0 3 rfl) rfl ⟨rfl, rfl⟩
theorem mi_reader7 {S : am_S} {d : Nat} {v : AH} (t : Nat) (hd : 1 ≤ d) : am_Out S zX6_init d 0 [aR (v.length + 0), aR t] (v ++ [cO 7 [aN, aI 0, aI 0, aI 0, aI 0, aI 0, aN]]) (.inl none) (v ++ [cO 7 [aR t, aI 0, aI 0, aI 0, aI 0, aI 0, aN]]) := by
  refine am_body rfl (by decide +kernel) rfl (am_cats_cons rfl (am_cats_cons rfl (am_cats_nil))) (Nat.le_of_ble_eq_true rfl) (?_ : am_T _ _ _ _ _ 0 [some (aR (v.length + 0)), some (aR t)] [] (v ++ [cO 7 [aN, aI 0, aI 0, aI 0, aI 0, aI 0, aN]]))
  refine T_aload_n (am_dec tX6_init_0 0 rfl) rfl ?_
  refine T_objInit (am_dec tX6_init_0 1 rfl) (am_m1 191 rfl rfl) (am_m1 34 rfl rfl) (am_m1 35 rfl rfl) (by decide) hd ?_
  refine T_aload_n (am_dec tX6_init_0 2 rfl) rfl ?_
  refine T_aload_n (am_dec tX6_init_0 3 rfl) rfl ?_
  refine C_putF (fs' := [aR t, aI 0, aI 0, aI 0, aI 0, aI 0, aN]) (l' := [cO 7 [aR t, aI 0, aI 0, aI 0, aI 0, aI 0, aN]]) 7 0 (am_dec tX6_init_0 4 rfl) flX6_9_7 rfl rfl rfl rfl rfl trivial rfl (by simp) rfl rfl ?_
  exact T_return (am_dec tX6_init_0 5 rfl) rfl ⟨rfl, rfl⟩
theorem mi_ruleReader {S : am_S} {d : Nat} {v : AH} (t : Nat) (hd : 2 ≤ d) : am_Out S zX8_init d 0 [aR (v.length + 0), aR t] (v ++ [cO 7 [aN, aI 0, aI 0, aI 0, aI 0, aI 0, aN]]) (.inl none) (v ++ [cO 7 [aR t, aI 0, aI 0, aI 0, aI 0, aI 0, aN]]) := by
  refine am_body rfl (by decide +kernel) rfl (am_cats_cons rfl (am_cats_cons rfl (am_cats_nil))) (Nat.le_of_ble_eq_true rfl) (?_ : am_T _ _ _ _ _ 0 [some (aR (v.length + 0)), some (aR t)] [] (v ++ [cO 7 [aN, aI 0, aI 0, aI 0, aI 0, aI 0, aN]]))
  refine T_aload_n (am_dec tX8_init_0 0 rfl) rfl ?_
  refine T_aload_n (am_dec tX8_init_0 1 rfl) rfl ?_
  refine T_callI (as := [aR t]) rfl (am_dec tX8_init_0 2 rfl) lkX8_3 rfl (Nat.le_of_ble_eq_true rfl) (by omega) (by omega) (mi_reader7 (d := d - 1) t (by omega)) (fun _ => ?_)
  exact T_return (am_dec tX8_init_0 3 rfl) rfl ⟨rfl, rfl⟩
