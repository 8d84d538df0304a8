/-! constructors: what makes arrays alone -/
theorem mi_rule {S : am_S} {d : Nat} {v : AH} (hd : 1 ≤ d) : am_Out S zX7_init d 4 [aR (v.length + 0)] (v ++ [cO 6 [aI 0, aI 0, aN, aN, aN, aN]]) (.inl none) (v ++ [cO 6 [aI 0, aI 0, aR (v.length + 1), aR (v.length + 2), aR (v.length + 3), aR (v.length + 4)], cP 0 200 (fun _ => 0), cP 0 8 (fun _ => 0), cP 0 8 (fun _ => 0), cP 0 64 (fun _ => 0)]) := by
  refine am_body rfl (by decide +kernel) rfl (am_cats_cons rfl (am_cats_nil)) (Nat.le_of_ble_eq_true rfl) (?_ : am_T _ _ _ _ _ 0 [some (aR (v.length + 0))] [] (v ++ [cO 6 [aI 0, aI 0, aN, aN, aN, aN]]))
  refine T_aload_n (am_dec tX7_init_0 0 rfl) rfl ?_
  refine T_objInit (am_dec tX7_init_0 1 rfl) (am_m1 162 rfl rfl) (am_m1 34 rfl rfl) (am_m1 35 rfl rfl) (by decide) hd ?_
  refine T_aload_n (am_dec tX7_init_0 2 rfl) rfl ?_
  refine T_sipush 200 (am_dec tX7_init_0 3 rfl) rfl ⟨by decide, by decide⟩ ?_
  refine C_newI (k9 := 1) (am_dec tX7_init_0 4 rfl) (am_m1 68 rfl rfl) (by decide) (by decide) (by omega) rfl ?_
  refine C_putF (fs' := [aI 0, aI 0, aR (v.length + 1), aN, aN, aN]) (l' := [cO 6 [aI 0, aI 0, aR (v.length + 1), aN, aN, aN], cP 0 200 (fun _ => 0)]) 6 2 (am_dec tX7_init_0 5 rfl) flX7_11_6 rfl rfl rfl rfl rfl trivial rfl (by simp) rfl rfl ?_
  refine T_aload_n (am_dec tX7_init_0 6 rfl) rfl ?_
  refine T_bipush 8 (am_dec tX7_init_0 7 rfl) rfl ⟨by decide, by decide⟩ ?_
  refine C_newI (k9 := 2) (am_dec tX7_init_0 8 rfl) (am_m1 68 rfl rfl) (by decide) (by decide) (by omega) rfl ?_
  refine C_putF (fs' := [aI 0, aI 0, aR (v.length + 1), aR (v.length + 2), aN, aN]) (l' := [cO 6 [aI 0, aI 0, aR (v.length + 1), aR (v.length + 2), aN, aN], cP 0 200 (fun _ => 0), cP 0 8 (fun _ => 0)]) 6 3 (am_dec tX7_init_0 9 rfl) flX7_15_6 rfl rfl rfl rfl rfl trivial rfl (by simp) rfl rfl ?_
  refine T_aload_n (am_dec tX7_init_0 10 rfl) rfl ?_
  refine T_bipush 8 (am_dec tX7_init_0 11 rfl) rfl ⟨by decide, by decide⟩ ?_
  refine C_newI (k9 := 3) (am_dec tX7_init_0 12 rfl) (am_m1 68 rfl rfl) (by decide) (by decide) (by omega) rfl ?_
  refine C_putF (fs' := [aI 0, aI 0, aR (v.length + 1), aR (v.length + 2), aR (v.length + 3), aN]) (l' := [cO 6 [aI 0, aI 0, aR (v.length + 1), aR (v.length + 2), aR (v.length + 3), aN], cP 0 200 (fun _ => 0), cP 0 8 (fun _ => 0), cP 0 8 (fun _ => 0)]) 6 4 (am_dec tX7_init_0 13 rfl) flX7_18_6 rfl rfl rfl rfl rfl trivial rfl (by simp) rfl rfl ?_
  refine T_aload_n (am_dec tX7_init_0 14 rfl) rfl ?_
  refine T_bipush 64 (am_dec tX7_init_0 15 rfl) rfl ⟨by decide, by decide⟩ ?_
  refine C_newI (k9 := 4) (am_dec tX7_init_0 16 rfl) (am_m1 68 rfl rfl) (by decide) (by decide) (by omega) rfl ?_
  refine C_putF (fs' := [aI 0, aI 0, aR (v.length + 1), aR (v.length + 2), aR (v.length + 3), aR (v.length + 4)]) (l' := [cO 6 [aI 0, aI 0, aR (v.length + 1), aR (v.length + 2), aR (v.length + 3), aR (v.length + 4)], cP 0 200 (fun _ => 0), cP 0 8 (fun _ => 0), cP 0 8 (fun _ => 0), cP 0 64 (fun _ => 0)]) 6 5 (am_dec tX7_init_0 17 rfl) flX7_21_6 rfl rfl rfl rfl rfl trivial rfl (by simp) rfl rfl ?_
  exact T_return (am_dec tX7_init_0 18 rfl) rfl ⟨rfl, rfl⟩
theorem mi_auction {S : am_S} {d : Nat} {v : AH} (hd : 1 ≤ d) : am_Out S zX0_init d 5 [aR (v.length + 0)] (v ++ [cO 0 [aN, aN, aN, aN, aN, aI 0]]) (.inl none) (v ++ [cO 0 [aR (v.length + 1), aR (v.length + 2), aR (v.length + 3), aR (v.length + 4), aR (v.length + 5), aI 0], cP 0 9 (fun _ => 0), cP 0 12 (fun _ => 0), cP 0 12 (fun _ => 0), cP 0 12 (fun _ => 0), cP 1 12 (fun _ => 0)]) := by
  refine am_body rfl (by decide +kernel) rfl (am_cats_cons rfl (am_cats_nil)) (Nat.le_of_ble_eq_true rfl) (?_ : am_T _ _ _ _ _ 0 [some (aR (v.length + 0))] [] (v ++ [cO 0 [aN, aN, aN, aN, aN, aI 0]]))
  refine T_aload_n (am_dec tX0_init_0 0 rfl) rfl ?_
  refine T_objInit (am_dec tX0_init_0 1 rfl) (am_m2 98 rfl rfl) (am_m1 34 rfl rfl) (am_m1 35 rfl rfl) (by decide) hd ?_
  refine T_aload_n (am_dec tX0_init_0 2 rfl) rfl ?_
  refine T_bipush 9 (am_dec tX0_init_0 3 rfl) rfl ⟨by decide, by decide⟩ ?_
  refine C_newI (k9 := 1) (am_dec tX0_init_0 4 rfl) (am_m1 68 rfl rfl) (by decide) (by decide) (by omega) rfl ?_
  refine C_putF (fs' := [aR (v.length + 1), aN, aN, aN, aN, aI 0]) (l' := [cO 0 [aR (v.length + 1), aN, aN, aN, aN, aI 0], cP 0 9 (fun _ => 0)]) 0 0 (am_dec tX0_init_0 5 rfl) flX0_9_0 rfl rfl rfl rfl rfl trivial rfl (by simp) rfl rfl ?_
  refine T_aload_n (am_dec tX0_init_0 6 rfl) rfl ?_
  refine T_bipush 12 (am_dec tX0_init_0 7 rfl) rfl ⟨by decide, by decide⟩ ?_
  refine C_newI (k9 := 2) (am_dec tX0_init_0 8 rfl) (am_m1 68 rfl rfl) (by decide) (by decide) (by omega) rfl ?_
  refine C_putF (fs' := [aR (v.length + 1), aR (v.length + 2), aN, aN, aN, aI 0]) (l' := [cO 0 [aR (v.length + 1), aR (v.length + 2), aN, aN, aN, aI 0], cP 0 9 (fun _ => 0), cP 0 12 (fun _ => 0)]) 0 1 (am_dec tX0_init_0 9 rfl) flX0_15_0 rfl rfl rfl rfl rfl trivial rfl (by simp) rfl rfl ?_
  refine T_aload_n (am_dec tX0_init_0 10 rfl) rfl ?_
  refine T_bipush 12 (am_dec tX0_init_0 11 rfl) rfl ⟨by decide, by decide⟩ ?_
  refine C_newI (k9 := 3) (am_dec tX0_init_0 12 rfl) (am_m1 68 rfl rfl) (by decide) (by decide) (by omega) rfl ?_
  refine C_putF (fs' := [aR (v.length + 1), aR (v.length + 2), aR (v.length + 3), aN, aN, aI 0]) (l' := [cO 0 [aR (v.length + 1), aR (v.length + 2), aR (v.length + 3), aN, aN, aI 0], cP 0 9 (fun _ => 0), cP 0 12 (fun _ => 0), cP 0 12 (fun _ => 0)]) 0 2 (am_dec tX0_init_0 13 rfl) flX0_18_0 rfl rfl rfl rfl rfl trivial rfl (by simp) rfl rfl ?_
  refine T_aload_n (am_dec tX0_init_0 14 rfl) rfl ?_
  refine T_bipush 12 (am_dec tX0_init_0 15 rfl) rfl ⟨by decide, by decide⟩ ?_
  refine C_newI (k9 := 4) (am_dec tX0_init_0 16 rfl) (am_m1 68 rfl rfl) (by decide) (by decide) (by omega) rfl ?_
  refine C_putF (fs' := [aR (v.length + 1), aR (v.length + 2), aR (v.length + 3), aR (v.length + 4), aN, aI 0]) (l' := [cO 0 [aR (v.length + 1), aR (v.length + 2), aR (v.length + 3), aR (v.length + 4), aN, aI 0], cP 0 9 (fun _ => 0), cP 0 12 (fun _ => 0), cP 0 12 (fun _ => 0), cP 0 12 (fun _ => 0)]) 0 3 (am_dec tX0_init_0 17 rfl) flX0_21_0 rfl rfl rfl rfl rfl trivial rfl (by simp) rfl rfl ?_
  refine T_aload_n (am_dec tX0_init_0 18 rfl) rfl ?_
  refine T_bipush 12 (am_dec tX0_init_0 19 rfl) rfl ⟨by decide, by decide⟩ ?_
  refine C_newZ (k9 := 5) (am_dec tX0_init_0 20 rfl) (am_m2 118 rfl rfl) (by decide) (by decide) (by omega) rfl ?_
  refine C_putF (fs' := [aR (v.length + 1), aR (v.length + 2), aR (v.length + 3), aR (v.length + 4), aR (v.length + 5), aI 0]) (l' := [cO 0 [aR (v.length + 1), aR (v.length + 2), aR (v.length + 3), aR (v.length + 4), aR (v.length + 5), aI 0], cP 0 9 (fun _ => 0), cP 0 12 (fun _ => 0), cP 0 12 (fun _ => 0), cP 0 12 (fun _ => 0), cP 1 12 (fun _ => 0)]) 0 4 (am_dec tX0_init_0 21 rfl) flX0_24_0 rfl rfl rfl rfl rfl trivial rfl (by simp) rfl rfl ?_
  exact T_return (am_dec tX0_init_0 22 rfl) rfl ⟨rfl, rfl⟩
theorem mi_duels {S : am_S} {d : Nat} {v : AH} (hd : 1 ≤ d) : am_Out S zX1_init d 0 [aR (v.length + 0)] (v ++ [cO 1 [aI 0, aI 0, aI 0, aI 0, aI 0, aI 0, aI 0]]) (.inl none) (v ++ [cO 1 [aI 0, aI 0, aI 0, aI 0, aI 0, aI 0, aI 0]]) := by
  refine am_body rfl (by decide +kernel) rfl (am_cats_cons rfl (am_cats_nil)) (Nat.le_of_ble_eq_true rfl) (?_ : am_T _ _ _ _ _ 0 [some (aR (v.length + 0))] [] (v ++ [cO 1 [aI 0, aI 0, aI 0, aI 0, aI 0, aI 0, aI 0]]))
  refine T_aload_n (am_dec tX1_init_0 0 rfl) rfl ?_
  refine T_objInit (am_dec tX1_init_0 1 rfl) (am_m2 124 rfl rfl) (am_m1 34 rfl rfl) (am_m1 35 rfl rfl) (by decide) hd ?_
  exact T_return (am_dec tX1_init_0 2 rfl) rfl ⟨rfl, rfl⟩
theorem mi_eyes {S : am_S} {d : Nat} {v : AH} (hd : 1 ≤ d) : am_Out S zX2_init d 2 [aR (v.length + 0)] (v ++ [cO 2 [aN, aN]]) (.inl none) (v ++ [cO 2 [aR (v.length + 1), aR (v.length + 2)], cP 0 90 (fun _ => 0), cP 0 90 (fun _ => 0)]) := by
  refine am_body rfl (by decide +kernel) rfl (am_cats_cons rfl (am_cats_nil)) (Nat.le_of_ble_eq_true rfl) (?_ : am_T _ _ _ _ _ 0 [some (aR (v.length + 0))] [] (v ++ [cO 2 [aN, aN]]))
  refine T_aload_n (am_dec tX2_init_0 0 rfl) rfl ?_
  refine T_objInit (am_dec tX2_init_0 1 rfl) (am_m2 85 rfl rfl) (am_m1 34 rfl rfl) (am_m1 35 rfl rfl) (by decide) hd ?_
  refine T_aload_n (am_dec tX2_init_0 2 rfl) rfl ?_
  refine T_bipush 90 (am_dec tX2_init_0 3 rfl) rfl ⟨by decide, by decide⟩ ?_
  refine C_newI (k9 := 1) (am_dec tX2_init_0 4 rfl) (am_m1 68 rfl rfl) (by decide) (by decide) (by omega) rfl ?_
  refine C_putF (fs' := [aR (v.length + 1), aN]) (l' := [cO 2 [aR (v.length + 1), aN], cP 0 90 (fun _ => 0)]) 2 0 (am_dec tX2_init_0 5 rfl) flX2_9_2 rfl rfl rfl rfl rfl trivial rfl (by simp) rfl rfl ?_
  refine T_aload_n (am_dec tX2_init_0 6 rfl) rfl ?_
  refine T_bipush 90 (am_dec tX2_init_0 7 rfl) rfl ⟨by decide, by decide⟩ ?_
  refine C_newI (k9 := 2) (am_dec tX2_init_0 8 rfl) (am_m1 68 rfl rfl) (by decide) (by decide) (by omega) rfl ?_
  refine C_putF (fs' := [aR (v.length + 1), aR (v.length + 2)]) (l' := [cO 2 [aR (v.length + 1), aR (v.length + 2)], cP 0 90 (fun _ => 0), cP 0 90 (fun _ => 0)]) 2 1 (am_dec tX2_init_0 9 rfl) flX2_15_2 rfl rfl rfl rfl rfl trivial rfl (by simp) rfl rfl ?_
  exact T_return (am_dec tX2_init_0 10 rfl) rfl ⟨rfl, rfl⟩
