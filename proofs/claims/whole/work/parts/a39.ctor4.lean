/-! constructors: an image -/
theorem mi_image {S : am_S} {d : Nat} {v : AH} (hd : 2 ≤ d) : am_Out S zX4_init d 5 [aR (v.length + 0)] (v ++ [cO 4 [aN, aN, aN]]) (.inl none) (v ++ [cO 4 [aR (v.length + 1), aR (v.length + 2), aR (v.length + 4)], cP 0 90 (fun _ => 0), cO 9 [aI 12, aR (v.length + 3), aI 0], cP 0 48 (fun _ => 0), cO 9 [aI 8, aR (v.length + 5), aI 0], cP 0 48 (fun _ => 0)]) := by
  refine am_body rfl (by decide +kernel) rfl (am_cats_cons rfl (am_cats_nil)) (Nat.le_of_ble_eq_true rfl) (?_ : am_T _ _ _ _ _ 0 [some (aR (v.length + 0))] [] (v ++ [cO 4 [aN, aN, aN]]))
  refine T_aload_n (am_dec tX4_init_0 0 rfl) rfl ?_
  refine T_objInit (am_dec tX4_init_0 1 rfl) (am_m2 159 rfl rfl) (am_m1 34 rfl rfl) (am_m1 35 rfl rfl) (by decide) (by omega) ?_
  refine T_aload_n (am_dec tX4_init_0 2 rfl) rfl ?_
  refine T_bipush 90 (am_dec tX4_init_0 3 rfl) rfl ⟨by decide, by decide⟩ ?_
  refine C_newI (k9 := 1) (am_dec tX4_init_0 4 rfl) (am_m1 68 rfl rfl) (by decide) (by decide) (by omega) rfl ?_
  refine C_putF (fs' := [aR (v.length + 1), aN, aN]) (l' := [cO 4 [aR (v.length + 1), aN, aN], cP 0 90 (fun _ => 0)]) 4 0 (am_dec tX4_init_0 5 rfl) flX4_9_4 rfl rfl rfl rfl rfl trivial rfl (by simp) rfl rfl ?_
  refine T_aload_n (am_dec tX4_init_0 6 rfl) rfl ?_
  refine C_new (k9 := 2) (fs := [aI 0, aN, aI 0]) 9 (am_dec tX4_init_0 7 rfl) rfl cl9 (am_m2 160 rfl rfl) (am_m1 43 rfl rfl) (am_m1 3 rfl rfl) (by
    intro j hj
    have e : j = 0 ∨ j = 1 ∨ j = 2 := by
      change j < 3 at hj
      omega
    rcases e with e | e | e <;> subst e <;> exact ⟨_, rfl, fun _ _ => by rfl⟩) (by
    intro x hx
    simp only [List.mem_cons, List.not_mem_nil, or_false] at hx
    rcases hx with e | e | e <;> subst e <;> trivial) (by decide) (by omega) rfl ?_
  refine T_dup (am_dec tX4_init_0 8 rfl) rfl ?_
  refine T_bipush 12 (am_dec tX4_init_0 9 rfl) rfl ⟨by decide, by decide⟩ ?_
  refine T_callI (as := [aI 12]) rfl (am_dec tX4_init_0 10 rfl) lkX4_17 rfl (Nat.le_of_ble_eq_true rfl) (by omega) (by omega) (mi_table_at (d := d - 1) (l := [cO 4 [aR (v.length + 1), aN, aN], cP 0 90 (fun _ => 0)]) 12 ⟨by decide, by decide⟩ (by omega) rfl) (fun _ => ?_)
  refine C_putF (fs' := [aR (v.length + 1), aR (v.length + 2), aN]) (l' := [cO 4 [aR (v.length + 1), aR (v.length + 2), aN], cP 0 90 (fun _ => 0), cO 9 [aI 12, aR (v.length + 3), aI 0], cP 0 48 (fun _ => 0)]) 4 1 (am_dec tX4_init_0 11 rfl) flX4_20_4 rfl rfl rfl rfl rfl trivial rfl (by simp) rfl rfl ?_
  refine T_aload_n (am_dec tX4_init_0 12 rfl) rfl ?_
  refine C_new (k9 := 4) (fs := [aI 0, aN, aI 0]) 9 (am_dec tX4_init_0 13 rfl) rfl cl9 (am_m2 160 rfl rfl) (am_m1 43 rfl rfl) (am_m1 3 rfl rfl) (by
    intro j hj
    have e : j = 0 ∨ j = 1 ∨ j = 2 := by
      change j < 3 at hj
      omega
    rcases e with e | e | e <;> subst e <;> exact ⟨_, rfl, fun _ _ => by rfl⟩) (by
    intro x hx
    simp only [List.mem_cons, List.not_mem_nil, or_false] at hx
    rcases hx with e | e | e <;> subst e <;> trivial) (by decide) (by omega) rfl ?_
  refine T_dup (am_dec tX4_init_0 14 rfl) rfl ?_
  refine T_bipush 8 (am_dec tX4_init_0 15 rfl) rfl ⟨by decide, by decide⟩ ?_
  refine T_callI (as := [aI 8]) rfl (am_dec tX4_init_0 16 rfl) lkX4_17 rfl (Nat.le_of_ble_eq_true rfl) (by omega) (by omega) (mi_table_at (d := d - 1) (l := [cO 4 [aR (v.length + 1), aR (v.length + 2), aN], cP 0 90 (fun _ => 0), cO 9 [aI 12, aR (v.length + 3), aI 0], cP 0 48 (fun _ => 0)]) 8 ⟨by decide, by decide⟩ (by omega) rfl) (fun _ => ?_)
  refine C_putF (fs' := [aR (v.length + 1), aR (v.length + 2), aR (v.length + 4)]) (l' := [cO 4 [aR (v.length + 1), aR (v.length + 2), aR (v.length + 4)], cP 0 90 (fun _ => 0), cO 9 [aI 12, aR (v.length + 3), aI 0], cP 0 48 (fun _ => 0), cO 9 [aI 8, aR (v.length + 5), aI 0], cP 0 48 (fun _ => 0)]) 4 2 (am_dec tX4_init_0 17 rfl) flX4_24_4 rfl rfl rfl rfl rfl trivial rfl (by simp) rfl rfl ?_
  exact T_return (am_dec tX4_init_0 18 rfl) rfl ⟨rfl, rfl⟩
