/-! a table from another -/
def c_take (h : am_F) (on : Int) (g : Nat → Int) : am_F := (let h12 : am_F := (am_row h 1 (am_cpy g (h 1) (0 : Int).toNat (0 : Int).toNat (48 : Int).toNat)); (am_put h12 0 2 on))
theorem mc_take {S : am_S} {d u : Nat} {w : AH} {t o : Nat} {om : Int} (hl : t + 2 ≤ w.length) (hx : o + 2 ≤ t ∨ t + 2 ≤ o) (hd1 : 1 ≤ d) {h : am_F} (on : Int) (g : Nat → Int) (ho : w[o]? = some (cO 9 [aI om, aR (o + 1), aI on])) (hg : w[o + 1]? = some (cP 0 48 g)) (hd : 1 ≤ d) : am_Out S zX10_takeFrom d u [aR t, aR o] (tbW w t h) (.inl none) (tbW w t (c_take h on g)) := by
  have key : ∀ Q : AO → AH → Prop, Q (.inl none) (tbW w t (c_take h on g)) → am_M S zX10_takeFrom d u [aR t, aR o] (tbW w t h) Q := by
    intro Q hQ
    refine am_body rfl (by decide +kernel) rfl (am_cats_cons rfl ( am_cats_cons rfl (am_cats_nil))) (Nat.le_of_ble_eq_true rfl) (?_ : am_T _ _ _ _ _ 0 [some (aR t), some (aR o)] [] (tbW w t h))
    refine T_aload_n (am_dec tX10_takeFrom_0 0 rfl) rfl ?_
    refine T_getfield 9 1 (am_dec tX10_takeFrom_0 1 rfl) flX10_11_9 ((tbW_o (by omega)).trans ho) rfl ?_
    refine T_iconst 0 (am_dec tX10_takeFrom_0 2 rfl) rfl ⟨by decide, by decide⟩ ?_
    refine T_aload_n (am_dec tX10_takeFrom_0 3 rfl) rfl ?_
    refine T_getfield 9 1 (am_dec tX10_takeFrom_0 4 rfl) flX10_11_9 (show (tbW w t h)[t]? = some (cO 9 [aI (h 0 0), aR (t + 1), aI (h 0 2)]) from tbW_c hl 0 (by decide)) rfl ?_
    refine T_iconst 0 (am_dec tX10_takeFrom_0 5 rfl) rfl ⟨by decide, by decide⟩ ?_
    refine T_bipush 48 (am_dec tX10_takeFrom_0 6 rfl) rfl ⟨by decide, by decide⟩ ?_
    refine T_arraycopy (am_dec tX10_takeFrom_0 7 rfl) (⟨am_m3 174 rfl rfl, am_m2 26 rfl rfl, am_m2 25 rfl rfl, am_m1 11 rfl rfl⟩) ((tbW_o (by omega)).trans hg) (show (tbW w t h)[t + 1]? = some (cP 0 48 (h 1)) from tbW_c hl 1 (by decide)) (by omega) (by omega) (by omega) (by omega) (by omega) (Nat.le_of_ble_eq_true rfl) (by omega) ?_
    refine am_wE (w2 := tbW w t (am_row h 1 (am_cpy g (h 1) (0 : Int).toNat (0 : Int).toNat (48 : Int).toNat))) tbW_r1 ?_
    refine T_nmH (W := fun x9 => tbW w t x9) (v := (am_row h 1 (am_cpy g (h 1) (0 : Int).toNat (0 : Int).toNat (48 : Int).toNat))) (fun h12 hh12 => ?_)
    refine T_aload_n (am_dec tX10_takeFrom_0 8 rfl) rfl ?_
    refine T_aload_n (am_dec tX10_takeFrom_0 9 rfl) rfl ?_
    refine T_getfield 9 2 (am_dec tX10_takeFrom_0 10 rfl) flX10_25_9 ((tbW_o (by omega)).trans ho) rfl ?_
    refine T_putfield (fs' := [aI (h12 0 0), aR (t + 1), aI on]) 9 2 (am_dec tX10_takeFrom_0 11 rfl) flX10_25_9 rfl rfl rfl trivial (show (tbW w t h12)[t]? = some (cO 9 [aI (h12 0 0), aR (t + 1), aI (h12 0 2)]) from tbW_c hl 0 (by decide)) (Nat.le_of_ble_eq_true rfl) rfl ?_
    refine am_wE (w2 := tbW w t (am_put h12 0 2 on)) tbW_f2 ?_
    exact T_return (am_dec tX10_takeFrom_0 12 rfl) rfl (am_tr (fun (x9 : am_F) => Q (.inl none) (tbW w t x9)) (y := (am_put h12 0 2 on)) (show (c_take h on g) = (am_put h12 0 2 on) from (by have s9 := hh12.symm; subst s9; exact rfl)) hQ)
  exact key _ ⟨rfl, rfl⟩
