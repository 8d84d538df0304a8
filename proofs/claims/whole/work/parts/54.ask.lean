/-! the model: questions of fog, lines and walkers -/
def k_fog (c : am_F) (q : am_F) (x : Int) (y : Int) (t : Int) : Int × am_F := (let z9 : Int := (k_isIn c x y); (let t12 : Int := (if z9 = 0 then 1 else 0); (let q22 : am_F := (k_refuse (am_put q 0 0 0) t12 1 0); (let z22 : Int := (if t12 = 0 then 0 else 1); (if z22 = 0 then (let z30 : Int := (k_isFirst t); (let t33 : Int := (if z30 = 0 then 1 else 0); (let q43 : am_F := (k_refuse q22 t33 2 2); (let z43 : Int := (if t33 = 0 then 0 else 1); (if z43 = 0 then (let q52 : am_F := k_goes c q43; ((q52 (159 + (t + 1).toNat) ((x + (9 * y)).toNat)), q52)) else (0, q43)))))) else (0, q22))))))
theorem mk_fog {S : am_S} {d u : Nat} {w : AH} {b : Nat} (hl : b + 735 ≤ w.length) {c : am_F} {q : am_F} (x : Int) (y : Int) (t : Int) (hV : MdV c) (hWd : MdWd c) (hS9 : MdS c) (hLp : MdLp c) (hDu : MdDu c) (hd : 5 ≤ d) : am_Out S zX12_fog d u [aR b, aI x, aI y, aI t] (mdW w b c q) (.inl (some (aI ((k_fog c q x y t).1)))) (mdW w b c ((k_fog c q x y t).2)) := by
  have key : ∀ Q : AO → AH → Prop, Q (.inl (some (aI ((k_fog c q x y t).1)))) (mdW w b c ((k_fog c q x y t).2)) → am_M S zX12_fog d u [aR b, aI x, aI y, aI t] (mdW w b c q) Q := by
    intro Q hQ
    refine am_body rfl (by decide +kernel) rfl (am_cats_cons rfl ( am_cats_cons rfl ( am_cats_cons rfl ( am_cats_cons rfl (am_cats_nil))))) (Nat.le_of_ble_eq_true rfl) (?_ : am_T _ _ _ _ _ 0 [some (aR b), some (aI x), some (aI y), some (aI t)] [] (mdW w b c q))
    obtain ⟨vl0, vu0⟩ := MdV_0 hV
    obtain ⟨vl1, vu1⟩ := MdV_1 hV
    refine T_aload_n (am_dec tX12_fog_0 0 rfl) rfl ?_
    refine T_iconst 0 (am_dec tX12_fog_0 1 rfl) rfl ⟨by decide, by decide⟩ ?_
    refine T_putfield (fs' := mdO b (c 0) (am_up (q 0) 0 0)) 11 0 (am_dec tX12_fog_0 2 rfl) flX12_160_11 rfl rfl rfl trivial (md_obj hl) (Nat.le_of_ble_eq_true rfl) rfl ?_
    refine am_wE (w2 := mdW w b c (am_put q 0 0 0)) (md_fq) ?_
    refine T_aload_n (am_dec tX12_fog_0 3 rfl) rfl ?_
    refine T_aload_n (am_dec tX12_fog_0 4 rfl) rfl ?_
    refine T_iload_n (am_dec tX12_fog_0 5 rfl) rfl ?_
    refine T_iload_n (am_dec tX12_fog_0 6 rfl) rfl ?_
    refine T_callV (as := [aI x, aI y]) rfl (am_dec tX12_fog_0 7 rfl) lkX12_320 (md_obj hl) rfl rfl (Nat.le_of_ble_eq_true rfl) (by omega) (mk_isIn (d := d - 1) hl x y  hV (by omega)) (fun _ => ?_)
    refine T_nm (fun z9 hz9 => ?_)
    have hb9 := k_isIn_b c x y
    rw [← hz9] at hb9
    have hs9 := k_isIn_s c x y
    rw [← hz9] at hs9
    have K12 : ∀ (t12 : Int), t12 = (if z9 = 0 then 1 else 0) →  am_T S zX12_fog d u Q 20 [some (aR b), some (aI x), some (aI y), some (aI t)] [aI t12, aR b] (mdW w b c (am_put q 0 0 0)) := by
      intro t12 ht12
      have hbt12 : t12 = 0 ∨ t12 = 1 := by
        rw [ht12]
        try dsimp only
        repeat' split
        all_goals first | exact Or.inl rfl | exact Or.inr rfl | apply k_in_b | apply k_isDigit_b | apply k_isSmall_b | apply k_bad_b | apply k_isIn_b | apply k_isStep_b | apply k_isFirst_b | apply k_isLine_b | apply k_seesBy_b | apply k_isWalker_b | omega
      refine T_iconst 1 (am_dec tX12_fog_0 12 rfl) rfl ⟨by decide, by decide⟩ ?_
      refine T_iconst 0 (am_dec tX12_fog_0 13 rfl) rfl ⟨by decide, by decide⟩ ?_
      refine T_callV (as := [aI t12, aI 1, aI 0]) rfl (am_dec tX12_fog_0 14 rfl) lkX12_275 (md_obj hl) rfl rfl (Nat.le_of_ble_eq_true rfl) (by omega) (mk_bad0 (d := d - 1) hl t12 1 0 (by omega) am_put_s (by omega)) (fun _ => ?_)
      refine T_nmH (W := fun x9 => mdW w b c x9) (v := (k_refuse (am_put q 0 0 0) t12 1 0)) (fun q22 hq22 => ?_)
      refine T_nm (fun z22 hz22 => ?_)
      have hq022 : t12 = 0 → q22 0 0 = 0 := fun h9 => by rw [hq22]; exact k_refuse_0 am_put_s h9
      refine T_if_ne 49 (am_dec tX12_fog_0 15 rfl) rfl (fun h25 => ?_) (fun h25 => ?_)
      · refine T_iconst 0 (am_dec tX12_fog_0 27 rfl) rfl ⟨by decide, by decide⟩ ?_
        exact T_ireturn (am_dec tX12_fog_0 28 rfl) rfl (am_tr (fun x9 => Q (.inl (some (aI (x9.1)))) (mdW w b c x9.2)) (y := (0, q22)) (show (k_fog c q x y t) = (0, q22) from (by have s9 := hz9.symm; subst s9; have s9 := ht12.symm; subst s9; have s9 := hq22.symm; subst s9; have s9 := hz22.symm; subst s9; exact (if_neg h25))) hQ)
      · refine T_aload_n (am_dec tX12_fog_0 16 rfl) rfl ?_
        refine T_iload_n (am_dec tX12_fog_0 17 rfl) rfl ?_
        refine T_callS (as := [aI t]) rfl (am_dec tX12_fog_0 18 rfl) lkX12_348 rfl (Nat.le_of_ble_eq_true rfl) (by omega) (mk_isFirst (d := d - 1)  t   (by omega)) (fun _ => ?_)
        refine T_nm (fun z30 hz30 => ?_)
        have hb30 := k_isFirst_b t
        rw [← hz30] at hb30
        have hs30 := k_isFirst_s t
        rw [← hz30] at hs30
        have K33 : ∀ (t33 : Int), t33 = (if z30 = 0 then 1 else 0) →  am_T S zX12_fog d u Q 41 [some (aR b), some (aI x), some (aI y), some (aI t)] [aI t33, aR b] (mdW w b c q22) := by
          intro t33 ht33
          have hbt33 : t33 = 0 ∨ t33 = 1 := by
            rw [ht33]
            try dsimp only
            repeat' split
            all_goals first | exact Or.inl rfl | exact Or.inr rfl | apply k_in_b | apply k_isDigit_b | apply k_isSmall_b | apply k_bad_b | apply k_isIn_b | apply k_isStep_b | apply k_isFirst_b | apply k_isLine_b | apply k_seesBy_b | apply k_isWalker_b | omega
          refine T_iconst 2 (am_dec tX12_fog_0 23 rfl) rfl ⟨by decide, by decide⟩ ?_
          refine T_iconst 2 (am_dec tX12_fog_0 24 rfl) rfl ⟨by decide, by decide⟩ ?_
          refine T_callV (as := [aI t33, aI 2, aI 2]) rfl (am_dec tX12_fog_0 25 rfl) lkX12_275 (md_obj hl) rfl rfl (Nat.le_of_ble_eq_true rfl) (by omega) (mk_bad0 (d := d - 1) hl t33 2 2 (by omega) (hq022 (by omega)) (by omega)) (fun _ => ?_)
          refine T_nmH (W := fun x9 => mdW w b c x9) (v := (k_refuse q22 t33 2 2)) (fun q43 hq43 => ?_)
          refine T_nm (fun z43 hz43 => ?_)
          have hq043 : t33 = 0 → q43 0 0 = 0 := fun h9 => by rw [hq43]; exact k_refuse_0 (hq022 (by omega)) h9
          refine T_if_eq 51 (am_dec tX12_fog_0 26 rfl) rfl (fun h46 => ?_) (fun h46 => ?_)
          · refine T_aload_n (am_dec tX12_fog_0 29 rfl) rfl ?_
            refine T_callV (as := []) rfl (am_dec tX12_fog_0 30 rfl) lkX12_345 (md_obj hl) rfl rfl (Nat.le_of_ble_eq_true rfl) (by omega) (mk_goes (d := d - 1) hl   hV hWd hS9 hLp hDu (by omega)) (fun _ => ?_)
            refine T_nmH (W := fun x9 => mdW w b c x9) (v := k_goes c q43) (fun q52 hq52 => ?_)
            refine T_aload_n (am_dec tX12_fog_0 31 rfl) rfl ?_
            refine T_getfield 11 37 (am_dec tX12_fog_0 32 rfl) flX12_91_11 (md_obj hl) rfl ?_
            refine T_iload_n (am_dec tX12_fog_0 33 rfl) rfl ?_
            refine T_iconst 1 (am_dec tX12_fog_0 34 rfl) rfl ⟨by decide, by decide⟩ ?_
            refine T_iadd (t + 1) (am_dec tX12_fog_0 35 rfl) rfl ⟨by omega, by omega⟩ ?_
            refine T_aaloadR (r := b + (159 + (t + 1).toNat)) (am_dec tX12_fog_0 36 rfl) (by decide) (mh_fog hl) (by omega) (by omega) (if_pos (by omega)) ?_
            refine T_iload_n (am_dec tX12_fog_0 37 rfl) rfl ?_
            refine T_iload_n (am_dec tX12_fog_0 38 rfl) rfl ?_
            refine T_callS (as := [aI x, aI y]) rfl (am_dec tX12_fog_0 39 rfl) lkX12_317 rfl (Nat.le_of_ble_eq_true rfl) (by omega) (mk_cell' (d := d - 1) x y (by omega)) (fun _ => ?_)
            refine T_ialoadE (x := q52 (159 + (t + 1).toNat) ((x + (9 * y)).toNat)) (am_dec tX12_fog_1 0 rfl) (mr_fog hl (i := (t + 1)) (by omega) (by omega)) (by omega) (by omega) rfl ?_
            exact T_ireturn (am_dec tX12_fog_1 1 rfl) rfl (am_tr (fun x9 => Q (.inl (some (aI (x9.1)))) (mdW w b c x9.2)) (y := ((q52 (159 + (t + 1).toNat) ((x + (9 * y)).toNat)), q52)) (show (k_fog c q x y t) = ((q52 (159 + (t + 1).toNat) ((x + (9 * y)).toNat)), q52) from (by have s9 := hz9.symm; subst s9; have s9 := ht12.symm; subst s9; have s9 := hq22.symm; subst s9; have s9 := hz22.symm; subst s9; have s9 := hz30.symm; subst s9; have s9 := ht33.symm; subst s9; have s9 := hq43.symm; subst s9; have s9 := hz43.symm; subst s9; have s9 := hq52.symm; subst s9; exact ((if_pos h25).trans (if_pos h46)))) hQ)
          · refine T_iconst 0 (am_dec tX12_fog_0 27 rfl) rfl ⟨by decide, by decide⟩ ?_
            exact T_ireturn (am_dec tX12_fog_0 28 rfl) rfl (am_tr (fun x9 => Q (.inl (some (aI (x9.1)))) (mdW w b c x9.2)) (y := (0, q43)) (show (k_fog c q x y t) = (0, q43) from (by have s9 := hz9.symm; subst s9; have s9 := ht12.symm; subst s9; have s9 := hq22.symm; subst s9; have s9 := hz22.symm; subst s9; have s9 := hz30.symm; subst s9; have s9 := ht33.symm; subst s9; have s9 := hq43.symm; subst s9; have s9 := hz43.symm; subst s9; exact ((if_pos h25).trans (if_neg h46)))) hQ)
        refine T_if_ne 40 (am_dec tX12_fog_0 19 rfl) rfl (fun h33 => ?_) (fun h33 => ?_)
        · refine T_iconst 0 (am_dec tX12_fog_0 22 rfl) rfl ⟨by decide, by decide⟩ ?_
          exact K33 _ (if_neg h33).symm
        · refine T_iconst 1 (am_dec tX12_fog_0 20 rfl) rfl ⟨by decide, by decide⟩ ?_
          refine T_goto 41 (am_dec tX12_fog_0 21 rfl) rfl ?_
          exact K33 _ (if_pos h33).symm
    refine T_if_ne 19 (am_dec tX12_fog_0 8 rfl) rfl (fun h12 => ?_) (fun h12 => ?_)
    · refine T_iconst 0 (am_dec tX12_fog_0 11 rfl) rfl ⟨by decide, by decide⟩ ?_
      exact K12 _ (if_neg h12).symm
    · refine T_iconst 1 (am_dec tX12_fog_0 9 rfl) rfl ⟨by decide, by decide⟩ ?_
      refine T_goto 20 (am_dec tX12_fog_0 10 rfl) rfl ?_
      exact K12 _ (if_pos h12).symm
  exact key _ ⟨rfl, rfl⟩
def k_sums (c : am_F) (q : am_F) (t : Int) (what : Int) : Int × am_F := (let z7 : Int := (k_isFirst t); (let t10 : Int := (if z7 = 0 then 1 else (let z16 : Int := (k_in what 0 3); (if z16 = 0 then 1 else 0))); (let q29 : am_F := (k_refuse (am_put q 0 0 0) t10 1 2); (let z29 : Int := (if t10 = 0 then 0 else 1); (if z29 = 0 then (let q38 : am_F := k_goes c q29; ((q38 (201 + (t + 1).toNat) what.toNat), q38)) else (0, q29))))))
theorem mk_sums {S : am_S} {d u : Nat} {w : AH} {b : Nat} (hl : b + 735 ≤ w.length) {c : am_F} {q : am_F} (t : Int) (what : Int) (hV : MdV c) (hWd : MdWd c) (hS9 : MdS c) (hLp : MdLp c) (hDu : MdDu c) (hd : 5 ≤ d) : am_Out S zX12_sums d u [aR b, aI t, aI what] (mdW w b c q) (.inl (some (aI ((k_sums c q t what).1)))) (mdW w b c ((k_sums c q t what).2)) := by
  have key : ∀ Q : AO → AH → Prop, Q (.inl (some (aI ((k_sums c q t what).1)))) (mdW w b c ((k_sums c q t what).2)) → am_M S zX12_sums d u [aR b, aI t, aI what] (mdW w b c q) Q := by
    intro Q hQ
    refine am_body rfl (by decide +kernel) rfl (am_cats_cons rfl ( am_cats_cons rfl ( am_cats_cons rfl (am_cats_nil)))) (Nat.le_of_ble_eq_true rfl) (?_ : am_T _ _ _ _ _ 0 [some (aR b), some (aI t), some (aI what)] [] (mdW w b c q))
    obtain ⟨vl0, vu0⟩ := MdV_0 hV
    obtain ⟨vl1, vu1⟩ := MdV_1 hV
    refine T_aload_n (am_dec tX12_sums_0 0 rfl) rfl ?_
    refine T_iconst 0 (am_dec tX12_sums_0 1 rfl) rfl ⟨by decide, by decide⟩ ?_
    refine T_putfield (fs' := mdO b (c 0) (am_up (q 0) 0 0)) 11 0 (am_dec tX12_sums_0 2 rfl) flX12_160_11 rfl rfl rfl trivial (md_obj hl) (Nat.le_of_ble_eq_true rfl) rfl ?_
    refine am_wE (w2 := mdW w b c (am_put q 0 0 0)) (md_fq) ?_
    refine T_aload_n (am_dec tX12_sums_0 3 rfl) rfl ?_
    refine T_iload_n (am_dec tX12_sums_0 4 rfl) rfl ?_
    refine T_callS (as := [aI t]) rfl (am_dec tX12_sums_0 5 rfl) lkX12_348 rfl (Nat.le_of_ble_eq_true rfl) (by omega) (mk_isFirst (d := d - 1)  t   (by omega)) (fun _ => ?_)
    refine T_nm (fun z7 hz7 => ?_)
    have hb7 := k_isFirst_b t
    rw [← hz7] at hb7
    have hs7 := k_isFirst_s t
    rw [← hz7] at hs7
    have K10 : ∀ (t10 : Int), t10 = (if z7 = 0 then 1 else (let z16 : Int := (k_in what 0 3); (if z16 = 0 then 1 else 0))) →  am_T S zX12_sums d u Q 27 [some (aR b), some (aI t), some (aI what)] [aI t10, aR b] (mdW w b c (am_put q 0 0 0)) := by
      intro t10 ht10
      have hxt10 := ht10
      dsimp only at hxt10
      have hy2 := k_in_s what 0 3
      have hbt10 : t10 = 0 ∨ t10 = 1 := by
        rw [ht10]
        try dsimp only
        repeat' split
        all_goals first | exact Or.inl rfl | exact Or.inr rfl | apply k_in_b | apply k_isDigit_b | apply k_isSmall_b | apply k_bad_b | apply k_isIn_b | apply k_isStep_b | apply k_isFirst_b | apply k_isLine_b | apply k_seesBy_b | apply k_isWalker_b | omega
      refine T_iconst 1 (am_dec tX12_sums_0 15 rfl) rfl ⟨by decide, by decide⟩ ?_
      refine T_iconst 2 (am_dec tX12_sums_0 16 rfl) rfl ⟨by decide, by decide⟩ ?_
      refine T_callV (as := [aI t10, aI 1, aI 2]) rfl (am_dec tX12_sums_0 17 rfl) lkX12_275 (md_obj hl) rfl rfl (Nat.le_of_ble_eq_true rfl) (by omega) (mk_bad0 (d := d - 1) hl t10 1 2 (by omega) am_put_s (by omega)) (fun _ => ?_)
      refine T_nmH (W := fun x9 => mdW w b c x9) (v := (k_refuse (am_put q 0 0 0) t10 1 2)) (fun q29 hq29 => ?_)
      refine T_nm (fun z29 hz29 => ?_)
      have hq029 : t10 = 0 → q29 0 0 = 0 := fun h9 => by rw [hq29]; exact k_refuse_0 am_put_s h9
      refine T_if_eq 37 (am_dec tX12_sums_0 18 rfl) rfl (fun h32 => ?_) (fun h32 => ?_)
      · refine T_aload_n (am_dec tX12_sums_0 21 rfl) rfl ?_
        refine T_callV (as := []) rfl (am_dec tX12_sums_0 22 rfl) lkX12_345 (md_obj hl) rfl rfl (Nat.le_of_ble_eq_true rfl) (by omega) (mk_goes (d := d - 1) hl   hV hWd hS9 hLp hDu (by omega)) (fun _ => ?_)
        refine T_nmH (W := fun x9 => mdW w b c x9) (v := k_goes c q29) (fun q38 hq38 => ?_)
        refine T_aload_n (am_dec tX12_sums_0 23 rfl) rfl ?_
        refine T_getfield 11 38 (am_dec tX12_sums_0 24 rfl) flX12_94_11 (md_obj hl) rfl ?_
        refine T_iload_n (am_dec tX12_sums_0 25 rfl) rfl ?_
        refine T_iconst 1 (am_dec tX12_sums_0 26 rfl) rfl ⟨by decide, by decide⟩ ?_
        refine T_iadd (t + 1) (am_dec tX12_sums_0 27 rfl) rfl ⟨by omega, by omega⟩ ?_
        refine T_aaloadR (r := b + (201 + (t + 1).toNat)) (am_dec tX12_sums_0 28 rfl) (by decide) (mh_sums hl) (by omega) (by omega) (if_pos (by omega)) ?_
        refine T_iload_n (am_dec tX12_sums_0 29 rfl) rfl ?_
        refine T_ialoadE (x := q38 (201 + (t + 1).toNat) what.toNat) (am_dec tX12_sums_0 30 rfl) (mr_sums hl (i := (t + 1)) (by omega) (by omega)) (by omega) (by omega) rfl ?_
        exact T_ireturn (am_dec tX12_sums_0 31 rfl) rfl (am_tr (fun x9 => Q (.inl (some (aI (x9.1)))) (mdW w b c x9.2)) (y := ((q38 (201 + (t + 1).toNat) what.toNat), q38)) (show (k_sums c q t what) = ((q38 (201 + (t + 1).toNat) what.toNat), q38) from (by have s9 := hz7.symm; subst s9; have s9 := ht10.symm; subst s9; have s9 := hq29.symm; subst s9; have s9 := hz29.symm; subst s9; have s9 := hq38.symm; subst s9; exact (if_pos h32))) hQ)
      · refine T_iconst 0 (am_dec tX12_sums_0 19 rfl) rfl ⟨by decide, by decide⟩ ?_
        exact T_ireturn (am_dec tX12_sums_0 20 rfl) rfl (am_tr (fun x9 => Q (.inl (some (aI (x9.1)))) (mdW w b c x9.2)) (y := (0, q29)) (show (k_sums c q t what) = (0, q29) from (by have s9 := hz7.symm; subst s9; have s9 := ht10.symm; subst s9; have s9 := hq29.symm; subst s9; have s9 := hz29.symm; subst s9; exact (if_neg h32))) hQ)
    refine T_if_eq 22 (am_dec tX12_sums_0 6 rfl) rfl (fun h10 => ?_) (fun h10 => ?_)
    · refine T_iconst 1 (am_dec tX12_sums_0 12 rfl) rfl ⟨by decide, by decide⟩ ?_
      refine T_goto 27 (am_dec tX12_sums_0 13 rfl) rfl ?_
      exact K10 _ (if_pos h10).symm
    · refine T_iload_n (am_dec tX12_sums_0 7 rfl) rfl ?_
      refine T_iconst 0 (am_dec tX12_sums_0 8 rfl) rfl ⟨by decide, by decide⟩ ?_
      refine T_iconst 3 (am_dec tX12_sums_0 9 rfl) rfl ⟨by decide, by decide⟩ ?_
      refine T_callS (as := [aI what, aI 0, aI 3]) rfl (am_dec tX12_sums_0 10 rfl) lkX12_194 rfl (Nat.le_of_ble_eq_true rfl) (by omega) (mk_in (d := d - 1)  what 0 3   ) (fun _ => ?_)
      refine T_nm (fun z16 hz16 => ?_)
      have hb16 := k_in_b what 0 3
      rw [← hz16] at hb16
      have hs16 := k_in_s what 0 3
      rw [← hz16] at hs16
      have K19 : ∀ (t19 : Int), t19 = (if z16 = 0 then 1 else 0) →  am_T S zX12_sums d u Q 27 [some (aR b), some (aI t), some (aI what)] [aI t19, aR b] (mdW w b c (am_put q 0 0 0)) := by
        intro t19 ht19
        have hbt19 : t19 = 0 ∨ t19 = 1 := by
          rw [ht19]
          try dsimp only
          repeat' split
          all_goals first | exact Or.inl rfl | exact Or.inr rfl | apply k_in_b | apply k_isDigit_b | apply k_isSmall_b | apply k_bad_b | apply k_isIn_b | apply k_isStep_b | apply k_isFirst_b | apply k_isLine_b | apply k_seesBy_b | apply k_isWalker_b | omega
        exact K10 _ (by have s9 := hz16.symm; subst s9; have s9 := ht19.symm; subst s9; exact (if_neg h10).symm)
      refine T_if_ne 26 (am_dec tX12_sums_0 11 rfl) rfl (fun h19 => ?_) (fun h19 => ?_)
      · refine T_iconst 0 (am_dec tX12_sums_0 14 rfl) rfl ⟨by decide, by decide⟩ ?_
        exact K19 _ (if_neg h19).symm
      · refine T_iconst 1 (am_dec tX12_sums_0 12 rfl) rfl ⟨by decide, by decide⟩ ?_
        refine T_goto 27 (am_dec tX12_sums_0 13 rfl) rfl ?_
        exact K19 _ (if_pos h19).symm
  exact key _ ⟨rfl, rfl⟩
def k_set (c : am_F) (q : am_F) (x : Int) (y : Int) (yds : Int) : Int × am_F × am_F := (let z9 : Int := (k_isIn c x y); (let t12 : Int := (if z9 = 0 then 1 else 0); (let q22 : am_F := (k_refuse (am_put q 0 0 0) t12 1 0); (let z22 : Int := (if t12 = 0 then 0 else 1); (if z22 = 0 then (let z33 : Int := (k_in yds 0 99); (let t36 : Int := (if z33 = 0 then 1 else 0); (let q46 : am_F := (k_refuse q22 t36 2 2); (let z46 : Int := (if t36 = 0 then 0 else 1); (if z46 = 0 then (let v4_64 : Int := c 6 ((x + (9 * y)).toNat); (v4_64, (am_put c 6 ((x + (9 * y)).toNat) yds), q46)) else (0, c, q46)))))) else (0, c, q22))))))
theorem mk_set {S : am_S} {d u : Nat} {w : AH} {b : Nat} (hl : b + 735 ≤ w.length) {c : am_F} {q : am_F} (x : Int) (y : Int) (yds : Int) (hV : MdV c) (hd : 2 ≤ d) : am_Out S zX12_set d u [aR b, aI x, aI y, aI yds] (mdW w b c q) (.inl (some (aI ((k_set c q x y yds).1)))) (mdW w b ((k_set c q x y yds).2.1) ((k_set c q x y yds).2.2)) := by
  have key : ∀ Q : AO → AH → Prop, Q (.inl (some (aI ((k_set c q x y yds).1)))) (mdW w b ((k_set c q x y yds).2.1) ((k_set c q x y yds).2.2)) → am_M S zX12_set d u [aR b, aI x, aI y, aI yds] (mdW w b c q) Q := by
    intro Q hQ
    refine am_body rfl (by decide +kernel) rfl (am_cats_cons rfl ( am_cats_cons rfl ( am_cats_cons rfl ( am_cats_cons rfl (am_cats_nil))))) (Nat.le_of_ble_eq_true rfl) (?_ : am_T _ _ _ _ _ 0 [some (aR b), some (aI x), some (aI y), some (aI yds), none] [] (mdW w b c q))
    obtain ⟨vl0, vu0⟩ := MdV_0 hV
    obtain ⟨vl1, vu1⟩ := MdV_1 hV
    refine T_aload_n (am_dec tX12_set_0 0 rfl) rfl ?_
    refine T_iconst 0 (am_dec tX12_set_0 1 rfl) rfl ⟨by decide, by decide⟩ ?_
    refine T_putfield (fs' := mdO b (c 0) (am_up (q 0) 0 0)) 11 0 (am_dec tX12_set_0 2 rfl) flX12_160_11 rfl rfl rfl trivial (md_obj hl) (Nat.le_of_ble_eq_true rfl) rfl ?_
    refine am_wE (w2 := mdW w b c (am_put q 0 0 0)) (md_fq) ?_
    refine T_aload_n (am_dec tX12_set_0 3 rfl) rfl ?_
    refine T_aload_n (am_dec tX12_set_0 4 rfl) rfl ?_
    refine T_iload_n (am_dec tX12_set_0 5 rfl) rfl ?_
    refine T_iload_n (am_dec tX12_set_0 6 rfl) rfl ?_
    refine T_callV (as := [aI x, aI y]) rfl (am_dec tX12_set_0 7 rfl) lkX12_320 (md_obj hl) rfl rfl (Nat.le_of_ble_eq_true rfl) (by omega) (mk_isIn (d := d - 1) hl x y  hV (by omega)) (fun _ => ?_)
    refine T_nm (fun z9 hz9 => ?_)
    have hb9 := k_isIn_b c x y
    rw [← hz9] at hb9
    have hs9 := k_isIn_s c x y
    rw [← hz9] at hs9
    have K12 : ∀ (t12 : Int), t12 = (if z9 = 0 then 1 else 0) →  am_T S zX12_set d u Q 20 [some (aR b), some (aI x), some (aI y), some (aI yds), none] [aI t12, aR b] (mdW w b c (am_put q 0 0 0)) := by
      intro t12 ht12
      have hbt12 : t12 = 0 ∨ t12 = 1 := by
        rw [ht12]
        try dsimp only
        repeat' split
        all_goals first | exact Or.inl rfl | exact Or.inr rfl | apply k_in_b | apply k_isDigit_b | apply k_isSmall_b | apply k_bad_b | apply k_isIn_b | apply k_isStep_b | apply k_isFirst_b | apply k_isLine_b | apply k_seesBy_b | apply k_isWalker_b | omega
      refine T_iconst 1 (am_dec tX12_set_0 12 rfl) rfl ⟨by decide, by decide⟩ ?_
      refine T_iconst 0 (am_dec tX12_set_0 13 rfl) rfl ⟨by decide, by decide⟩ ?_
      refine T_callV (as := [aI t12, aI 1, aI 0]) rfl (am_dec tX12_set_0 14 rfl) lkX12_275 (md_obj hl) rfl rfl (Nat.le_of_ble_eq_true rfl) (by omega) (mk_bad0 (d := d - 1) hl t12 1 0 (by omega) am_put_s (by omega)) (fun _ => ?_)
      refine T_nmH (W := fun x9 => mdW w b c x9) (v := (k_refuse (am_put q 0 0 0) t12 1 0)) (fun q22 hq22 => ?_)
      refine T_nm (fun z22 hz22 => ?_)
      have hq022 : t12 = 0 → q22 0 0 = 0 := fun h9 => by rw [hq22]; exact k_refuse_0 am_put_s h9
      refine T_if_ne 52 (am_dec tX12_set_0 15 rfl) rfl (fun h25 => ?_) (fun h25 => ?_)
      · refine T_iconst 0 (am_dec tX12_set_0 29 rfl) rfl ⟨by decide, by decide⟩ ?_
        exact T_ireturn (am_dec tX12_set_0 30 rfl) rfl (am_tr (fun x9 => Q (.inl (some (aI (x9.1)))) (mdW w b x9.2.1 x9.2.2)) (y := (0, c, q22)) (show (k_set c q x y yds) = (0, c, q22) from (by have s9 := hz9.symm; subst s9; have s9 := ht12.symm; subst s9; have s9 := hq22.symm; subst s9; have s9 := hz22.symm; subst s9; exact (if_neg h25))) hQ)
      · refine T_aload_n (am_dec tX12_set_0 16 rfl) rfl ?_
        refine T_iload_n (am_dec tX12_set_0 17 rfl) rfl ?_
        refine T_iconst 0 (am_dec tX12_set_0 18 rfl) rfl ⟨by decide, by decide⟩ ?_
        refine T_bipush 99 (am_dec tX12_set_0 19 rfl) rfl ⟨by decide, by decide⟩ ?_
        refine T_callS (as := [aI yds, aI 0, aI 99]) rfl (am_dec tX12_set_0 20 rfl) lkX12_194 rfl (Nat.le_of_ble_eq_true rfl) (by omega) (mk_in (d := d - 1)  yds 0 99   ) (fun _ => ?_)
        refine T_nm (fun z33 hz33 => ?_)
        have hb33 := k_in_b yds 0 99
        rw [← hz33] at hb33
        have hs33 := k_in_s yds 0 99
        rw [← hz33] at hs33
        have K36 : ∀ (t36 : Int), t36 = (if z33 = 0 then 1 else 0) →  am_T S zX12_set d u Q 44 [some (aR b), some (aI x), some (aI y), some (aI yds), none] [aI t36, aR b] (mdW w b c q22) := by
          intro t36 ht36
          have hbt36 : t36 = 0 ∨ t36 = 1 := by
            rw [ht36]
            try dsimp only
            repeat' split
            all_goals first | exact Or.inl rfl | exact Or.inr rfl | apply k_in_b | apply k_isDigit_b | apply k_isSmall_b | apply k_bad_b | apply k_isIn_b | apply k_isStep_b | apply k_isFirst_b | apply k_isLine_b | apply k_seesBy_b | apply k_isWalker_b | omega
          refine T_iconst 2 (am_dec tX12_set_0 25 rfl) rfl ⟨by decide, by decide⟩ ?_
          refine T_iconst 2 (am_dec tX12_set_0 26 rfl) rfl ⟨by decide, by decide⟩ ?_
          refine T_callV (as := [aI t36, aI 2, aI 2]) rfl (am_dec tX12_set_0 27 rfl) lkX12_275 (md_obj hl) rfl rfl (Nat.le_of_ble_eq_true rfl) (by omega) (mk_bad0 (d := d - 1) hl t36 2 2 (by omega) (hq022 (by omega)) (by omega)) (fun _ => ?_)
          refine T_nmH (W := fun x9 => mdW w b c x9) (v := (k_refuse q22 t36 2 2)) (fun q46 hq46 => ?_)
          refine T_nm (fun z46 hz46 => ?_)
          have hq046 : t36 = 0 → q46 0 0 = 0 := fun h9 => by rw [hq46]; exact k_refuse_0 (hq022 (by omega)) h9
          refine T_if_eq 54 (am_dec tX12_set_0 28 rfl) rfl (fun h49 => ?_) (fun h49 => ?_)
          · refine T_aload_n (am_dec tX12_set_0 31 rfl) rfl ?_
            refine T_getfield 11 13 (am_dec tX12_set_0 32 rfl) flX12_29_11 (md_obj hl) rfl ?_
            refine T_iload_n (am_dec tX12_set_0 33 rfl) rfl ?_
            refine T_iload_n (am_dec tX12_set_0 34 rfl) rfl ?_
            refine T_callS (as := [aI x, aI y]) rfl (am_dec tX12_set_0 35 rfl) lkX12_317 rfl (Nat.le_of_ble_eq_true rfl) (by omega) (mk_cell' (d := d - 1) x y (by omega)) (fun _ => ?_)
            refine T_ialoadE (x := c 6 ((x + (9 * y)).toNat)) (am_dec tX12_set_0 36 rfl) (md_first hl) (by omega) (by omega) rfl ?_
            refine T_nm (fun v4_64 hv4_64 => ?_)
            refine T_istore (ls' := [some (aR b), some (aI x), some (aI y), some (aI yds), some (aI v4_64)]) (am_dec tX12_set_0 37 rfl) (by decide) rfl ?_
            refine T_aload_n (am_dec tX12_set_0 38 rfl) rfl ?_
            refine T_getfield 11 13 (am_dec tX12_set_0 39 rfl) flX12_29_11 (md_obj hl) rfl ?_
            refine T_iload_n (am_dec tX12_set_1 0 rfl) rfl ?_
            refine T_iload_n (am_dec tX12_set_1 1 rfl) rfl ?_
            refine T_callS (as := [aI x, aI y]) rfl (am_dec tX12_set_1 2 rfl) lkX12_317 rfl (Nat.le_of_ble_eq_true rfl) (by omega) (mk_cell' (d := d - 1) x y (by omega)) (fun _ => ?_)
            refine T_iload_n (am_dec tX12_set_1 3 rfl) rfl ?_
            refine T_iastore (am_dec tX12_set_1 4 rfl) (md_first hl) (by omega) (by omega) ?_
            refine am_wE (w2 := mdW w b (am_put c 6 ((x + (9 * y)).toNat) yds) q46) (md_pc (Nat.le_of_ble_eq_true rfl) (fun _ _ => rfl)) ?_
            refine T_iload (am_dec tX12_set_1 5 rfl) rfl ?_
            exact T_ireturn (am_dec tX12_set_1 6 rfl) rfl (am_tr (fun x9 => Q (.inl (some (aI (x9.1)))) (mdW w b x9.2.1 x9.2.2)) (y := (v4_64, (am_put c 6 ((x + (9 * y)).toNat) yds), q46)) (show (k_set c q x y yds) = (v4_64, (am_put c 6 ((x + (9 * y)).toNat) yds), q46) from (by have s9 := hz9.symm; subst s9; have s9 := ht12.symm; subst s9; have s9 := hq22.symm; subst s9; have s9 := hz22.symm; subst s9; have s9 := hz33.symm; subst s9; have s9 := ht36.symm; subst s9; have s9 := hq46.symm; subst s9; have s9 := hz46.symm; subst s9; have s9 := hv4_64.symm; subst s9; exact ((if_pos h25).trans (if_pos h49)))) hQ)
          · refine T_iconst 0 (am_dec tX12_set_0 29 rfl) rfl ⟨by decide, by decide⟩ ?_
            exact T_ireturn (am_dec tX12_set_0 30 rfl) rfl (am_tr (fun x9 => Q (.inl (some (aI (x9.1)))) (mdW w b x9.2.1 x9.2.2)) (y := (0, c, q46)) (show (k_set c q x y yds) = (0, c, q46) from (by have s9 := hz9.symm; subst s9; have s9 := ht12.symm; subst s9; have s9 := hq22.symm; subst s9; have s9 := hz22.symm; subst s9; have s9 := hz33.symm; subst s9; have s9 := ht36.symm; subst s9; have s9 := hq46.symm; subst s9; have s9 := hz46.symm; subst s9; exact ((if_pos h25).trans (if_neg h49)))) hQ)
        refine T_if_ne 43 (am_dec tX12_set_0 21 rfl) rfl (fun h36 => ?_) (fun h36 => ?_)
        · refine T_iconst 0 (am_dec tX12_set_0 24 rfl) rfl ⟨by decide, by decide⟩ ?_
          exact K36 _ (if_neg h36).symm
        · refine T_iconst 1 (am_dec tX12_set_0 22 rfl) rfl ⟨by decide, by decide⟩ ?_
          refine T_goto 44 (am_dec tX12_set_0 23 rfl) rfl ?_
          exact K36 _ (if_pos h36).symm
    refine T_if_ne 19 (am_dec tX12_set_0 8 rfl) rfl (fun h12 => ?_) (fun h12 => ?_)
    · refine T_iconst 0 (am_dec tX12_set_0 11 rfl) rfl ⟨by decide, by decide⟩ ?_
      exact K12 _ (if_neg h12).symm
    · refine T_iconst 1 (am_dec tX12_set_0 9 rfl) rfl ⟨by decide, by decide⟩ ?_
      refine T_goto 20 (am_dec tX12_set_0 10 rfl) rfl ?_
      exact K12 _ (if_pos h12).symm
  exact key _ ⟨rfl, rfl⟩
def k_led (c : am_F) (q : am_F) (k : Int) (t : Int) : Int × am_F := (let z16 : Int := (k_in k 0 ((c 4 2) - 1)); (let t19 : Int := (if z16 = 0 then 1 else 0); (let q29 : am_F := (k_refuse (am_put q 0 0 0) t19 1 1); (let z29 : Int := (if t19 = 0 then 0 else 1); (if z29 = 0 then (let z37 : Int := (k_isStep t); (let t40 : Int := (if z37 = 0 then 1 else 0); (let q50 : am_F := (k_refuse q29 t40 2 2); (let z50 : Int := (if t40 = 0 then 0 else 1); (if z50 = 0 then (let q59 : am_F := k_goes c q50; ((q59 (243 + k.toNat) ((t + 1).toNat)), q59)) else (0, q50)))))) else (0, q29))))))
theorem mk_led {S : am_S} {d u : Nat} {w : AH} {b : Nat} (hl : b + 735 ≤ w.length) {c : am_F} {q : am_F} (k : Int) (t : Int) (hV : MdV c) (hWd : MdWd c) (hS9 : MdS c) (hLp : MdLp c) (hDu : MdDu c) (hd : 5 ≤ d) : am_Out S zX12_led d u [aR b, aI k, aI t] (mdW w b c q) (.inl (some (aI ((k_led c q k t).1)))) (mdW w b c ((k_led c q k t).2)) := by
  have key : ∀ Q : AO → AH → Prop, Q (.inl (some (aI ((k_led c q k t).1)))) (mdW w b c ((k_led c q k t).2)) → am_M S zX12_led d u [aR b, aI k, aI t] (mdW w b c q) Q := by
    intro Q hQ
    refine am_body rfl (by decide +kernel) rfl (am_cats_cons rfl ( am_cats_cons rfl ( am_cats_cons rfl (am_cats_nil)))) (Nat.le_of_ble_eq_true rfl) (?_ : am_T _ _ _ _ _ 0 [some (aR b), some (aI k), some (aI t)] [] (mdW w b c q))
    obtain ⟨vl0, vu0⟩ := MdV_0 hV
    obtain ⟨vl1, vu1⟩ := MdV_1 hV
    obtain ⟨vl2, vu2⟩ := MdV_2 hV
    refine T_aload_n (am_dec tX12_led_0 0 rfl) rfl ?_
    refine T_iconst 0 (am_dec tX12_led_0 1 rfl) rfl ⟨by decide, by decide⟩ ?_
    refine T_putfield (fs' := mdO b (c 0) (am_up (q 0) 0 0)) 11 0 (am_dec tX12_led_0 2 rfl) flX12_160_11 rfl rfl rfl trivial (md_obj hl) (Nat.le_of_ble_eq_true rfl) rfl ?_
    refine am_wE (w2 := mdW w b c (am_put q 0 0 0)) (md_fq) ?_
    refine T_aload_n (am_dec tX12_led_0 3 rfl) rfl ?_
    refine T_iload_n (am_dec tX12_led_0 4 rfl) rfl ?_
    refine T_iconst 0 (am_dec tX12_led_0 5 rfl) rfl ⟨by decide, by decide⟩ ?_
    refine T_aload_n (am_dec tX12_led_0 6 rfl) rfl ?_
    refine T_getfield 11 11 (am_dec tX12_led_0 7 rfl) flX12_23_11 (md_obj hl) rfl ?_
    refine T_iconst 2 (am_dec tX12_led_0 8 rfl) rfl ⟨by decide, by decide⟩ ?_
    refine T_ialoadE (x := c 4 2) (am_dec tX12_led_0 9 rfl) (md_told hl) (by omega) (by omega) rfl ?_
    refine T_iconst 1 (am_dec tX12_led_0 10 rfl) rfl ⟨by decide, by decide⟩ ?_
    refine T_isub ((c 4 2) - 1) (am_dec tX12_led_0 11 rfl) rfl ⟨by omega, by omega⟩ ?_
    refine T_callS (as := [aI k, aI 0, aI ((c 4 2) - 1)]) rfl (am_dec tX12_led_0 12 rfl) lkX12_194 rfl (Nat.le_of_ble_eq_true rfl) (by omega) (mk_in (d := d - 1)  k 0 ((c 4 2) - 1)   ) (fun _ => ?_)
    refine T_nm (fun z16 hz16 => ?_)
    have hb16 := k_in_b k 0 ((c 4 2) - 1)
    rw [← hz16] at hb16
    have hs16 := k_in_s k 0 ((c 4 2) - 1)
    rw [← hz16] at hs16
    have K19 : ∀ (t19 : Int), t19 = (if z16 = 0 then 1 else 0) →  am_T S zX12_led d u Q 27 [some (aR b), some (aI k), some (aI t)] [aI t19, aR b] (mdW w b c (am_put q 0 0 0)) := by
      intro t19 ht19
      have hbt19 : t19 = 0 ∨ t19 = 1 := by
        rw [ht19]
        try dsimp only
        repeat' split
        all_goals first | exact Or.inl rfl | exact Or.inr rfl | apply k_in_b | apply k_isDigit_b | apply k_isSmall_b | apply k_bad_b | apply k_isIn_b | apply k_isStep_b | apply k_isFirst_b | apply k_isLine_b | apply k_seesBy_b | apply k_isWalker_b | omega
      refine T_iconst 1 (am_dec tX12_led_0 17 rfl) rfl ⟨by decide, by decide⟩ ?_
      refine T_iconst 1 (am_dec tX12_led_0 18 rfl) rfl ⟨by decide, by decide⟩ ?_
      refine T_callV (as := [aI t19, aI 1, aI 1]) rfl (am_dec tX12_led_0 19 rfl) lkX12_275 (md_obj hl) rfl rfl (Nat.le_of_ble_eq_true rfl) (by omega) (mk_bad0 (d := d - 1) hl t19 1 1 (by omega) am_put_s (by omega)) (fun _ => ?_)
      refine T_nmH (W := fun x9 => mdW w b c x9) (v := (k_refuse (am_put q 0 0 0) t19 1 1)) (fun q29 hq29 => ?_)
      refine T_nm (fun z29 hz29 => ?_)
      have hq029 : t19 = 0 → q29 0 0 = 0 := fun h9 => by rw [hq29]; exact k_refuse_0 am_put_s h9
      refine T_if_ne 56 (am_dec tX12_led_0 20 rfl) rfl (fun h32 => ?_) (fun h32 => ?_)
      · refine T_iconst 0 (am_dec tX12_led_0 32 rfl) rfl ⟨by decide, by decide⟩ ?_
        exact T_ireturn (am_dec tX12_led_0 33 rfl) rfl (am_tr (fun x9 => Q (.inl (some (aI (x9.1)))) (mdW w b c x9.2)) (y := (0, q29)) (show (k_led c q k t) = (0, q29) from (by have s9 := hz16.symm; subst s9; have s9 := ht19.symm; subst s9; have s9 := hq29.symm; subst s9; have s9 := hz29.symm; subst s9; exact (if_neg h32))) hQ)
      · refine T_aload_n (am_dec tX12_led_0 21 rfl) rfl ?_
        refine T_iload_n (am_dec tX12_led_0 22 rfl) rfl ?_
        refine T_callS (as := [aI t]) rfl (am_dec tX12_led_0 23 rfl) lkX12_351 rfl (Nat.le_of_ble_eq_true rfl) (by omega) (mk_isStep (d := d - 1)  t   (by omega)) (fun _ => ?_)
        refine T_nm (fun z37 hz37 => ?_)
        have hb37 := k_isStep_b t
        rw [← hz37] at hb37
        have hs37 := k_isStep_s t
        rw [← hz37] at hs37
        have K40 : ∀ (t40 : Int), t40 = (if z37 = 0 then 1 else 0) →  am_T S zX12_led d u Q 48 [some (aR b), some (aI k), some (aI t)] [aI t40, aR b] (mdW w b c q29) := by
          intro t40 ht40
          have hbt40 : t40 = 0 ∨ t40 = 1 := by
            rw [ht40]
            try dsimp only
            repeat' split
            all_goals first | exact Or.inl rfl | exact Or.inr rfl | apply k_in_b | apply k_isDigit_b | apply k_isSmall_b | apply k_bad_b | apply k_isIn_b | apply k_isStep_b | apply k_isFirst_b | apply k_isLine_b | apply k_seesBy_b | apply k_isWalker_b | omega
          refine T_iconst 2 (am_dec tX12_led_0 28 rfl) rfl ⟨by decide, by decide⟩ ?_
          refine T_iconst 2 (am_dec tX12_led_0 29 rfl) rfl ⟨by decide, by decide⟩ ?_
          refine T_callV (as := [aI t40, aI 2, aI 2]) rfl (am_dec tX12_led_0 30 rfl) lkX12_275 (md_obj hl) rfl rfl (Nat.le_of_ble_eq_true rfl) (by omega) (mk_bad0 (d := d - 1) hl t40 2 2 (by omega) (hq029 (by omega)) (by omega)) (fun _ => ?_)
          refine T_nmH (W := fun x9 => mdW w b c x9) (v := (k_refuse q29 t40 2 2)) (fun q50 hq50 => ?_)
          refine T_nm (fun z50 hz50 => ?_)
          have hq050 : t40 = 0 → q50 0 0 = 0 := fun h9 => by rw [hq50]; exact k_refuse_0 (hq029 (by omega)) h9
          refine T_if_eq 58 (am_dec tX12_led_0 31 rfl) rfl (fun h53 => ?_) (fun h53 => ?_)
          · refine T_aload_n (am_dec tX12_led_0 34 rfl) rfl ?_
            refine T_callV (as := []) rfl (am_dec tX12_led_0 35 rfl) lkX12_345 (md_obj hl) rfl rfl (Nat.le_of_ble_eq_true rfl) (by omega) (mk_goes (d := d - 1) hl   hV hWd hS9 hLp hDu (by omega)) (fun _ => ?_)
            refine T_nmH (W := fun x9 => mdW w b c x9) (v := k_goes c q50) (fun q59 hq59 => ?_)
            refine T_aload_n (am_dec tX12_led_0 36 rfl) rfl ?_
            refine T_getfield 11 39 (am_dec tX12_led_0 37 rfl) flX12_97_11 (md_obj hl) rfl ?_
            refine T_iload_n (am_dec tX12_led_0 38 rfl) rfl ?_
            refine T_aaloadR (r := b + (243 + k.toNat)) (am_dec tX12_led_0 39 rfl) (by decide) (mh_burned hl) (by omega) (by omega) (if_pos (by omega)) ?_
            refine T_iload_n (am_dec tX12_led_1 0 rfl) rfl ?_
            refine T_iconst 1 (am_dec tX12_led_1 1 rfl) rfl ⟨by decide, by decide⟩ ?_
            refine T_iadd (t + 1) (am_dec tX12_led_1 2 rfl) rfl ⟨by omega, by omega⟩ ?_
            refine T_ialoadE (x := q59 (243 + k.toNat) ((t + 1).toNat)) (am_dec tX12_led_1 3 rfl) (mr_burned hl (i := k) (by omega) (by omega)) (by omega) (by omega) rfl ?_
            exact T_ireturn (am_dec tX12_led_1 4 rfl) rfl (am_tr (fun x9 => Q (.inl (some (aI (x9.1)))) (mdW w b c x9.2)) (y := ((q59 (243 + k.toNat) ((t + 1).toNat)), q59)) (show (k_led c q k t) = ((q59 (243 + k.toNat) ((t + 1).toNat)), q59) from (by have s9 := hz16.symm; subst s9; have s9 := ht19.symm; subst s9; have s9 := hq29.symm; subst s9; have s9 := hz29.symm; subst s9; have s9 := hz37.symm; subst s9; have s9 := ht40.symm; subst s9; have s9 := hq50.symm; subst s9; have s9 := hz50.symm; subst s9; have s9 := hq59.symm; subst s9; exact ((if_pos h32).trans (if_pos h53)))) hQ)
          · refine T_iconst 0 (am_dec tX12_led_0 32 rfl) rfl ⟨by decide, by decide⟩ ?_
            exact T_ireturn (am_dec tX12_led_0 33 rfl) rfl (am_tr (fun x9 => Q (.inl (some (aI (x9.1)))) (mdW w b c x9.2)) (y := (0, q50)) (show (k_led c q k t) = (0, q50) from (by have s9 := hz16.symm; subst s9; have s9 := ht19.symm; subst s9; have s9 := hq29.symm; subst s9; have s9 := hz29.symm; subst s9; have s9 := hz37.symm; subst s9; have s9 := ht40.symm; subst s9; have s9 := hq50.symm; subst s9; have s9 := hz50.symm; subst s9; exact ((if_pos h32).trans (if_neg h53)))) hQ)
        refine T_if_ne 47 (am_dec tX12_led_0 24 rfl) rfl (fun h40 => ?_) (fun h40 => ?_)
        · refine T_iconst 0 (am_dec tX12_led_0 27 rfl) rfl ⟨by decide, by decide⟩ ?_
          exact K40 _ (if_neg h40).symm
        · refine T_iconst 1 (am_dec tX12_led_0 25 rfl) rfl ⟨by decide, by decide⟩ ?_
          refine T_goto 48 (am_dec tX12_led_0 26 rfl) rfl ?_
          exact K40 _ (if_pos h40).symm
    refine T_if_ne 26 (am_dec tX12_led_0 13 rfl) rfl (fun h19 => ?_) (fun h19 => ?_)
    · refine T_iconst 0 (am_dec tX12_led_0 16 rfl) rfl ⟨by decide, by decide⟩ ?_
      exact K19 _ (if_neg h19).symm
    · refine T_iconst 1 (am_dec tX12_led_0 14 rfl) rfl ⟨by decide, by decide⟩ ?_
      refine T_goto 27 (am_dec tX12_led_0 15 rfl) rfl ?_
      exact K19 _ (if_pos h19).symm
  exact key _ ⟨rfl, rfl⟩
def g_k_whose_42 (q : am_F) (x : Int) (y : Int) (i : Int) (x9 : Int × Int) : Int × Int := let bst := x9.1; let most := x9.2; (let bst_68 : Int := (if most < q (251 + i.toNat) ((x + (9 * y)).toNat) then i else bst); (let most_68 : Int := (if most < q (251 + i.toNat) ((x + (9 * y)).toNat) then q (251 + i.toNat) ((x + (9 * y)).toNat) else most); (bst_68, most_68)))
theorem L_k_whose_42 {S : am_S} {d u : Nat} {Q : AO → AH → Prop} {w : AH} {b : Nat} (hl : b + 735 ≤ w.length) (c : am_F) (q : am_F) (x : Int) (y : Int) (hV : MdV c) (hWd : MdWd c) (hS9 : MdS c) (hLp : MdLp c) (hDu : MdDu c) (lxy : (0 ≤ x ∧ x < c 4 0) ∧ 0 ≤ y ∧ y < c 4 1) (hd : 5 ≤ d) (B9 : Int) (hB : B9 = c 4 2) : ∀ (n : Nat) (i : Int) (bst : Int) (most : Int), i + n = B9 → 0 ≤ i → (∀ (bst' : Int) (most' : Int), bst' = (am_fold (g_k_whose_42 q x y) i n (bst, most)).1 → most' = (am_fold (g_k_whose_42 q x y) i n (bst, most)).2 → am_T S zX12_whose d u Q 98 [none, none, none, some (aI bst'), none, none] [] (mdW w b c q)) → am_T S zX12_whose d u Q 42 [some (aR b), some (aI x), some (aI y), some (aI bst), some (aI most), some (aI i)] [] (mdW w b c q) := by
  intro n
  induction n with
  | zero =>
    intro i bst most hi9 h0i k9
    have e9 : i = B9 := by omega
    subst e9
    obtain ⟨vl0, vu0⟩ := MdV_0 hV
    obtain ⟨vl1, vu1⟩ := MdV_1 hV
    obtain ⟨vl2, vu2⟩ := MdV_2 hV
    refine T_iload (am_dec tX12_whose_0 26 rfl) rfl ?_
    refine T_aload_n (am_dec tX12_whose_0 27 rfl) rfl ?_
    refine T_getfield 11 11 (am_dec tX12_whose_0 28 rfl) flX12_23_11 (md_obj hl) rfl ?_
    refine T_iconst 2 (am_dec tX12_whose_0 29 rfl) rfl ⟨by decide, by decide⟩ ?_
    refine T_ialoadE (x := c 4 2) (am_dec tX12_whose_0 30 rfl) (md_told hl) (by omega) (by omega) rfl ?_
    refine T_icmp_ge 98 (am_dec tX12_whose_0 31 rfl) rfl (fun h50 => ?_) (fun h50 => by exfalso; omega)
    refine T_weak (ls' := [none, none, none, some (aI bst), none, none]) (am_sub_n (am_sub_n (am_sub_n (am_sub_s (am_sub_n (am_sub_n am_sub_nil)))))) ?_
    exact k9 bst most rfl rfl
  | succ n ih =>
    intro i bst most hi9 h0i k9
    obtain ⟨vl0, vu0⟩ := MdV_0 hV
    obtain ⟨vl1, vu1⟩ := MdV_1 hV
    obtain ⟨vl2, vu2⟩ := MdV_2 hV
    refine T_iload (am_dec tX12_whose_0 26 rfl) rfl ?_
    refine T_aload_n (am_dec tX12_whose_0 27 rfl) rfl ?_
    refine T_getfield 11 11 (am_dec tX12_whose_0 28 rfl) flX12_23_11 (md_obj hl) rfl ?_
    refine T_iconst 2 (am_dec tX12_whose_0 29 rfl) rfl ⟨by decide, by decide⟩ ?_
    refine T_ialoadE (x := c 4 2) (am_dec tX12_whose_0 30 rfl) (md_told hl) (by omega) (by omega) rfl ?_
    refine T_icmp_ge 98 (am_dec tX12_whose_0 31 rfl) rfl (fun h50 => by exfalso; omega) (fun h50 => ?_)
    refine T_aload_n (am_dec tX12_whose_0 32 rfl) rfl ?_
    refine T_getfield 11 40 (am_dec tX12_whose_0 33 rfl) flX12_100_11 (md_obj hl) rfl ?_
    refine T_iload (am_dec tX12_whose_0 34 rfl) rfl ?_
    refine T_aaloadR (r := b + (251 + i.toNat)) (am_dec tX12_whose_0 35 rfl) (by decide) (mh_burnedOn hl) (by omega) (by omega) (if_pos (by omega)) ?_
    refine T_iload_n (am_dec tX12_whose_0 36 rfl) rfl ?_
    refine T_iload_n (am_dec tX12_whose_0 37 rfl) rfl ?_
    refine T_callS (as := [aI x, aI y]) rfl (am_dec tX12_whose_0 38 rfl) lkX12_317 rfl (Nat.le_of_ble_eq_true rfl) (by omega) (mk_cell' (d := d - 1) x y (by omega)) (fun _ => ?_)
    refine T_ialoadE (x := q (251 + i.toNat) ((x + (9 * y)).toNat)) (am_dec tX12_whose_0 39 rfl) (mr_burnedOn hl (i := i) (by omega) (by omega)) (by omega) (by omega) rfl ?_
    refine T_iload (am_dec tX12_whose_1 0 rfl) rfl ?_
    have K68 : ∀ (bst_68 : Int), ∀ (most_68 : Int), bst_68 = (if most < q (251 + i.toNat) ((x + (9 * y)).toNat) then i else bst) → most_68 = (if most < q (251 + i.toNat) ((x + (9 * y)).toNat) then q (251 + i.toNat) ((x + (9 * y)).toNat) else most) →  am_T S zX12_whose d u Q 92 [some (aR b), some (aI x), some (aI y), some (aI bst_68), some (aI most_68), some (aI i)] [] (mdW w b c q) := by
      intro bst_68 most_68 hbst_68 hmost_68
      refine T_iinc (ls' := [some (aR b), some (aI x), some (aI y), some (aI bst_68), some (aI most_68), some (aI (i + 1))]) (i + 1) (am_dec tX12_whose_1 14 rfl) rfl rfl ⟨by omega, by omega⟩ (by decide) rfl ?_
      refine T_goto 42 (am_dec tX12_whose_1 15 rfl) rfl ?_
      have e9 : (g_k_whose_42 q x y) i (bst, most) = (bst_68, most_68) := (by have s9 := hbst_68.symm; subst s9; have s9 := hmost_68.symm; subst s9; exact rfl)
      simp only [am_fold_s, e9] at k9
      exact ih (i + 1) bst_68 most_68 (by omega) (by omega) k9
    refine T_icmp_gt 74 (am_dec tX12_whose_1 1 rfl) rfl (fun h68 => ?_) (fun h68 => ?_)
    · refine T_iload (am_dec tX12_whose_1 3 rfl) rfl ?_
      refine T_istore_n (ls' := [some (aR b), some (aI x), some (aI y), some (aI i), some (aI most), some (aI i)]) (am_dec tX12_whose_1 4 rfl) (by decide) rfl ?_
      refine T_aload_n (am_dec tX12_whose_1 5 rfl) rfl ?_
      refine T_getfield 11 40 (am_dec tX12_whose_1 6 rfl) flX12_100_11 (md_obj hl) rfl ?_
      refine T_iload (am_dec tX12_whose_1 7 rfl) rfl ?_
      refine T_aaloadR (r := b + (251 + i.toNat)) (am_dec tX12_whose_1 8 rfl) (by decide) (mh_burnedOn hl) (by omega) (by omega) (if_pos (by omega)) ?_
      refine T_iload_n (am_dec tX12_whose_1 9 rfl) rfl ?_
      refine T_iload_n (am_dec tX12_whose_1 10 rfl) rfl ?_
      refine T_callS (as := [aI x, aI y]) rfl (am_dec tX12_whose_1 11 rfl) lkX12_317 rfl (Nat.le_of_ble_eq_true rfl) (by omega) (mk_cell' (d := d - 1) x y (by omega)) (fun _ => ?_)
      refine T_ialoadE (x := q (251 + i.toNat) ((x + (9 * y)).toNat)) (am_dec tX12_whose_1 12 rfl) (mr_burnedOn hl (i := i) (by omega) (by omega)) (by omega) (by omega) rfl ?_
      refine T_nm (fun most_90 hmost_90 => ?_)
      refine T_istore (ls' := [some (aR b), some (aI x), some (aI y), some (aI i), some (aI most_90), some (aI i)]) (am_dec tX12_whose_1 13 rfl) (by decide) rfl ?_
      exact K68 _ _ (by have s9 := hmost_90.symm; subst s9; exact (if_pos h68).symm) (by have s9 := hmost_90.symm; subst s9; exact (if_pos h68).symm)
    · refine T_goto 92 (am_dec tX12_whose_1 2 rfl) rfl ?_
      exact K68 _ _ (if_neg h68).symm (if_neg h68).symm
def k_whose (c : am_F) (q : am_F) (x : Int) (y : Int) : Int × am_F := (let z9 : Int := (k_isIn c x y); (let t12 : Int := (if z9 = 0 then 1 else 0); (let q22 : am_F := (k_refuse (am_put q 0 0 0) t12 1 0); (let z22 : Int := (if t12 = 0 then 0 else 1); (if z22 = 0 then (let q31 : am_F := k_goes c q22; (let bst_42 : Int := (am_fold (g_k_whose_42 q31 x y) 0 (c 4 2).toNat ((-1), 0)).1; (bst_42, q31))) else (0, q22))))))
theorem mk_whose {S : am_S} {d u : Nat} {w : AH} {b : Nat} (hl : b + 735 ≤ w.length) {c : am_F} {q : am_F} (x : Int) (y : Int) (hV : MdV c) (hWd : MdWd c) (hS9 : MdS c) (hLp : MdLp c) (hDu : MdDu c) (hd : 5 ≤ d) : am_Out S zX12_whose d u [aR b, aI x, aI y] (mdW w b c q) (.inl (some (aI ((k_whose c q x y).1)))) (mdW w b c ((k_whose c q x y).2)) := by
  have key : ∀ Q : AO → AH → Prop, Q (.inl (some (aI ((k_whose c q x y).1)))) (mdW w b c ((k_whose c q x y).2)) → am_M S zX12_whose d u [aR b, aI x, aI y] (mdW w b c q) Q := by
    intro Q hQ
    refine am_body rfl (by decide +kernel) rfl (am_cats_cons rfl ( am_cats_cons rfl ( am_cats_cons rfl (am_cats_nil)))) (Nat.le_of_ble_eq_true rfl) (?_ : am_T _ _ _ _ _ 0 [some (aR b), some (aI x), some (aI y), none, none, none] [] (mdW w b c q))
    obtain ⟨vl0, vu0⟩ := MdV_0 hV
    obtain ⟨vl1, vu1⟩ := MdV_1 hV
    obtain ⟨vl2, vu2⟩ := MdV_2 hV
    refine T_aload_n (am_dec tX12_whose_0 0 rfl) rfl ?_
    refine T_iconst 0 (am_dec tX12_whose_0 1 rfl) rfl ⟨by decide, by decide⟩ ?_
    refine T_putfield (fs' := mdO b (c 0) (am_up (q 0) 0 0)) 11 0 (am_dec tX12_whose_0 2 rfl) flX12_160_11 rfl rfl rfl trivial (md_obj hl) (Nat.le_of_ble_eq_true rfl) rfl ?_
    refine am_wE (w2 := mdW w b c (am_put q 0 0 0)) (md_fq) ?_
    refine T_aload_n (am_dec tX12_whose_0 3 rfl) rfl ?_
    refine T_aload_n (am_dec tX12_whose_0 4 rfl) rfl ?_
    refine T_iload_n (am_dec tX12_whose_0 5 rfl) rfl ?_
    refine T_iload_n (am_dec tX12_whose_0 6 rfl) rfl ?_
    refine T_callV (as := [aI x, aI y]) rfl (am_dec tX12_whose_0 7 rfl) lkX12_320 (md_obj hl) rfl rfl (Nat.le_of_ble_eq_true rfl) (by omega) (mk_isIn (d := d - 1) hl x y  hV (by omega)) (fun _ => ?_)
    refine T_nm (fun z9 hz9 => ?_)
    have hb9 := k_isIn_b c x y
    rw [← hz9] at hb9
    have hs9 := k_isIn_s c x y
    rw [← hz9] at hs9
    have K12 : ∀ (t12 : Int), t12 = (if z9 = 0 then 1 else 0) →  am_T S zX12_whose d u Q 20 [some (aR b), some (aI x), some (aI y), none, none, none] [aI t12, aR b] (mdW w b c (am_put q 0 0 0)) := by
      intro t12 ht12
      have hbt12 : t12 = 0 ∨ t12 = 1 := by
        rw [ht12]
        try dsimp only
        repeat' split
        all_goals first | exact Or.inl rfl | exact Or.inr rfl | apply k_in_b | apply k_isDigit_b | apply k_isSmall_b | apply k_bad_b | apply k_isIn_b | apply k_isStep_b | apply k_isFirst_b | apply k_isLine_b | apply k_seesBy_b | apply k_isWalker_b | omega
      refine T_iconst 1 (am_dec tX12_whose_0 12 rfl) rfl ⟨by decide, by decide⟩ ?_
      refine T_iconst 0 (am_dec tX12_whose_0 13 rfl) rfl ⟨by decide, by decide⟩ ?_
      refine T_callV (as := [aI t12, aI 1, aI 0]) rfl (am_dec tX12_whose_0 14 rfl) lkX12_275 (md_obj hl) rfl rfl (Nat.le_of_ble_eq_true rfl) (by omega) (mk_bad0 (d := d - 1) hl t12 1 0 (by omega) am_put_s (by omega)) (fun _ => ?_)
      refine T_nmH (W := fun x9 => mdW w b c x9) (v := (k_refuse (am_put q 0 0 0) t12 1 0)) (fun q22 hq22 => ?_)
      refine T_nm (fun z22 hz22 => ?_)
      have hq022 : t12 = 0 → q22 0 0 = 0 := fun h9 => by rw [hq22]; exact k_refuse_0 am_put_s h9
      refine T_if_eq 30 (am_dec tX12_whose_0 15 rfl) rfl (fun h25 => ?_) (fun h25 => ?_)
      · refine T_aload_n (am_dec tX12_whose_0 18 rfl) rfl ?_
        refine T_callV (as := []) rfl (am_dec tX12_whose_0 19 rfl) lkX12_345 (md_obj hl) rfl rfl (Nat.le_of_ble_eq_true rfl) (by omega) (mk_goes (d := d - 1) hl   hV hWd hS9 hLp hDu (by omega)) (fun _ => ?_)
        refine T_nmH (W := fun x9 => mdW w b c x9) (v := k_goes c q22) (fun q31 hq31 => ?_)
        refine T_iconst (-1) (am_dec tX12_whose_0 20 rfl) rfl ⟨by decide, by decide⟩ ?_
        refine T_istore_n (ls' := [some (aR b), some (aI x), some (aI y), some (aI (-1)), none, none]) (am_dec tX12_whose_0 21 rfl) (by decide) rfl ?_
        refine T_iconst 0 (am_dec tX12_whose_0 22 rfl) rfl ⟨by decide, by decide⟩ ?_
        refine T_istore (ls' := [some (aR b), some (aI x), some (aI y), some (aI (-1)), some (aI 0), none]) (am_dec tX12_whose_0 23 rfl) (by decide) rfl ?_
        refine T_iconst 0 (am_dec tX12_whose_0 24 rfl) rfl ⟨by decide, by decide⟩ ?_
        refine T_istore (ls' := [some (aR b), some (aI x), some (aI y), some (aI (-1)), some (aI 0), some (aI 0)]) (am_dec tX12_whose_0 25 rfl) (by decide) rfl ?_
        refine L_k_whose_42 hl c q31 x y hV hWd hS9 hLp hDu (by omega) (by omega) _ rfl (c 4 2).toNat 0 (-1) 0 (by omega) (by omega) (fun bst_42 most_42 hbst_42 hmost_42 => ?_)
        refine T_iload_n (am_dec tX12_whose_1 16 rfl) rfl ?_
        exact T_ireturn (am_dec tX12_whose_1 17 rfl) rfl (am_tr (fun x9 => Q (.inl (some (aI (x9.1)))) (mdW w b c x9.2)) (y := (bst_42, q31)) (show (k_whose c q x y) = (bst_42, q31) from (by have s9 := hz9.symm; subst s9; have s9 := ht12.symm; subst s9; have s9 := hq22.symm; subst s9; have s9 := hz22.symm; subst s9; have s9 := hq31.symm; subst s9; have s9 := hbst_42.symm; subst s9; have s9 := hmost_42.symm; subst s9; exact (if_pos h25))) hQ)
      · refine T_iconst 0 (am_dec tX12_whose_0 16 rfl) rfl ⟨by decide, by decide⟩ ?_
        exact T_ireturn (am_dec tX12_whose_0 17 rfl) rfl (am_tr (fun x9 => Q (.inl (some (aI (x9.1)))) (mdW w b c x9.2)) (y := (0, q22)) (show (k_whose c q x y) = (0, q22) from (by have s9 := hz9.symm; subst s9; have s9 := ht12.symm; subst s9; have s9 := hq22.symm; subst s9; have s9 := hz22.symm; subst s9; exact (if_neg h25))) hQ)
    refine T_if_ne 19 (am_dec tX12_whose_0 8 rfl) rfl (fun h12 => ?_) (fun h12 => ?_)
    · refine T_iconst 0 (am_dec tX12_whose_0 11 rfl) rfl ⟨by decide, by decide⟩ ?_
      exact K12 _ (if_neg h12).symm
    · refine T_iconst 1 (am_dec tX12_whose_0 9 rfl) rfl ⟨by decide, by decide⟩ ?_
      refine T_goto 20 (am_dec tX12_whose_0 10 rfl) rfl ?_
      exact K12 _ (if_pos h12).symm
  exact key _ ⟨rfl, rfl⟩
def k_line (c : am_F) (q : am_F) (x : Int) (y : Int) (xa : Int) (ya : Int) (t : Int) : Int × am_F := (let z9 : Int := (k_isIn c x y); (let t12 : Int := (if z9 = 0 then 1 else (let z19 : Int := (k_isIn c xa ya); (if z19 = 0 then 1 else 0))); (let q32 : am_F := (k_refuse (am_put q 0 0 0) t12 1 0); (let z32 : Int := (if t12 = 0 then 0 else 1); (if z32 = 0 then (let z41 : Int := (k_isStep t); (let t44 : Int := (if z41 = 0 then 1 else 0); (let q54 : am_F := (k_refuse q32 t44 2 2); (let z54 : Int := (if t44 = 0 then 0 else 1); (if z54 = 0 then (let q63 : am_F := k_goes c q54; (let n74 : Int := (k_lineOf q63 x y xa ya t); (n74, q63))) else (0, q54)))))) else (0, q32))))))
theorem mk_line {S : am_S} {d u : Nat} {w : AH} {b : Nat} (hl : b + 735 ≤ w.length) {c : am_F} {q : am_F} (x : Int) (y : Int) (xa : Int) (ya : Int) (t : Int) (hV : MdV c) (hWd : MdWd c) (hS9 : MdS c) (hLp : MdLp c) (hDu : MdDu c) (hd : 5 ≤ d) : am_Out S zX12_line d u [aR b, aI x, aI y, aI xa, aI ya, aI t] (mdW w b c q) (.inl (some (aI ((k_line c q x y xa ya t).1)))) (mdW w b c ((k_line c q x y xa ya t).2)) := by
  have key : ∀ Q : AO → AH → Prop, Q (.inl (some (aI ((k_line c q x y xa ya t).1)))) (mdW w b c ((k_line c q x y xa ya t).2)) → am_M S zX12_line d u [aR b, aI x, aI y, aI xa, aI ya, aI t] (mdW w b c q) Q := by
    intro Q hQ
    refine am_body rfl (by decide +kernel) rfl (am_cats_cons rfl ( am_cats_cons rfl ( am_cats_cons rfl ( am_cats_cons rfl ( am_cats_cons rfl ( am_cats_cons rfl (am_cats_nil))))))) (Nat.le_of_ble_eq_true rfl) (?_ : am_T _ _ _ _ _ 0 [some (aR b), some (aI x), some (aI y), some (aI xa), some (aI ya), some (aI t)] [] (mdW w b c q))
    obtain ⟨vl0, vu0⟩ := MdV_0 hV
    obtain ⟨vl1, vu1⟩ := MdV_1 hV
    refine T_aload_n (am_dec tX12_line_0 0 rfl) rfl ?_
    refine T_iconst 0 (am_dec tX12_line_0 1 rfl) rfl ⟨by decide, by decide⟩ ?_
    refine T_putfield (fs' := mdO b (c 0) (am_up (q 0) 0 0)) 11 0 (am_dec tX12_line_0 2 rfl) flX12_160_11 rfl rfl rfl trivial (md_obj hl) (Nat.le_of_ble_eq_true rfl) rfl ?_
    refine am_wE (w2 := mdW w b c (am_put q 0 0 0)) (md_fq) ?_
    refine T_aload_n (am_dec tX12_line_0 3 rfl) rfl ?_
    refine T_aload_n (am_dec tX12_line_0 4 rfl) rfl ?_
    refine T_iload_n (am_dec tX12_line_0 5 rfl) rfl ?_
    refine T_iload_n (am_dec tX12_line_0 6 rfl) rfl ?_
    refine T_callV (as := [aI x, aI y]) rfl (am_dec tX12_line_0 7 rfl) lkX12_320 (md_obj hl) rfl rfl (Nat.le_of_ble_eq_true rfl) (by omega) (mk_isIn (d := d - 1) hl x y  hV (by omega)) (fun _ => ?_)
    refine T_nm (fun z9 hz9 => ?_)
    have hb9 := k_isIn_b c x y
    rw [← hz9] at hb9
    have hs9 := k_isIn_s c x y
    rw [← hz9] at hs9
    have K12 : ∀ (t12 : Int), t12 = (if z9 = 0 then 1 else (let z19 : Int := (k_isIn c xa ya); (if z19 = 0 then 1 else 0))) →  am_T S zX12_line d u Q 30 [some (aR b), some (aI x), some (aI y), some (aI xa), some (aI ya), some (aI t)] [aI t12, aR b] (mdW w b c (am_put q 0 0 0)) := by
      intro t12 ht12
      have hxt12 := ht12
      dsimp only at hxt12
      have hy2 := k_isIn_s c xa ya
      have hbt12 : t12 = 0 ∨ t12 = 1 := by
        rw [ht12]
        try dsimp only
        repeat' split
        all_goals first | exact Or.inl rfl | exact Or.inr rfl | apply k_in_b | apply k_isDigit_b | apply k_isSmall_b | apply k_bad_b | apply k_isIn_b | apply k_isStep_b | apply k_isFirst_b | apply k_isLine_b | apply k_seesBy_b | apply k_isWalker_b | omega
      refine T_iconst 1 (am_dec tX12_line_0 17 rfl) rfl ⟨by decide, by decide⟩ ?_
      refine T_iconst 0 (am_dec tX12_line_0 18 rfl) rfl ⟨by decide, by decide⟩ ?_
      refine T_callV (as := [aI t12, aI 1, aI 0]) rfl (am_dec tX12_line_0 19 rfl) lkX12_275 (md_obj hl) rfl rfl (Nat.le_of_ble_eq_true rfl) (by omega) (mk_bad0 (d := d - 1) hl t12 1 0 (by omega) am_put_s (by omega)) (fun _ => ?_)
      refine T_nmH (W := fun x9 => mdW w b c x9) (v := (k_refuse (am_put q 0 0 0) t12 1 0)) (fun q32 hq32 => ?_)
      refine T_nm (fun z32 hz32 => ?_)
      have hq032 : t12 = 0 → q32 0 0 = 0 := fun h9 => by rw [hq32]; exact k_refuse_0 am_put_s h9
      refine T_if_ne 60 (am_dec tX12_line_0 20 rfl) rfl (fun h35 => ?_) (fun h35 => ?_)
      · refine T_iconst 0 (am_dec tX12_line_0 32 rfl) rfl ⟨by decide, by decide⟩ ?_
        exact T_ireturn (am_dec tX12_line_0 33 rfl) rfl (am_tr (fun x9 => Q (.inl (some (aI (x9.1)))) (mdW w b c x9.2)) (y := (0, q32)) (show (k_line c q x y xa ya t) = (0, q32) from (by have s9 := hz9.symm; subst s9; have s9 := ht12.symm; subst s9; have s9 := hq32.symm; subst s9; have s9 := hz32.symm; subst s9; exact (if_neg h35))) hQ)
      · refine T_aload_n (am_dec tX12_line_0 21 rfl) rfl ?_
        refine T_iload (am_dec tX12_line_0 22 rfl) rfl ?_
        refine T_callS (as := [aI t]) rfl (am_dec tX12_line_0 23 rfl) lkX12_351 rfl (Nat.le_of_ble_eq_true rfl) (by omega) (mk_isStep (d := d - 1)  t   (by omega)) (fun _ => ?_)
        refine T_nm (fun z41 hz41 => ?_)
        have hb41 := k_isStep_b t
        rw [← hz41] at hb41
        have hs41 := k_isStep_s t
        rw [← hz41] at hs41
        have K44 : ∀ (t44 : Int), t44 = (if z41 = 0 then 1 else 0) →  am_T S zX12_line d u Q 52 [some (aR b), some (aI x), some (aI y), some (aI xa), some (aI ya), some (aI t)] [aI t44, aR b] (mdW w b c q32) := by
          intro t44 ht44
          have hbt44 : t44 = 0 ∨ t44 = 1 := by
            rw [ht44]
            try dsimp only
            repeat' split
            all_goals first | exact Or.inl rfl | exact Or.inr rfl | apply k_in_b | apply k_isDigit_b | apply k_isSmall_b | apply k_bad_b | apply k_isIn_b | apply k_isStep_b | apply k_isFirst_b | apply k_isLine_b | apply k_seesBy_b | apply k_isWalker_b | omega
          refine T_iconst 2 (am_dec tX12_line_0 28 rfl) rfl ⟨by decide, by decide⟩ ?_
          refine T_iconst 2 (am_dec tX12_line_0 29 rfl) rfl ⟨by decide, by decide⟩ ?_
          refine T_callV (as := [aI t44, aI 2, aI 2]) rfl (am_dec tX12_line_0 30 rfl) lkX12_275 (md_obj hl) rfl rfl (Nat.le_of_ble_eq_true rfl) (by omega) (mk_bad0 (d := d - 1) hl t44 2 2 (by omega) (hq032 (by omega)) (by omega)) (fun _ => ?_)
          refine T_nmH (W := fun x9 => mdW w b c x9) (v := (k_refuse q32 t44 2 2)) (fun q54 hq54 => ?_)
          refine T_nm (fun z54 hz54 => ?_)
          have hq054 : t44 = 0 → q54 0 0 = 0 := fun h9 => by rw [hq54]; exact k_refuse_0 (hq032 (by omega)) h9
          refine T_if_eq 62 (am_dec tX12_line_0 31 rfl) rfl (fun h57 => ?_) (fun h57 => ?_)
          · refine T_aload_n (am_dec tX12_line_0 34 rfl) rfl ?_
            refine T_callV (as := []) rfl (am_dec tX12_line_0 35 rfl) lkX12_345 (md_obj hl) rfl rfl (Nat.le_of_ble_eq_true rfl) (by omega) (mk_goes (d := d - 1) hl   hV hWd hS9 hLp hDu (by omega)) (fun _ => ?_)
            refine T_nmH (W := fun x9 => mdW w b c x9) (v := k_goes c q54) (fun q63 hq63 => ?_)
            refine T_aload_n (am_dec tX12_line_0 36 rfl) rfl ?_
            refine T_iload_n (am_dec tX12_line_0 37 rfl) rfl ?_
            refine T_iload_n (am_dec tX12_line_0 38 rfl) rfl ?_
            refine T_iload_n (am_dec tX12_line_0 39 rfl) rfl ?_
            refine T_iload (am_dec tX12_line_1 0 rfl) rfl ?_
            refine T_iload (am_dec tX12_line_1 1 rfl) rfl ?_
            refine T_callV (as := [aI x, aI y, aI xa, aI ya, aI t]) rfl (am_dec tX12_line_1 2 rfl) lkX12_361 (md_obj hl) rfl rfl (Nat.le_of_ble_eq_true rfl) (by omega) (mk_lineOf (d := d - 1) hl x y xa ya t  (by omega) (by omega) (by omega)) (fun _ => ?_)
            refine T_nm (fun n74 hn74 => ?_)
            exact T_ireturn (am_dec tX12_line_1 3 rfl) rfl (am_tr (fun x9 => Q (.inl (some (aI (x9.1)))) (mdW w b c x9.2)) (y := (n74, q63)) (show (k_line c q x y xa ya t) = (n74, q63) from (by have s9 := hz9.symm; subst s9; have s9 := ht12.symm; subst s9; have s9 := hq32.symm; subst s9; have s9 := hz32.symm; subst s9; have s9 := hz41.symm; subst s9; have s9 := ht44.symm; subst s9; have s9 := hq54.symm; subst s9; have s9 := hz54.symm; subst s9; have s9 := hq63.symm; subst s9; have s9 := hn74.symm; subst s9; exact ((if_pos h35).trans (if_pos h57)))) hQ)
          · refine T_iconst 0 (am_dec tX12_line_0 32 rfl) rfl ⟨by decide, by decide⟩ ?_
            exact T_ireturn (am_dec tX12_line_0 33 rfl) rfl (am_tr (fun x9 => Q (.inl (some (aI (x9.1)))) (mdW w b c x9.2)) (y := (0, q54)) (show (k_line c q x y xa ya t) = (0, q54) from (by have s9 := hz9.symm; subst s9; have s9 := ht12.symm; subst s9; have s9 := hq32.symm; subst s9; have s9 := hz32.symm; subst s9; have s9 := hz41.symm; subst s9; have s9 := ht44.symm; subst s9; have s9 := hq54.symm; subst s9; have s9 := hz54.symm; subst s9; exact ((if_pos h35).trans (if_neg h57)))) hQ)
        refine T_if_ne 51 (am_dec tX12_line_0 24 rfl) rfl (fun h44 => ?_) (fun h44 => ?_)
        · refine T_iconst 0 (am_dec tX12_line_0 27 rfl) rfl ⟨by decide, by decide⟩ ?_
          exact K44 _ (if_neg h44).symm
        · refine T_iconst 1 (am_dec tX12_line_0 25 rfl) rfl ⟨by decide, by decide⟩ ?_
          refine T_goto 52 (am_dec tX12_line_0 26 rfl) rfl ?_
          exact K44 _ (if_pos h44).symm
    refine T_if_eq 25 (am_dec tX12_line_0 8 rfl) rfl (fun h12 => ?_) (fun h12 => ?_)
    · refine T_iconst 1 (am_dec tX12_line_0 14 rfl) rfl ⟨by decide, by decide⟩ ?_
      refine T_goto 30 (am_dec tX12_line_0 15 rfl) rfl ?_
      exact K12 _ (if_pos h12).symm
    · refine T_aload_n (am_dec tX12_line_0 9 rfl) rfl ?_
      refine T_iload_n (am_dec tX12_line_0 10 rfl) rfl ?_
      refine T_iload (am_dec tX12_line_0 11 rfl) rfl ?_
      refine T_callV (as := [aI xa, aI ya]) rfl (am_dec tX12_line_0 12 rfl) lkX12_320 (md_obj hl) rfl rfl (Nat.le_of_ble_eq_true rfl) (by omega) (mk_isIn (d := d - 1) hl xa ya  hV (by omega)) (fun _ => ?_)
      refine T_nm (fun z19 hz19 => ?_)
      have hb19 := k_isIn_b c xa ya
      rw [← hz19] at hb19
      have hs19 := k_isIn_s c xa ya
      rw [← hz19] at hs19
      have K22 : ∀ (t22 : Int), t22 = (if z19 = 0 then 1 else 0) →  am_T S zX12_line d u Q 30 [some (aR b), some (aI x), some (aI y), some (aI xa), some (aI ya), some (aI t)] [aI t22, aR b] (mdW w b c (am_put q 0 0 0)) := by
        intro t22 ht22
        have hbt22 : t22 = 0 ∨ t22 = 1 := by
          rw [ht22]
          try dsimp only
          repeat' split
          all_goals first | exact Or.inl rfl | exact Or.inr rfl | apply k_in_b | apply k_isDigit_b | apply k_isSmall_b | apply k_bad_b | apply k_isIn_b | apply k_isStep_b | apply k_isFirst_b | apply k_isLine_b | apply k_seesBy_b | apply k_isWalker_b | omega
        exact K12 _ (by have s9 := hz19.symm; subst s9; have s9 := ht22.symm; subst s9; exact (if_neg h12).symm)
      refine T_if_ne 29 (am_dec tX12_line_0 13 rfl) rfl (fun h22 => ?_) (fun h22 => ?_)
      · refine T_iconst 0 (am_dec tX12_line_0 16 rfl) rfl ⟨by decide, by decide⟩ ?_
        exact K22 _ (if_neg h22).symm
      · refine T_iconst 1 (am_dec tX12_line_0 14 rfl) rfl ⟨by decide, by decide⟩ ?_
        refine T_goto 30 (am_dec tX12_line_0 15 rfl) rfl ?_
        exact K22 _ (if_pos h22).symm
  exact key _ ⟨rfl, rfl⟩
def k_where (c : am_F) (q : am_F) (wk : Int) (t : Int) : Int × am_F := (let z8 : Int := (k_isWalker c wk); (let t11 : Int := (if z8 = 0 then 1 else 0); (let q21 : am_F := (k_refuse (am_put q 0 0 0) t11 1 1); (let z21 : Int := (if t11 = 0 then 0 else 1); (if z21 = 0 then (let z29 : Int := (k_isStep t); (let t32 : Int := (if z29 = 0 then 1 else 0); (let q42 : am_F := (k_refuse q21 t32 2 2); (let z42 : Int := (if t32 = 0 then 0 else 1); (if z42 = 0 then (let n53 : Int := (k_placeOf c wk t); ((k_told10 n53), q42)) else (0, q42)))))) else (0, q21))))))
theorem mk_where {S : am_S} {d u : Nat} {w : AH} {b : Nat} (hl : b + 735 ≤ w.length) {c : am_F} {q : am_F} (wk : Int) (t : Int) (hV : MdV c) (hK9 : MdK c) (hPl : MdPl c) (hd : 2 ≤ d) : am_Out S zX12_where d u [aR b, aI wk, aI t] (mdW w b c q) (.inl (some (aI ((k_where c q wk t).1)))) (mdW w b c ((k_where c q wk t).2)) := by
  have key : ∀ Q : AO → AH → Prop, Q (.inl (some (aI ((k_where c q wk t).1)))) (mdW w b c ((k_where c q wk t).2)) → am_M S zX12_where d u [aR b, aI wk, aI t] (mdW w b c q) Q := by
    intro Q hQ
    refine am_body rfl (by decide +kernel) rfl (am_cats_cons rfl ( am_cats_cons rfl ( am_cats_cons rfl (am_cats_nil)))) (Nat.le_of_ble_eq_true rfl) (?_ : am_T _ _ _ _ _ 0 [some (aR b), some (aI wk), some (aI t)] [] (mdW w b c q))
    obtain ⟨vl0, vu0⟩ := MdV_0 hV
    obtain ⟨vl1, vu1⟩ := MdV_1 hV
    refine T_aload_n (am_dec tX12_where_0 0 rfl) rfl ?_
    refine T_iconst 0 (am_dec tX12_where_0 1 rfl) rfl ⟨by decide, by decide⟩ ?_
    refine T_putfield (fs' := mdO b (c 0) (am_up (q 0) 0 0)) 11 0 (am_dec tX12_where_0 2 rfl) flX12_160_11 rfl rfl rfl trivial (md_obj hl) (Nat.le_of_ble_eq_true rfl) rfl ?_
    refine am_wE (w2 := mdW w b c (am_put q 0 0 0)) (md_fq) ?_
    refine T_aload_n (am_dec tX12_where_0 3 rfl) rfl ?_
    refine T_aload_n (am_dec tX12_where_0 4 rfl) rfl ?_
    refine T_iload_n (am_dec tX12_where_0 5 rfl) rfl ?_
    refine T_callV (as := [aI wk]) rfl (am_dec tX12_where_0 6 rfl) lkX12_365 (md_obj hl) rfl rfl (Nat.le_of_ble_eq_true rfl) (by omega) (mk_isWalker (d := d - 1) hl wk  hV (by omega)) (fun _ => ?_)
    refine T_nm (fun z8 hz8 => ?_)
    have hb8 := k_isWalker_b c wk
    rw [← hz8] at hb8
    have hs8 := k_isWalker_s c wk
    rw [← hz8] at hs8
    have K11 : ∀ (t11 : Int), t11 = (if z8 = 0 then 1 else 0) →  am_T S zX12_where d u Q 19 [some (aR b), some (aI wk), some (aI t)] [aI t11, aR b] (mdW w b c (am_put q 0 0 0)) := by
      intro t11 ht11
      have hbt11 : t11 = 0 ∨ t11 = 1 := by
        rw [ht11]
        try dsimp only
        repeat' split
        all_goals first | exact Or.inl rfl | exact Or.inr rfl | apply k_in_b | apply k_isDigit_b | apply k_isSmall_b | apply k_bad_b | apply k_isIn_b | apply k_isStep_b | apply k_isFirst_b | apply k_isLine_b | apply k_seesBy_b | apply k_isWalker_b | omega
      refine T_iconst 1 (am_dec tX12_where_0 11 rfl) rfl ⟨by decide, by decide⟩ ?_
      refine T_iconst 1 (am_dec tX12_where_0 12 rfl) rfl ⟨by decide, by decide⟩ ?_
      refine T_callV (as := [aI t11, aI 1, aI 1]) rfl (am_dec tX12_where_0 13 rfl) lkX12_275 (md_obj hl) rfl rfl (Nat.le_of_ble_eq_true rfl) (by omega) (mk_bad0 (d := d - 1) hl t11 1 1 (by omega) am_put_s (by omega)) (fun _ => ?_)
      refine T_nmH (W := fun x9 => mdW w b c x9) (v := (k_refuse (am_put q 0 0 0) t11 1 1)) (fun q21 hq21 => ?_)
      refine T_nm (fun z21 hz21 => ?_)
      have hq021 : t11 = 0 → q21 0 0 = 0 := fun h9 => by rw [hq21]; exact k_refuse_0 am_put_s h9
      refine T_if_ne 48 (am_dec tX12_where_0 14 rfl) rfl (fun h24 => ?_) (fun h24 => ?_)
      · refine T_iconst 0 (am_dec tX12_where_0 26 rfl) rfl ⟨by decide, by decide⟩ ?_
        exact T_ireturn (am_dec tX12_where_0 27 rfl) rfl (am_tr (fun x9 => Q (.inl (some (aI (x9.1)))) (mdW w b c x9.2)) (y := (0, q21)) (show (k_where c q wk t) = (0, q21) from (by have s9 := hz8.symm; subst s9; have s9 := ht11.symm; subst s9; have s9 := hq21.symm; subst s9; have s9 := hz21.symm; subst s9; exact (if_neg h24))) hQ)
      · refine T_aload_n (am_dec tX12_where_0 15 rfl) rfl ?_
        refine T_iload_n (am_dec tX12_where_0 16 rfl) rfl ?_
        refine T_callS (as := [aI t]) rfl (am_dec tX12_where_0 17 rfl) lkX12_351 rfl (Nat.le_of_ble_eq_true rfl) (by omega) (mk_isStep (d := d - 1)  t   (by omega)) (fun _ => ?_)
        refine T_nm (fun z29 hz29 => ?_)
        have hb29 := k_isStep_b t
        rw [← hz29] at hb29
        have hs29 := k_isStep_s t
        rw [← hz29] at hs29
        have K32 : ∀ (t32 : Int), t32 = (if z29 = 0 then 1 else 0) →  am_T S zX12_where d u Q 40 [some (aR b), some (aI wk), some (aI t)] [aI t32, aR b] (mdW w b c q21) := by
          intro t32 ht32
          have hbt32 : t32 = 0 ∨ t32 = 1 := by
            rw [ht32]
            try dsimp only
            repeat' split
            all_goals first | exact Or.inl rfl | exact Or.inr rfl | apply k_in_b | apply k_isDigit_b | apply k_isSmall_b | apply k_bad_b | apply k_isIn_b | apply k_isStep_b | apply k_isFirst_b | apply k_isLine_b | apply k_seesBy_b | apply k_isWalker_b | omega
          refine T_iconst 2 (am_dec tX12_where_0 22 rfl) rfl ⟨by decide, by decide⟩ ?_
          refine T_iconst 2 (am_dec tX12_where_0 23 rfl) rfl ⟨by decide, by decide⟩ ?_
          refine T_callV (as := [aI t32, aI 2, aI 2]) rfl (am_dec tX12_where_0 24 rfl) lkX12_275 (md_obj hl) rfl rfl (Nat.le_of_ble_eq_true rfl) (by omega) (mk_bad0 (d := d - 1) hl t32 2 2 (by omega) (hq021 (by omega)) (by omega)) (fun _ => ?_)
          refine T_nmH (W := fun x9 => mdW w b c x9) (v := (k_refuse q21 t32 2 2)) (fun q42 hq42 => ?_)
          refine T_nm (fun z42 hz42 => ?_)
          have hq042 : t32 = 0 → q42 0 0 = 0 := fun h9 => by rw [hq42]; exact k_refuse_0 (hq021 (by omega)) h9
          refine T_if_eq 50 (am_dec tX12_where_0 25 rfl) rfl (fun h45 => ?_) (fun h45 => ?_)
          · refine T_aload_n (am_dec tX12_where_0 28 rfl) rfl ?_
            refine T_iload_n (am_dec tX12_where_0 29 rfl) rfl ?_
            refine T_iload_n (am_dec tX12_where_0 30 rfl) rfl ?_
            refine T_callV (as := [aI wk, aI t]) rfl (am_dec tX12_where_0 31 rfl) lkX12_368 (md_obj hl) rfl rfl (Nat.le_of_ble_eq_true rfl) (by omega) (mk_placeOf (d := d - 1) hl wk t  hV hK9 (by omega) (by omega) (by omega)) (fun _ => ?_)
            refine T_nm (fun n53 hn53 => ?_)
            have hs53 := hPl wk t (by omega) (by omega)
            rw [← hn53] at hs53
            refine T_callS (as := [aI n53]) rfl (am_dec tX12_where_0 32 rfl) lkX12_371 rfl (Nat.le_of_ble_eq_true rfl) (by omega) (mk_told10 (d := d - 1)  n53  (by omega) ) (fun _ => ?_)
            exact T_ireturn (am_dec tX12_where_0 33 rfl) rfl (am_tr (fun x9 => Q (.inl (some (aI (x9.1)))) (mdW w b c x9.2)) (y := ((k_told10 n53), q42)) (show (k_where c q wk t) = ((k_told10 n53), q42) from (by have s9 := hz8.symm; subst s9; have s9 := ht11.symm; subst s9; have s9 := hq21.symm; subst s9; have s9 := hz21.symm; subst s9; have s9 := hz29.symm; subst s9; have s9 := ht32.symm; subst s9; have s9 := hq42.symm; subst s9; have s9 := hz42.symm; subst s9; have s9 := hn53.symm; subst s9; exact ((if_pos h24).trans (if_pos h45)))) hQ)
          · refine T_iconst 0 (am_dec tX12_where_0 26 rfl) rfl ⟨by decide, by decide⟩ ?_
            exact T_ireturn (am_dec tX12_where_0 27 rfl) rfl (am_tr (fun x9 => Q (.inl (some (aI (x9.1)))) (mdW w b c x9.2)) (y := (0, q42)) (show (k_where c q wk t) = (0, q42) from (by have s9 := hz8.symm; subst s9; have s9 := ht11.symm; subst s9; have s9 := hq21.symm; subst s9; have s9 := hz21.symm; subst s9; have s9 := hz29.symm; subst s9; have s9 := ht32.symm; subst s9; have s9 := hq42.symm; subst s9; have s9 := hz42.symm; subst s9; exact ((if_pos h24).trans (if_neg h45)))) hQ)
        refine T_if_ne 39 (am_dec tX12_where_0 18 rfl) rfl (fun h32 => ?_) (fun h32 => ?_)
        · refine T_iconst 0 (am_dec tX12_where_0 21 rfl) rfl ⟨by decide, by decide⟩ ?_
          exact K32 _ (if_neg h32).symm
        · refine T_iconst 1 (am_dec tX12_where_0 19 rfl) rfl ⟨by decide, by decide⟩ ?_
          refine T_goto 40 (am_dec tX12_where_0 20 rfl) rfl ?_
          exact K32 _ (if_pos h32).symm
    refine T_if_ne 18 (am_dec tX12_where_0 7 rfl) rfl (fun h11 => ?_) (fun h11 => ?_)
    · refine T_iconst 0 (am_dec tX12_where_0 10 rfl) rfl ⟨by decide, by decide⟩ ?_
      exact K11 _ (if_neg h11).symm
    · refine T_iconst 1 (am_dec tX12_where_0 8 rfl) rfl ⟨by decide, by decide⟩ ?_
      refine T_goto 19 (am_dec tX12_where_0 9 rfl) rfl ?_
      exact K11 _ (if_pos h11).symm
  exact key _ ⟨rfl, rfl⟩
def k_seesOne (c : am_F) (q : am_F) (wk : Int) (uk : Int) (t : Int) : Int := (let n3 : Int := (k_placeOf c wk t); (let n11 : Int := (k_placeOf c uk t); (if n3 = (-1) then 0 else (if n11 = (-1) then 0 else (let z50 : Int := (k_seesBy c q (n3 % 9) (n3 / 9) (n11 % 9) (n11 / 9) t); (if z50 = 0 then 0 else 1))))))
theorem mk_seesOne {S : am_S} {d u : Nat} {w : AH} {b : Nat} (hl : b + 735 ≤ w.length) {c : am_F} {q : am_F} (wk : Int) (uk : Int) (t : Int) (hV : MdV c) (hK9 : MdK c) (hPl : MdPl c) (hwk : 0 ≤ wk ∧ wk < c 4 4) (hu : 0 ≤ uk ∧ uk < c 4 4) (ht : -1 ≤ t ∧ t < 40) (hd : 3 ≤ d) : am_Out S zX12_seesOne d u [aR b, aI wk, aI uk, aI t] (mdW w b c q) (.inl (some (aI (k_seesOne c q wk uk t)))) (mdW w b c q) := by
  have key : ∀ Q : AO → AH → Prop, Q (.inl (some (aI (k_seesOne c q wk uk t)))) (mdW w b c q) → am_M S zX12_seesOne d u [aR b, aI wk, aI uk, aI t] (mdW w b c q) Q := by
    intro Q hQ
    refine am_body rfl (by decide +kernel) rfl (am_cats_cons rfl ( am_cats_cons rfl ( am_cats_cons rfl ( am_cats_cons rfl (am_cats_nil))))) (Nat.le_of_ble_eq_true rfl) (?_ : am_T _ _ _ _ _ 0 [some (aR b), some (aI wk), some (aI uk), some (aI t), none, none] [] (mdW w b c q))
    obtain ⟨vl0, vu0⟩ := MdV_0 hV
    obtain ⟨vl1, vu1⟩ := MdV_1 hV
    obtain ⟨vl4, vu4⟩ := MdV_4 hV
    refine T_aload_n (am_dec tX12_seesOne_0 0 rfl) rfl ?_
    refine T_iload_n (am_dec tX12_seesOne_0 1 rfl) rfl ?_
    refine T_iload_n (am_dec tX12_seesOne_0 2 rfl) rfl ?_
    refine T_callV (as := [aI wk, aI t]) rfl (am_dec tX12_seesOne_0 3 rfl) lkX12_368 (md_obj hl) rfl rfl (Nat.le_of_ble_eq_true rfl) (by omega) (mk_placeOf (d := d - 1) hl wk t  hV hK9 (by omega) (by omega) (by omega)) (fun _ => ?_)
    refine T_nm (fun n3 hn3 => ?_)
    have hs3 := hPl wk t (by omega) (by omega)
    rw [← hn3] at hs3
    refine T_istore (ls' := [some (aR b), some (aI wk), some (aI uk), some (aI t), some (aI n3), none]) (am_dec tX12_seesOne_0 4 rfl) (by decide) rfl ?_
    refine T_aload_n (am_dec tX12_seesOne_0 5 rfl) rfl ?_
    refine T_iload_n (am_dec tX12_seesOne_0 6 rfl) rfl ?_
    refine T_iload_n (am_dec tX12_seesOne_0 7 rfl) rfl ?_
    refine T_callV (as := [aI uk, aI t]) rfl (am_dec tX12_seesOne_0 8 rfl) lkX12_368 (md_obj hl) rfl rfl (Nat.le_of_ble_eq_true rfl) (by omega) (mk_placeOf (d := d - 1) hl uk t  hV hK9 (by omega) (by omega) (by omega)) (fun _ => ?_)
    refine T_nm (fun n11 hn11 => ?_)
    have hs11 := hPl uk t (by omega) (by omega)
    rw [← hn11] at hs11
    refine T_istore (ls' := [some (aR b), some (aI wk), some (aI uk), some (aI t), some (aI n3), some (aI n11)]) (am_dec tX12_seesOne_0 9 rfl) (by decide) rfl ?_
    refine T_iload (am_dec tX12_seesOne_0 10 rfl) rfl ?_
    refine T_iconst (-1) (am_dec tX12_seesOne_0 11 rfl) rfl ⟨by decide, by decide⟩ ?_
    have K19 : ∀ (t19 : Int), t19 = (if n3 = (-1) then 0 else (if n11 = (-1) then 0 else (let z50 : Int := (k_seesBy c q (n3 % 9) (n3 / 9) (n11 % 9) (n11 / 9) t); (if z50 = 0 then 0 else 1)))) →  am_T S zX12_seesOne d u Q 61 [none, none, none, none, none, none] [aI t19] (mdW w b c q) := by
      intro t19 ht19
      have hxt19 := ht19
      dsimp only at hxt19
      have hbt19 : t19 = 0 ∨ t19 = 1 := by
        rw [ht19]
        try dsimp only
        repeat' split
        all_goals first | exact Or.inl rfl | exact Or.inr rfl | apply k_in_b | apply k_isDigit_b | apply k_isSmall_b | apply k_bad_b | apply k_isIn_b | apply k_isStep_b | apply k_isFirst_b | apply k_isLine_b | apply k_seesBy_b | apply k_isWalker_b | omega
      exact T_zreturn (am_dec tX12_seesOne_0 35 rfl) rfl (by first | exact Or.inl rfl | exact Or.inr rfl | omega) (am_tr (fun x9 => Q (.inl (some (aI (x9)))) (mdW w b c q)) (y := t19) (show (k_seesOne c q wk uk t) = t19 from (by have s9 := hn3.symm; subst s9; have s9 := hn11.symm; subst s9; have s9 := ht19.symm; subst s9; exact rfl)) hQ)
    refine T_icmp_eq 60 (am_dec tX12_seesOne_0 12 rfl) rfl (fun h19 => ?_) (fun h19 => ?_)
    · refine T_iconst 0 (am_dec tX12_seesOne_0 34 rfl) rfl ⟨by decide, by decide⟩ ?_
      refine T_weak (ls' := [none, none, none, none, none, none]) (am_sub_n (am_sub_n (am_sub_n (am_sub_n (am_sub_n (am_sub_n am_sub_nil)))))) ?_
      exact K19 _ (if_pos h19).symm
    · refine T_iload (am_dec tX12_seesOne_0 13 rfl) rfl ?_
      refine T_iconst (-1) (am_dec tX12_seesOne_0 14 rfl) rfl ⟨by decide, by decide⟩ ?_
      have K25 : ∀ (t25 : Int), t25 = (if n11 = (-1) then 0 else (let z50 : Int := (k_seesBy c q (n3 % 9) (n3 / 9) (n11 % 9) (n11 / 9) t); (if z50 = 0 then 0 else 1))) →  am_T S zX12_seesOne d u Q 61 [none, none, none, none, none, none] [aI t25] (mdW w b c q) := by
        intro t25 ht25
        have hxt25 := ht25
        dsimp only at hxt25
        have hbt25 : t25 = 0 ∨ t25 = 1 := by
          rw [ht25]
          try dsimp only
          repeat' split
          all_goals first | exact Or.inl rfl | exact Or.inr rfl | apply k_in_b | apply k_isDigit_b | apply k_isSmall_b | apply k_bad_b | apply k_isIn_b | apply k_isStep_b | apply k_isFirst_b | apply k_isLine_b | apply k_seesBy_b | apply k_isWalker_b | omega
        exact K19 _ (by have s9 := ht25.symm; subst s9; exact (if_neg h19).symm)
      refine T_icmp_eq 60 (am_dec tX12_seesOne_0 15 rfl) rfl (fun h25 => ?_) (fun h25 => ?_)
      · refine T_iconst 0 (am_dec tX12_seesOne_0 34 rfl) rfl ⟨by decide, by decide⟩ ?_
        refine T_weak (ls' := [none, none, none, none, none, none]) (am_sub_n (am_sub_n (am_sub_n (am_sub_n (am_sub_n (am_sub_n am_sub_nil)))))) ?_
        exact K25 _ (if_pos h25).symm
      · refine T_aload_n (am_dec tX12_seesOne_0 16 rfl) rfl ?_
        refine T_iload (am_dec tX12_seesOne_0 17 rfl) rfl ?_
        refine T_bipush 9 (am_dec tX12_seesOne_0 18 rfl) rfl ⟨by decide, by decide⟩ ?_
        refine T_irem (n3 % 9) (am_dec tX12_seesOne_0 19 rfl) (by omega) (am_tm (by omega)) ⟨by omega, by omega⟩ ?_
        refine T_iload (am_dec tX12_seesOne_0 20 rfl) rfl ?_
        refine T_bipush 9 (am_dec tX12_seesOne_0 21 rfl) rfl ⟨by decide, by decide⟩ ?_
        refine T_idiv (n3 / 9) (am_dec tX12_seesOne_0 22 rfl) (by omega) (am_td (by omega)) ⟨by omega, by omega⟩ ?_
        refine T_iload (am_dec tX12_seesOne_0 23 rfl) rfl ?_
        refine T_bipush 9 (am_dec tX12_seesOne_0 24 rfl) rfl ⟨by decide, by decide⟩ ?_
        refine T_irem (n11 % 9) (am_dec tX12_seesOne_0 25 rfl) (by omega) (am_tm (by omega)) ⟨by omega, by omega⟩ ?_
        refine T_iload (am_dec tX12_seesOne_0 26 rfl) rfl ?_
        refine T_bipush 9 (am_dec tX12_seesOne_0 27 rfl) rfl ⟨by decide, by decide⟩ ?_
        refine T_idiv (n11 / 9) (am_dec tX12_seesOne_0 28 rfl) (by omega) (am_td (by omega)) ⟨by omega, by omega⟩ ?_
        refine T_iload_n (am_dec tX12_seesOne_0 29 rfl) rfl ?_
        refine T_callV (as := [aI (n3 % 9), aI (n3 / 9), aI (n11 % 9), aI (n11 / 9), aI t]) rfl (am_dec tX12_seesOne_0 30 rfl) lkX12_374 (md_obj hl) rfl rfl (Nat.le_of_ble_eq_true rfl) (by omega) (mk_seesBy (d := d - 1) hl (n3 % 9) (n3 / 9) (n11 % 9) (n11 / 9) t  (by omega) (by omega) (by omega)) (fun _ => ?_)
        refine T_nm (fun z50 hz50 => ?_)
        have hb50 := k_seesBy_b c q (n3 % 9) (n3 / 9) (n11 % 9) (n11 / 9) t
        rw [← hz50] at hb50
        have K53 : ∀ (t53 : Int), t53 = (if z50 = 0 then 0 else 1) →  am_T S zX12_seesOne d u Q 61 [none, none, none, none, none, none] [aI t53] (mdW w b c q) := by
          intro t53 ht53
          have hbt53 : t53 = 0 ∨ t53 = 1 := by
            rw [ht53]
            try dsimp only
            repeat' split
            all_goals first | exact Or.inl rfl | exact Or.inr rfl | apply k_in_b | apply k_isDigit_b | apply k_isSmall_b | apply k_bad_b | apply k_isIn_b | apply k_isStep_b | apply k_isFirst_b | apply k_isLine_b | apply k_seesBy_b | apply k_isWalker_b | omega
          exact K25 _ (by have s9 := hz50.symm; subst s9; have s9 := ht53.symm; subst s9; exact (if_neg h25).symm)
        refine T_if_eq 60 (am_dec tX12_seesOne_0 31 rfl) rfl (fun h53 => ?_) (fun h53 => ?_)
        · refine T_iconst 0 (am_dec tX12_seesOne_0 34 rfl) rfl ⟨by decide, by decide⟩ ?_
          refine T_weak (ls' := [none, none, none, none, none, none]) (am_sub_n (am_sub_n (am_sub_n (am_sub_n (am_sub_n (am_sub_n am_sub_nil)))))) ?_
          exact K53 _ (if_pos h53).symm
        · refine T_iconst 1 (am_dec tX12_seesOne_0 32 rfl) rfl ⟨by decide, by decide⟩ ?_
          refine T_goto 61 (am_dec tX12_seesOne_0 33 rfl) rfl ?_
          refine T_weak (ls' := [none, none, none, none, none, none]) (am_sub_n (am_sub_n (am_sub_n (am_sub_n (am_sub_n (am_sub_n am_sub_nil)))))) ?_
          exact K53 _ (if_neg h53).symm
  exact key _ ⟨rfl, rfl⟩
theorem k_seesOne_b (c : am_F) (q : am_F) (wk : Int) (uk : Int) (t : Int) : (k_seesOne c q wk uk t) = 0 ∨ (k_seesOne c q wk uk t) = 1 := by
  unfold k_seesOne
  try dsimp only
  repeat' split
  all_goals first | exact Or.inl rfl | exact Or.inr rfl | apply k_in_b | apply k_isDigit_b | apply k_isSmall_b | apply k_bad_b | apply k_isIn_b | apply k_isStep_b | apply k_isFirst_b | apply k_isLine_b | apply k_seesBy_b | apply k_isWalker_b
def k_badTwo (c : am_F) (q : am_F) (wk : Int) (uk : Int) : Int × am_F := (let z3 : Int := (k_isWalker c wk); (let t6 : Int := (if z3 = 0 then 1 else (let z11 : Int := (k_isWalker c uk); (if z11 = 0 then 1 else 0))); (let q24 : am_F := (k_refuse q t6 1 1); (let z24 : Int := (if t6 = 0 then 0 else 1); (z24, q24)))))
theorem mk_badTwo {S : am_S} {d u : Nat} {w : AH} {b : Nat} (hl : b + 735 ≤ w.length) {c : am_F} {q : am_F} (wk : Int) (uk : Int) (hV : MdV c) (hq0 : q 0 0 = 0) (hd : 2 ≤ d) : am_Out S zX12_badTwo d u [aR b, aI wk, aI uk] (mdW w b c q) (.inl (some (aI ((k_badTwo c q wk uk).1)))) (mdW w b c ((k_badTwo c q wk uk).2)) := by
  have key : ∀ Q : AO → AH → Prop, Q (.inl (some (aI ((k_badTwo c q wk uk).1)))) (mdW w b c ((k_badTwo c q wk uk).2)) → am_M S zX12_badTwo d u [aR b, aI wk, aI uk] (mdW w b c q) Q := by
    intro Q hQ
    refine am_body rfl (by decide +kernel) rfl (am_cats_cons rfl ( am_cats_cons rfl ( am_cats_cons rfl (am_cats_nil)))) (Nat.le_of_ble_eq_true rfl) (?_ : am_T _ _ _ _ _ 0 [some (aR b), some (aI wk), some (aI uk)] [] (mdW w b c q))
    obtain ⟨vl0, vu0⟩ := MdV_0 hV
    obtain ⟨vl1, vu1⟩ := MdV_1 hV
    refine T_aload_n (am_dec tX12_badTwo_0 0 rfl) rfl ?_
    refine T_aload_n (am_dec tX12_badTwo_0 1 rfl) rfl ?_
    refine T_iload_n (am_dec tX12_badTwo_0 2 rfl) rfl ?_
    refine T_callV (as := [aI wk]) rfl (am_dec tX12_badTwo_0 3 rfl) lkX12_365 (md_obj hl) rfl rfl (Nat.le_of_ble_eq_true rfl) (by omega) (mk_isWalker (d := d - 1) hl wk  hV (by omega)) (fun _ => ?_)
    refine T_nm (fun z3 hz3 => ?_)
    have hb3 := k_isWalker_b c wk
    rw [← hz3] at hb3
    have hs3 := k_isWalker_s c wk
    rw [← hz3] at hs3
    have K6 : ∀ (t6 : Int), t6 = (if z3 = 0 then 1 else (let z11 : Int := (k_isWalker c uk); (if z11 = 0 then 1 else 0))) →  am_T S zX12_badTwo d u Q 22 [none, none, none] [aI t6, aR b] (mdW w b c q) := by
      intro t6 ht6
      have hxt6 := ht6
      dsimp only at hxt6
      have hy2 := k_isWalker_s c uk
      have hbt6 : t6 = 0 ∨ t6 = 1 := by
        rw [ht6]
        try dsimp only
        repeat' split
        all_goals first | exact Or.inl rfl | exact Or.inr rfl | apply k_in_b | apply k_isDigit_b | apply k_isSmall_b | apply k_bad_b | apply k_isIn_b | apply k_isStep_b | apply k_isFirst_b | apply k_isLine_b | apply k_seesBy_b | apply k_isWalker_b | apply k_seesOne_b | omega
      refine T_iconst 1 (am_dec tX12_badTwo_0 12 rfl) rfl ⟨by decide, by decide⟩ ?_
      refine T_iconst 1 (am_dec tX12_badTwo_0 13 rfl) rfl ⟨by decide, by decide⟩ ?_
      refine T_callV (as := [aI t6, aI 1, aI 1]) rfl (am_dec tX12_badTwo_0 14 rfl) lkX12_275 (md_obj hl) rfl rfl (Nat.le_of_ble_eq_true rfl) (by omega) (mk_bad0 (d := d - 1) hl t6 1 1 (by omega) hq0 (by omega)) (fun _ => ?_)
      refine T_nmH (W := fun x9 => mdW w b c x9) (v := (k_refuse q t6 1 1)) (fun q24 hq24 => ?_)
      refine T_nm (fun z24 hz24 => ?_)
      have hq024 : t6 = 0 → q24 0 0 = 0 := fun h9 => by rw [hq24]; exact k_refuse_0 hq0 h9
      exact T_zreturn (am_dec tX12_badTwo_0 15 rfl) rfl (by first | exact Or.inl rfl | exact Or.inr rfl | omega) (am_tr (fun x9 => Q (.inl (some (aI (x9.1)))) (mdW w b c x9.2)) (y := (z24, q24)) (show (k_badTwo c q wk uk) = (z24, q24) from (by have s9 := hz3.symm; subst s9; have s9 := ht6.symm; subst s9; have s9 := hq24.symm; subst s9; have s9 := hz24.symm; subst s9; exact rfl)) hQ)
    refine T_if_eq 17 (am_dec tX12_badTwo_0 4 rfl) rfl (fun h6 => ?_) (fun h6 => ?_)
    · refine T_iconst 1 (am_dec tX12_badTwo_0 9 rfl) rfl ⟨by decide, by decide⟩ ?_
      refine T_goto 22 (am_dec tX12_badTwo_0 10 rfl) rfl ?_
      refine T_weak (ls' := [none, none, none]) (am_sub_n (am_sub_n (am_sub_n am_sub_nil))) ?_
      exact K6 _ (if_pos h6).symm
    · refine T_aload_n (am_dec tX12_badTwo_0 5 rfl) rfl ?_
      refine T_iload_n (am_dec tX12_badTwo_0 6 rfl) rfl ?_
      refine T_callV (as := [aI uk]) rfl (am_dec tX12_badTwo_0 7 rfl) lkX12_365 (md_obj hl) rfl rfl (Nat.le_of_ble_eq_true rfl) (by omega) (mk_isWalker (d := d - 1) hl uk  hV (by omega)) (fun _ => ?_)
      refine T_nm (fun z11 hz11 => ?_)
      have hb11 := k_isWalker_b c uk
      rw [← hz11] at hb11
      have hs11 := k_isWalker_s c uk
      rw [← hz11] at hs11
      have K14 : ∀ (t14 : Int), t14 = (if z11 = 0 then 1 else 0) →  am_T S zX12_badTwo d u Q 22 [none, none, none] [aI t14, aR b] (mdW w b c q) := by
        intro t14 ht14
        have hbt14 : t14 = 0 ∨ t14 = 1 := by
          rw [ht14]
          try dsimp only
          repeat' split
          all_goals first | exact Or.inl rfl | exact Or.inr rfl | apply k_in_b | apply k_isDigit_b | apply k_isSmall_b | apply k_bad_b | apply k_isIn_b | apply k_isStep_b | apply k_isFirst_b | apply k_isLine_b | apply k_seesBy_b | apply k_isWalker_b | apply k_seesOne_b | omega
        exact K6 _ (by have s9 := hz11.symm; subst s9; have s9 := ht14.symm; subst s9; exact (if_neg h6).symm)
      refine T_if_ne 21 (am_dec tX12_badTwo_0 8 rfl) rfl (fun h14 => ?_) (fun h14 => ?_)
      · refine T_iconst 0 (am_dec tX12_badTwo_0 11 rfl) rfl ⟨by decide, by decide⟩ ?_
        refine T_weak (ls' := [none, none, none]) (am_sub_n (am_sub_n (am_sub_n am_sub_nil))) ?_
        exact K14 _ (if_neg h14).symm
      · refine T_iconst 1 (am_dec tX12_badTwo_0 9 rfl) rfl ⟨by decide, by decide⟩ ?_
        refine T_goto 22 (am_dec tX12_badTwo_0 10 rfl) rfl ?_
        refine T_weak (ls' := [none, none, none]) (am_sub_n (am_sub_n (am_sub_n am_sub_nil))) ?_
        exact K14 _ (if_pos h14).symm
  exact key _ ⟨rfl, rfl⟩
theorem k_badTwo_b (c : am_F) (q : am_F) (wk : Int) (uk : Int) : (k_badTwo c q wk uk).1 = 0 ∨ (k_badTwo c q wk uk).1 = 1 := by
  unfold k_badTwo
  try dsimp only
  repeat' split
  all_goals first | exact Or.inl rfl | exact Or.inr rfl
theorem k_badTwo_s {c q : am_F} {x y : Int} (hq : q 0 0 = 0) : ((k_badTwo c q x y).1 = 0 ∧ (0 ≤ x ∧ x < c 4 4) ∧ (0 ≤ y ∧ y < c 4 4) ∧ (k_badTwo c q x y).2 0 0 = 0) ∨ ((k_badTwo c q x y).1 = 1 ∧ ¬ ((0 ≤ x ∧ x < c 4 4) ∧ (0 ≤ y ∧ y < c 4 4))) := by
  have h1 := k_isWalker_s c x
  have h2 := k_isWalker_s c y
  unfold k_badTwo
  try dsimp only
  by_cases e1 : k_isWalker c x = 0
  · rw [if_pos e1]
    right
    exact ⟨rfl, by omega⟩
  · rw [if_neg e1]
    by_cases e2 : k_isWalker c y = 0
    · rw [if_pos e2]
      right
      exact ⟨rfl, by omega⟩
    · rw [if_neg e2]
      left
      exact ⟨rfl, by omega, by omega, k_refuse_0 hq rfl⟩
def k_sees (c : am_F) (q : am_F) (wk : Int) (uk : Int) (t : Int) : Int × am_F := (let u8 : Int × am_F := k_badTwo c (am_put q 0 0 0) wk uk; (if (u8).1 = 0 then (let t17 : Int := (if wk = uk then 1 else (let z21 : Int := (k_isStep t); (if z21 = 0 then 1 else 0))); (let q34 : am_F := (k_refuse (u8).2 t17 2 2); (let z34 : Int := (if t17 = 0 then 0 else 1); (if z34 = 0 then (let q43 : am_F := k_goes c q34; (let z50 : Int := (k_seesOne c q43 wk uk t); (z50, q43))) else (0, q34))))) else (0, (u8).2)))
theorem mk_sees {S : am_S} {d u : Nat} {w : AH} {b : Nat} (hl : b + 735 ≤ w.length) {c : am_F} {q : am_F} (wk : Int) (uk : Int) (t : Int) (hV : MdV c) (hWd : MdWd c) (hS9 : MdS c) (hLp : MdLp c) (hDu : MdDu c) (hK9 : MdK c) (hPl : MdPl c) (hd : 5 ≤ d) : am_Out S zX12_sees d u [aR b, aI wk, aI uk, aI t] (mdW w b c q) (.inl (some (aI ((k_sees c q wk uk t).1)))) (mdW w b c ((k_sees c q wk uk t).2)) := by
  have key : ∀ Q : AO → AH → Prop, Q (.inl (some (aI ((k_sees c q wk uk t).1)))) (mdW w b c ((k_sees c q wk uk t).2)) → am_M S zX12_sees d u [aR b, aI wk, aI uk, aI t] (mdW w b c q) Q := by
    intro Q hQ
    refine am_body rfl (by decide +kernel) rfl (am_cats_cons rfl ( am_cats_cons rfl ( am_cats_cons rfl ( am_cats_cons rfl (am_cats_nil))))) (Nat.le_of_ble_eq_true rfl) (?_ : am_T _ _ _ _ _ 0 [some (aR b), some (aI wk), some (aI uk), some (aI t)] [] (mdW w b c q))
    obtain ⟨vl0, vu0⟩ := MdV_0 hV
    obtain ⟨vl1, vu1⟩ := MdV_1 hV
    refine T_aload_n (am_dec tX12_sees_0 0 rfl) rfl ?_
    refine T_iconst 0 (am_dec tX12_sees_0 1 rfl) rfl ⟨by decide, by decide⟩ ?_
    refine T_putfield (fs' := mdO b (c 0) (am_up (q 0) 0 0)) 11 0 (am_dec tX12_sees_0 2 rfl) flX12_160_11 rfl rfl rfl trivial (md_obj hl) (Nat.le_of_ble_eq_true rfl) rfl ?_
    refine am_wE (w2 := mdW w b c (am_put q 0 0 0)) (md_fq) ?_
    refine T_aload_n (am_dec tX12_sees_0 3 rfl) rfl ?_
    refine T_iload_n (am_dec tX12_sees_0 4 rfl) rfl ?_
    refine T_iload_n (am_dec tX12_sees_0 5 rfl) rfl ?_
    refine T_callV (as := [aI wk, aI uk]) rfl (am_dec tX12_sees_0 6 rfl) lkX12_378 (md_obj hl) rfl rfl (Nat.le_of_ble_eq_true rfl) (by omega) (mk_badTwo (d := d - 1) hl wk uk  hV am_put_s (by omega)) (fun _ => ?_)
    obtain ⟨u8, hu8⟩ : ∃ x9, x9 = k_badTwo c (am_put q 0 0 0) wk uk := ⟨_, rfl⟩
    rw [← hu8]
    have hs8 := k_badTwo_s (c := c) (q := (am_put q 0 0 0)) (x := wk) (y := uk) am_put_s
    rw [← hu8] at hs8
    refine T_if_ne 40 (am_dec tX12_sees_0 7 rfl) rfl (fun h11 => ?_) (fun h11 => ?_)
    · refine T_iconst 0 (am_dec tX12_sees_0 22 rfl) rfl ⟨by decide, by decide⟩ ?_
      exact T_zreturn (am_dec tX12_sees_0 23 rfl) rfl (by first | exact Or.inl rfl | exact Or.inr rfl | omega) (am_tr (fun x9 => Q (.inl (some (aI (x9.1)))) (mdW w b c x9.2)) (y := (0, (u8).2)) (show (k_sees c q wk uk t) = (0, (u8).2) from (by have s9 := hu8.symm; subst s9; exact (if_neg h11))) hQ)
    · refine T_aload_n (am_dec tX12_sees_0 8 rfl) rfl ?_
      refine T_iload_n (am_dec tX12_sees_0 9 rfl) rfl ?_
      refine T_iload_n (am_dec tX12_sees_0 10 rfl) rfl ?_
      have K17 : ∀ (t17 : Int), t17 = (if wk = uk then 1 else (let z21 : Int := (k_isStep t); (if z21 = 0 then 1 else 0))) →  am_T S zX12_sees d u Q 32 [some (aR b), some (aI wk), some (aI uk), some (aI t)] [aI t17, aR b] (mdW w b c (u8).2) := by
        intro t17 ht17
        have hxt17 := ht17
        dsimp only at hxt17
        have hy2 := k_isStep_s t
        have hbt17 : t17 = 0 ∨ t17 = 1 := by
          rw [ht17]
          try dsimp only
          repeat' split
          all_goals first | exact Or.inl rfl | exact Or.inr rfl | apply k_in_b | apply k_isDigit_b | apply k_isSmall_b | apply k_bad_b | apply k_isIn_b | apply k_isStep_b | apply k_isFirst_b | apply k_isLine_b | apply k_seesBy_b | apply k_isWalker_b | apply k_seesOne_b | apply k_badTwo_b | omega
        refine T_iconst 2 (am_dec tX12_sees_0 18 rfl) rfl ⟨by decide, by decide⟩ ?_
        refine T_iconst 2 (am_dec tX12_sees_0 19 rfl) rfl ⟨by decide, by decide⟩ ?_
        refine T_callV (as := [aI t17, aI 2, aI 2]) rfl (am_dec tX12_sees_0 20 rfl) lkX12_275 (md_obj hl) rfl rfl (Nat.le_of_ble_eq_true rfl) (by omega) (mk_bad0 (d := d - 1) hl t17 2 2 (by omega) (hs8.elim (fun h9 => h9.2.2.2) (fun h9 => by exfalso; omega)) (by omega)) (fun _ => ?_)
        refine T_nmH (W := fun x9 => mdW w b c x9) (v := (k_refuse (u8).2 t17 2 2)) (fun q34 hq34 => ?_)
        refine T_nm (fun z34 hz34 => ?_)
        have hq034 : t17 = 0 → q34 0 0 = 0 := fun h9 => by rw [hq34]; exact k_refuse_0 (hs8.elim (fun h9 => h9.2.2.2) (fun h9 => by exfalso; omega)) h9
        refine T_if_eq 42 (am_dec tX12_sees_0 21 rfl) rfl (fun h37 => ?_) (fun h37 => ?_)
        · refine T_aload_n (am_dec tX12_sees_0 24 rfl) rfl ?_
          refine T_callV (as := []) rfl (am_dec tX12_sees_0 25 rfl) lkX12_345 (md_obj hl) rfl rfl (Nat.le_of_ble_eq_true rfl) (by omega) (mk_goes (d := d - 1) hl   hV hWd hS9 hLp hDu (by omega)) (fun _ => ?_)
          refine T_nmH (W := fun x9 => mdW w b c x9) (v := k_goes c q34) (fun q43 hq43 => ?_)
          refine T_aload_n (am_dec tX12_sees_0 26 rfl) rfl ?_
          refine T_iload_n (am_dec tX12_sees_0 27 rfl) rfl ?_
          refine T_iload_n (am_dec tX12_sees_0 28 rfl) rfl ?_
          refine T_iload_n (am_dec tX12_sees_0 29 rfl) rfl ?_
          refine T_callV (as := [aI wk, aI uk, aI t]) rfl (am_dec tX12_sees_0 30 rfl) lkX12_381 (md_obj hl) rfl rfl (Nat.le_of_ble_eq_true rfl) (by omega) (mk_seesOne (d := d - 1) hl wk uk t  hV hK9 hPl (by omega) (by omega) (by omega) (by omega)) (fun _ => ?_)
          refine T_nm (fun z50 hz50 => ?_)
          have hb50 := k_seesOne_b c q43 wk uk t
          rw [← hz50] at hb50
          exact T_zreturn (am_dec tX12_sees_0 31 rfl) rfl (by first | exact Or.inl rfl | exact Or.inr rfl | omega) (am_tr (fun x9 => Q (.inl (some (aI (x9.1)))) (mdW w b c x9.2)) (y := (z50, q43)) (show (k_sees c q wk uk t) = (z50, q43) from (by have s9 := hu8.symm; subst s9; have s9 := ht17.symm; subst s9; have s9 := hq34.symm; subst s9; have s9 := hz34.symm; subst s9; have s9 := hq43.symm; subst s9; have s9 := hz50.symm; subst s9; exact ((if_pos h11).trans (if_pos h37)))) hQ)
        · refine T_iconst 0 (am_dec tX12_sees_0 22 rfl) rfl ⟨by decide, by decide⟩ ?_
          exact T_zreturn (am_dec tX12_sees_0 23 rfl) rfl (by first | exact Or.inl rfl | exact Or.inr rfl | omega) (am_tr (fun x9 => Q (.inl (some (aI (x9.1)))) (mdW w b c x9.2)) (y := (0, q34)) (show (k_sees c q wk uk t) = (0, q34) from (by have s9 := hu8.symm; subst s9; have s9 := ht17.symm; subst s9; have s9 := hq34.symm; subst s9; have s9 := hz34.symm; subst s9; exact ((if_pos h11).trans (if_neg h37)))) hQ)
      refine T_icmp_eq 27 (am_dec tX12_sees_0 11 rfl) rfl (fun h17 => ?_) (fun h17 => ?_)
      · refine T_iconst 1 (am_dec tX12_sees_0 15 rfl) rfl ⟨by decide, by decide⟩ ?_
        refine T_goto 32 (am_dec tX12_sees_0 16 rfl) rfl ?_
        exact K17 _ (if_pos h17).symm
      · refine T_iload_n (am_dec tX12_sees_0 12 rfl) rfl ?_
        refine T_callS (as := [aI t]) rfl (am_dec tX12_sees_0 13 rfl) lkX12_351 rfl (Nat.le_of_ble_eq_true rfl) (by omega) (mk_isStep (d := d - 1)  t   (by omega)) (fun _ => ?_)
        refine T_nm (fun z21 hz21 => ?_)
        have hb21 := k_isStep_b t
        rw [← hz21] at hb21
        have hs21 := k_isStep_s t
        rw [← hz21] at hs21
        have K24 : ∀ (t24 : Int), t24 = (if z21 = 0 then 1 else 0) →  am_T S zX12_sees d u Q 32 [some (aR b), some (aI wk), some (aI uk), some (aI t)] [aI t24, aR b] (mdW w b c (u8).2) := by
          intro t24 ht24
          have hbt24 : t24 = 0 ∨ t24 = 1 := by
            rw [ht24]
            try dsimp only
            repeat' split
            all_goals first | exact Or.inl rfl | exact Or.inr rfl | apply k_in_b | apply k_isDigit_b | apply k_isSmall_b | apply k_bad_b | apply k_isIn_b | apply k_isStep_b | apply k_isFirst_b | apply k_isLine_b | apply k_seesBy_b | apply k_isWalker_b | apply k_seesOne_b | apply k_badTwo_b | omega
          exact K17 _ (by have s9 := hz21.symm; subst s9; have s9 := ht24.symm; subst s9; exact (if_neg h17).symm)
        refine T_if_ne 31 (am_dec tX12_sees_0 14 rfl) rfl (fun h24 => ?_) (fun h24 => ?_)
        · refine T_iconst 0 (am_dec tX12_sees_0 17 rfl) rfl ⟨by decide, by decide⟩ ?_
          exact K24 _ (if_neg h24).symm
        · refine T_iconst 1 (am_dec tX12_sees_0 15 rfl) rfl ⟨by decide, by decide⟩ ?_
          refine T_goto 32 (am_dec tX12_sees_0 16 rfl) rfl ?_
          exact K24 _ (if_pos h24).symm
  exact key _ ⟨rfl, rfl⟩
theorem k_sees_b (c : am_F) (q : am_F) (wk : Int) (uk : Int) (t : Int) : (k_sees c q wk uk t).1 = 0 ∨ (k_sees c q wk uk t).1 = 1 := by
  unfold k_sees
  try dsimp only
  repeat' split
  all_goals first | exact Or.inl rfl | exact Or.inr rfl | apply k_in_b | apply k_isDigit_b | apply k_isSmall_b | apply k_bad_b | apply k_isIn_b | apply k_isStep_b | apply k_isFirst_b | apply k_isLine_b | apply k_seesBy_b | apply k_isWalker_b | apply k_seesOne_b | apply k_badTwo_b
def g_k_often_44 (c : am_F) (q : am_F) (wk : Int) (uk : Int) (s : Int) (m : Int) : Int := (let z57 : Int := (k_seesOne c q wk uk s); (let t60 : Int := (if z57 = 0 then 0 else 1); (m + t60)))
theorem L_k_often_44 {S : am_S} {d u : Nat} {Q : AO → AH → Prop} {w : AH} {b : Nat} (hl : b + 735 ≤ w.length) (c : am_F) (q : am_F) (wk : Int) (uk : Int) (hV : MdV c) (hWd : MdWd c) (hS9 : MdS c) (hLp : MdLp c) (hDu : MdDu c) (hK9 : MdK c) (hPl : MdPl c) (hwk : 0 ≤ wk ∧ wk < c 4 4) (hu : 0 ≤ uk ∧ uk < c 4 4) (hd : 5 ≤ d) (B9 : Int) (hB : B9 = 40) : ∀ (n : Nat) (s : Int) (m : Int), s + n = B9 → 0 ≤ s → 0 ≤ m ∧ m ≤ s → (∀ (m' : Int), m' = am_fold (g_k_often_44 c q wk uk) s n m → 0 ≤ m' ∧ m' ≤ B9 → am_T S zX12_often d u Q 76 [none, none, none, some (aI m'), none] [] (mdW w b c q)) → am_T S zX12_often d u Q 44 [some (aR b), some (aI wk), some (aI uk), some (aI m), some (aI s)] [] (mdW w b c q) := by
  intro n
  induction n with
  | zero =>
    intro s m hi9 h0i hinv k9
    have e9 : s = B9 := by omega
    subst e9
    obtain ⟨vl0, vu0⟩ := MdV_0 hV
    obtain ⟨vl1, vu1⟩ := MdV_1 hV
    obtain ⟨vl4, vu4⟩ := MdV_4 hV
    refine T_iload (am_dec tX12_often_0 27 rfl) rfl ?_
    refine T_bipush 40 (am_dec tX12_often_0 28 rfl) rfl ⟨by decide, by decide⟩ ?_
    refine T_icmp_ge 76 (am_dec tX12_often_0 29 rfl) rfl (fun h48 => ?_) (fun h48 => by exfalso; omega)
    refine T_weak (ls' := [none, none, none, some (aI m), none]) (am_sub_n (am_sub_n (am_sub_n (am_sub_s (am_sub_n am_sub_nil))))) ?_
    exact k9 m rfl hinv
  | succ n ih =>
    intro s m hi9 h0i hinv k9
    obtain ⟨vl0, vu0⟩ := MdV_0 hV
    obtain ⟨vl1, vu1⟩ := MdV_1 hV
    obtain ⟨vl4, vu4⟩ := MdV_4 hV
    refine T_iload (am_dec tX12_often_0 27 rfl) rfl ?_
    refine T_bipush 40 (am_dec tX12_often_0 28 rfl) rfl ⟨by decide, by decide⟩ ?_
    refine T_icmp_ge 76 (am_dec tX12_often_0 29 rfl) rfl (fun h48 => by exfalso; omega) (fun h48 => ?_)
    refine T_iload_n (am_dec tX12_often_0 30 rfl) rfl ?_
    refine T_aload_n (am_dec tX12_often_0 31 rfl) rfl ?_
    refine T_iload_n (am_dec tX12_often_0 32 rfl) rfl ?_
    refine T_iload_n (am_dec tX12_often_0 33 rfl) rfl ?_
    refine T_iload (am_dec tX12_often_0 34 rfl) rfl ?_
    refine T_callV (as := [aI wk, aI uk, aI s]) rfl (am_dec tX12_often_0 35 rfl) lkX12_381 (md_obj hl) rfl rfl (Nat.le_of_ble_eq_true rfl) (by omega) (mk_seesOne (d := d - 1) hl wk uk s  hV hK9 hPl (by omega) (by omega) (by omega) (by omega)) (fun _ => ?_)
    refine T_nm (fun z57 hz57 => ?_)
    have hb57 := k_seesOne_b c q wk uk s
    rw [← hz57] at hb57
    have K60 : ∀ (t60 : Int), t60 = (if z57 = 0 then 0 else 1) →  am_T S zX12_often d u Q 68 [some (aR b), some (aI wk), some (aI uk), none, some (aI s)] [aI t60, aI m] (mdW w b c q) := by
      intro t60 ht60
      have hbt60 : t60 = 0 ∨ t60 = 1 := by
        rw [ht60]
        try dsimp only
        repeat' split
        all_goals first | exact Or.inl rfl | exact Or.inr rfl | apply k_in_b | apply k_isDigit_b | apply k_isSmall_b | apply k_bad_b | apply k_isIn_b | apply k_isStep_b | apply k_isFirst_b | apply k_isLine_b | apply k_seesBy_b | apply k_isWalker_b | apply k_seesOne_b | apply k_badTwo_b | apply k_sees_b | omega
      refine T_iadd (m + t60) (am_dec tX12_often_1 0 rfl) rfl ⟨by omega, by omega⟩ ?_
      refine T_istore_n (ls' := [some (aR b), some (aI wk), some (aI uk), some (aI (m + t60)), some (aI s)]) (am_dec tX12_often_1 1 rfl) (by decide) rfl ?_
      refine T_iinc (ls' := [some (aR b), some (aI wk), some (aI uk), some (aI (m + t60)), some (aI (s + 1))]) (s + 1) (am_dec tX12_often_1 2 rfl) rfl rfl ⟨by omega, by omega⟩ (by decide) rfl ?_
      refine T_goto 44 (am_dec tX12_often_1 3 rfl) rfl ?_
      have e9 : (g_k_often_44 c q wk uk) s m = m + t60 := (by have s9 := hz57.symm; subst s9; have s9 := ht60.symm; subst s9; exact rfl)
      simp only [am_fold_s, e9] at k9
      exact ih (s + 1) (m + t60) (by omega) (by omega) (by omega) k9
    refine T_if_eq 67 (am_dec tX12_often_0 36 rfl) rfl (fun h60 => ?_) (fun h60 => ?_)
    · refine T_iconst 0 (am_dec tX12_often_0 39 rfl) rfl ⟨by decide, by decide⟩ ?_
      refine T_weak (ls' := [some (aR b), some (aI wk), some (aI uk), none, some (aI s)]) (am_sub_s (am_sub_s (am_sub_s (am_sub_n (am_sub_s am_sub_nil))))) ?_
      exact K60 _ (if_pos h60).symm
    · refine T_iconst 1 (am_dec tX12_often_0 37 rfl) rfl ⟨by decide, by decide⟩ ?_
      refine T_goto 68 (am_dec tX12_often_0 38 rfl) rfl ?_
      refine T_weak (ls' := [some (aR b), some (aI wk), some (aI uk), none, some (aI s)]) (am_sub_s (am_sub_s (am_sub_s (am_sub_n (am_sub_s am_sub_nil))))) ?_
      exact K60 _ (if_neg h60).symm
def k_often (c : am_F) (q : am_F) (wk : Int) (uk : Int) : Int × am_F := (let u8 : Int × am_F := k_badTwo c (am_put q 0 0 0) wk uk; (if (u8).1 = 0 then (let t17 : Int := (if wk = uk then 1 else 0); (let q27 : am_F := (k_refuse (u8).2 t17 2 2); (let z27 : Int := (if t17 = 0 then 0 else 1); (if z27 = 0 then (let q36 : am_F := k_goes c q27; (let m_44 : Int := am_fold (g_k_often_44 c q36 wk uk) 0 40 0; (m_44, q36))) else (0, q27))))) else (0, (u8).2)))
theorem mk_often {S : am_S} {d u : Nat} {w : AH} {b : Nat} (hl : b + 735 ≤ w.length) {c : am_F} {q : am_F} (wk : Int) (uk : Int) (hV : MdV c) (hWd : MdWd c) (hS9 : MdS c) (hLp : MdLp c) (hDu : MdDu c) (hK9 : MdK c) (hPl : MdPl c) (hd : 5 ≤ d) : am_Out S zX12_often d u [aR b, aI wk, aI uk] (mdW w b c q) (.inl (some (aI ((k_often c q wk uk).1)))) (mdW w b c ((k_often c q wk uk).2)) := by
  have key : ∀ Q : AO → AH → Prop, Q (.inl (some (aI ((k_often c q wk uk).1)))) (mdW w b c ((k_often c q wk uk).2)) → am_M S zX12_often d u [aR b, aI wk, aI uk] (mdW w b c q) Q := by
    intro Q hQ
    refine am_body rfl (by decide +kernel) rfl (am_cats_cons rfl ( am_cats_cons rfl ( am_cats_cons rfl (am_cats_nil)))) (Nat.le_of_ble_eq_true rfl) (?_ : am_T _ _ _ _ _ 0 [some (aR b), some (aI wk), some (aI uk), none, none] [] (mdW w b c q))
    obtain ⟨vl0, vu0⟩ := MdV_0 hV
    obtain ⟨vl1, vu1⟩ := MdV_1 hV
    obtain ⟨vl4, vu4⟩ := MdV_4 hV
    refine T_aload_n (am_dec tX12_often_0 0 rfl) rfl ?_
    refine T_iconst 0 (am_dec tX12_often_0 1 rfl) rfl ⟨by decide, by decide⟩ ?_
    refine T_putfield (fs' := mdO b (c 0) (am_up (q 0) 0 0)) 11 0 (am_dec tX12_often_0 2 rfl) flX12_160_11 rfl rfl rfl trivial (md_obj hl) (Nat.le_of_ble_eq_true rfl) rfl ?_
    refine am_wE (w2 := mdW w b c (am_put q 0 0 0)) (md_fq) ?_
    refine T_aload_n (am_dec tX12_often_0 3 rfl) rfl ?_
    refine T_iload_n (am_dec tX12_often_0 4 rfl) rfl ?_
    refine T_iload_n (am_dec tX12_often_0 5 rfl) rfl ?_
    refine T_callV (as := [aI wk, aI uk]) rfl (am_dec tX12_often_0 6 rfl) lkX12_378 (md_obj hl) rfl rfl (Nat.le_of_ble_eq_true rfl) (by omega) (mk_badTwo (d := d - 1) hl wk uk  hV am_put_s (by omega)) (fun _ => ?_)
    obtain ⟨u8, hu8⟩ : ∃ x9, x9 = k_badTwo c (am_put q 0 0 0) wk uk := ⟨_, rfl⟩
    rw [← hu8]
    have hs8 := k_badTwo_s (c := c) (q := (am_put q 0 0 0)) (x := wk) (y := uk) am_put_s
    rw [← hu8] at hs8
    refine T_if_ne 33 (am_dec tX12_often_0 7 rfl) rfl (fun h11 => ?_) (fun h11 => ?_)
    · refine T_iconst 0 (am_dec tX12_often_0 19 rfl) rfl ⟨by decide, by decide⟩ ?_
      exact T_ireturn (am_dec tX12_often_0 20 rfl) rfl (am_tr (fun x9 => Q (.inl (some (aI (x9.1)))) (mdW w b c x9.2)) (y := (0, (u8).2)) (show (k_often c q wk uk) = (0, (u8).2) from (by have s9 := hu8.symm; subst s9; exact (if_neg h11))) hQ)
    · refine T_aload_n (am_dec tX12_often_0 8 rfl) rfl ?_
      refine T_iload_n (am_dec tX12_often_0 9 rfl) rfl ?_
      refine T_iload_n (am_dec tX12_often_0 10 rfl) rfl ?_
      have K17 : ∀ (t17 : Int), t17 = (if wk = uk then 1 else 0) →  am_T S zX12_often d u Q 25 [some (aR b), some (aI wk), some (aI uk), none, none] [aI t17, aR b] (mdW w b c (u8).2) := by
        intro t17 ht17
        have hbt17 : t17 = 0 ∨ t17 = 1 := by
          rw [ht17]
          try dsimp only
          repeat' split
          all_goals first | exact Or.inl rfl | exact Or.inr rfl | apply k_in_b | apply k_isDigit_b | apply k_isSmall_b | apply k_bad_b | apply k_isIn_b | apply k_isStep_b | apply k_isFirst_b | apply k_isLine_b | apply k_seesBy_b | apply k_isWalker_b | apply k_seesOne_b | apply k_badTwo_b | apply k_sees_b | omega
        refine T_iconst 2 (am_dec tX12_often_0 15 rfl) rfl ⟨by decide, by decide⟩ ?_
        refine T_iconst 2 (am_dec tX12_often_0 16 rfl) rfl ⟨by decide, by decide⟩ ?_
        refine T_callV (as := [aI t17, aI 2, aI 2]) rfl (am_dec tX12_often_0 17 rfl) lkX12_275 (md_obj hl) rfl rfl (Nat.le_of_ble_eq_true rfl) (by omega) (mk_bad0 (d := d - 1) hl t17 2 2 (by omega) (hs8.elim (fun h9 => h9.2.2.2) (fun h9 => by exfalso; omega)) (by omega)) (fun _ => ?_)
        refine T_nmH (W := fun x9 => mdW w b c x9) (v := (k_refuse (u8).2 t17 2 2)) (fun q27 hq27 => ?_)
        refine T_nm (fun z27 hz27 => ?_)
        have hq027 : t17 = 0 → q27 0 0 = 0 := fun h9 => by rw [hq27]; exact k_refuse_0 (hs8.elim (fun h9 => h9.2.2.2) (fun h9 => by exfalso; omega)) h9
        refine T_if_eq 35 (am_dec tX12_often_0 18 rfl) rfl (fun h30 => ?_) (fun h30 => ?_)
        · refine T_aload_n (am_dec tX12_often_0 21 rfl) rfl ?_
          refine T_callV (as := []) rfl (am_dec tX12_often_0 22 rfl) lkX12_345 (md_obj hl) rfl rfl (Nat.le_of_ble_eq_true rfl) (by omega) (mk_goes (d := d - 1) hl   hV hWd hS9 hLp hDu (by omega)) (fun _ => ?_)
          refine T_nmH (W := fun x9 => mdW w b c x9) (v := k_goes c q27) (fun q36 hq36 => ?_)
          refine T_iconst 0 (am_dec tX12_often_0 23 rfl) rfl ⟨by decide, by decide⟩ ?_
          refine T_istore_n (ls' := [some (aR b), some (aI wk), some (aI uk), some (aI 0), none]) (am_dec tX12_often_0 24 rfl) (by decide) rfl ?_
          refine T_iconst 0 (am_dec tX12_often_0 25 rfl) rfl ⟨by decide, by decide⟩ ?_
          refine T_istore (ls' := [some (aR b), some (aI wk), some (aI uk), some (aI 0), some (aI 0)]) (am_dec tX12_often_0 26 rfl) (by decide) rfl ?_
          refine L_k_often_44 hl c q36 wk uk hV hWd hS9 hLp hDu hK9 hPl (by omega) (by omega) (by omega) _ rfl 40 0 0 (by omega) (by omega) (by omega) (fun m_44 hm_44 hv44 => ?_)
          refine T_iload_n (am_dec tX12_often_1 4 rfl) rfl ?_
          exact T_ireturn (am_dec tX12_often_1 5 rfl) rfl (am_tr (fun x9 => Q (.inl (some (aI (x9.1)))) (mdW w b c x9.2)) (y := (m_44, q36)) (show (k_often c q wk uk) = (m_44, q36) from (by have s9 := hu8.symm; subst s9; have s9 := ht17.symm; subst s9; have s9 := hq27.symm; subst s9; have s9 := hz27.symm; subst s9; have s9 := hq36.symm; subst s9; have s9 := hm_44.symm; subst s9; exact ((if_pos h11).trans (if_pos h30)))) hQ)
        · refine T_iconst 0 (am_dec tX12_often_0 19 rfl) rfl ⟨by decide, by decide⟩ ?_
          exact T_ireturn (am_dec tX12_often_0 20 rfl) rfl (am_tr (fun x9 => Q (.inl (some (aI (x9.1)))) (mdW w b c x9.2)) (y := (0, q27)) (show (k_often c q wk uk) = (0, q27) from (by have s9 := hu8.symm; subst s9; have s9 := ht17.symm; subst s9; have s9 := hq27.symm; subst s9; have s9 := hz27.symm; subst s9; exact ((if_pos h11).trans (if_neg h30)))) hQ)
      refine T_icmp_ne 24 (am_dec tX12_often_0 11 rfl) rfl (fun h17 => ?_) (fun h17 => ?_)
      · refine T_iconst 0 (am_dec tX12_often_0 14 rfl) rfl ⟨by decide, by decide⟩ ?_
        exact K17 _ (if_neg h17).symm
      · refine T_iconst 1 (am_dec tX12_often_0 12 rfl) rfl ⟨by decide, by decide⟩ ?_
        refine T_goto 25 (am_dec tX12_often_0 13 rfl) rfl ?_
        exact K17 _ (if_pos h17).symm
  exact key _ ⟨rfl, rfl⟩
def MdWt (c : am_F) : Prop := ∀ k : Int, 0 ≤ k → k < c 4 5 → (0 ≤ c (118 + k.toNat) 0 ∧ c (118 + k.toNat) 0 ≤ 8) ∧ 0 ≤ c (118 + k.toNat) 1 ∧ c (118 + k.toNat) 1 ≤ 8
def w_k_seenOn_5 (c : am_F) (q : am_F) (x : Int) (t : Int) (x9 : Int × Int) : (Int × Int) ⊕ (Int × Int) := let bits : Int := x9.1; let k : Int := x9.2; (if c 4 5 ≤ k then .inr (bits, k) else (if x = (-1) then .inr (bits, k) else (let z50 : Int := (k_seesBy c q (c (118 + k.toNat) 0) (c (118 + k.toNat) 1) (x % 9) (x / 9) t); (let t53 : Int := (if z50 = 0 then 0 else (am_ishl 1 k)); (let bits_65 : Int := am_ior bits t53; .inl (bits_65, (k + 1)))))))
theorem L_k_seenOn_5 {S : am_S} {d u : Nat} {Q : AO → AH → Prop} {w : AH} {b : Nat} (hl : b + 735 ≤ w.length) (c : am_F) (q : am_F) (x : Int) (t : Int) (hV : MdV c) (hWt : MdWt c) (hc0 : x = -1 ∨ (0 ≤ x ∧ x ≤ 80)) (ht : -1 ≤ t ∧ t < 40)  (hd : 3 ≤ d) : ∀ (n : Nat) (bits : Int) (k : Int), c 4 5 - k < n → 0 ≤ k ∧ k ≤ c 4 5 → (∀ (bits' : Int) (k' : Int), bits' = (am_wh (w_k_seenOn_5 c q x t) n (bits, k)).1 → k' = (am_wh (w_k_seenOn_5 c q x t) n (bits, k)).2 → 0 ≤ k' ∧ k' ≤ c 4 5 → am_T S zX12_seenOn d u Q 72 [none, none, none, some (aI bits'), none] [] (mdW w b c q)) → am_T S zX12_seenOn d u Q 5 [some (aR b), some (aI x), some (aI t), some (aI bits), some (aI k)] [] (mdW w b c q) := by
  intro n
  induction n with
  | zero =>
    intro bits k hm9 hinv k9
    obtain ⟨vl5, vu5⟩ := MdV_5 hV
    exfalso; omega
  | succ n ih =>
    intro bits k hm9 hinv k9
    obtain ⟨vl5, vu5⟩ := MdV_5 hV
    refine T_iload (am_dec tX12_seenOn_0 4 rfl) rfl ?_
    refine T_aload_n (am_dec tX12_seenOn_0 5 rfl) rfl ?_
    refine T_getfield 11 11 (am_dec tX12_seenOn_0 6 rfl) flX12_23_11 (md_obj hl) rfl ?_
    refine T_iconst 5 (am_dec tX12_seenOn_0 7 rfl) rfl ⟨by decide, by decide⟩ ?_
    refine T_ialoadE (x := c 4 5) (am_dec tX12_seenOn_0 8 rfl) (md_told hl) (by omega) (by omega) rfl ?_
    refine T_icmp_ge 72 (am_dec tX12_seenOn_0 9 rfl) rfl (fun h13 => ?_) (fun h13 => ?_)
    · refine T_weak (ls' := [none, none, none, some (aI bits), none]) (am_sub_n (am_sub_n (am_sub_n (am_sub_s (am_sub_n am_sub_nil))))) ?_
      have e9 : (w_k_seenOn_5 c q x t) (bits, k) = .inr (bits, k) := (if_pos h13)
      simp only [am_wh_r e9] at k9
      exact k9 _ _ rfl rfl (by omega)
    · refine T_iload_n (am_dec tX12_seenOn_0 10 rfl) rfl ?_
      refine T_iconst (-1) (am_dec tX12_seenOn_0 11 rfl) rfl ⟨by decide, by decide⟩ ?_
      refine T_icmp_eq 72 (am_dec tX12_seenOn_0 12 rfl) rfl (fun h18 => ?_) (fun h18 => ?_)
      · refine T_weak (ls' := [none, none, none, some (aI bits), none]) (am_sub_n (am_sub_n (am_sub_n (am_sub_s (am_sub_n am_sub_nil))))) ?_
        have e9 : (w_k_seenOn_5 c q x t) (bits, k) = .inr (bits, k) := ((if_neg h13).trans (if_pos h18))
        simp only [am_wh_r e9] at k9
        exact k9 _ _ rfl rfl (by omega)
      · have wt21 := hWt k (by omega) (by omega)
        refine T_iload_n (am_dec tX12_seenOn_0 13 rfl) rfl ?_
        refine T_aload_n (am_dec tX12_seenOn_0 14 rfl) rfl ?_
        refine T_aload_n (am_dec tX12_seenOn_0 15 rfl) rfl ?_
        refine T_getfield 11 27 (am_dec tX12_seenOn_0 16 rfl) flX12_73_11 (md_obj hl) rfl ?_
        refine T_iload (am_dec tX12_seenOn_0 17 rfl) rfl ?_
        refine T_aaloadR (r := b + (118 + k.toNat)) (am_dec tX12_seenOn_0 18 rfl) (by decide) (mh_watch hl) (by omega) (by omega) (if_pos (by omega)) ?_
        refine T_iconst 0 (am_dec tX12_seenOn_0 19 rfl) rfl ⟨by decide, by decide⟩ ?_
        refine T_ialoadE (x := c (118 + k.toNat) 0) (am_dec tX12_seenOn_0 20 rfl) (mr_watch hl (i := k) (by omega) (by omega)) (by omega) (by omega) rfl ?_
        refine T_aload_n (am_dec tX12_seenOn_0 21 rfl) rfl ?_
        refine T_getfield 11 27 (am_dec tX12_seenOn_0 22 rfl) flX12_73_11 (md_obj hl) rfl ?_
        refine T_iload (am_dec tX12_seenOn_0 23 rfl) rfl ?_
        refine T_aaloadR (r := b + (118 + k.toNat)) (am_dec tX12_seenOn_0 24 rfl) (by decide) (mh_watch hl) (by omega) (by omega) (if_pos (by omega)) ?_
        refine T_iconst 1 (am_dec tX12_seenOn_0 25 rfl) rfl ⟨by decide, by decide⟩ ?_
        refine T_ialoadE (x := c (118 + k.toNat) 1) (am_dec tX12_seenOn_0 26 rfl) (mr_watch hl (i := k) (by omega) (by omega)) (by omega) (by omega) rfl ?_
        refine T_iload_n (am_dec tX12_seenOn_0 27 rfl) rfl ?_
        refine T_bipush 9 (am_dec tX12_seenOn_0 28 rfl) rfl ⟨by decide, by decide⟩ ?_
        refine T_irem (x % 9) (am_dec tX12_seenOn_0 29 rfl) (by omega) (am_tm (by omega)) ⟨by omega, by omega⟩ ?_
        refine T_iload_n (am_dec tX12_seenOn_0 30 rfl) rfl ?_
        refine T_bipush 9 (am_dec tX12_seenOn_0 31 rfl) rfl ⟨by decide, by decide⟩ ?_
        refine T_idiv (x / 9) (am_dec tX12_seenOn_0 32 rfl) (by omega) (am_td (by omega)) ⟨by omega, by omega⟩ ?_
        refine T_iload_n (am_dec tX12_seenOn_0 33 rfl) rfl ?_
        refine T_callV (as := [aI (c (118 + k.toNat) 0), aI (c (118 + k.toNat) 1), aI (x % 9), aI (x / 9), aI t]) rfl (am_dec tX12_seenOn_0 34 rfl) lkX12_374 (md_obj hl) rfl rfl (Nat.le_of_ble_eq_true rfl) (by omega) (mk_seesBy (d := d - 1) hl (c (118 + k.toNat) 0) (c (118 + k.toNat) 1) (x % 9) (x / 9) t  (by omega) (by omega) (by omega)) (fun _ => ?_)
        refine T_nm (fun z50 hz50 => ?_)
        have hb50 := k_seesBy_b c q (c (118 + k.toNat) 0) (c (118 + k.toNat) 1) (x % 9) (x / 9) t
        rw [← hz50] at hb50
        have K53 : ∀ (t53 : Int), t53 = (if z50 = 0 then 0 else (am_ishl 1 k)) →  am_T S zX12_seenOn d u Q 64 [some (aR b), some (aI x), some (aI t), none, some (aI k)] [aI t53, aI bits] (mdW w b c q) := by
          intro t53 ht53
          refine T_ior (am_ior bits t53) (am_dec tX12_seenOn_1 1 rfl) (am_w32e _).symm (am_w32r _) ?_
          refine T_nm (fun bits_65 hbits_65 => ?_)
          refine T_istore_n (ls' := [some (aR b), some (aI x), some (aI t), some (aI bits_65), some (aI k)]) (am_dec tX12_seenOn_1 2 rfl) (by decide) rfl ?_
          refine T_iinc (ls' := [some (aR b), some (aI x), some (aI t), some (aI bits_65), some (aI (k + 1))]) (k + 1) (am_dec tX12_seenOn_1 3 rfl) rfl rfl ⟨by omega, by omega⟩ (by decide) rfl ?_
          refine T_goto 5 (am_dec tX12_seenOn_1 4 rfl) rfl ?_
          have e9 : (w_k_seenOn_5 c q x t) (bits, k) = .inl (bits_65, k + 1) := (by have s9 := hz50.symm; subst s9; have s9 := ht53.symm; subst s9; have s9 := hbits_65.symm; subst s9; exact ((if_neg h13).trans (if_neg h18)))
          simp only [am_wh_l e9] at k9
          exact ih bits_65 (k + 1) (by omega) (by omega) k9
        refine T_if_eq 63 (am_dec tX12_seenOn_0 35 rfl) rfl (fun h53 => ?_) (fun h53 => ?_)
        · refine T_iconst 0 (am_dec tX12_seenOn_1 0 rfl) rfl ⟨by decide, by decide⟩ ?_
          refine T_weak (ls' := [some (aR b), some (aI x), some (aI t), none, some (aI k)]) (am_sub_s (am_sub_s (am_sub_s (am_sub_n (am_sub_s am_sub_nil))))) ?_
          exact K53 _ (if_pos h53).symm
        · refine T_iconst 1 (am_dec tX12_seenOn_0 36 rfl) rfl ⟨by decide, by decide⟩ ?_
          refine T_iload (am_dec tX12_seenOn_0 37 rfl) rfl ?_
          refine T_ishl (am_ishl 1 k) (am_dec tX12_seenOn_0 38 rfl) (am_w32e _).symm (am_w32r _) ?_
          refine T_goto 64 (am_dec tX12_seenOn_0 39 rfl) rfl ?_
          refine T_weak (ls' := [some (aR b), some (aI x), some (aI t), none, some (aI k)]) (am_sub_s (am_sub_s (am_sub_s (am_sub_n (am_sub_s am_sub_nil))))) ?_
          exact K53 _ (if_neg h53).symm
def k_seenOn (c : am_F) (q : am_F) (x : Int) (t : Int) : Int := (am_wh (w_k_seenOn_5 c q x t) 5 (0, 0)).1
theorem mk_seenOn {S : am_S} {d u : Nat} {w : AH} {b : Nat} (hl : b + 735 ≤ w.length) {c : am_F} {q : am_F} (x : Int) (t : Int) (hV : MdV c) (hWt : MdWt c) (hc0 : x = -1 ∨ (0 ≤ x ∧ x ≤ 80)) (ht : -1 ≤ t ∧ t < 40) (hd : 3 ≤ d) : am_Out S zX12_seenOn d u [aR b, aI x, aI t] (mdW w b c q) (.inl (some (aI (k_seenOn c q x t)))) (mdW w b c q) := by
  have key : ∀ Q : AO → AH → Prop, Q (.inl (some (aI (k_seenOn c q x t)))) (mdW w b c q) → am_M S zX12_seenOn d u [aR b, aI x, aI t] (mdW w b c q) Q := by
    intro Q hQ
    refine am_body rfl (by decide +kernel) rfl (am_cats_cons rfl ( am_cats_cons rfl ( am_cats_cons rfl (am_cats_nil)))) (Nat.le_of_ble_eq_true rfl) (?_ : am_T _ _ _ _ _ 0 [some (aR b), some (aI x), some (aI t), none, none] [] (mdW w b c q))
    obtain ⟨vl5, vu5⟩ := MdV_5 hV
    refine T_iconst 0 (am_dec tX12_seenOn_0 0 rfl) rfl ⟨by decide, by decide⟩ ?_
    refine T_istore_n (ls' := [some (aR b), some (aI x), some (aI t), some (aI 0), none]) (am_dec tX12_seenOn_0 1 rfl) (by decide) rfl ?_
    refine T_iconst 0 (am_dec tX12_seenOn_0 2 rfl) rfl ⟨by decide, by decide⟩ ?_
    refine T_istore (ls' := [some (aR b), some (aI x), some (aI t), some (aI 0), some (aI 0)]) (am_dec tX12_seenOn_0 3 rfl) (by decide) rfl ?_
    refine L_k_seenOn_5 hl c q x t hV hWt (by omega) (by omega)  (by omega) 5 0 0 (by omega) (by omega) (fun bits_5 k_5 hbits_5 hk_5 hv5 => ?_)
    refine T_iload_n (am_dec tX12_seenOn_1 5 rfl) rfl ?_
    exact T_ireturn (am_dec tX12_seenOn_1 6 rfl) rfl (am_tr (fun x9 => Q (.inl (some (aI (x9)))) (mdW w b c q)) (y := bits_5) (show (k_seenOn c q x t) = bits_5 from (by have s9 := hbits_5.symm; subst s9; have s9 := hk_5.symm; subst s9; exact rfl)) hQ)
  exact key _ ⟨rfl, rfl⟩
def k_seen (c : am_F) (q : am_F) (wk : Int) (t : Int) : Int × am_F := (let z8 : Int := (k_isWalker c wk); (let t11 : Int := (if z8 = 0 then 1 else 0); (let q21 : am_F := (k_refuse (am_put q 0 0 0) t11 1 1); (let z21 : Int := (if t11 = 0 then 0 else 1); (if z21 = 0 then (let z29 : Int := (k_isStep t); (let t32 : Int := (if z29 = 0 then 1 else 0); (let q42 : am_F := (k_refuse q21 t32 2 2); (let z42 : Int := (if t32 = 0 then 0 else 1); (if z42 = 0 then (let q51 : am_F := k_goes c q42; (let n58 : Int := (k_placeOf c wk t); ((k_seenOn c q51 n58 t), q51))) else (0, q42)))))) else (0, q21))))))
theorem mk_seen {S : am_S} {d u : Nat} {w : AH} {b : Nat} (hl : b + 735 ≤ w.length) {c : am_F} {q : am_F} (wk : Int) (t : Int) (hV : MdV c) (hWd : MdWd c) (hS9 : MdS c) (hLp : MdLp c) (hDu : MdDu c) (hK9 : MdK c) (hPl : MdPl c) (hWt : MdWt c) (hd : 5 ≤ d) : am_Out S zX12_seen d u [aR b, aI wk, aI t] (mdW w b c q) (.inl (some (aI ((k_seen c q wk t).1)))) (mdW w b c ((k_seen c q wk t).2)) := by
  have key : ∀ Q : AO → AH → Prop, Q (.inl (some (aI ((k_seen c q wk t).1)))) (mdW w b c ((k_seen c q wk t).2)) → am_M S zX12_seen d u [aR b, aI wk, aI t] (mdW w b c q) Q := by
    intro Q hQ
    refine am_body rfl (by decide +kernel) rfl (am_cats_cons rfl ( am_cats_cons rfl ( am_cats_cons rfl (am_cats_nil)))) (Nat.le_of_ble_eq_true rfl) (?_ : am_T _ _ _ _ _ 0 [some (aR b), some (aI wk), some (aI t)] [] (mdW w b c q))
    obtain ⟨vl0, vu0⟩ := MdV_0 hV
    obtain ⟨vl1, vu1⟩ := MdV_1 hV
    refine T_aload_n (am_dec tX12_seen_0 0 rfl) rfl ?_
    refine T_iconst 0 (am_dec tX12_seen_0 1 rfl) rfl ⟨by decide, by decide⟩ ?_
    refine T_putfield (fs' := mdO b (c 0) (am_up (q 0) 0 0)) 11 0 (am_dec tX12_seen_0 2 rfl) flX12_160_11 rfl rfl rfl trivial (md_obj hl) (Nat.le_of_ble_eq_true rfl) rfl ?_
    refine am_wE (w2 := mdW w b c (am_put q 0 0 0)) (md_fq) ?_
    refine T_aload_n (am_dec tX12_seen_0 3 rfl) rfl ?_
    refine T_aload_n (am_dec tX12_seen_0 4 rfl) rfl ?_
    refine T_iload_n (am_dec tX12_seen_0 5 rfl) rfl ?_
    refine T_callV (as := [aI wk]) rfl (am_dec tX12_seen_0 6 rfl) lkX12_365 (md_obj hl) rfl rfl (Nat.le_of_ble_eq_true rfl) (by omega) (mk_isWalker (d := d - 1) hl wk  hV (by omega)) (fun _ => ?_)
    refine T_nm (fun z8 hz8 => ?_)
    have hb8 := k_isWalker_b c wk
    rw [← hz8] at hb8
    have hs8 := k_isWalker_s c wk
    rw [← hz8] at hs8
    have K11 : ∀ (t11 : Int), t11 = (if z8 = 0 then 1 else 0) →  am_T S zX12_seen d u Q 19 [some (aR b), some (aI wk), some (aI t)] [aI t11, aR b] (mdW w b c (am_put q 0 0 0)) := by
      intro t11 ht11
      have hbt11 : t11 = 0 ∨ t11 = 1 := by
        rw [ht11]
        try dsimp only
        repeat' split
        all_goals first | exact Or.inl rfl | exact Or.inr rfl | apply k_in_b | apply k_isDigit_b | apply k_isSmall_b | apply k_bad_b | apply k_isIn_b | apply k_isStep_b | apply k_isFirst_b | apply k_isLine_b | apply k_seesBy_b | apply k_isWalker_b | apply k_seesOne_b | apply k_badTwo_b | apply k_sees_b | omega
      refine T_iconst 1 (am_dec tX12_seen_0 11 rfl) rfl ⟨by decide, by decide⟩ ?_
      refine T_iconst 1 (am_dec tX12_seen_0 12 rfl) rfl ⟨by decide, by decide⟩ ?_
      refine T_callV (as := [aI t11, aI 1, aI 1]) rfl (am_dec tX12_seen_0 13 rfl) lkX12_275 (md_obj hl) rfl rfl (Nat.le_of_ble_eq_true rfl) (by omega) (mk_bad0 (d := d - 1) hl t11 1 1 (by omega) am_put_s (by omega)) (fun _ => ?_)
      refine T_nmH (W := fun x9 => mdW w b c x9) (v := (k_refuse (am_put q 0 0 0) t11 1 1)) (fun q21 hq21 => ?_)
      refine T_nm (fun z21 hz21 => ?_)
      have hq021 : t11 = 0 → q21 0 0 = 0 := fun h9 => by rw [hq21]; exact k_refuse_0 am_put_s h9
      refine T_if_ne 48 (am_dec tX12_seen_0 14 rfl) rfl (fun h24 => ?_) (fun h24 => ?_)
      · refine T_iconst 0 (am_dec tX12_seen_0 26 rfl) rfl ⟨by decide, by decide⟩ ?_
        exact T_ireturn (am_dec tX12_seen_0 27 rfl) rfl (am_tr (fun x9 => Q (.inl (some (aI (x9.1)))) (mdW w b c x9.2)) (y := (0, q21)) (show (k_seen c q wk t) = (0, q21) from (by have s9 := hz8.symm; subst s9; have s9 := ht11.symm; subst s9; have s9 := hq21.symm; subst s9; have s9 := hz21.symm; subst s9; exact (if_neg h24))) hQ)
      · refine T_aload_n (am_dec tX12_seen_0 15 rfl) rfl ?_
        refine T_iload_n (am_dec tX12_seen_0 16 rfl) rfl ?_
        refine T_callS (as := [aI t]) rfl (am_dec tX12_seen_0 17 rfl) lkX12_351 rfl (Nat.le_of_ble_eq_true rfl) (by omega) (mk_isStep (d := d - 1)  t   (by omega)) (fun _ => ?_)
        refine T_nm (fun z29 hz29 => ?_)
        have hb29 := k_isStep_b t
        rw [← hz29] at hb29
        have hs29 := k_isStep_s t
        rw [← hz29] at hs29
        have K32 : ∀ (t32 : Int), t32 = (if z29 = 0 then 1 else 0) →  am_T S zX12_seen d u Q 40 [some (aR b), some (aI wk), some (aI t)] [aI t32, aR b] (mdW w b c q21) := by
          intro t32 ht32
          have hbt32 : t32 = 0 ∨ t32 = 1 := by
            rw [ht32]
            try dsimp only
            repeat' split
            all_goals first | exact Or.inl rfl | exact Or.inr rfl | apply k_in_b | apply k_isDigit_b | apply k_isSmall_b | apply k_bad_b | apply k_isIn_b | apply k_isStep_b | apply k_isFirst_b | apply k_isLine_b | apply k_seesBy_b | apply k_isWalker_b | apply k_seesOne_b | apply k_badTwo_b | apply k_sees_b | omega
          refine T_iconst 2 (am_dec tX12_seen_0 22 rfl) rfl ⟨by decide, by decide⟩ ?_
          refine T_iconst 2 (am_dec tX12_seen_0 23 rfl) rfl ⟨by decide, by decide⟩ ?_
          refine T_callV (as := [aI t32, aI 2, aI 2]) rfl (am_dec tX12_seen_0 24 rfl) lkX12_275 (md_obj hl) rfl rfl (Nat.le_of_ble_eq_true rfl) (by omega) (mk_bad0 (d := d - 1) hl t32 2 2 (by omega) (hq021 (by omega)) (by omega)) (fun _ => ?_)
          refine T_nmH (W := fun x9 => mdW w b c x9) (v := (k_refuse q21 t32 2 2)) (fun q42 hq42 => ?_)
          refine T_nm (fun z42 hz42 => ?_)
          have hq042 : t32 = 0 → q42 0 0 = 0 := fun h9 => by rw [hq42]; exact k_refuse_0 (hq021 (by omega)) h9
          refine T_if_eq 50 (am_dec tX12_seen_0 25 rfl) rfl (fun h45 => ?_) (fun h45 => ?_)
          · refine T_aload_n (am_dec tX12_seen_0 28 rfl) rfl ?_
            refine T_callV (as := []) rfl (am_dec tX12_seen_0 29 rfl) lkX12_345 (md_obj hl) rfl rfl (Nat.le_of_ble_eq_true rfl) (by omega) (mk_goes (d := d - 1) hl   hV hWd hS9 hLp hDu (by omega)) (fun _ => ?_)
            refine T_nmH (W := fun x9 => mdW w b c x9) (v := k_goes c q42) (fun q51 hq51 => ?_)
            refine T_aload_n (am_dec tX12_seen_0 30 rfl) rfl ?_
            refine T_aload_n (am_dec tX12_seen_0 31 rfl) rfl ?_
            refine T_iload_n (am_dec tX12_seen_0 32 rfl) rfl ?_
            refine T_iload_n (am_dec tX12_seen_0 33 rfl) rfl ?_
            refine T_callV (as := [aI wk, aI t]) rfl (am_dec tX12_seen_0 34 rfl) lkX12_368 (md_obj hl) rfl rfl (Nat.le_of_ble_eq_true rfl) (by omega) (mk_placeOf (d := d - 1) hl wk t  hV hK9 (by omega) (by omega) (by omega)) (fun _ => ?_)
            refine T_nm (fun n58 hn58 => ?_)
            have hs58 := hPl wk t (by omega) (by omega)
            rw [← hn58] at hs58
            refine T_iload_n (am_dec tX12_seen_0 35 rfl) rfl ?_
            refine T_callV (as := [aI n58, aI t]) rfl (am_dec tX12_seen_0 36 rfl) lkX12_384 (md_obj hl) rfl rfl (Nat.le_of_ble_eq_true rfl) (by omega) (mk_seenOn (d := d - 1) hl n58 t  hV hWt (by omega) (by omega) (by omega)) (fun _ => ?_)
            exact T_ireturn (am_dec tX12_seen_0 37 rfl) rfl (am_tr (fun x9 => Q (.inl (some (aI (x9.1)))) (mdW w b c x9.2)) (y := ((k_seenOn c q51 n58 t), q51)) (show (k_seen c q wk t) = ((k_seenOn c q51 n58 t), q51) from (by have s9 := hz8.symm; subst s9; have s9 := ht11.symm; subst s9; have s9 := hq21.symm; subst s9; have s9 := hz21.symm; subst s9; have s9 := hz29.symm; subst s9; have s9 := ht32.symm; subst s9; have s9 := hq42.symm; subst s9; have s9 := hz42.symm; subst s9; have s9 := hq51.symm; subst s9; have s9 := hn58.symm; subst s9; exact ((if_pos h24).trans (if_pos h45)))) hQ)
          · refine T_iconst 0 (am_dec tX12_seen_0 26 rfl) rfl ⟨by decide, by decide⟩ ?_
            exact T_ireturn (am_dec tX12_seen_0 27 rfl) rfl (am_tr (fun x9 => Q (.inl (some (aI (x9.1)))) (mdW w b c x9.2)) (y := (0, q42)) (show (k_seen c q wk t) = (0, q42) from (by have s9 := hz8.symm; subst s9; have s9 := ht11.symm; subst s9; have s9 := hq21.symm; subst s9; have s9 := hz21.symm; subst s9; have s9 := hz29.symm; subst s9; have s9 := ht32.symm; subst s9; have s9 := hq42.symm; subst s9; have s9 := hz42.symm; subst s9; exact ((if_pos h24).trans (if_neg h45)))) hQ)
        refine T_if_ne 39 (am_dec tX12_seen_0 18 rfl) rfl (fun h32 => ?_) (fun h32 => ?_)
        · refine T_iconst 0 (am_dec tX12_seen_0 21 rfl) rfl ⟨by decide, by decide⟩ ?_
          exact K32 _ (if_neg h32).symm
        · refine T_iconst 1 (am_dec tX12_seen_0 19 rfl) rfl ⟨by decide, by decide⟩ ?_
          refine T_goto 40 (am_dec tX12_seen_0 20 rfl) rfl ?_
          exact K32 _ (if_pos h32).symm
    refine T_if_ne 18 (am_dec tX12_seen_0 7 rfl) rfl (fun h11 => ?_) (fun h11 => ?_)
    · refine T_iconst 0 (am_dec tX12_seen_0 10 rfl) rfl ⟨by decide, by decide⟩ ?_
      exact K11 _ (if_neg h11).symm
    · refine T_iconst 1 (am_dec tX12_seen_0 8 rfl) rfl ⟨by decide, by decide⟩ ?_
      refine T_goto 19 (am_dec tX12_seen_0 9 rfl) rfl ?_
      exact K11 _ (if_pos h11).symm
  exact key _ ⟨rfl, rfl⟩
def g_k_couldSee_6 (c : am_F) (q : am_F) (x : Int) (y : Int) (t : Int) (wk : Int) (bits : Int) : Int := (let n21 : Int := (k_placeOf c wk t); (let t31 : Int := (if n21 = (-1) then 0 else (let z48 : Int := (k_seesBy c q (n21 % 9) (n21 / 9) x y t); (if z48 = 0 then 0 else (am_ishl 1 wk)))); am_ior bits t31))
theorem L_k_couldSee_6 {S : am_S} {d u : Nat} {Q : AO → AH → Prop} {w : AH} {b : Nat} (hl : b + 735 ≤ w.length) (c : am_F) (q : am_F) (x : Int) (y : Int) (t : Int) (hV : MdV c) (hK9 : MdK c) (hPl : MdPl c) (hx : (0 ≤ x ∧ x ≤ 8) ∧ (0 ≤ y ∧ y ≤ 8)) (ht : -1 ≤ t ∧ t < 40)  (hd : 3 ≤ d) (B9 : Int) (hB : B9 = c 4 4) : ∀ (n : Nat) (wk : Int) (bits : Int), wk + n = B9 → 0 ≤ wk → (∀ (bits' : Int), bits' = am_fold (g_k_couldSee_6 c q x y t) wk n bits → am_T S zX12_couldSee d u Q 71 [none, none, none, none, some (aI bits'), none, none] [] (mdW w b c q)) → am_T S zX12_couldSee d u Q 6 [some (aR b), some (aI x), some (aI y), some (aI t), some (aI bits), some (aI wk), none] [] (mdW w b c q) := by
  intro n
  induction n with
  | zero =>
    intro wk bits hi9 h0i k9
    have e9 : wk = B9 := by omega
    subst e9
    obtain ⟨vl4, vu4⟩ := MdV_4 hV
    refine T_iload (am_dec tX12_couldSee_0 4 rfl) rfl ?_
    refine T_aload_n (am_dec tX12_couldSee_0 5 rfl) rfl ?_
    refine T_getfield 11 11 (am_dec tX12_couldSee_0 6 rfl) flX12_23_11 (md_obj hl) rfl ?_
    refine T_iconst 4 (am_dec tX12_couldSee_0 7 rfl) rfl ⟨by decide, by decide⟩ ?_
    refine T_ialoadE (x := c 4 4) (am_dec tX12_couldSee_0 8 rfl) (md_told hl) (by omega) (by omega) rfl ?_
    refine T_icmp_ge 71 (am_dec tX12_couldSee_0 9 rfl) rfl (fun h14 => ?_) (fun h14 => by exfalso; omega)
    refine T_weak (ls' := [none, none, none, none, some (aI bits), none, none]) (am_sub_n (am_sub_n (am_sub_n (am_sub_n (am_sub_s (am_sub_n (am_sub_n am_sub_nil))))))) ?_
    exact k9 bits rfl
  | succ n ih =>
    intro wk bits hi9 h0i k9
    obtain ⟨vl4, vu4⟩ := MdV_4 hV
    refine T_iload (am_dec tX12_couldSee_0 4 rfl) rfl ?_
    refine T_aload_n (am_dec tX12_couldSee_0 5 rfl) rfl ?_
    refine T_getfield 11 11 (am_dec tX12_couldSee_0 6 rfl) flX12_23_11 (md_obj hl) rfl ?_
    refine T_iconst 4 (am_dec tX12_couldSee_0 7 rfl) rfl ⟨by decide, by decide⟩ ?_
    refine T_ialoadE (x := c 4 4) (am_dec tX12_couldSee_0 8 rfl) (md_told hl) (by omega) (by omega) rfl ?_
    refine T_icmp_ge 71 (am_dec tX12_couldSee_0 9 rfl) rfl (fun h14 => by exfalso; omega) (fun h14 => ?_)
    refine T_aload_n (am_dec tX12_couldSee_0 10 rfl) rfl ?_
    refine T_iload (am_dec tX12_couldSee_0 11 rfl) rfl ?_
    refine T_iload_n (am_dec tX12_couldSee_0 12 rfl) rfl ?_
    refine T_callV (as := [aI wk, aI t]) rfl (am_dec tX12_couldSee_0 13 rfl) lkX12_368 (md_obj hl) rfl rfl (Nat.le_of_ble_eq_true rfl) (by omega) (mk_placeOf (d := d - 1) hl wk t  hV hK9 (by omega) (by omega) (by omega)) (fun _ => ?_)
    refine T_nm (fun n21 hn21 => ?_)
    have hs21 := hPl wk t (by omega) (by omega)
    rw [← hn21] at hs21
    refine T_istore (ls' := [some (aR b), some (aI x), some (aI y), some (aI t), some (aI bits), some (aI wk), some (aI n21)]) (am_dec tX12_couldSee_0 14 rfl) (by decide) rfl ?_
    refine T_iload (am_dec tX12_couldSee_0 15 rfl) rfl ?_
    refine T_iload (am_dec tX12_couldSee_0 16 rfl) rfl ?_
    refine T_iconst (-1) (am_dec tX12_couldSee_0 17 rfl) rfl ⟨by decide, by decide⟩ ?_
    have K31 : ∀ (t31 : Int), t31 = (if n21 = (-1) then 0 else (let z48 : Int := (k_seesBy c q (n21 % 9) (n21 / 9) x y t); (if z48 = 0 then 0 else (am_ishl 1 wk)))) →  am_T S zX12_couldSee d u Q 62 [some (aR b), some (aI x), some (aI y), some (aI t), none, some (aI wk), none] [aI t31, aI bits] (mdW w b c q) := by
      intro t31 ht31
      have hxt31 := ht31
      dsimp only at hxt31
      refine T_ior (am_ior bits t31) (am_dec tX12_couldSee_0 36 rfl) (am_w32e _).symm (am_w32r _) ?_
      refine T_nm (fun bits_63 hbits_63 => ?_)
      refine T_istore (ls' := [some (aR b), some (aI x), some (aI y), some (aI t), some (aI bits_63), some (aI wk), none]) (am_dec tX12_couldSee_0 37 rfl) (by decide) rfl ?_
      refine T_iinc (ls' := [some (aR b), some (aI x), some (aI y), some (aI t), some (aI bits_63), some (aI (wk + 1)), none]) (wk + 1) (am_dec tX12_couldSee_0 38 rfl) rfl rfl ⟨by omega, by omega⟩ (by decide) rfl ?_
      refine T_goto 6 (am_dec tX12_couldSee_0 39 rfl) rfl ?_
      have e9 : (g_k_couldSee_6 c q x y t) wk bits = bits_63 := (by have s9 := hn21.symm; subst s9; have s9 := ht31.symm; subst s9; have s9 := hbits_63.symm; subst s9; exact rfl)
      simp only [am_fold_s, e9] at k9
      exact ih (wk + 1) bits_63 (by omega) (by omega) k9
    refine T_icmp_eq 61 (am_dec tX12_couldSee_0 18 rfl) rfl (fun h31 => ?_) (fun h31 => ?_)
    · refine T_iconst 0 (am_dec tX12_couldSee_0 35 rfl) rfl ⟨by decide, by decide⟩ ?_
      refine T_weak (ls' := [some (aR b), some (aI x), some (aI y), some (aI t), none, some (aI wk), none]) (am_sub_s (am_sub_s (am_sub_s (am_sub_s (am_sub_n (am_sub_s (am_sub_n am_sub_nil))))))) ?_
      exact K31 _ (if_pos h31).symm
    · refine T_aload_n (am_dec tX12_couldSee_0 19 rfl) rfl ?_
      refine T_iload (am_dec tX12_couldSee_0 20 rfl) rfl ?_
      refine T_bipush 9 (am_dec tX12_couldSee_0 21 rfl) rfl ⟨by decide, by decide⟩ ?_
      refine T_irem (n21 % 9) (am_dec tX12_couldSee_0 22 rfl) (by omega) (am_tm (by omega)) ⟨by omega, by omega⟩ ?_
      refine T_iload (am_dec tX12_couldSee_0 23 rfl) rfl ?_
      refine T_bipush 9 (am_dec tX12_couldSee_0 24 rfl) rfl ⟨by decide, by decide⟩ ?_
      refine T_idiv (n21 / 9) (am_dec tX12_couldSee_0 25 rfl) (by omega) (am_td (by omega)) ⟨by omega, by omega⟩ ?_
      refine T_iload_n (am_dec tX12_couldSee_0 26 rfl) rfl ?_
      refine T_iload_n (am_dec tX12_couldSee_0 27 rfl) rfl ?_
      refine T_iload_n (am_dec tX12_couldSee_0 28 rfl) rfl ?_
      refine T_callV (as := [aI (n21 % 9), aI (n21 / 9), aI x, aI y, aI t]) rfl (am_dec tX12_couldSee_0 29 rfl) lkX12_374 (md_obj hl) rfl rfl (Nat.le_of_ble_eq_true rfl) (by omega) (mk_seesBy (d := d - 1) hl (n21 % 9) (n21 / 9) x y t  (by omega) (by omega) (by omega)) (fun _ => ?_)
      refine T_nm (fun z48 hz48 => ?_)
      have hb48 := k_seesBy_b c q (n21 % 9) (n21 / 9) x y t
      rw [← hz48] at hb48
      have K51 : ∀ (t51 : Int), t51 = (if z48 = 0 then 0 else (am_ishl 1 wk)) →  am_T S zX12_couldSee d u Q 62 [some (aR b), some (aI x), some (aI y), some (aI t), none, some (aI wk), none] [aI t51, aI bits] (mdW w b c q) := by
        intro t51 ht51
        exact K31 _ (by have s9 := hz48.symm; subst s9; have s9 := ht51.symm; subst s9; exact (if_neg h31).symm)
      refine T_if_eq 61 (am_dec tX12_couldSee_0 30 rfl) rfl (fun h51 => ?_) (fun h51 => ?_)
      · refine T_iconst 0 (am_dec tX12_couldSee_0 35 rfl) rfl ⟨by decide, by decide⟩ ?_
        refine T_weak (ls' := [some (aR b), some (aI x), some (aI y), some (aI t), none, some (aI wk), none]) (am_sub_s (am_sub_s (am_sub_s (am_sub_s (am_sub_n (am_sub_s (am_sub_n am_sub_nil))))))) ?_
        exact K51 _ (if_pos h51).symm
      · refine T_iconst 1 (am_dec tX12_couldSee_0 31 rfl) rfl ⟨by decide, by decide⟩ ?_
        refine T_iload (am_dec tX12_couldSee_0 32 rfl) rfl ?_
        refine T_ishl (am_ishl 1 wk) (am_dec tX12_couldSee_0 33 rfl) (am_w32e _).symm (am_w32r _) ?_
        refine T_goto 62 (am_dec tX12_couldSee_0 34 rfl) rfl ?_
        refine T_weak (ls' := [some (aR b), some (aI x), some (aI y), some (aI t), none, some (aI wk), none]) (am_sub_s (am_sub_s (am_sub_s (am_sub_s (am_sub_n (am_sub_s (am_sub_n am_sub_nil))))))) ?_
        exact K51 _ (if_neg h51).symm
def k_couldSee (c : am_F) (q : am_F) (x : Int) (y : Int) (t : Int) : Int := am_fold (g_k_couldSee_6 c q x y t) 0 (c 4 4).toNat 0
theorem mk_couldSee {S : am_S} {d u : Nat} {w : AH} {b : Nat} (hl : b + 735 ≤ w.length) {c : am_F} {q : am_F} (x : Int) (y : Int) (t : Int) (hV : MdV c) (hK9 : MdK c) (hPl : MdPl c) (hx : (0 ≤ x ∧ x ≤ 8) ∧ (0 ≤ y ∧ y ≤ 8)) (ht : -1 ≤ t ∧ t < 40) (hd : 3 ≤ d) : am_Out S zX12_couldSee d u [aR b, aI x, aI y, aI t] (mdW w b c q) (.inl (some (aI (k_couldSee c q x y t)))) (mdW w b c q) := by
  have key : ∀ Q : AO → AH → Prop, Q (.inl (some (aI (k_couldSee c q x y t)))) (mdW w b c q) → am_M S zX12_couldSee d u [aR b, aI x, aI y, aI t] (mdW w b c q) Q := by
    intro Q hQ
    refine am_body rfl (by decide +kernel) rfl (am_cats_cons rfl ( am_cats_cons rfl ( am_cats_cons rfl ( am_cats_cons rfl (am_cats_nil))))) (Nat.le_of_ble_eq_true rfl) (?_ : am_T _ _ _ _ _ 0 [some (aR b), some (aI x), some (aI y), some (aI t), none, none, none] [] (mdW w b c q))
    obtain ⟨vl4, vu4⟩ := MdV_4 hV
    refine T_iconst 0 (am_dec tX12_couldSee_0 0 rfl) rfl ⟨by decide, by decide⟩ ?_
    refine T_istore (ls' := [some (aR b), some (aI x), some (aI y), some (aI t), some (aI 0), none, none]) (am_dec tX12_couldSee_0 1 rfl) (by decide) rfl ?_
    refine T_iconst 0 (am_dec tX12_couldSee_0 2 rfl) rfl ⟨by decide, by decide⟩ ?_
    refine T_istore (ls' := [some (aR b), some (aI x), some (aI y), some (aI t), some (aI 0), some (aI 0), none]) (am_dec tX12_couldSee_0 3 rfl) (by decide) rfl ?_
    refine L_k_couldSee_6 hl c q x y t hV hK9 hPl hx ht  (by omega) _ rfl (c 4 4).toNat 0 0 (by omega) (by omega) (fun bits_6 hbits_6 => ?_)
    refine T_iload (am_dec tX12_couldSee_1 0 rfl) rfl ?_
    exact T_ireturn (am_dec tX12_couldSee_1 1 rfl) rfl (am_tr (fun x9 => Q (.inl (some (aI (x9)))) (mdW w b c q)) (y := bits_6) (show (k_couldSee c q x y t) = bits_6 from (by have s9 := hbits_6.symm; subst s9; exact rfl)) hQ)
  exact key _ ⟨rfl, rfl⟩
def k_could (c : am_F) (q : am_F) (x : Int) (y : Int) (t : Int) : Int × am_F := (let z9 : Int := (k_isIn c x y); (let t12 : Int := (if z9 = 0 then 1 else 0); (let q22 : am_F := (k_refuse (am_put q 0 0 0) t12 1 0); (let z22 : Int := (if t12 = 0 then 0 else 1); (if z22 = 0 then (let z30 : Int := (k_isStep t); (let t33 : Int := (if z30 = 0 then 1 else 0); (let q43 : am_F := (k_refuse q22 t33 2 2); (let z43 : Int := (if t33 = 0 then 0 else 1); (if z43 = 0 then (let q52 : am_F := k_goes c q43; ((k_couldSee c q52 x y t), q52)) else (0, q43)))))) else (0, q22))))))
theorem mk_could {S : am_S} {d u : Nat} {w : AH} {b : Nat} (hl : b + 735 ≤ w.length) {c : am_F} {q : am_F} (x : Int) (y : Int) (t : Int) (hV : MdV c) (hWd : MdWd c) (hS9 : MdS c) (hLp : MdLp c) (hDu : MdDu c) (hK9 : MdK c) (hPl : MdPl c) (hd : 5 ≤ d) : am_Out S zX12_could d u [aR b, aI x, aI y, aI t] (mdW w b c q) (.inl (some (aI ((k_could c q x y t).1)))) (mdW w b c ((k_could c q x y t).2)) := by
  have key : ∀ Q : AO → AH → Prop, Q (.inl (some (aI ((k_could c q x y t).1)))) (mdW w b c ((k_could c q x y t).2)) → am_M S zX12_could d u [aR b, aI x, aI y, aI t] (mdW w b c q) Q := by
    intro Q hQ
    refine am_body rfl (by decide +kernel) rfl (am_cats_cons rfl ( am_cats_cons rfl ( am_cats_cons rfl ( am_cats_cons rfl (am_cats_nil))))) (Nat.le_of_ble_eq_true rfl) (?_ : am_T _ _ _ _ _ 0 [some (aR b), some (aI x), some (aI y), some (aI t)] [] (mdW w b c q))
    obtain ⟨vl0, vu0⟩ := MdV_0 hV
    obtain ⟨vl1, vu1⟩ := MdV_1 hV
    refine T_aload_n (am_dec tX12_could_0 0 rfl) rfl ?_
    refine T_iconst 0 (am_dec tX12_could_0 1 rfl) rfl ⟨by decide, by decide⟩ ?_
    refine T_putfield (fs' := mdO b (c 0) (am_up (q 0) 0 0)) 11 0 (am_dec tX12_could_0 2 rfl) flX12_160_11 rfl rfl rfl trivial (md_obj hl) (Nat.le_of_ble_eq_true rfl) rfl ?_
    refine am_wE (w2 := mdW w b c (am_put q 0 0 0)) (md_fq) ?_
    refine T_aload_n (am_dec tX12_could_0 3 rfl) rfl ?_
    refine T_aload_n (am_dec tX12_could_0 4 rfl) rfl ?_
    refine T_iload_n (am_dec tX12_could_0 5 rfl) rfl ?_
    refine T_iload_n (am_dec tX12_could_0 6 rfl) rfl ?_
    refine T_callV (as := [aI x, aI y]) rfl (am_dec tX12_could_0 7 rfl) lkX12_320 (md_obj hl) rfl rfl (Nat.le_of_ble_eq_true rfl) (by omega) (mk_isIn (d := d - 1) hl x y  hV (by omega)) (fun _ => ?_)
    refine T_nm (fun z9 hz9 => ?_)
    have hb9 := k_isIn_b c x y
    rw [← hz9] at hb9
    have hs9 := k_isIn_s c x y
    rw [← hz9] at hs9
    have K12 : ∀ (t12 : Int), t12 = (if z9 = 0 then 1 else 0) →  am_T S zX12_could d u Q 20 [some (aR b), some (aI x), some (aI y), some (aI t)] [aI t12, aR b] (mdW w b c (am_put q 0 0 0)) := by
      intro t12 ht12
      have hbt12 : t12 = 0 ∨ t12 = 1 := by
        rw [ht12]
        try dsimp only
        repeat' split
        all_goals first | exact Or.inl rfl | exact Or.inr rfl | apply k_in_b | apply k_isDigit_b | apply k_isSmall_b | apply k_bad_b | apply k_isIn_b | apply k_isStep_b | apply k_isFirst_b | apply k_isLine_b | apply k_seesBy_b | apply k_isWalker_b | apply k_seesOne_b | apply k_badTwo_b | apply k_sees_b | omega
      refine T_iconst 1 (am_dec tX12_could_0 12 rfl) rfl ⟨by decide, by decide⟩ ?_
      refine T_iconst 0 (am_dec tX12_could_0 13 rfl) rfl ⟨by decide, by decide⟩ ?_
      refine T_callV (as := [aI t12, aI 1, aI 0]) rfl (am_dec tX12_could_0 14 rfl) lkX12_275 (md_obj hl) rfl rfl (Nat.le_of_ble_eq_true rfl) (by omega) (mk_bad0 (d := d - 1) hl t12 1 0 (by omega) am_put_s (by omega)) (fun _ => ?_)
      refine T_nmH (W := fun x9 => mdW w b c x9) (v := (k_refuse (am_put q 0 0 0) t12 1 0)) (fun q22 hq22 => ?_)
      refine T_nm (fun z22 hz22 => ?_)
      have hq022 : t12 = 0 → q22 0 0 = 0 := fun h9 => by rw [hq22]; exact k_refuse_0 am_put_s h9
      refine T_if_ne 49 (am_dec tX12_could_0 15 rfl) rfl (fun h25 => ?_) (fun h25 => ?_)
      · refine T_iconst 0 (am_dec tX12_could_0 27 rfl) rfl ⟨by decide, by decide⟩ ?_
        exact T_ireturn (am_dec tX12_could_0 28 rfl) rfl (am_tr (fun x9 => Q (.inl (some (aI (x9.1)))) (mdW w b c x9.2)) (y := (0, q22)) (show (k_could c q x y t) = (0, q22) from (by have s9 := hz9.symm; subst s9; have s9 := ht12.symm; subst s9; have s9 := hq22.symm; subst s9; have s9 := hz22.symm; subst s9; exact (if_neg h25))) hQ)
      · refine T_aload_n (am_dec tX12_could_0 16 rfl) rfl ?_
        refine T_iload_n (am_dec tX12_could_0 17 rfl) rfl ?_
        refine T_callS (as := [aI t]) rfl (am_dec tX12_could_0 18 rfl) lkX12_351 rfl (Nat.le_of_ble_eq_true rfl) (by omega) (mk_isStep (d := d - 1)  t   (by omega)) (fun _ => ?_)
        refine T_nm (fun z30 hz30 => ?_)
        have hb30 := k_isStep_b t
        rw [← hz30] at hb30
        have hs30 := k_isStep_s t
        rw [← hz30] at hs30
        have K33 : ∀ (t33 : Int), t33 = (if z30 = 0 then 1 else 0) →  am_T S zX12_could d u Q 41 [some (aR b), some (aI x), some (aI y), some (aI t)] [aI t33, aR b] (mdW w b c q22) := by
          intro t33 ht33
          have hbt33 : t33 = 0 ∨ t33 = 1 := by
            rw [ht33]
            try dsimp only
            repeat' split
            all_goals first | exact Or.inl rfl | exact Or.inr rfl | apply k_in_b | apply k_isDigit_b | apply k_isSmall_b | apply k_bad_b | apply k_isIn_b | apply k_isStep_b | apply k_isFirst_b | apply k_isLine_b | apply k_seesBy_b | apply k_isWalker_b | apply k_seesOne_b | apply k_badTwo_b | apply k_sees_b | omega
          refine T_iconst 2 (am_dec tX12_could_0 23 rfl) rfl ⟨by decide, by decide⟩ ?_
          refine T_iconst 2 (am_dec tX12_could_0 24 rfl) rfl ⟨by decide, by decide⟩ ?_
          refine T_callV (as := [aI t33, aI 2, aI 2]) rfl (am_dec tX12_could_0 25 rfl) lkX12_275 (md_obj hl) rfl rfl (Nat.le_of_ble_eq_true rfl) (by omega) (mk_bad0 (d := d - 1) hl t33 2 2 (by omega) (hq022 (by omega)) (by omega)) (fun _ => ?_)
          refine T_nmH (W := fun x9 => mdW w b c x9) (v := (k_refuse q22 t33 2 2)) (fun q43 hq43 => ?_)
          refine T_nm (fun z43 hz43 => ?_)
          have hq043 : t33 = 0 → q43 0 0 = 0 := fun h9 => by rw [hq43]; exact k_refuse_0 (hq022 (by omega)) h9
          refine T_if_eq 51 (am_dec tX12_could_0 26 rfl) rfl (fun h46 => ?_) (fun h46 => ?_)
          · refine T_aload_n (am_dec tX12_could_0 29 rfl) rfl ?_
            refine T_callV (as := []) rfl (am_dec tX12_could_0 30 rfl) lkX12_345 (md_obj hl) rfl rfl (Nat.le_of_ble_eq_true rfl) (by omega) (mk_goes (d := d - 1) hl   hV hWd hS9 hLp hDu (by omega)) (fun _ => ?_)
            refine T_nmH (W := fun x9 => mdW w b c x9) (v := k_goes c q43) (fun q52 hq52 => ?_)
            refine T_aload_n (am_dec tX12_could_0 31 rfl) rfl ?_
            refine T_iload_n (am_dec tX12_could_0 32 rfl) rfl ?_
            refine T_iload_n (am_dec tX12_could_0 33 rfl) rfl ?_
            refine T_iload_n (am_dec tX12_could_0 34 rfl) rfl ?_
            refine T_callV (as := [aI x, aI y, aI t]) rfl (am_dec tX12_could_0 35 rfl) lkX12_387 (md_obj hl) rfl rfl (Nat.le_of_ble_eq_true rfl) (by omega) (mk_couldSee (d := d - 1) hl x y t  hV hK9 hPl (by omega) (by omega) (by omega)) (fun _ => ?_)
            exact T_ireturn (am_dec tX12_could_0 36 rfl) rfl (am_tr (fun x9 => Q (.inl (some (aI (x9.1)))) (mdW w b c x9.2)) (y := ((k_couldSee c q52 x y t), q52)) (show (k_could c q x y t) = ((k_couldSee c q52 x y t), q52) from (by have s9 := hz9.symm; subst s9; have s9 := ht12.symm; subst s9; have s9 := hq22.symm; subst s9; have s9 := hz22.symm; subst s9; have s9 := hz30.symm; subst s9; have s9 := ht33.symm; subst s9; have s9 := hq43.symm; subst s9; have s9 := hz43.symm; subst s9; have s9 := hq52.symm; subst s9; exact ((if_pos h25).trans (if_pos h46)))) hQ)
          · refine T_iconst 0 (am_dec tX12_could_0 27 rfl) rfl ⟨by decide, by decide⟩ ?_
            exact T_ireturn (am_dec tX12_could_0 28 rfl) rfl (am_tr (fun x9 => Q (.inl (some (aI (x9.1)))) (mdW w b c x9.2)) (y := (0, q43)) (show (k_could c q x y t) = (0, q43) from (by have s9 := hz9.symm; subst s9; have s9 := ht12.symm; subst s9; have s9 := hq22.symm; subst s9; have s9 := hz22.symm; subst s9; have s9 := hz30.symm; subst s9; have s9 := ht33.symm; subst s9; have s9 := hq43.symm; subst s9; have s9 := hz43.symm; subst s9; exact ((if_pos h25).trans (if_neg h46)))) hQ)
        refine T_if_ne 40 (am_dec tX12_could_0 19 rfl) rfl (fun h33 => ?_) (fun h33 => ?_)
        · refine T_iconst 0 (am_dec tX12_could_0 22 rfl) rfl ⟨by decide, by decide⟩ ?_
          exact K33 _ (if_neg h33).symm
        · refine T_iconst 1 (am_dec tX12_could_0 20 rfl) rfl ⟨by decide, by decide⟩ ?_
          refine T_goto 41 (am_dec tX12_could_0 21 rfl) rfl ?_
          exact K33 _ (if_pos h33).symm
    refine T_if_ne 19 (am_dec tX12_could_0 8 rfl) rfl (fun h12 => ?_) (fun h12 => ?_)
    · refine T_iconst 0 (am_dec tX12_could_0 11 rfl) rfl ⟨by decide, by decide⟩ ?_
      exact K12 _ (if_neg h12).symm
    · refine T_iconst 1 (am_dec tX12_could_0 9 rfl) rfl ⟨by decide, by decide⟩ ?_
      refine T_goto 20 (am_dec tX12_could_0 10 rfl) rfl ?_
      exact K12 _ (if_pos h12).symm
  exact key _ ⟨rfl, rfl⟩
def g_k_needs_5 (c : am_F) (q : am_F) (x : Int) (t : Int) (k : Int) (most : Int) : Int := (let n44 : Int := (k_lineOf q (c (118 + k.toNat) 0) (c (118 + k.toNat) 1) (x % 9) (x / 9) t); (if n44 = (-1) then most else (if am_w32 ((c 4 7) - n44) ≤ most then most else am_w32 ((c 4 7) - n44))))
theorem L_k_needs_5 {S : am_S} {d u : Nat} {Q : AO → AH → Prop} {w : AH} {b : Nat} (hl : b + 735 ≤ w.length) (c : am_F) (q : am_F) (x : Int) (t : Int) (hV : MdV c) (hWt : MdWt c) (hc0 : 0 ≤ x ∧ x ≤ 80) (ht : -1 ≤ t ∧ t < 40)  (hd : 2 ≤ d) (B9 : Int) (hB : B9 = c 4 5) : ∀ (n : Nat) (k : Int) (most : Int), k + n = B9 → 0 ≤ k → (∀ (most' : Int), most' = am_fold (g_k_needs_5 c q x t) k n most → am_T S zX12_needs d u Q 86 [none, none, none, some (aI most'), none, none] [] (mdW w b c q)) → am_T S zX12_needs d u Q 5 [some (aR b), some (aI x), some (aI t), some (aI most), some (aI k), none] [] (mdW w b c q) := by
  intro n
  induction n with
  | zero =>
    intro k most hi9 h0i k9
    have e9 : k = B9 := by omega
    subst e9
    obtain ⟨vl5, vu5⟩ := MdV_5 hV
    obtain ⟨vl7, vu7⟩ := MdV_7 hV
    refine T_iload (am_dec tX12_needs_0 4 rfl) rfl ?_
    refine T_aload_n (am_dec tX12_needs_0 5 rfl) rfl ?_
    refine T_getfield 11 11 (am_dec tX12_needs_0 6 rfl) flX12_23_11 (md_obj hl) rfl ?_
    refine T_iconst 5 (am_dec tX12_needs_0 7 rfl) rfl ⟨by decide, by decide⟩ ?_
    refine T_ialoadE (x := c 4 5) (am_dec tX12_needs_0 8 rfl) (md_told hl) (by omega) (by omega) rfl ?_
    refine T_icmp_ge 86 (am_dec tX12_needs_0 9 rfl) rfl (fun h13 => ?_) (fun h13 => by exfalso; omega)
    refine T_weak (ls' := [none, none, none, some (aI most), none, none]) (am_sub_n (am_sub_n (am_sub_n (am_sub_s (am_sub_n (am_sub_n am_sub_nil)))))) ?_
    exact k9 most rfl
  | succ n ih =>
    intro k most hi9 h0i k9
    obtain ⟨vl5, vu5⟩ := MdV_5 hV
    obtain ⟨vl7, vu7⟩ := MdV_7 hV
    refine T_iload (am_dec tX12_needs_0 4 rfl) rfl ?_
    refine T_aload_n (am_dec tX12_needs_0 5 rfl) rfl ?_
    refine T_getfield 11 11 (am_dec tX12_needs_0 6 rfl) flX12_23_11 (md_obj hl) rfl ?_
    refine T_iconst 5 (am_dec tX12_needs_0 7 rfl) rfl ⟨by decide, by decide⟩ ?_
    refine T_ialoadE (x := c 4 5) (am_dec tX12_needs_0 8 rfl) (md_told hl) (by omega) (by omega) rfl ?_
    refine T_icmp_ge 86 (am_dec tX12_needs_0 9 rfl) rfl (fun h13 => by exfalso; omega) (fun h13 => ?_)
    have wt16 := hWt k (by omega) (by omega)
    refine T_aload_n (am_dec tX12_needs_0 10 rfl) rfl ?_
    refine T_aload_n (am_dec tX12_needs_0 11 rfl) rfl ?_
    refine T_getfield 11 27 (am_dec tX12_needs_0 12 rfl) flX12_73_11 (md_obj hl) rfl ?_
    refine T_iload (am_dec tX12_needs_0 13 rfl) rfl ?_
    refine T_aaloadR (r := b + (118 + k.toNat)) (am_dec tX12_needs_0 14 rfl) (by decide) (mh_watch hl) (by omega) (by omega) (if_pos (by omega)) ?_
    refine T_iconst 0 (am_dec tX12_needs_0 15 rfl) rfl ⟨by decide, by decide⟩ ?_
    refine T_ialoadE (x := c (118 + k.toNat) 0) (am_dec tX12_needs_0 16 rfl) (mr_watch hl (i := k) (by omega) (by omega)) (by omega) (by omega) rfl ?_
    refine T_aload_n (am_dec tX12_needs_0 17 rfl) rfl ?_
    refine T_getfield 11 27 (am_dec tX12_needs_0 18 rfl) flX12_73_11 (md_obj hl) rfl ?_
    refine T_iload (am_dec tX12_needs_0 19 rfl) rfl ?_
    refine T_aaloadR (r := b + (118 + k.toNat)) (am_dec tX12_needs_0 20 rfl) (by decide) (mh_watch hl) (by omega) (by omega) (if_pos (by omega)) ?_
    refine T_iconst 1 (am_dec tX12_needs_0 21 rfl) rfl ⟨by decide, by decide⟩ ?_
    refine T_ialoadE (x := c (118 + k.toNat) 1) (am_dec tX12_needs_0 22 rfl) (mr_watch hl (i := k) (by omega) (by omega)) (by omega) (by omega) rfl ?_
    refine T_iload_n (am_dec tX12_needs_0 23 rfl) rfl ?_
    refine T_bipush 9 (am_dec tX12_needs_0 24 rfl) rfl ⟨by decide, by decide⟩ ?_
    refine T_irem (x % 9) (am_dec tX12_needs_0 25 rfl) (by omega) (am_tm (by omega)) ⟨by omega, by omega⟩ ?_
    refine T_iload_n (am_dec tX12_needs_0 26 rfl) rfl ?_
    refine T_bipush 9 (am_dec tX12_needs_0 27 rfl) rfl ⟨by decide, by decide⟩ ?_
    refine T_idiv (x / 9) (am_dec tX12_needs_0 28 rfl) (by omega) (am_td (by omega)) ⟨by omega, by omega⟩ ?_
    refine T_iload_n (am_dec tX12_needs_0 29 rfl) rfl ?_
    refine T_callV (as := [aI (c (118 + k.toNat) 0), aI (c (118 + k.toNat) 1), aI (x % 9), aI (x / 9), aI t]) rfl (am_dec tX12_needs_0 30 rfl) lkX12_361 (md_obj hl) rfl rfl (Nat.le_of_ble_eq_true rfl) (by omega) (mk_lineOf (d := d - 1) hl (c (118 + k.toNat) 0) (c (118 + k.toNat) 1) (x % 9) (x / 9) t  (by omega) (by omega) (by omega)) (fun _ => ?_)
    refine T_nm (fun n44 hn44 => ?_)
    refine T_istore (ls' := [some (aR b), some (aI x), some (aI t), some (aI most), some (aI k), some (aI n44)]) (am_dec tX12_needs_0 31 rfl) (by decide) rfl ?_
    refine T_iload (am_dec tX12_needs_0 32 rfl) rfl ?_
    refine T_iconst (-1) (am_dec tX12_needs_0 33 rfl) rfl ⟨by decide, by decide⟩ ?_
    have K52 : ∀ (most_52 : Int), most_52 = (if n44 = (-1) then most else (if am_w32 ((c 4 7) - n44) ≤ most then most else am_w32 ((c 4 7) - n44))) →  am_T S zX12_needs d u Q 80 [some (aR b), some (aI x), some (aI t), some (aI most_52), some (aI k), none] [] (mdW w b c q) := by
      intro most_52 hmost_52
      refine T_iinc (ls' := [some (aR b), some (aI x), some (aI t), some (aI most_52), some (aI (k + 1)), none]) (k + 1) (am_dec tX12_needs_1 10 rfl) rfl rfl ⟨by omega, by omega⟩ (by decide) rfl ?_
      refine T_goto 5 (am_dec tX12_needs_1 11 rfl) rfl ?_
      have e9 : (g_k_needs_5 c q x t) k most = most_52 := (by have s9 := hn44.symm; subst s9; have s9 := hmost_52.symm; subst s9; exact rfl)
      simp only [am_fold_s, e9] at k9
      exact ih (k + 1) most_52 (by omega) (by omega) k9
    refine T_icmp_eq 80 (am_dec tX12_needs_0 34 rfl) rfl (fun h52 => ?_) (fun h52 => ?_)
    · refine T_weak (ls' := [some (aR b), some (aI x), some (aI t), some (aI most), some (aI k), none]) (am_sub_s (am_sub_s (am_sub_s (am_sub_s (am_sub_s (am_sub_n am_sub_nil)))))) ?_
      exact K52 _ (if_pos h52).symm
    · refine T_aload_n (am_dec tX12_needs_0 35 rfl) rfl ?_
      refine T_getfield 11 11 (am_dec tX12_needs_0 36 rfl) flX12_23_11 (md_obj hl) rfl ?_
      refine T_bipush 7 (am_dec tX12_needs_0 37 rfl) rfl ⟨by decide, by decide⟩ ?_
      refine T_ialoadE (x := c 4 7) (am_dec tX12_needs_0 38 rfl) (md_told hl) (by omega) (by omega) rfl ?_
      refine T_iload (am_dec tX12_needs_0 39 rfl) rfl ?_
      refine T_isubW (am_w32 ((c 4 7) - n44)) (am_dec tX12_needs_1 0 rfl) (am_w32e _).symm (am_w32r _) ?_
      refine T_iload_n (am_dec tX12_needs_1 1 rfl) rfl ?_
      have K66 : ∀ (most_66 : Int), most_66 = (if am_w32 ((c 4 7) - n44) ≤ most then most else am_w32 ((c 4 7) - n44)) →  am_T S zX12_needs d u Q 80 [some (aR b), some (aI x), some (aI t), some (aI most_66), some (aI k), none] [] (mdW w b c q) := by
        intro most_66 hmost_66
        exact K52 _ (by have s9 := hmost_66.symm; subst s9; exact (if_neg h52).symm)
      refine T_icmp_le 80 (am_dec tX12_needs_1 2 rfl) rfl (fun h66 => ?_) (fun h66 => ?_)
      · refine T_weak (ls' := [some (aR b), some (aI x), some (aI t), some (aI most), some (aI k), none]) (am_sub_s (am_sub_s (am_sub_s (am_sub_s (am_sub_s (am_sub_n am_sub_nil)))))) ?_
        exact K66 _ (if_pos h66).symm
      · refine T_aload_n (am_dec tX12_needs_1 3 rfl) rfl ?_
        refine T_getfield 11 11 (am_dec tX12_needs_1 4 rfl) flX12_23_11 (md_obj hl) rfl ?_
        refine T_bipush 7 (am_dec tX12_needs_1 5 rfl) rfl ⟨by decide, by decide⟩ ?_
        refine T_ialoadE (x := c 4 7) (am_dec tX12_needs_1 6 rfl) (md_told hl) (by omega) (by omega) rfl ?_
        refine T_iload (am_dec tX12_needs_1 7 rfl) rfl ?_
        refine T_isubW (am_w32 ((c 4 7) - n44)) (am_dec tX12_needs_1 8 rfl) (am_w32e _).symm (am_w32r _) ?_
        refine T_nm (fun most_79 hmost_79 => ?_)
        refine T_istore_n (ls' := [some (aR b), some (aI x), some (aI t), some (aI most_79), some (aI k), some (aI n44)]) (am_dec tX12_needs_1 9 rfl) (by decide) rfl ?_
        refine T_weak (ls' := [some (aR b), some (aI x), some (aI t), some (aI most_79), some (aI k), none]) (am_sub_s (am_sub_s (am_sub_s (am_sub_s (am_sub_s (am_sub_n am_sub_nil)))))) ?_
        exact K66 _ (by have s9 := hmost_79.symm; subst s9; exact (if_neg h66).symm)
def k_needs (c : am_F) (q : am_F) (x : Int) (t : Int) : Int := am_fold (g_k_needs_5 c q x t) 0 (c 4 5).toNat 0
theorem mk_needs {S : am_S} {d u : Nat} {w : AH} {b : Nat} (hl : b + 735 ≤ w.length) {c : am_F} {q : am_F} (x : Int) (t : Int) (hV : MdV c) (hWt : MdWt c) (hc0 : 0 ≤ x ∧ x ≤ 80) (ht : -1 ≤ t ∧ t < 40) (hd : 2 ≤ d) : am_Out S zX12_needs d u [aR b, aI x, aI t] (mdW w b c q) (.inl (some (aI (k_needs c q x t)))) (mdW w b c q) := by
  have key : ∀ Q : AO → AH → Prop, Q (.inl (some (aI (k_needs c q x t)))) (mdW w b c q) → am_M S zX12_needs d u [aR b, aI x, aI t] (mdW w b c q) Q := by
    intro Q hQ
    refine am_body rfl (by decide +kernel) rfl (am_cats_cons rfl ( am_cats_cons rfl ( am_cats_cons rfl (am_cats_nil)))) (Nat.le_of_ble_eq_true rfl) (?_ : am_T _ _ _ _ _ 0 [some (aR b), some (aI x), some (aI t), none, none, none] [] (mdW w b c q))
    obtain ⟨vl5, vu5⟩ := MdV_5 hV
    obtain ⟨vl7, vu7⟩ := MdV_7 hV
    refine T_iconst 0 (am_dec tX12_needs_0 0 rfl) rfl ⟨by decide, by decide⟩ ?_
    refine T_istore_n (ls' := [some (aR b), some (aI x), some (aI t), some (aI 0), none, none]) (am_dec tX12_needs_0 1 rfl) (by decide) rfl ?_
    refine T_iconst 0 (am_dec tX12_needs_0 2 rfl) rfl ⟨by decide, by decide⟩ ?_
    refine T_istore (ls' := [some (aR b), some (aI x), some (aI t), some (aI 0), some (aI 0), none]) (am_dec tX12_needs_0 3 rfl) (by decide) rfl ?_
    refine L_k_needs_5 hl c q x t hV hWt hc0 ht  (by omega) _ rfl (c 4 5).toNat 0 0 (by omega) (by omega) (fun most_5 hmost_5 => ?_)
    refine T_iload_n (am_dec tX12_needs_1 12 rfl) rfl ?_
    exact T_ireturn (am_dec tX12_needs_1 13 rfl) rfl (am_tr (fun x9 => Q (.inl (some (aI (x9)))) (mdW w b c q)) (y := most_5) (show (k_needs c q x t) = most_5 from (by have s9 := hmost_5.symm; subst s9; exact rfl)) hQ)
  exact key _ ⟨rfl, rfl⟩
def g_k_needsAll_4 (c : am_F) (q : am_F) (wk : Int) (s : Int) (most : Int) : Int := (let n13 : Int := (k_placeOf c wk s); (let t21 : Int := (if n13 = (-1) then 0 else (k_needs c q n13 s)); (if t21 ≤ most then most else t21)))
theorem L_k_needsAll_4 {S : am_S} {d u : Nat} {Q : AO → AH → Prop} {w : AH} {b : Nat} (hl : b + 735 ≤ w.length) (c : am_F) (q : am_F) (wk : Int) (hV : MdV c) (hK9 : MdK c) (hPl : MdPl c) (hWt : MdWt c) (hwk : 0 ≤ wk ∧ wk < c 4 4)  (hd : 3 ≤ d) (B9 : Int) (hB : B9 = 40) : ∀ (n : Nat) (s : Int) (most : Int), s + n = B9 → 0 ≤ s → (∀ (most' : Int), most' = am_fold (g_k_needsAll_4 c q wk) s n most → am_T S zX12_needsAll d u Q 56 [none, none, some (aI most'), none, none, none] [] (mdW w b c q)) → am_T S zX12_needsAll d u Q 4 [some (aR b), some (aI wk), some (aI most), some (aI s), none, none] [] (mdW w b c q) := by
  intro n
  induction n with
  | zero =>
    intro s most hi9 h0i k9
    have e9 : s = B9 := by omega
    subst e9
    obtain ⟨vl4, vu4⟩ := MdV_4 hV
    refine T_iload_n (am_dec tX12_needsAll_0 4 rfl) rfl ?_
    refine T_bipush 40 (am_dec tX12_needsAll_0 5 rfl) rfl ⟨by decide, by decide⟩ ?_
    refine T_icmp_ge 56 (am_dec tX12_needsAll_0 6 rfl) rfl (fun h7 => ?_) (fun h7 => by exfalso; omega)
    refine T_weak (ls' := [none, none, some (aI most), none, none, none]) (am_sub_n (am_sub_n (am_sub_s (am_sub_n (am_sub_n (am_sub_n am_sub_nil)))))) ?_
    exact k9 most rfl
  | succ n ih =>
    intro s most hi9 h0i k9
    obtain ⟨vl4, vu4⟩ := MdV_4 hV
    refine T_iload_n (am_dec tX12_needsAll_0 4 rfl) rfl ?_
    refine T_bipush 40 (am_dec tX12_needsAll_0 5 rfl) rfl ⟨by decide, by decide⟩ ?_
    refine T_icmp_ge 56 (am_dec tX12_needsAll_0 6 rfl) rfl (fun h7 => by exfalso; omega) (fun h7 => ?_)
    refine T_aload_n (am_dec tX12_needsAll_0 7 rfl) rfl ?_
    refine T_iload_n (am_dec tX12_needsAll_0 8 rfl) rfl ?_
    refine T_iload_n (am_dec tX12_needsAll_0 9 rfl) rfl ?_
    refine T_callV (as := [aI wk, aI s]) rfl (am_dec tX12_needsAll_0 10 rfl) lkX12_368 (md_obj hl) rfl rfl (Nat.le_of_ble_eq_true rfl) (by omega) (mk_placeOf (d := d - 1) hl wk s  hV hK9 (by omega) (by omega) (by omega)) (fun _ => ?_)
    refine T_nm (fun n13 hn13 => ?_)
    have hs13 := hPl wk s (by omega) (by omega)
    rw [← hn13] at hs13
    refine T_istore (ls' := [some (aR b), some (aI wk), some (aI most), some (aI s), some (aI n13), none]) (am_dec tX12_needsAll_0 11 rfl) (by decide) rfl ?_
    refine T_iload (am_dec tX12_needsAll_0 12 rfl) rfl ?_
    refine T_iconst (-1) (am_dec tX12_needsAll_0 13 rfl) rfl ⟨by decide, by decide⟩ ?_
    have K21 : ∀ (t21 : Int), t21 = (if n13 = (-1) then 0 else (k_needs c q n13 s)) →  am_T S zX12_needsAll d u Q 35 [some (aR b), some (aI wk), some (aI most), some (aI s), none, none] [aI t21] (mdW w b c q) := by
      intro t21 ht21
      refine T_istore (ls' := [some (aR b), some (aI wk), some (aI most), some (aI s), none, some (aI t21)]) (am_dec tX12_needsAll_0 21 rfl) (by decide) rfl ?_
      refine T_iload (am_dec tX12_needsAll_0 22 rfl) rfl ?_
      refine T_iload_n (am_dec tX12_needsAll_0 23 rfl) rfl ?_
      have K40 : ∀ (t40 : Int), t40 = (if t21 ≤ most then most else t21) →  am_T S zX12_needsAll d u Q 49 [some (aR b), some (aI wk), none, some (aI s), none, none] [aI t40] (mdW w b c q) := by
        intro t40 ht40
        refine T_istore_n (ls' := [some (aR b), some (aI wk), some (aI t40), some (aI s), none, none]) (am_dec tX12_needsAll_0 28 rfl) (by decide) rfl ?_
        refine T_iinc (ls' := [some (aR b), some (aI wk), some (aI t40), some (aI (s + 1)), none, none]) (s + 1) (am_dec tX12_needsAll_0 29 rfl) rfl rfl ⟨by omega, by omega⟩ (by decide) rfl ?_
        refine T_goto 4 (am_dec tX12_needsAll_0 30 rfl) rfl ?_
        have e9 : (g_k_needsAll_4 c q wk) s most = t40 := (by have s9 := hn13.symm; subst s9; have s9 := ht21.symm; subst s9; have s9 := ht40.symm; subst s9; exact rfl)
        simp only [am_fold_s, e9] at k9
        exact ih (s + 1) t40 (by omega) (by omega) k9
      refine T_icmp_le 48 (am_dec tX12_needsAll_0 24 rfl) rfl (fun h40 => ?_) (fun h40 => ?_)
      · refine T_iload_n (am_dec tX12_needsAll_0 27 rfl) rfl ?_
        refine T_weak (ls' := [some (aR b), some (aI wk), none, some (aI s), none, none]) (am_sub_s (am_sub_s (am_sub_n (am_sub_s (am_sub_n (am_sub_n am_sub_nil)))))) ?_
        exact K40 _ (if_pos h40).symm
      · refine T_iload (am_dec tX12_needsAll_0 25 rfl) rfl ?_
        refine T_goto 49 (am_dec tX12_needsAll_0 26 rfl) rfl ?_
        refine T_weak (ls' := [some (aR b), some (aI wk), none, some (aI s), none, none]) (am_sub_s (am_sub_s (am_sub_n (am_sub_s (am_sub_n (am_sub_n am_sub_nil)))))) ?_
        exact K40 _ (if_neg h40).symm
    refine T_icmp_ne 28 (am_dec tX12_needsAll_0 14 rfl) rfl (fun h21 => ?_) (fun h21 => ?_)
    · refine T_aload_n (am_dec tX12_needsAll_0 17 rfl) rfl ?_
      refine T_iload (am_dec tX12_needsAll_0 18 rfl) rfl ?_
      refine T_iload_n (am_dec tX12_needsAll_0 19 rfl) rfl ?_
      refine T_callV (as := [aI n13, aI s]) rfl (am_dec tX12_needsAll_0 20 rfl) lkX12_391 (md_obj hl) rfl rfl (Nat.le_of_ble_eq_true rfl) (by omega) (mk_needs (d := d - 1) hl n13 s  hV hWt (by omega) (by omega) (by omega)) (fun _ => ?_)
      refine T_weak (ls' := [some (aR b), some (aI wk), some (aI most), some (aI s), none, none]) (am_sub_s (am_sub_s (am_sub_s (am_sub_s (am_sub_n (am_sub_n am_sub_nil)))))) ?_
      exact K21 _ (if_neg h21).symm
    · refine T_iconst 0 (am_dec tX12_needsAll_0 15 rfl) rfl ⟨by decide, by decide⟩ ?_
      refine T_goto 35 (am_dec tX12_needsAll_0 16 rfl) rfl ?_
      refine T_weak (ls' := [some (aR b), some (aI wk), some (aI most), some (aI s), none, none]) (am_sub_s (am_sub_s (am_sub_s (am_sub_s (am_sub_n (am_sub_n am_sub_nil)))))) ?_
      exact K21 _ (if_pos h21).symm
def k_needsAll (c : am_F) (q : am_F) (wk : Int) : Int := am_fold (g_k_needsAll_4 c q wk) 0 40 0
theorem mk_needsAll {S : am_S} {d u : Nat} {w : AH} {b : Nat} (hl : b + 735 ≤ w.length) {c : am_F} {q : am_F} (wk : Int) (hV : MdV c) (hK9 : MdK c) (hPl : MdPl c) (hWt : MdWt c) (hwk : 0 ≤ wk ∧ wk < c 4 4) (hd : 3 ≤ d) : am_Out S zX12_needsAll d u [aR b, aI wk] (mdW w b c q) (.inl (some (aI (k_needsAll c q wk)))) (mdW w b c q) := by
  have key : ∀ Q : AO → AH → Prop, Q (.inl (some (aI (k_needsAll c q wk)))) (mdW w b c q) → am_M S zX12_needsAll d u [aR b, aI wk] (mdW w b c q) Q := by
    intro Q hQ
    refine am_body rfl (by decide +kernel) rfl (am_cats_cons rfl ( am_cats_cons rfl (am_cats_nil))) (Nat.le_of_ble_eq_true rfl) (?_ : am_T _ _ _ _ _ 0 [some (aR b), some (aI wk), none, none, none, none] [] (mdW w b c q))
    obtain ⟨vl4, vu4⟩ := MdV_4 hV
    refine T_iconst 0 (am_dec tX12_needsAll_0 0 rfl) rfl ⟨by decide, by decide⟩ ?_
    refine T_istore_n (ls' := [some (aR b), some (aI wk), some (aI 0), none, none, none]) (am_dec tX12_needsAll_0 1 rfl) (by decide) rfl ?_
    refine T_iconst 0 (am_dec tX12_needsAll_0 2 rfl) rfl ⟨by decide, by decide⟩ ?_
    refine T_istore_n (ls' := [some (aR b), some (aI wk), some (aI 0), some (aI 0), none, none]) (am_dec tX12_needsAll_0 3 rfl) (by decide) rfl ?_
    refine L_k_needsAll_4 hl c q wk hV hK9 hPl hWt hwk  (by omega) _ rfl 40 0 0 (by omega) (by omega) (fun most_4 hmost_4 => ?_)
    refine T_iload_n (am_dec tX12_needsAll_0 31 rfl) rfl ?_
    exact T_ireturn (am_dec tX12_needsAll_0 32 rfl) rfl (am_tr (fun x9 => Q (.inl (some (aI (x9)))) (mdW w b c q)) (y := most_4) (show (k_needsAll c q wk) = most_4 from (by have s9 := hmost_4.symm; subst s9; exact rfl)) hQ)
  exact key _ ⟨rfl, rfl⟩
