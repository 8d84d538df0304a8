/-! the model: floors, clocks, seeds -/
theorem am_i32p' {a b : Int} (ha : -1 ≤ a ∧ a ≤ 1000) (hb : 0 ≤ b ∧ b ≤ 20000) : am_i32 (a * b) := by
  have h1 := Int.mul_le_mul_of_nonneg_right ha.2 hb.1
  have h2 := Int.mul_le_mul_of_nonneg_right ha.1 hb.1
  exact ⟨by omega, by omega⟩
def w_k_worthless_61 (c : am_F) (q : am_F) (k : Int) (much : Int) (t : Int) : (Int) ⊕ (Int) := (if t ≤ 0 then .inr t else (if much ≤ (k_yardsOf c q k (t - 1)) then .inr t else .inl (t + (-1))))
theorem L_k_worthless_61 {S : am_S} {d u : Nat} {Q : AO → AH → Prop} {w : AH} {b : Nat} (hl : b + 735 ≤ w.length) (c : am_F) (q : am_F) (k : Int) (much : Int) (hV : MdV c) (hWd : MdWd c) (hS9 : MdS c) (hLp : MdLp c) (hDu : MdDu c) (hL : MdL c) (hk : 0 ≤ k ∧ k < c 4 3) (hd : 5 ≤ d) : ∀ (n : Nat) (t : Int), t < n → 0 ≤ t ∧ t ≤ 40 → (∀ (t' : Int), t' = am_wh (w_k_worthless_61 c q k much) n t → 0 ≤ t' ∧ t' ≤ 40 → am_T S zX12_worthless d u Q 83 [none, none, none, some (aI t')] [] (mdW w b c q)) → am_T S zX12_worthless d u Q 61 [some (aR b), some (aI k), some (aI much), some (aI t)] [] (mdW w b c q) := by
  intro n
  induction n with
  | zero =>
    intro t hm9 hinv k9
    obtain ⟨vl0, vu0⟩ := MdV_0 hV
    obtain ⟨vl1, vu1⟩ := MdV_1 hV
    obtain ⟨vl3, vu3⟩ := MdV_3 hV
    exfalso; omega
  | succ n ih =>
    intro t hm9 hinv k9
    obtain ⟨vl0, vu0⟩ := MdV_0 hV
    obtain ⟨vl1, vu1⟩ := MdV_1 hV
    obtain ⟨vl3, vu3⟩ := MdV_3 hV
    refine T_iload_n (am_dec tX12_worthless_0 34 rfl) rfl ?_
    refine T_if_le 83 (am_dec tX12_worthless_0 35 rfl) rfl (fun h62 => ?_) (fun h62 => ?_)
    · refine T_weak (ls' := [none, none, none, some (aI t)]) (am_sub_n (am_sub_n (am_sub_n (am_sub_s am_sub_nil)))) ?_
      have e9 : (w_k_worthless_61 c q k much) t = .inr t := (if_pos h62)
      simp only [am_wh_r e9] at k9
      exact k9 _ rfl (by omega)
    · refine T_aload_n (am_dec tX12_worthless_0 36 rfl) rfl ?_
      refine T_iload_n (am_dec tX12_worthless_0 37 rfl) rfl ?_
      refine T_iload_n (am_dec tX12_worthless_0 38 rfl) rfl ?_
      refine T_iconst 1 (am_dec tX12_worthless_0 39 rfl) rfl ⟨by decide, by decide⟩ ?_
      refine T_isub (t - 1) (am_dec tX12_worthless_1 0 rfl) rfl ⟨by omega, by omega⟩ ?_
      refine T_callV (as := [aI k, aI (t - 1)]) rfl (am_dec tX12_worthless_1 1 rfl) lkX12_415 (md_obj hl) rfl rfl (Nat.le_of_ble_eq_true rfl) (by omega) (mk_yardsOf (d := d - 1) hl k (t - 1)  hV hL (by omega) (by omega) (by omega)) (fun _ => ?_)
      refine T_iload_n (am_dec tX12_worthless_1 2 rfl) rfl ?_
      refine T_icmp_ge 83 (am_dec tX12_worthless_1 3 rfl) rfl (fun h74 => ?_) (fun h74 => ?_)
      · refine T_weak (ls' := [none, none, none, some (aI t)]) (am_sub_n (am_sub_n (am_sub_n (am_sub_s am_sub_nil)))) ?_
        have e9 : (w_k_worthless_61 c q k much) t = .inr t := ((if_neg h62).trans (if_pos h74))
        simp only [am_wh_r e9] at k9
        exact k9 _ rfl (by omega)
      · refine T_iinc (ls' := [some (aR b), some (aI k), some (aI much), some (aI (t + (-1)))]) (t + (-1)) (am_dec tX12_worthless_1 4 rfl) rfl rfl ⟨by omega, by omega⟩ (by decide) rfl ?_
        refine T_goto 61 (am_dec tX12_worthless_1 5 rfl) rfl ?_
        have e9 : (w_k_worthless_61 c q k much) t = .inl (t + (-1)) := ((if_neg h62).trans (if_neg h74))
        simp only [am_wh_l e9] at k9
        exact ih (t + (-1)) (by omega) (by omega) k9
def k_worthless (c : am_F) (q : am_F) (k : Int) (much : Int) : Int × am_F := (let z8 : Int := (k_isLot c k); (let t11 : Int := (if z8 = 0 then 1 else 0); (let q21 : am_F := (k_refuse (am_put q 0 0 0) t11 1 1); (let z21 : Int := (if t11 = 0 then 0 else 1); (if z21 = 0 then (let z33 : Int := (k_in much 1 999); (let t36 : Int := (if z33 = 0 then 1 else 0); (let q46 : am_F := (k_refuse q21 t36 2 2); (let z46 : Int := (if t36 = 0 then 0 else 1); (if z46 = 0 then (let q55 : am_F := k_goes c q46; (let t_61 : Int := am_wh (w_k_worthless_61 c q55 k much) 41 40; (t_61, q55))) else (0, q46)))))) else (0, q21))))))
theorem mk_worthless {S : am_S} {d u : Nat} {w : AH} {b : Nat} (hl : b + 735 ≤ w.length) {c : am_F} {q : am_F} (k : Int) (much : Int) (hV : MdV c) (hWd : MdWd c) (hS9 : MdS c) (hLp : MdLp c) (hDu : MdDu c) (hL : MdL c) (hd : 5 ≤ d) : am_Out S zX12_worthless d u [aR b, aI k, aI much] (mdW w b c q) (.inl (some (aI ((k_worthless c q k much).1)))) (mdW w b c ((k_worthless c q k much).2)) := by
  have key : ∀ Q : AO → AH → Prop, Q (.inl (some (aI ((k_worthless c q k much).1)))) (mdW w b c ((k_worthless c q k much).2)) → am_M S zX12_worthless d u [aR b, aI k, aI much] (mdW w b c q) Q := by
    intro Q hQ
    refine am_body rfl (by decide +kernel) rfl (am_cats_cons rfl ( am_cats_cons rfl ( am_cats_cons rfl (am_cats_nil)))) (Nat.le_of_ble_eq_true rfl) (?_ : am_T _ _ _ _ _ 0 [some (aR b), some (aI k), some (aI much), none] [] (mdW w b c q))
    obtain ⟨vl0, vu0⟩ := MdV_0 hV
    obtain ⟨vl1, vu1⟩ := MdV_1 hV
    obtain ⟨vl3, vu3⟩ := MdV_3 hV
    refine T_aload_n (am_dec tX12_worthless_0 0 rfl) rfl ?_
    refine T_iconst 0 (am_dec tX12_worthless_0 1 rfl) rfl ⟨by decide, by decide⟩ ?_
    refine T_putfield (fs' := mdO b (c 0) (am_up (q 0) 0 0)) 11 0 (am_dec tX12_worthless_0 2 rfl) flX12_160_11 rfl rfl rfl trivial (md_obj hl) (Nat.le_of_ble_eq_true rfl) rfl ?_
    refine am_wE (w2 := mdW w b c (am_put q 0 0 0)) (md_fq) ?_
    refine T_aload_n (am_dec tX12_worthless_0 3 rfl) rfl ?_
    refine T_aload_n (am_dec tX12_worthless_0 4 rfl) rfl ?_
    refine T_iload_n (am_dec tX12_worthless_0 5 rfl) rfl ?_
    refine T_callV (as := [aI k]) rfl (am_dec tX12_worthless_0 6 rfl) lkX12_412 (md_obj hl) rfl rfl (Nat.le_of_ble_eq_true rfl) (by omega) (mk_isLot (d := d - 1) hl k  hV (by omega)) (fun _ => ?_)
    refine T_nm (fun z8 hz8 => ?_)
    have hb8 := k_isLot_b c k
    rw [← hz8] at hb8
    have hs8 := k_isLot_s c k
    rw [← hz8] at hs8
    have K11 : ∀ (t11 : Int), t11 = (if z8 = 0 then 1 else 0) →  am_T S zX12_worthless d u Q 19 [some (aR b), some (aI k), some (aI much), none] [aI t11, aR b] (mdW w b c (am_put q 0 0 0)) := by
      intro t11 ht11 
      have hbt11 : t11 = 0 ∨ t11 = 1 := by
        rw [ht11]
        try dsimp only
        repeat' split
        all_goals first | exact Or.inl rfl | exact Or.inr rfl | apply k_in_b | apply k_isDigit_b | apply k_isSmall_b | apply k_bad_b | apply k_isIn_b | apply k_isStep_b | apply k_isFirst_b | apply k_isLine_b | apply k_seesBy_b | apply k_isWalker_b | apply k_seesOne_b | apply k_badTwo_b | apply k_sees_b | apply k_isCode_b | apply k_isLot_b | apply k_isShip_b | apply k_areRight_b | apply k_right_b | omega
      refine T_iconst 1 (am_dec tX12_worthless_0 11 rfl) rfl ⟨by decide, by decide⟩ ?_
      refine T_iconst 1 (am_dec tX12_worthless_0 12 rfl) rfl ⟨by decide, by decide⟩ ?_
      refine T_callV (as := [aI t11, aI 1, aI 1]) rfl (am_dec tX12_worthless_0 13 rfl) lkX12_275 (md_obj hl) rfl rfl (Nat.le_of_ble_eq_true rfl) (by omega) (mk_bad0 (d := d - 1) hl t11 1 1 (by omega) am_put_s (by omega)) (fun _ => ?_)
      refine T_nmH (W := fun x9 => mdW w b c x9) (v := (k_refuse (am_put q 0 0 0) t11 1 1)) (fun q21 hq21 => ?_)
      refine T_nm (fun z21 hz21 => ?_)
      have hq021 : t11 = 0 → q21 0 0 = 0 := fun h9 => by rw [hq21]; exact k_refuse_0 am_put_s h9
      refine T_if_ne 52 (am_dec tX12_worthless_0 14 rfl) rfl (fun h24 => ?_) (fun h24 => ?_)
      · refine T_iconst 0 (am_dec tX12_worthless_0 28 rfl) rfl ⟨by decide, by decide⟩ ?_
        exact T_ireturn (am_dec tX12_worthless_0 29 rfl) rfl (am_tr (fun (x9 : Int × am_F) => Q (.inl (some (aI (x9.1)))) (mdW w b c x9.2)) (y := (0, q21)) (show (k_worthless c q k much) = (0, q21) from (by have s9 := hz8.symm; subst s9; have s9 := ht11.symm; subst s9; have s9 := hq21.symm; subst s9; have s9 := hz21.symm; subst s9; exact (if_neg h24))) hQ)
      · refine T_aload_n (am_dec tX12_worthless_0 15 rfl) rfl ?_
        refine T_iload_n (am_dec tX12_worthless_0 16 rfl) rfl ?_
        refine T_iconst 1 (am_dec tX12_worthless_0 17 rfl) rfl ⟨by decide, by decide⟩ ?_
        refine T_sipush 999 (am_dec tX12_worthless_0 18 rfl) rfl ⟨by decide, by decide⟩ ?_
        refine T_callS (as := [aI much, aI 1, aI 999]) rfl (am_dec tX12_worthless_0 19 rfl) lkX12_194 rfl (Nat.le_of_ble_eq_true rfl) (by omega) (mk_in (d := d - 1)  much 1 999   ) (fun _ => ?_)
        refine T_nm (fun z33 hz33 => ?_)
        have hb33 := k_in_b much 1 999
        rw [← hz33] at hb33
        have hs33 := k_in_s much 1 999
        rw [← hz33] at hs33
        have K36 : ∀ (t36 : Int), t36 = (if z33 = 0 then 1 else 0) →  am_T S zX12_worthless d u Q 44 [some (aR b), some (aI k), some (aI much), none] [aI t36, aR b] (mdW w b c q21) := by
          intro t36 ht36 
          have hbt36 : t36 = 0 ∨ t36 = 1 := by
            rw [ht36]
            try dsimp only
            repeat' split
            all_goals first | exact Or.inl rfl | exact Or.inr rfl | apply k_in_b | apply k_isDigit_b | apply k_isSmall_b | apply k_bad_b | apply k_isIn_b | apply k_isStep_b | apply k_isFirst_b | apply k_isLine_b | apply k_seesBy_b | apply k_isWalker_b | apply k_seesOne_b | apply k_badTwo_b | apply k_sees_b | apply k_isCode_b | apply k_isLot_b | apply k_isShip_b | apply k_areRight_b | apply k_right_b | omega
          refine T_iconst 2 (am_dec tX12_worthless_0 24 rfl) rfl ⟨by decide, by decide⟩ ?_
          refine T_iconst 2 (am_dec tX12_worthless_0 25 rfl) rfl ⟨by decide, by decide⟩ ?_
          refine T_callV (as := [aI t36, aI 2, aI 2]) rfl (am_dec tX12_worthless_0 26 rfl) lkX12_275 (md_obj hl) rfl rfl (Nat.le_of_ble_eq_true rfl) (by omega) (mk_bad0 (d := d - 1) hl t36 2 2 (by omega) (hq021 (by omega)) (by omega)) (fun _ => ?_)
          refine T_nmH (W := fun x9 => mdW w b c x9) (v := (k_refuse q21 t36 2 2)) (fun q46 hq46 => ?_)
          refine T_nm (fun z46 hz46 => ?_)
          have hq046 : t36 = 0 → q46 0 0 = 0 := fun h9 => by rw [hq46]; exact k_refuse_0 (hq021 (by omega)) h9
          refine T_if_eq 54 (am_dec tX12_worthless_0 27 rfl) rfl (fun h49 => ?_) (fun h49 => ?_)
          · refine T_aload_n (am_dec tX12_worthless_0 30 rfl) rfl ?_
            refine T_callV (as := []) rfl (am_dec tX12_worthless_0 31 rfl) lkX12_345 (md_obj hl) rfl rfl (Nat.le_of_ble_eq_true rfl) (by omega) (mk_goes (d := d - 1) hl   hV hWd hS9 hLp hDu (by omega)) (fun _ => ?_)
            refine T_nmH (W := fun x9 => mdW w b c x9) (v := k_goes c q46) (fun q55 hq55 => ?_)
            refine T_bipush 40 (am_dec tX12_worthless_0 32 rfl) rfl ⟨by decide, by decide⟩ ?_
            refine T_istore_n (ls' := [some (aR b), some (aI k), some (aI much), some (aI 40)]) (am_dec tX12_worthless_0 33 rfl) (by decide) rfl ?_
            refine L_k_worthless_61 hl c q55 k much hV hWd hS9 hLp hDu hL (by omega) (by omega) 41 40 (by omega) (by omega) (fun t_61 ht_61 hv61 => ?_)
            refine T_iload_n (am_dec tX12_worthless_1 6 rfl) rfl ?_
            exact T_ireturn (am_dec tX12_worthless_1 7 rfl) rfl (am_tr (fun (x9 : Int × am_F) => Q (.inl (some (aI (x9.1)))) (mdW w b c x9.2)) (y := (t_61, q55)) (show (k_worthless c q k much) = (t_61, q55) from (by have s9 := hz8.symm; subst s9; have s9 := ht11.symm; subst s9; have s9 := hq21.symm; subst s9; have s9 := hz21.symm; subst s9; have s9 := hz33.symm; subst s9; have s9 := ht36.symm; subst s9; have s9 := hq46.symm; subst s9; have s9 := hz46.symm; subst s9; have s9 := hq55.symm; subst s9; have s9 := ht_61.symm; subst s9; exact ((if_pos h24).trans (if_pos h49)))) hQ)
          · refine T_iconst 0 (am_dec tX12_worthless_0 28 rfl) rfl ⟨by decide, by decide⟩ ?_
            exact T_ireturn (am_dec tX12_worthless_0 29 rfl) rfl (am_tr (fun (x9 : Int × am_F) => Q (.inl (some (aI (x9.1)))) (mdW w b c x9.2)) (y := (0, q46)) (show (k_worthless c q k much) = (0, q46) from (by have s9 := hz8.symm; subst s9; have s9 := ht11.symm; subst s9; have s9 := hq21.symm; subst s9; have s9 := hz21.symm; subst s9; have s9 := hz33.symm; subst s9; have s9 := ht36.symm; subst s9; have s9 := hq46.symm; subst s9; have s9 := hz46.symm; subst s9; exact ((if_pos h24).trans (if_neg h49)))) hQ)
        refine T_if_ne 43 (am_dec tX12_worthless_0 20 rfl) rfl (fun h36 => ?_) (fun h36 => ?_)
        · refine T_iconst 0 (am_dec tX12_worthless_0 23 rfl) rfl ⟨by decide, by decide⟩ ?_
          exact K36 _ (if_neg h36).symm 
        · refine T_iconst 1 (am_dec tX12_worthless_0 21 rfl) rfl ⟨by decide, by decide⟩ ?_
          refine T_goto 44 (am_dec tX12_worthless_0 22 rfl) rfl ?_
          exact K36 _ (if_pos h36).symm 
    refine T_if_ne 18 (am_dec tX12_worthless_0 7 rfl) rfl (fun h11 => ?_) (fun h11 => ?_)
    · refine T_iconst 0 (am_dec tX12_worthless_0 10 rfl) rfl ⟨by decide, by decide⟩ ?_
      exact K11 _ (if_neg h11).symm 
    · refine T_iconst 1 (am_dec tX12_worthless_0 8 rfl) rfl ⟨by decide, by decide⟩ ?_
      refine T_goto 19 (am_dec tX12_worthless_0 9 rfl) rfl ?_
      exact K11 _ (if_pos h11).symm 
  exact key _ ⟨rfl, rfl⟩
def MdYd (c : am_F) : Prop := ∀ (q : am_F) (k t : Int), 0 ≤ k → k < c 4 3 → -1 ≤ t → t < 40 → 0 ≤ k_yardsOf c (k_goes c q) k t ∧ k_yardsOf c (k_goes c q) k t ≤ 9000
def g_k_clock_100 (c : am_F) (k : Int) (pr : Int) (i : Int) (wa : Int) : Int := (let t121 : Int := (if c (133 + i.toNat) 0 = k then (if c (133 + i.toNat) 2 < pr then 0 else (c (133 + i.toNat) 1)) else 0); (wa + t121))
theorem L_k_clock_100 {S : am_S} {d u : Nat} {Q : AO → AH → Prop} {w : AH} {b : Nat} (hl : b + 735 ≤ w.length) (c : am_F) (q : am_F) (k : Int) (what : Int) (pr : Int) (there : Int) (hV : MdV c) (hWd : MdWd c) (hS9 : MdS c) (hLp : MdLp c) (hDu : MdDu c) (hL : MdL c) (hB9 : MdB c) (hYd : MdYd c) (hpr : 0 ≤ pr ∧ pr ≤ 101) (hd : 5 ≤ d) (B9 : Int) (hB : B9 = c 0 30) : ∀ (n : Nat) (i : Int) (wa : Int), i + n = B9 → 0 ≤ i → 0 ≤ wa ∧ wa ≤ 999 * i ∧ (100 ≤ pr → wa = 0) → (∀ (wa' : Int), wa' = am_fold (g_k_clock_100 c k pr) i n wa → 0 ≤ wa' ∧ wa' ≤ 999 * B9 ∧ (100 ≤ pr → wa' = 0) → am_T S zX12_clock d u Q 160 [some (aR b), some (aI k), none, some (aI what), some (aI there), some (aI pr), some (aI wa'), none] [] (mdW w b c q)) → am_T S zX12_clock d u Q 100 [some (aR b), some (aI k), none, some (aI what), some (aI there), some (aI pr), some (aI wa), some (aI i)] [] (mdW w b c q) := by
  intro n
  induction n with
  | zero =>
    intro i wa hi9 h0i hinv k9
    have e9 : i = B9 := by omega
    subst e9
    obtain ⟨vl0, vu0⟩ := MdV_0 hV
    obtain ⟨vl1, vu1⟩ := MdV_1 hV
    obtain ⟨vl3, vu3⟩ := MdV_3 hV
    obtain ⟨vl12, vu12⟩ := MdV_12 hV
    refine T_iload (am_dec tX12_clock_1 18 rfl) rfl ?_
    refine T_aload_n (am_dec tX12_clock_1 19 rfl) rfl ?_
    refine T_getfield 11 30 (am_dec tX12_clock_1 20 rfl) flX12_292_11 (md_obj hl) rfl ?_
    refine T_icmp_ge 160 (am_dec tX12_clock_1 21 rfl) rfl (fun h106 => ?_) (fun h106 => by exfalso; omega)
    refine T_weak (ls' := [some (aR b), some (aI k), none, some (aI what), some (aI there), some (aI pr), some (aI wa), none]) (am_sub_s (am_sub_s (am_sub_n (am_sub_s (am_sub_s (am_sub_s (am_sub_s (am_sub_n am_sub_nil)))))))) ?_
    exact k9 wa rfl hinv
  | succ n ih =>
    intro i wa hi9 h0i hinv k9
    obtain ⟨vl0, vu0⟩ := MdV_0 hV
    obtain ⟨vl1, vu1⟩ := MdV_1 hV
    obtain ⟨vl3, vu3⟩ := MdV_3 hV
    obtain ⟨vl12, vu12⟩ := MdV_12 hV
    refine T_iload (am_dec tX12_clock_1 18 rfl) rfl ?_
    refine T_aload_n (am_dec tX12_clock_1 19 rfl) rfl ?_
    refine T_getfield 11 30 (am_dec tX12_clock_1 20 rfl) flX12_292_11 (md_obj hl) rfl ?_
    refine T_icmp_ge 160 (am_dec tX12_clock_1 21 rfl) rfl (fun h106 => by exfalso; omega) (fun h106 => ?_)
    have hb109 := hB9 i (by omega) (by omega)
    refine T_iload (am_dec tX12_clock_1 22 rfl) rfl ?_
    refine T_aload_n (am_dec tX12_clock_1 23 rfl) rfl ?_
    refine T_getfield 11 34 (am_dec tX12_clock_1 24 rfl) flX12_82_11 (md_obj hl) rfl ?_
    refine T_iload (am_dec tX12_clock_1 25 rfl) rfl ?_
    refine T_aaloadR (r := b + (133 + i.toNat)) (am_dec tX12_clock_1 26 rfl) (by decide) (mh_bid hl) (by omega) (by omega) (if_pos (by omega)) ?_
    refine T_iconst 0 (am_dec tX12_clock_1 27 rfl) rfl ⟨by decide, by decide⟩ ?_
    refine T_ialoadE (x := c (133 + i.toNat) 0) (am_dec tX12_clock_1 28 rfl) (mr_bid hl (i := i) (by omega) (by omega)) (by omega) (by omega) rfl ?_
    refine T_iload_n (am_dec tX12_clock_1 29 rfl) rfl ?_
    have K121 : ∀ (t121 : Int), t121 = (if c (133 + i.toNat) 0 = k then (if c (133 + i.toNat) 2 < pr then 0 else (c (133 + i.toNat) 1)) else 0) →  am_T S zX12_clock d u Q 151 [some (aR b), some (aI k), none, some (aI what), some (aI there), some (aI pr), none, some (aI i)] [aI t121, aI wa] (mdW w b c q) := by
      intro t121 ht121 
      refine T_iadd (wa + t121) (am_dec tX12_clock_2 7 rfl) rfl ⟨by omega, by omega⟩ ?_
      refine T_istore (ls' := [some (aR b), some (aI k), none, some (aI what), some (aI there), some (aI pr), some (aI (wa + t121)), some (aI i)]) (am_dec tX12_clock_2 8 rfl) (by decide) rfl ?_
      refine T_iinc (ls' := [some (aR b), some (aI k), none, some (aI what), some (aI there), some (aI pr), some (aI (wa + t121)), some (aI (i + 1))]) (i + 1) (am_dec tX12_clock_2 9 rfl) rfl rfl ⟨by omega, by omega⟩ (by decide) rfl ?_
      refine T_goto 100 (am_dec tX12_clock_2 10 rfl) rfl ?_
      have e9 : (g_k_clock_100 c k pr) i wa = wa + t121 := (by have s9 := ht121.symm; subst s9; exact rfl)
      simp only [am_fold_s, e9] at k9
      exact ih (i + 1) (wa + t121) (by omega) (by omega) (by omega) k9
    refine T_icmp_ne 150 (am_dec tX12_clock_1 30 rfl) rfl (fun h121 => ?_) (fun h121 => ?_)
    · refine T_iconst 0 (am_dec tX12_clock_2 6 rfl) rfl ⟨by decide, by decide⟩ ?_
      refine T_weak (ls' := [some (aR b), some (aI k), none, some (aI what), some (aI there), some (aI pr), none, some (aI i)]) (am_sub_s (am_sub_s (am_sub_n (am_sub_s (am_sub_s (am_sub_s (am_sub_n (am_sub_s am_sub_nil)))))))) ?_
      exact K121 _ (if_neg h121).symm 
    · refine T_aload_n (am_dec tX12_clock_1 31 rfl) rfl ?_
      refine T_getfield 11 34 (am_dec tX12_clock_1 32 rfl) flX12_82_11 (md_obj hl) rfl ?_
      refine T_iload (am_dec tX12_clock_1 33 rfl) rfl ?_
      refine T_aaloadR (r := b + (133 + i.toNat)) (am_dec tX12_clock_1 34 rfl) (by decide) (mh_bid hl) (by omega) (by omega) (if_pos (by omega)) ?_
      refine T_iconst 2 (am_dec tX12_clock_1 35 rfl) rfl ⟨by decide, by decide⟩ ?_
      refine T_ialoadE (x := c (133 + i.toNat) 2) (am_dec tX12_clock_1 36 rfl) (mr_bid hl (i := i) (by omega) (by omega)) (by omega) (by omega) rfl ?_
      refine T_iload (am_dec tX12_clock_1 37 rfl) rfl ?_
      have K135 : ∀ (t135 : Int), t135 = (if c (133 + i.toNat) 2 < pr then 0 else (c (133 + i.toNat) 1)) →  am_T S zX12_clock d u Q 151 [some (aR b), some (aI k), none, some (aI what), some (aI there), some (aI pr), none, some (aI i)] [aI t135, aI wa] (mdW w b c q) := by
        intro t135 ht135 
        exact K121 _ (by have s9 := ht135.symm; subst s9; exact (if_pos h121).symm) 
      refine T_icmp_lt 150 (am_dec tX12_clock_1 38 rfl) rfl (fun h135 => ?_) (fun h135 => ?_)
      · refine T_iconst 0 (am_dec tX12_clock_2 6 rfl) rfl ⟨by decide, by decide⟩ ?_
        refine T_weak (ls' := [some (aR b), some (aI k), none, some (aI what), some (aI there), some (aI pr), none, some (aI i)]) (am_sub_s (am_sub_s (am_sub_n (am_sub_s (am_sub_s (am_sub_s (am_sub_n (am_sub_s am_sub_nil)))))))) ?_
        exact K135 _ (if_pos h135).symm 
      · refine T_aload_n (am_dec tX12_clock_1 39 rfl) rfl ?_
        refine T_getfield 11 34 (am_dec tX12_clock_2 0 rfl) flX12_82_11 (md_obj hl) rfl ?_
        refine T_iload (am_dec tX12_clock_2 1 rfl) rfl ?_
        refine T_aaloadR (r := b + (133 + i.toNat)) (am_dec tX12_clock_2 2 rfl) (by decide) (mh_bid hl) (by omega) (by omega) (if_pos (by omega)) ?_
        refine T_iconst 1 (am_dec tX12_clock_2 3 rfl) rfl ⟨by decide, by decide⟩ ?_
        refine T_ialoadE (x := c (133 + i.toNat) 1) (am_dec tX12_clock_2 4 rfl) (mr_bid hl (i := i) (by omega) (by omega)) (by omega) (by omega) rfl ?_
        refine T_goto 151 (am_dec tX12_clock_2 5 rfl) rfl ?_
        refine T_weak (ls' := [some (aR b), some (aI k), none, some (aI what), some (aI there), some (aI pr), none, some (aI i)]) (am_sub_s (am_sub_s (am_sub_n (am_sub_s (am_sub_s (am_sub_s (am_sub_n (am_sub_s am_sub_nil)))))))) ?_
        exact K135 _ (if_neg h135).symm 
def w_k_clock_87 (c : am_F) (k : Int) (there : Int) (x9 : Int × Int) : (Int × Int) ⊕ (Int × Int) := let pr : Int := x9.1; let wa : Int := x9.2; (if wa ≤ there then .inr (pr, wa) else (let wa_100 : Int := am_fold (g_k_clock_100 c k pr) 0 (c 0 30).toNat 0; .inl ((pr + 1), wa_100)))
theorem L_k_clock_87 {S : am_S} {d u : Nat} {Q : AO → AH → Prop} {w : AH} {b : Nat} (hl : b + 735 ≤ w.length) (c : am_F) (q : am_F) (k : Int) (what : Int) (there : Int) (hV : MdV c) (hWd : MdWd c) (hS9 : MdS c) (hLp : MdLp c) (hDu : MdDu c) (hL : MdL c) (hB9 : MdB c) (hYd : MdYd c) (hk : 0 ≤ k ∧ k < c 4 3) (hth : 0 ≤ there ∧ there ≤ 9000) (hd : 5 ≤ d) : ∀ (n : Nat) (pr : Int) (wa : Int), 101 - pr < n → 0 ≤ pr ∧ pr ≤ 101 ∧ (there < wa → pr ≤ 100) ∧ 0 ≤ wa ∧ wa ≤ 20000 → (∀ (pr' : Int) (wa' : Int), pr' = (am_wh (w_k_clock_87 c k there) n (pr, wa)).1 → wa' = (am_wh (w_k_clock_87 c k there) n (pr, wa)).2 → 0 ≤ pr' ∧ pr' ≤ 101 ∧ wa' ≤ there ∧ 0 ≤ wa' ∧ wa' ≤ 20000 → am_T S zX12_clock d u Q 166 [none, none, none, some (aI what), none, some (aI pr'), some (aI wa'), none] [] (mdW w b c q)) → am_T S zX12_clock d u Q 87 [some (aR b), some (aI k), none, some (aI what), some (aI there), some (aI pr), some (aI wa), none] [] (mdW w b c q) := by
  intro n
  induction n with
  | zero =>
    intro pr wa hm9 hinv k9
    obtain ⟨vl0, vu0⟩ := MdV_0 hV
    obtain ⟨vl1, vu1⟩ := MdV_1 hV
    obtain ⟨vl3, vu3⟩ := MdV_3 hV
    obtain ⟨vl12, vu12⟩ := MdV_12 hV
    exfalso; omega
  | succ n ih =>
    intro pr wa hm9 hinv k9
    obtain ⟨vl0, vu0⟩ := MdV_0 hV
    obtain ⟨vl1, vu1⟩ := MdV_1 hV
    obtain ⟨vl3, vu3⟩ := MdV_3 hV
    obtain ⟨vl12, vu12⟩ := MdV_12 hV
    refine T_iload (am_dec tX12_clock_1 11 rfl) rfl ?_
    refine T_iload (am_dec tX12_clock_1 12 rfl) rfl ?_
    refine T_icmp_le 166 (am_dec tX12_clock_1 13 rfl) rfl (fun h91 => ?_) (fun h91 => ?_)
    · refine T_weak (ls' := [none, none, none, some (aI what), none, some (aI pr), some (aI wa), none]) (am_sub_n (am_sub_n (am_sub_n (am_sub_s (am_sub_n (am_sub_s (am_sub_s (am_sub_n am_sub_nil)))))))) ?_
      have e9 : (w_k_clock_87 c k there) (pr, wa) = .inr (pr, wa) := (if_pos h91)
      simp only [am_wh_r e9] at k9
      exact k9 _ _ rfl rfl (by omega)
    · refine T_iconst 0 (am_dec tX12_clock_1 14 rfl) rfl ⟨by decide, by decide⟩ ?_
      refine T_istore (ls' := [some (aR b), some (aI k), none, some (aI what), some (aI there), some (aI pr), some (aI 0), none]) (am_dec tX12_clock_1 15 rfl) (by decide) rfl ?_
      refine T_iconst 0 (am_dec tX12_clock_1 16 rfl) rfl ⟨by decide, by decide⟩ ?_
      refine T_istore (ls' := [some (aR b), some (aI k), none, some (aI what), some (aI there), some (aI pr), some (aI 0), some (aI 0)]) (am_dec tX12_clock_1 17 rfl) (by decide) rfl ?_
      refine L_k_clock_100 hl c q k what pr there hV hWd hS9 hLp hDu hL hB9 hYd (by omega) (by omega) _ rfl (c 0 30).toNat 0 0 (by omega) (by omega) (by omega) (fun wa_100 hwa_100 hv100 => ?_)
      refine T_iinc (ls' := [some (aR b), some (aI k), none, some (aI what), some (aI there), some (aI (pr + 1)), some (aI wa_100), none]) (pr + 1) (am_dec tX12_clock_2 11 rfl) rfl rfl ⟨by omega, by omega⟩ (by decide) rfl ?_
      refine T_goto 87 (am_dec tX12_clock_2 12 rfl) rfl ?_
      have e9 : (w_k_clock_87 c k there) (pr, wa) = .inl (pr + 1, wa_100) := (by have s9 := hwa_100.symm; subst s9; exact (if_neg h91))
      simp only [am_wh_l e9] at k9
      exact ih (pr + 1) wa_100 (by omega) (by omega) k9
def k_clock (c : am_F) (q : am_F) (k : Int) (t : Int) (what : Int) : Int × am_F := (let z8 : Int := (k_isLot c k); (let t11 : Int := (if z8 = 0 then 1 else 0); (let q21 : am_F := (k_refuse (am_put q 0 0 0) t11 1 1); (let z21 : Int := (if t11 = 0 then 0 else 1); (if z21 = 0 then (let z29 : Int := (k_isStep t); (let t32 : Int := (if z29 = 0 then 1 else (let z38 : Int := (k_in what 0 2); (if z38 = 0 then 1 else 0))); (let q51 : am_F := (k_refuse q21 t32 2 2); (let z51 : Int := (if t32 = 0 then 0 else 1); (if z51 = 0 then (let q60 : am_F := k_goes c q51; (let there_69 : Int := (k_yardsOf c q60 k t); (let pr_79 : Int := c (96 + k.toNat) 4; (let pr_87 : Int := (am_wh (w_k_clock_87 c k there_69) 102 (pr_79, (there_69 + 1))).1; (let wa_87 : Int := (am_wh (w_k_clock_87 c k there_69) 102 (pr_79, (there_69 + 1))).2; (let t170 : Int := (if what = 0 then (pr_87 + (-1)) else (if what = 1 then wa_87 else ((pr_87 + (-1)) * wa_87))); (t170, q60))))))) else (0, q51)))))) else (0, q21))))))
theorem mk_clock {S : am_S} {d u : Nat} {w : AH} {b : Nat} (hl : b + 735 ≤ w.length) {c : am_F} {q : am_F} (k : Int) (t : Int) (what : Int) (hV : MdV c) (hWd : MdWd c) (hS9 : MdS c) (hLp : MdLp c) (hDu : MdDu c) (hL : MdL c) (hB9 : MdB c) (hYd : MdYd c) (hd : 5 ≤ d) : am_Out S zX12_clock d u [aR b, aI k, aI t, aI what] (mdW w b c q) (.inl (some (aI ((k_clock c q k t what).1)))) (mdW w b c ((k_clock c q k t what).2)) := by
  have key : ∀ Q : AO → AH → Prop, Q (.inl (some (aI ((k_clock c q k t what).1)))) (mdW w b c ((k_clock c q k t what).2)) → am_M S zX12_clock d u [aR b, aI k, aI t, aI what] (mdW w b c q) Q := by
    intro Q hQ
    refine am_body rfl (by decide +kernel) rfl (am_cats_cons rfl ( am_cats_cons rfl ( am_cats_cons rfl ( am_cats_cons rfl (am_cats_nil))))) (Nat.le_of_ble_eq_true rfl) (?_ : am_T _ _ _ _ _ 0 [some (aR b), some (aI k), some (aI t), some (aI what), none, none, none, none] [] (mdW w b c q))
    obtain ⟨vl0, vu0⟩ := MdV_0 hV
    obtain ⟨vl1, vu1⟩ := MdV_1 hV
    obtain ⟨vl3, vu3⟩ := MdV_3 hV
    obtain ⟨vl12, vu12⟩ := MdV_12 hV
    refine T_aload_n (am_dec tX12_clock_0 0 rfl) rfl ?_
    refine T_iconst 0 (am_dec tX12_clock_0 1 rfl) rfl ⟨by decide, by decide⟩ ?_
    refine T_putfield (fs' := mdO b (c 0) (am_up (q 0) 0 0)) 11 0 (am_dec tX12_clock_0 2 rfl) flX12_160_11 rfl rfl rfl trivial (md_obj hl) (Nat.le_of_ble_eq_true rfl) rfl ?_
    refine am_wE (w2 := mdW w b c (am_put q 0 0 0)) (md_fq) ?_
    refine T_aload_n (am_dec tX12_clock_0 3 rfl) rfl ?_
    refine T_aload_n (am_dec tX12_clock_0 4 rfl) rfl ?_
    refine T_iload_n (am_dec tX12_clock_0 5 rfl) rfl ?_
    refine T_callV (as := [aI k]) rfl (am_dec tX12_clock_0 6 rfl) lkX12_412 (md_obj hl) rfl rfl (Nat.le_of_ble_eq_true rfl) (by omega) (mk_isLot (d := d - 1) hl k  hV (by omega)) (fun _ => ?_)
    refine T_nm (fun z8 hz8 => ?_)
    have hb8 := k_isLot_b c k
    rw [← hz8] at hb8
    have hs8 := k_isLot_s c k
    rw [← hz8] at hs8
    have K11 : ∀ (t11 : Int), t11 = (if z8 = 0 then 1 else 0) →  am_T S zX12_clock d u Q 19 [some (aR b), some (aI k), some (aI t), some (aI what), none, none, none, none] [aI t11, aR b] (mdW w b c (am_put q 0 0 0)) := by
      intro t11 ht11 
      have hbt11 : t11 = 0 ∨ t11 = 1 := by
        rw [ht11]
        try dsimp only
        repeat' split
        all_goals first | exact Or.inl rfl | exact Or.inr rfl | apply k_in_b | apply k_isDigit_b | apply k_isSmall_b | apply k_bad_b | apply k_isIn_b | apply k_isStep_b | apply k_isFirst_b | apply k_isLine_b | apply k_seesBy_b | apply k_isWalker_b | apply k_seesOne_b | apply k_badTwo_b | apply k_sees_b | apply k_isCode_b | apply k_isLot_b | apply k_isShip_b | apply k_areRight_b | apply k_right_b | omega
      refine T_iconst 1 (am_dec tX12_clock_0 11 rfl) rfl ⟨by decide, by decide⟩ ?_
      refine T_iconst 1 (am_dec tX12_clock_0 12 rfl) rfl ⟨by decide, by decide⟩ ?_
      refine T_callV (as := [aI t11, aI 1, aI 1]) rfl (am_dec tX12_clock_0 13 rfl) lkX12_275 (md_obj hl) rfl rfl (Nat.le_of_ble_eq_true rfl) (by omega) (mk_bad0 (d := d - 1) hl t11 1 1 (by omega) am_put_s (by omega)) (fun _ => ?_)
      refine T_nmH (W := fun x9 => mdW w b c x9) (v := (k_refuse (am_put q 0 0 0) t11 1 1)) (fun q21 hq21 => ?_)
      refine T_nm (fun z21 hz21 => ?_)
      have hq021 : t11 = 0 → q21 0 0 = 0 := fun h9 => by rw [hq21]; exact k_refuse_0 am_put_s h9
      refine T_if_ne 57 (am_dec tX12_clock_0 14 rfl) rfl (fun h24 => ?_) (fun h24 => ?_)
      · refine T_iconst 0 (am_dec tX12_clock_0 31 rfl) rfl ⟨by decide, by decide⟩ ?_
        exact T_ireturn (am_dec tX12_clock_0 32 rfl) rfl (am_tr (fun (x9 : Int × am_F) => Q (.inl (some (aI (x9.1)))) (mdW w b c x9.2)) (y := (0, q21)) (show (k_clock c q k t what) = (0, q21) from (by have s9 := hz8.symm; subst s9; have s9 := ht11.symm; subst s9; have s9 := hq21.symm; subst s9; have s9 := hz21.symm; subst s9; exact (if_neg h24))) hQ)
      · refine T_aload_n (am_dec tX12_clock_0 15 rfl) rfl ?_
        refine T_iload_n (am_dec tX12_clock_0 16 rfl) rfl ?_
        refine T_callS (as := [aI t]) rfl (am_dec tX12_clock_0 17 rfl) lkX12_351 rfl (Nat.le_of_ble_eq_true rfl) (by omega) (mk_isStep (d := d - 1)  t   (by omega)) (fun _ => ?_)
        refine T_nm (fun z29 hz29 => ?_)
        have hb29 := k_isStep_b t
        rw [← hz29] at hb29
        have hs29 := k_isStep_s t
        rw [← hz29] at hs29
        have K32 : ∀ (t32 : Int), t32 = (if z29 = 0 then 1 else (let z38 : Int := (k_in what 0 2); (if z38 = 0 then 1 else 0))) →  am_T S zX12_clock d u Q 49 [some (aR b), some (aI k), some (aI t), some (aI what), none, none, none, none] [aI t32, aR b] (mdW w b c q21) := by
          intro t32 ht32 
          have hxt32 := ht32
          dsimp only at hxt32
          have hy2 := k_in_s what 0 2
          have hbt32 : t32 = 0 ∨ t32 = 1 := by
            rw [ht32]
            try dsimp only
            repeat' split
            all_goals first | exact Or.inl rfl | exact Or.inr rfl | apply k_in_b | apply k_isDigit_b | apply k_isSmall_b | apply k_bad_b | apply k_isIn_b | apply k_isStep_b | apply k_isFirst_b | apply k_isLine_b | apply k_seesBy_b | apply k_isWalker_b | apply k_seesOne_b | apply k_badTwo_b | apply k_sees_b | apply k_isCode_b | apply k_isLot_b | apply k_isShip_b | apply k_areRight_b | apply k_right_b | omega
          refine T_iconst 2 (am_dec tX12_clock_0 27 rfl) rfl ⟨by decide, by decide⟩ ?_
          refine T_iconst 2 (am_dec tX12_clock_0 28 rfl) rfl ⟨by decide, by decide⟩ ?_
          refine T_callV (as := [aI t32, aI 2, aI 2]) rfl (am_dec tX12_clock_0 29 rfl) lkX12_275 (md_obj hl) rfl rfl (Nat.le_of_ble_eq_true rfl) (by omega) (mk_bad0 (d := d - 1) hl t32 2 2 (by omega) (hq021 (by omega)) (by omega)) (fun _ => ?_)
          refine T_nmH (W := fun x9 => mdW w b c x9) (v := (k_refuse q21 t32 2 2)) (fun q51 hq51 => ?_)
          refine T_nm (fun z51 hz51 => ?_)
          have hq051 : t32 = 0 → q51 0 0 = 0 := fun h9 => by rw [hq51]; exact k_refuse_0 (hq021 (by omega)) h9
          refine T_if_eq 59 (am_dec tX12_clock_0 30 rfl) rfl (fun h54 => ?_) (fun h54 => ?_)
          · refine T_aload_n (am_dec tX12_clock_0 33 rfl) rfl ?_
            refine T_callV (as := []) rfl (am_dec tX12_clock_0 34 rfl) lkX12_345 (md_obj hl) rfl rfl (Nat.le_of_ble_eq_true rfl) (by omega) (mk_goes (d := d - 1) hl   hV hWd hS9 hLp hDu (by omega)) (fun _ => ?_)
            refine T_nmH (W := fun x9 => mdW w b c x9) (v := k_goes c q51) (fun q60 hq60 => ?_)
            refine T_aload_n (am_dec tX12_clock_0 35 rfl) rfl ?_
            refine T_iload_n (am_dec tX12_clock_0 36 rfl) rfl ?_
            have lk := hL k (by omega) (by omega)
            refine T_iload_n (am_dec tX12_clock_0 37 rfl) rfl ?_
            refine T_callV (as := [aI k, aI t]) rfl (am_dec tX12_clock_0 38 rfl) lkX12_415 (md_obj hl) rfl rfl (Nat.le_of_ble_eq_true rfl) (by omega) (mk_yardsOf (d := d - 1) hl k t  hV hL (by omega) (by omega) (by omega)) (fun _ => ?_)
            refine T_nm (fun there_69 hthere_69 => ?_)
            refine T_istore (ls' := [some (aR b), some (aI k), some (aI t), some (aI what), some (aI there_69), none, none, none]) (am_dec tX12_clock_0 39 rfl) (by decide) rfl ?_
            have yd : 0 ≤ k_yardsOf c q60 k t ∧ k_yardsOf c q60 k t ≤ 9000 := by rw [hq60]; exact hYd _ _ _ (by omega) (by omega) (by omega) (by omega)
            rw [← hthere_69] at yd
            refine T_aload_n (am_dec tX12_clock_1 0 rfl) rfl ?_
            refine T_getfield 11 23 (am_dec tX12_clock_1 1 rfl) flX12_61_11 (md_obj hl) rfl ?_
            refine T_iload_n (am_dec tX12_clock_1 2 rfl) rfl ?_
            refine T_aaloadR (r := b + (96 + k.toNat)) (am_dec tX12_clock_1 3 rfl) (by decide) (mh_lot hl) (by omega) (by omega) (if_pos (by omega)) ?_
            refine T_iconst 4 (am_dec tX12_clock_1 4 rfl) rfl ⟨by decide, by decide⟩ ?_
            refine T_ialoadE (x := c (96 + k.toNat) 4) (am_dec tX12_clock_1 5 rfl) (mr_lot hl (i := k) (by omega) (by omega)) (by omega) (by omega) rfl ?_
            refine T_nm (fun pr_79 hpr_79 => ?_)
            refine T_istore (ls' := [some (aR b), some (aI k), some (aI t), some (aI what), some (aI there_69), some (aI pr_79), none, none]) (am_dec tX12_clock_1 6 rfl) (by decide) rfl ?_
            refine T_iload (am_dec tX12_clock_1 7 rfl) rfl ?_
            refine T_iconst 1 (am_dec tX12_clock_1 8 rfl) rfl ⟨by decide, by decide⟩ ?_
            refine T_iadd (there_69 + 1) (am_dec tX12_clock_1 9 rfl) rfl ⟨by omega, by omega⟩ ?_
            refine T_istore (ls' := [some (aR b), some (aI k), some (aI t), some (aI what), some (aI there_69), some (aI pr_79), some (aI (there_69 + 1)), none]) (am_dec tX12_clock_1 10 rfl) (by decide) rfl ?_
            refine T_weak (ls' := [some (aR b), some (aI k), none, some (aI what), some (aI there_69), some (aI pr_79), some (aI (there_69 + 1)), none]) (am_sub_s (am_sub_s (am_sub_n (am_sub_s (am_sub_s (am_sub_s (am_sub_s (am_sub_n am_sub_nil)))))))) ?_
            refine L_k_clock_87 hl c q60 k what there_69 hV hWd hS9 hLp hDu hL hB9 (by omega) (by omega) (by omega) (by omega) 102 pr_79 (there_69 + 1) (by omega) (by omega) (fun pr_87 wa_87 hpr_87 hwa_87 hv87 => ?_)
            refine T_iinc (ls' := [none, none, none, some (aI what), none, some (aI (pr_87 + (-1))), some (aI wa_87), none]) (pr_87 + (-1)) (am_dec tX12_clock_2 13 rfl) rfl rfl ⟨by omega, by omega⟩ (by decide) rfl ?_
            refine T_iload_n (am_dec tX12_clock_2 14 rfl) rfl ?_
            have K170 : ∀ (t170 : Int), t170 = (if what = 0 then (pr_87 + (-1)) else (if what = 1 then wa_87 else ((pr_87 + (-1)) * wa_87))) →  am_T S zX12_clock d u Q 193 [none, none, none, none, none, none, none, none] [aI t170] (mdW w b c q60) := by
              intro t170 ht170 
              exact T_ireturn (am_dec tX12_clock_2 26 rfl) rfl (am_tr (fun (x9 : Int × am_F) => Q (.inl (some (aI (x9.1)))) (mdW w b c x9.2)) (y := (t170, q60)) (show (k_clock c q k t what) = (t170, q60) from (by have s9 := hz8.symm; subst s9; have s9 := ht11.symm; subst s9; have s9 := hq21.symm; subst s9; have s9 := hz21.symm; subst s9; have s9 := hz29.symm; subst s9; have s9 := ht32.symm; subst s9; have s9 := hq51.symm; subst s9; have s9 := hz51.symm; subst s9; have s9 := hq60.symm; subst s9; have s9 := hthere_69.symm; subst s9; have s9 := hpr_79.symm; subst s9; have s9 := hpr_87.symm; subst s9; have s9 := hwa_87.symm; subst s9; have s9 := ht170.symm; subst s9; exact ((if_pos h24).trans (if_pos h54)))) hQ)
            refine T_if_ne 178 (am_dec tX12_clock_2 15 rfl) rfl (fun h170 => ?_) (fun h170 => ?_)
            · refine T_iload_n (am_dec tX12_clock_2 18 rfl) rfl ?_
              refine T_iconst 1 (am_dec tX12_clock_2 19 rfl) rfl ⟨by decide, by decide⟩ ?_
              have K180 : ∀ (t180 : Int), t180 = (if what = 1 then wa_87 else ((pr_87 + (-1)) * wa_87)) →  am_T S zX12_clock d u Q 193 [none, none, none, none, none, none, none, none] [aI t180] (mdW w b c q60) := by
                intro t180 ht180 
                exact K170 _ (by have s9 := ht180.symm; subst s9; exact (if_neg h170).symm) 
              refine T_icmp_ne 188 (am_dec tX12_clock_2 20 rfl) rfl (fun h180 => ?_) (fun h180 => ?_)
              · refine T_iload (am_dec tX12_clock_2 23 rfl) rfl ?_
                refine T_iload (am_dec tX12_clock_2 24 rfl) rfl ?_
                refine T_imul ((pr_87 + (-1)) * wa_87) (am_dec tX12_clock_2 25 rfl) rfl (by exact am_i32p' (by omega) (by omega)) ?_
                refine T_weak (ls' := [none, none, none, none, none, none, none, none]) (am_sub_n (am_sub_n (am_sub_n (am_sub_n (am_sub_n (am_sub_n (am_sub_n (am_sub_n am_sub_nil)))))))) ?_
                exact K180 _ (if_neg h180).symm 
              · refine T_iload (am_dec tX12_clock_2 21 rfl) rfl ?_
                refine T_goto 193 (am_dec tX12_clock_2 22 rfl) rfl ?_
                refine T_weak (ls' := [none, none, none, none, none, none, none, none]) (am_sub_n (am_sub_n (am_sub_n (am_sub_n (am_sub_n (am_sub_n (am_sub_n (am_sub_n am_sub_nil)))))))) ?_
                exact K180 _ (if_pos h180).symm 
            · refine T_iload (am_dec tX12_clock_2 16 rfl) rfl ?_
              refine T_goto 193 (am_dec tX12_clock_2 17 rfl) rfl ?_
              refine T_weak (ls' := [none, none, none, none, none, none, none, none]) (am_sub_n (am_sub_n (am_sub_n (am_sub_n (am_sub_n (am_sub_n (am_sub_n (am_sub_n am_sub_nil)))))))) ?_
              exact K170 _ (if_pos h170).symm 
          · refine T_iconst 0 (am_dec tX12_clock_0 31 rfl) rfl ⟨by decide, by decide⟩ ?_
            exact T_ireturn (am_dec tX12_clock_0 32 rfl) rfl (am_tr (fun (x9 : Int × am_F) => Q (.inl (some (aI (x9.1)))) (mdW w b c x9.2)) (y := (0, q51)) (show (k_clock c q k t what) = (0, q51) from (by have s9 := hz8.symm; subst s9; have s9 := ht11.symm; subst s9; have s9 := hq21.symm; subst s9; have s9 := hz21.symm; subst s9; have s9 := hz29.symm; subst s9; have s9 := ht32.symm; subst s9; have s9 := hq51.symm; subst s9; have s9 := hz51.symm; subst s9; exact ((if_pos h24).trans (if_neg h54)))) hQ)
        refine T_if_eq 44 (am_dec tX12_clock_0 18 rfl) rfl (fun h32 => ?_) (fun h32 => ?_)
        · refine T_iconst 1 (am_dec tX12_clock_0 24 rfl) rfl ⟨by decide, by decide⟩ ?_
          refine T_goto 49 (am_dec tX12_clock_0 25 rfl) rfl ?_
          exact K32 _ (if_pos h32).symm 
        · refine T_iload_n (am_dec tX12_clock_0 19 rfl) rfl ?_
          refine T_iconst 0 (am_dec tX12_clock_0 20 rfl) rfl ⟨by decide, by decide⟩ ?_
          refine T_iconst 2 (am_dec tX12_clock_0 21 rfl) rfl ⟨by decide, by decide⟩ ?_
          refine T_callS (as := [aI what, aI 0, aI 2]) rfl (am_dec tX12_clock_0 22 rfl) lkX12_194 rfl (Nat.le_of_ble_eq_true rfl) (by omega) (mk_in (d := d - 1)  what 0 2   ) (fun _ => ?_)
          refine T_nm (fun z38 hz38 => ?_)
          have hb38 := k_in_b what 0 2
          rw [← hz38] at hb38
          have hs38 := k_in_s what 0 2
          rw [← hz38] at hs38
          have K41 : ∀ (t41 : Int), t41 = (if z38 = 0 then 1 else 0) →  am_T S zX12_clock d u Q 49 [some (aR b), some (aI k), some (aI t), some (aI what), none, none, none, none] [aI t41, aR b] (mdW w b c q21) := by
            intro t41 ht41 
            have hbt41 : t41 = 0 ∨ t41 = 1 := by
              rw [ht41]
              try dsimp only
              repeat' split
              all_goals first | exact Or.inl rfl | exact Or.inr rfl | apply k_in_b | apply k_isDigit_b | apply k_isSmall_b | apply k_bad_b | apply k_isIn_b | apply k_isStep_b | apply k_isFirst_b | apply k_isLine_b | apply k_seesBy_b | apply k_isWalker_b | apply k_seesOne_b | apply k_badTwo_b | apply k_sees_b | apply k_isCode_b | apply k_isLot_b | apply k_isShip_b | apply k_areRight_b | apply k_right_b | omega
            exact K32 _ (by have s9 := hz38.symm; subst s9; have s9 := ht41.symm; subst s9; exact (if_neg h32).symm) 
          refine T_if_ne 48 (am_dec tX12_clock_0 23 rfl) rfl (fun h41 => ?_) (fun h41 => ?_)
          · refine T_iconst 0 (am_dec tX12_clock_0 26 rfl) rfl ⟨by decide, by decide⟩ ?_
            exact K41 _ (if_neg h41).symm 
          · refine T_iconst 1 (am_dec tX12_clock_0 24 rfl) rfl ⟨by decide, by decide⟩ ?_
            refine T_goto 49 (am_dec tX12_clock_0 25 rfl) rfl ?_
            exact K41 _ (if_pos h41).symm 
    refine T_if_ne 18 (am_dec tX12_clock_0 7 rfl) rfl (fun h11 => ?_) (fun h11 => ?_)
    · refine T_iconst 0 (am_dec tX12_clock_0 10 rfl) rfl ⟨by decide, by decide⟩ ?_
      exact K11 _ (if_neg h11).symm 
    · refine T_iconst 1 (am_dec tX12_clock_0 8 rfl) rfl ⟨by decide, by decide⟩ ?_
      refine T_goto 19 (am_dec tX12_clock_0 9 rfl) rfl ?_
      exact K11 _ (if_pos h11).symm 
  exact key _ ⟨rfl, rfl⟩
def k_areSeeds (dq : Int) (many : Int) : Int := (let z4 : Int := (k_in dq 0 8); (if z4 = 0 then 0 else (let z14 : Int := (k_in many 1 40); (if z14 = 0 then 0 else 1))))
theorem mk_areSeeds {S : am_S} {d u : Nat} {w : AH}  (dq : Int) (many : Int)  (hd : 1 ≤ d) : am_Out S zX12_areSeeds d u [aI dq, aI many] (w) (.inl (some (aI (k_areSeeds dq many)))) (w) := by
  have key : ∀ Q : AO → AH → Prop, Q (.inl (some (aI (k_areSeeds dq many)))) (w) → am_M S zX12_areSeeds d u [aI dq, aI many] (w) Q := by
    intro Q hQ
    refine am_body rfl (by decide +kernel) rfl (am_cats_cons rfl ( am_cats_cons rfl (am_cats_nil))) (Nat.le_of_ble_eq_true rfl) (?_ : am_T _ _ _ _ _ 0 [some (aI dq), some (aI many)] [] (w))
    refine T_iload_n (am_dec tX12_areSeeds_0 0 rfl) rfl ?_
    refine T_iconst 0 (am_dec tX12_areSeeds_0 1 rfl) rfl ⟨by decide, by decide⟩ ?_
    refine T_bipush 8 (am_dec tX12_areSeeds_0 2 rfl) rfl ⟨by decide, by decide⟩ ?_
    refine T_callS (as := [aI dq, aI 0, aI 8]) rfl (am_dec tX12_areSeeds_0 3 rfl) lkX12_194 rfl (Nat.le_of_ble_eq_true rfl) (by omega) (mk_in (d := d - 1)  dq 0 8   ) (fun _ => ?_)
    refine T_nm (fun z4 hz4 => ?_)
    have hb4 := k_in_b dq 0 8
    rw [← hz4] at hb4
    have hs4 := k_in_s dq 0 8
    rw [← hz4] at hs4
    have K7 : ∀ (t7 : Int), t7 = (if z4 = 0 then 0 else (let z14 : Int := (k_in many 1 40); (if z14 = 0 then 0 else 1))) →  am_T S zX12_areSeeds d u Q 25 [none, none] [aI t7] (w) := by
      intro t7 ht7 
      have hxt7 := ht7
      dsimp only at hxt7
      have hy2 := k_in_s many 1 40
      have hbt7 : t7 = 0 ∨ t7 = 1 := by
        rw [ht7]
        try dsimp only
        repeat' split
        all_goals first | exact Or.inl rfl | exact Or.inr rfl | apply k_in_b | apply k_isDigit_b | apply k_isSmall_b | apply k_bad_b | apply k_isIn_b | apply k_isStep_b | apply k_isFirst_b | apply k_isLine_b | apply k_seesBy_b | apply k_isWalker_b | apply k_seesOne_b | apply k_badTwo_b | apply k_sees_b | apply k_isCode_b | apply k_isLot_b | apply k_isShip_b | apply k_areRight_b | apply k_right_b | omega
      exact T_zreturn (am_dec tX12_areSeeds_0 13 rfl) rfl (by first | exact Or.inl rfl | exact Or.inr rfl | omega) (am_tr (fun (x9 : Int) => Q (.inl (some (aI (x9)))) (w)) (y := t7) (show (k_areSeeds dq many) = t7 from (by have s9 := hz4.symm; subst s9; have s9 := ht7.symm; subst s9; exact rfl)) hQ)
    refine T_if_eq 24 (am_dec tX12_areSeeds_0 4 rfl) rfl (fun h7 => ?_) (fun h7 => ?_)
    · refine T_iconst 0 (am_dec tX12_areSeeds_0 12 rfl) rfl ⟨by decide, by decide⟩ ?_
      refine T_weak (ls' := [none, none]) (am_sub_n (am_sub_n am_sub_nil)) ?_
      exact K7 _ (if_pos h7).symm 
    · refine T_iload_n (am_dec tX12_areSeeds_0 5 rfl) rfl ?_
      refine T_iconst 1 (am_dec tX12_areSeeds_0 6 rfl) rfl ⟨by decide, by decide⟩ ?_
      refine T_bipush 40 (am_dec tX12_areSeeds_0 7 rfl) rfl ⟨by decide, by decide⟩ ?_
      refine T_callS (as := [aI many, aI 1, aI 40]) rfl (am_dec tX12_areSeeds_0 8 rfl) lkX12_194 rfl (Nat.le_of_ble_eq_true rfl) (by omega) (mk_in (d := d - 1)  many 1 40   ) (fun _ => ?_)
      refine T_nm (fun z14 hz14 => ?_)
      have hb14 := k_in_b many 1 40
      rw [← hz14] at hb14
      have hs14 := k_in_s many 1 40
      rw [← hz14] at hs14
      have K17 : ∀ (t17 : Int), t17 = (if z14 = 0 then 0 else 1) →  am_T S zX12_areSeeds d u Q 25 [none, none] [aI t17] (w) := by
        intro t17 ht17 
        have hbt17 : t17 = 0 ∨ t17 = 1 := by
          rw [ht17]
          try dsimp only
          repeat' split
          all_goals first | exact Or.inl rfl | exact Or.inr rfl | apply k_in_b | apply k_isDigit_b | apply k_isSmall_b | apply k_bad_b | apply k_isIn_b | apply k_isStep_b | apply k_isFirst_b | apply k_isLine_b | apply k_seesBy_b | apply k_isWalker_b | apply k_seesOne_b | apply k_badTwo_b | apply k_sees_b | apply k_isCode_b | apply k_isLot_b | apply k_isShip_b | apply k_areRight_b | apply k_right_b | omega
        exact K7 _ (by have s9 := hz14.symm; subst s9; have s9 := ht17.symm; subst s9; exact (if_neg h7).symm) 
      refine T_if_eq 24 (am_dec tX12_areSeeds_0 9 rfl) rfl (fun h17 => ?_) (fun h17 => ?_)
      · refine T_iconst 0 (am_dec tX12_areSeeds_0 12 rfl) rfl ⟨by decide, by decide⟩ ?_
        refine T_weak (ls' := [none, none]) (am_sub_n (am_sub_n am_sub_nil)) ?_
        exact K17 _ (if_pos h17).symm 
      · refine T_iconst 1 (am_dec tX12_areSeeds_0 10 rfl) rfl ⟨by decide, by decide⟩ ?_
        refine T_goto 25 (am_dec tX12_areSeeds_0 11 rfl) rfl ?_
        refine T_weak (ls' := [none, none]) (am_sub_n (am_sub_n am_sub_nil)) ?_
        exact K17 _ (if_neg h17).symm 
  exact key _ ⟨rfl, rfl⟩
theorem k_areSeeds_b (dq : Int) (many : Int) : (k_areSeeds dq many) = 0 ∨ (k_areSeeds dq many) = 1 := by
  unfold k_areSeeds
  try dsimp only
  repeat' split
  all_goals first | exact Or.inl rfl | exact Or.inr rfl | apply k_in_b | apply k_isDigit_b | apply k_isSmall_b | apply k_bad_b | apply k_isIn_b | apply k_isStep_b | apply k_isFirst_b | apply k_isLine_b | apply k_seesBy_b | apply k_isWalker_b | apply k_seesOne_b | apply k_badTwo_b | apply k_sees_b | apply k_isCode_b | apply k_isLot_b | apply k_isShip_b | apply k_areRight_b | apply k_right_b
theorem k_areSeeds_s (x y : Int) : (k_areSeeds x y = 1 ∧ (0 ≤ x ∧ x ≤ 8) ∧ 1 ≤ y ∧ y ≤ 40) ∨ (k_areSeeds x y = 0 ∧ ¬ ((0 ≤ x ∧ x ≤ 8) ∧ 1 ≤ y ∧ y ≤ 40)) := by
  have h1 := k_in_s x 0 8
  have h2 := k_in_s y 1 40
  unfold k_areSeeds
  try dsimp only
  split
  · right; exact ⟨rfl, by omega⟩
  · split
    · right; exact ⟨rfl, by omega⟩
    · left; exact ⟨rfl, by omega⟩
def g_k_span_68 (c : am_F) (wk : Int) (seed : Int) (dq : Int) (what : Int) (k : Int) (x9 : Int × am_F) : Int × am_F := let bst := x9.1; let q := x9.2; (let q81 : am_F := (k_goesD c q (am_w32 (seed + k)) dq); (let m_89 : Int := (k_needsAll c q81 wk); (let t94 : Int := (if bst = (-1) then m_89 else (if what = 0 then (if bst ≤ m_89 then bst else m_89) else (if m_89 ≤ bst then bst else m_89))); (t94, q81))))
theorem L_k_span_68 {S : am_S} {d u : Nat} {Q : AO → AH → Prop} {w : AH} {b : Nat} (hl : b + 735 ≤ w.length) (c : am_F) (wk : Int) (seed : Int) (dq : Int) (many : Int) (what : Int) (hV : MdV c) (hWd : MdWd c) (hS9 : MdS c) (hLp : MdLp c) (hDu : MdDu c) (hD1 : c 0 61 = -1) (hK9 : MdK c) (hPl : MdPl c) (hWt : MdWt c) (hwk : 0 ≤ wk ∧ wk < c 4 4) (hmn : 0 ≤ many ∧ many ≤ 40) (hd : 6 ≤ d) (B9 : Int) (hB : B9 = many) : ∀ (n : Nat) (k : Int) (bst : Int) (q : am_F), k + n = B9 → 0 ≤ k → (∀ (bst' : Int) (q' : am_F), bst' = (am_fold (g_k_span_68 c wk seed dq what) k n (bst, q)).1 → q' = (am_fold (g_k_span_68 c wk seed dq what) k n (bst, q)).2 → am_T S zX12_span d u Q 134 [none, none, none, none, none, none, some (aI bst'), none, none] [] (mdW w b c q')) → am_T S zX12_span d u Q 68 [some (aR b), some (aI wk), some (aI seed), some (aI dq), some (aI many), some (aI what), some (aI bst), some (aI k), none] [] (mdW w b c q) := by
  intro n
  induction n with
  | zero =>
    intro k bst q hi9 h0i k9
    have e9 : k = B9 := by omega
    subst e9
    obtain ⟨vl0, vu0⟩ := MdV_0 hV
    obtain ⟨vl1, vu1⟩ := MdV_1 hV
    obtain ⟨vl3, vu3⟩ := MdV_3 hV
    obtain ⟨vl4, vu4⟩ := MdV_4 hV
    obtain ⟨vl5, vu5⟩ := MdV_5 hV
    refine T_iload (am_dec tX12_span_0 38 rfl) rfl ?_
    refine T_iload (am_dec tX12_span_0 39 rfl) rfl ?_
    refine T_icmp_ge 134 (am_dec tX12_span_1 0 rfl) rfl (fun h72 => ?_) (fun h72 => by exfalso; omega)
    refine T_weak (ls' := [none, none, none, none, none, none, some (aI bst), none, none]) (am_sub_n (am_sub_n (am_sub_n (am_sub_n (am_sub_n (am_sub_n (am_sub_s (am_sub_n (am_sub_n am_sub_nil))))))))) ?_
    exact k9 bst q rfl rfl
  | succ n ih =>
    intro k bst q hi9 h0i k9
    obtain ⟨vl0, vu0⟩ := MdV_0 hV
    obtain ⟨vl1, vu1⟩ := MdV_1 hV
    obtain ⟨vl3, vu3⟩ := MdV_3 hV
    obtain ⟨vl4, vu4⟩ := MdV_4 hV
    obtain ⟨vl5, vu5⟩ := MdV_5 hV
    refine T_iload (am_dec tX12_span_0 38 rfl) rfl ?_
    refine T_iload (am_dec tX12_span_0 39 rfl) rfl ?_
    refine T_icmp_ge 134 (am_dec tX12_span_1 0 rfl) rfl (fun h72 => by exfalso; omega) (fun h72 => ?_)
    refine T_aload_n (am_dec tX12_span_1 1 rfl) rfl ?_
    refine T_iload_n (am_dec tX12_span_1 2 rfl) rfl ?_
    refine T_iload (am_dec tX12_span_1 3 rfl) rfl ?_
    refine T_iaddW (am_w32 (seed + k)) (am_dec tX12_span_1 4 rfl) (am_w32e _).symm (am_w32r _) ?_
    refine T_iload_n (am_dec tX12_span_1 5 rfl) rfl ?_
    refine T_callV (as := [aI (am_w32 (seed + k)), aI dq]) rfl (am_dec tX12_span_1 6 rfl) lkX12_439 (md_obj hl) rfl rfl (Nat.le_of_ble_eq_true rfl) (by omega) (mk_goesInDoubt' (d := d - 1) hl (am_w32 (seed + k)) dq hV hWd hS9 hLp hDu hD1 (by omega)) (fun _ => ?_)
    refine T_nmH (W := fun x9 => mdW w b c x9) (v := (k_goesD c q (am_w32 (seed + k)) dq)) (fun q81 hq81 => ?_)
    refine T_aload_n (am_dec tX12_span_1 7 rfl) rfl ?_
    refine T_iload_n (am_dec tX12_span_1 8 rfl) rfl ?_
    refine T_callV (as := [aI wk]) rfl (am_dec tX12_span_1 9 rfl) lkX12_394 (md_obj hl) rfl rfl (Nat.le_of_ble_eq_true rfl) (by omega) (mk_needsAll (d := d - 1) hl wk  hV hK9 hPl hWt (by omega) (by omega)) (fun _ => ?_)
    refine T_nm (fun m_89 hm_89 => ?_)
    refine T_istore (ls' := [some (aR b), some (aI wk), some (aI seed), some (aI dq), some (aI many), some (aI what), some (aI bst), some (aI k), some (aI m_89)]) (am_dec tX12_span_1 10 rfl) (by decide) rfl ?_
    refine T_iload (am_dec tX12_span_1 11 rfl) rfl ?_
    refine T_iconst (-1) (am_dec tX12_span_1 12 rfl) rfl ⟨by decide, by decide⟩ ?_
    have K94 : ∀ (t94 : Int), t94 = (if bst = (-1) then m_89 else (if what = 0 then (if bst ≤ m_89 then bst else m_89) else (if m_89 ≤ bst then bst else m_89))) →  am_T S zX12_span d u Q 126 [some (aR b), some (aI wk), some (aI seed), some (aI dq), some (aI many), some (aI what), none, some (aI k), none] [aI t94] (mdW w b c q81) := by
      intro t94 ht94 
      refine T_istore (ls' := [some (aR b), some (aI wk), some (aI seed), some (aI dq), some (aI many), some (aI what), some (aI t94), some (aI k), none]) (am_dec tX12_span_1 26 rfl) (by decide) rfl ?_
      refine T_iinc (ls' := [some (aR b), some (aI wk), some (aI seed), some (aI dq), some (aI many), some (aI what), some (aI t94), some (aI (k + 1)), none]) (k + 1) (am_dec tX12_span_1 27 rfl) rfl rfl ⟨by omega, by omega⟩ (by decide) rfl ?_
      refine T_goto 68 (am_dec tX12_span_1 28 rfl) rfl ?_
      have e9 : (g_k_span_68 c wk seed dq what) k (bst, q) = (t94, q81) := (by have s9 := hq81.symm; subst s9; have s9 := hm_89.symm; subst s9; have s9 := ht94.symm; subst s9; exact rfl)
      simp only [am_fold_s, e9] at k9
      exact ih (k + 1) t94 q81 (by omega) (by omega) k9
    refine T_icmp_eq 119 (am_dec tX12_span_1 13 rfl) rfl (fun h94 => ?_) (fun h94 => ?_)
    · refine T_iload (am_dec tX12_span_1 23 rfl) rfl ?_
      refine T_goto 126 (am_dec tX12_span_1 24 rfl) rfl ?_
      refine T_weak (ls' := [some (aR b), some (aI wk), some (aI seed), some (aI dq), some (aI many), some (aI what), none, some (aI k), none]) (am_sub_s (am_sub_s (am_sub_s (am_sub_s (am_sub_s (am_sub_s (am_sub_n (am_sub_s (am_sub_n am_sub_nil))))))))) ?_
      exact K94 _ (if_pos h94).symm 
    · refine T_iload (am_dec tX12_span_1 14 rfl) rfl ?_
      have K99 : ∀ (t99 : Int), t99 = (if what = 0 then (if bst ≤ m_89 then bst else m_89) else (if m_89 ≤ bst then bst else m_89)) →  am_T S zX12_span d u Q 126 [some (aR b), some (aI wk), some (aI seed), some (aI dq), some (aI many), some (aI what), none, some (aI k), none] [aI t99] (mdW w b c q81) := by
        intro t99 ht99 
        exact K94 _ (by have s9 := ht99.symm; subst s9; exact (if_neg h94).symm) 
      refine T_if_ne 112 (am_dec tX12_span_1 15 rfl) rfl (fun h99 => ?_) (fun h99 => ?_)
      · refine T_iload (am_dec tX12_span_1 20 rfl) rfl ?_
        refine T_iload (am_dec tX12_span_1 21 rfl) rfl ?_
        have K116 : ∀ (t116 : Int), t116 = (if m_89 ≤ bst then bst else m_89) →  am_T S zX12_span d u Q 126 [some (aR b), some (aI wk), some (aI seed), some (aI dq), some (aI many), some (aI what), none, some (aI k), none] [aI t116] (mdW w b c q81) := by
          intro t116 ht116 
          exact K99 _ (by have s9 := ht116.symm; subst s9; exact (if_neg h99).symm) 
        refine T_icmp_le 124 (am_dec tX12_span_1 22 rfl) rfl (fun h116 => ?_) (fun h116 => ?_)
        · refine T_iload (am_dec tX12_span_1 25 rfl) rfl ?_
          refine T_weak (ls' := [some (aR b), some (aI wk), some (aI seed), some (aI dq), some (aI many), some (aI what), none, some (aI k), none]) (am_sub_s (am_sub_s (am_sub_s (am_sub_s (am_sub_s (am_sub_s (am_sub_n (am_sub_s (am_sub_n am_sub_nil))))))))) ?_
          exact K116 _ (if_pos h116).symm 
        · refine T_iload (am_dec tX12_span_1 23 rfl) rfl ?_
          refine T_goto 126 (am_dec tX12_span_1 24 rfl) rfl ?_
          refine T_weak (ls' := [some (aR b), some (aI wk), some (aI seed), some (aI dq), some (aI many), some (aI what), none, some (aI k), none]) (am_sub_s (am_sub_s (am_sub_s (am_sub_s (am_sub_s (am_sub_s (am_sub_n (am_sub_s (am_sub_n am_sub_nil))))))))) ?_
          exact K116 _ (if_neg h116).symm 
      · refine T_iload (am_dec tX12_span_1 16 rfl) rfl ?_
        refine T_iload (am_dec tX12_span_1 17 rfl) rfl ?_
        have K106 : ∀ (t106 : Int), t106 = (if bst ≤ m_89 then bst else m_89) →  am_T S zX12_span d u Q 126 [some (aR b), some (aI wk), some (aI seed), some (aI dq), some (aI many), some (aI what), none, some (aI k), none] [aI t106] (mdW w b c q81) := by
          intro t106 ht106 
          exact K99 _ (by have s9 := ht106.symm; subst s9; exact (if_pos h99).symm) 
        refine T_icmp_ge 124 (am_dec tX12_span_1 18 rfl) rfl (fun h106 => ?_) (fun h106 => ?_)
        · refine T_iload (am_dec tX12_span_1 25 rfl) rfl ?_
          refine T_weak (ls' := [some (aR b), some (aI wk), some (aI seed), some (aI dq), some (aI many), some (aI what), none, some (aI k), none]) (am_sub_s (am_sub_s (am_sub_s (am_sub_s (am_sub_s (am_sub_s (am_sub_n (am_sub_s (am_sub_n am_sub_nil))))))))) ?_
          exact K106 _ (if_pos h106).symm 
        · refine T_goto 119 (am_dec tX12_span_1 19 rfl) rfl ?_
          refine T_iload (am_dec tX12_span_1 23 rfl) rfl ?_
          refine T_goto 126 (am_dec tX12_span_1 24 rfl) rfl ?_
          refine T_weak (ls' := [some (aR b), some (aI wk), some (aI seed), some (aI dq), some (aI many), some (aI what), none, some (aI k), none]) (am_sub_s (am_sub_s (am_sub_s (am_sub_s (am_sub_s (am_sub_s (am_sub_n (am_sub_s (am_sub_n am_sub_nil))))))))) ?_
          exact K106 _ (if_neg h106).symm 
def k_span (c : am_F) (q : am_F) (wk : Int) (seed : Int) (dq : Int) (many : Int) (what : Int) : Int × am_F := (let z8 : Int := (k_isWalker c wk); (let t11 : Int := (if z8 = 0 then 1 else 0); (let q21 : am_F := (k_refuse (am_put q 0 0 0) t11 1 1); (let z21 : Int := (if t11 = 0 then 0 else 1); (if z21 = 0 then (let z31 : Int := (k_areSeeds dq many); (let t34 : Int := (if z31 = 0 then 1 else (let z41 : Int := (k_in what 0 1); (if z41 = 0 then 1 else 0))); (let q54 : am_F := (k_refuse q21 t34 2 2); (let z54 : Int := (if t34 = 0 then 0 else 1); (if z54 = 0 then (let bst_68 : Int := (am_fold (g_k_span_68 c wk seed dq what) 0 (many).toNat ((-1), q54)).1; (let q68 : am_F := (am_fold (g_k_span_68 c wk seed dq what) 0 (many).toNat ((-1), q54)).2; (bst_68, q68))) else (0, q54)))))) else (0, q21))))))
theorem mk_span {S : am_S} {d u : Nat} {w : AH} {b : Nat} (hl : b + 735 ≤ w.length) {c : am_F} {q : am_F} (wk : Int) (seed : Int) (dq : Int) (many : Int) (what : Int) (hV : MdV c) (hWd : MdWd c) (hS9 : MdS c) (hLp : MdLp c) (hDu : MdDu c) (hD1 : c 0 61 = -1) (hK9 : MdK c) (hPl : MdPl c) (hWt : MdWt c) (hd : 6 ≤ d) : am_Out S zX12_span d u [aR b, aI wk, aI seed, aI dq, aI many, aI what] (mdW w b c q) (.inl (some (aI ((k_span c q wk seed dq many what).1)))) (mdW w b c ((k_span c q wk seed dq many what).2)) := by
  have key : ∀ Q : AO → AH → Prop, Q (.inl (some (aI ((k_span c q wk seed dq many what).1)))) (mdW w b c ((k_span c q wk seed dq many what).2)) → am_M S zX12_span d u [aR b, aI wk, aI seed, aI dq, aI many, aI what] (mdW w b c q) Q := by
    intro Q hQ
    refine am_body rfl (by decide +kernel) rfl (am_cats_cons rfl ( am_cats_cons rfl ( am_cats_cons rfl ( am_cats_cons rfl ( am_cats_cons rfl ( am_cats_cons rfl (am_cats_nil))))))) (Nat.le_of_ble_eq_true rfl) (?_ : am_T _ _ _ _ _ 0 [some (aR b), some (aI wk), some (aI seed), some (aI dq), some (aI many), some (aI what), none, none, none] [] (mdW w b c q))
    obtain ⟨vl0, vu0⟩ := MdV_0 hV
    obtain ⟨vl1, vu1⟩ := MdV_1 hV
    obtain ⟨vl3, vu3⟩ := MdV_3 hV
    obtain ⟨vl4, vu4⟩ := MdV_4 hV
    obtain ⟨vl5, vu5⟩ := MdV_5 hV
    refine T_aload_n (am_dec tX12_span_0 0 rfl) rfl ?_
    refine T_iconst 0 (am_dec tX12_span_0 1 rfl) rfl ⟨by decide, by decide⟩ ?_
    refine T_putfield (fs' := mdO b (c 0) (am_up (q 0) 0 0)) 11 0 (am_dec tX12_span_0 2 rfl) flX12_160_11 rfl rfl rfl trivial (md_obj hl) (Nat.le_of_ble_eq_true rfl) rfl ?_
    refine am_wE (w2 := mdW w b c (am_put q 0 0 0)) (md_fq) ?_
    refine T_aload_n (am_dec tX12_span_0 3 rfl) rfl ?_
    refine T_aload_n (am_dec tX12_span_0 4 rfl) rfl ?_
    refine T_iload_n (am_dec tX12_span_0 5 rfl) rfl ?_
    refine T_callV (as := [aI wk]) rfl (am_dec tX12_span_0 6 rfl) lkX12_365 (md_obj hl) rfl rfl (Nat.le_of_ble_eq_true rfl) (by omega) (mk_isWalker (d := d - 1) hl wk  hV (by omega)) (fun _ => ?_)
    refine T_nm (fun z8 hz8 => ?_)
    have hb8 := k_isWalker_b c wk
    rw [← hz8] at hb8
    have hs8 := k_isWalker_s c wk
    rw [← hz8] at hs8
    have K11 : ∀ (t11 : Int), t11 = (if z8 = 0 then 1 else 0) →  am_T S zX12_span d u Q 19 [some (aR b), some (aI wk), some (aI seed), some (aI dq), some (aI many), some (aI what), none, none, none] [aI t11, aR b] (mdW w b c (am_put q 0 0 0)) := by
      intro t11 ht11 
      have hbt11 : t11 = 0 ∨ t11 = 1 := by
        rw [ht11]
        try dsimp only
        repeat' split
        all_goals first | exact Or.inl rfl | exact Or.inr rfl | apply k_in_b | apply k_isDigit_b | apply k_isSmall_b | apply k_bad_b | apply k_isIn_b | apply k_isStep_b | apply k_isFirst_b | apply k_isLine_b | apply k_seesBy_b | apply k_isWalker_b | apply k_seesOne_b | apply k_badTwo_b | apply k_sees_b | apply k_isCode_b | apply k_isLot_b | apply k_isShip_b | apply k_areRight_b | apply k_right_b | apply k_areSeeds_b | omega
      refine T_iconst 1 (am_dec tX12_span_0 11 rfl) rfl ⟨by decide, by decide⟩ ?_
      refine T_iconst 1 (am_dec tX12_span_0 12 rfl) rfl ⟨by decide, by decide⟩ ?_
      refine T_callV (as := [aI t11, aI 1, aI 1]) rfl (am_dec tX12_span_0 13 rfl) lkX12_275 (md_obj hl) rfl rfl (Nat.le_of_ble_eq_true rfl) (by omega) (mk_bad0 (d := d - 1) hl t11 1 1 (by omega) am_put_s (by omega)) (fun _ => ?_)
      refine T_nmH (W := fun x9 => mdW w b c x9) (v := (k_refuse (am_put q 0 0 0) t11 1 1)) (fun q21 hq21 => ?_)
      refine T_nm (fun z21 hz21 => ?_)
      have hq021 : t11 = 0 → q21 0 0 = 0 := fun h9 => by rw [hq21]; exact k_refuse_0 am_put_s h9
      refine T_if_ne 60 (am_dec tX12_span_0 14 rfl) rfl (fun h24 => ?_) (fun h24 => ?_)
      · refine T_iconst 0 (am_dec tX12_span_0 32 rfl) rfl ⟨by decide, by decide⟩ ?_
        exact T_ireturn (am_dec tX12_span_0 33 rfl) rfl (am_tr (fun (x9 : Int × am_F) => Q (.inl (some (aI (x9.1)))) (mdW w b c x9.2)) (y := (0, q21)) (show (k_span c q wk seed dq many what) = (0, q21) from (by have s9 := hz8.symm; subst s9; have s9 := ht11.symm; subst s9; have s9 := hq21.symm; subst s9; have s9 := hz21.symm; subst s9; exact (if_neg h24))) hQ)
      · refine T_aload_n (am_dec tX12_span_0 15 rfl) rfl ?_
        refine T_iload_n (am_dec tX12_span_0 16 rfl) rfl ?_
        refine T_iload (am_dec tX12_span_0 17 rfl) rfl ?_
        refine T_callS (as := [aI dq, aI many]) rfl (am_dec tX12_span_0 18 rfl) lkX12_442 rfl (Nat.le_of_ble_eq_true rfl) (by omega) (mk_areSeeds (d := d - 1)  dq many   (by omega)) (fun _ => ?_)
        refine T_nm (fun z31 hz31 => ?_)
        have hb31 := k_areSeeds_b dq many
        rw [← hz31] at hb31
        have hs31 := k_areSeeds_s dq many
        rw [← hz31] at hs31
        have K34 : ∀ (t34 : Int), t34 = (if z31 = 0 then 1 else (let z41 : Int := (k_in what 0 1); (if z41 = 0 then 1 else 0))) →  am_T S zX12_span d u Q 52 [some (aR b), some (aI wk), some (aI seed), some (aI dq), some (aI many), some (aI what), none, none, none] [aI t34, aR b] (mdW w b c q21) := by
          intro t34 ht34 
          have hxt34 := ht34
          dsimp only at hxt34
          have hy2 := k_in_s what 0 1
          have hbt34 : t34 = 0 ∨ t34 = 1 := by
            rw [ht34]
            try dsimp only
            repeat' split
            all_goals first | exact Or.inl rfl | exact Or.inr rfl | apply k_in_b | apply k_isDigit_b | apply k_isSmall_b | apply k_bad_b | apply k_isIn_b | apply k_isStep_b | apply k_isFirst_b | apply k_isLine_b | apply k_seesBy_b | apply k_isWalker_b | apply k_seesOne_b | apply k_badTwo_b | apply k_sees_b | apply k_isCode_b | apply k_isLot_b | apply k_isShip_b | apply k_areRight_b | apply k_right_b | apply k_areSeeds_b | omega
          refine T_iconst 2 (am_dec tX12_span_0 28 rfl) rfl ⟨by decide, by decide⟩ ?_
          refine T_iconst 2 (am_dec tX12_span_0 29 rfl) rfl ⟨by decide, by decide⟩ ?_
          refine T_callV (as := [aI t34, aI 2, aI 2]) rfl (am_dec tX12_span_0 30 rfl) lkX12_275 (md_obj hl) rfl rfl (Nat.le_of_ble_eq_true rfl) (by omega) (mk_bad0 (d := d - 1) hl t34 2 2 (by omega) (hq021 (by omega)) (by omega)) (fun _ => ?_)
          refine T_nmH (W := fun x9 => mdW w b c x9) (v := (k_refuse q21 t34 2 2)) (fun q54 hq54 => ?_)
          refine T_nm (fun z54 hz54 => ?_)
          have hq054 : t34 = 0 → q54 0 0 = 0 := fun h9 => by rw [hq54]; exact k_refuse_0 (hq021 (by omega)) h9
          refine T_if_eq 62 (am_dec tX12_span_0 31 rfl) rfl (fun h57 => ?_) (fun h57 => ?_)
          · refine T_iconst (-1) (am_dec tX12_span_0 34 rfl) rfl ⟨by decide, by decide⟩ ?_
            refine T_istore (ls' := [some (aR b), some (aI wk), some (aI seed), some (aI dq), some (aI many), some (aI what), some (aI (-1)), none, none]) (am_dec tX12_span_0 35 rfl) (by decide) rfl ?_
            refine T_iconst 0 (am_dec tX12_span_0 36 rfl) rfl ⟨by decide, by decide⟩ ?_
            refine T_istore (ls' := [some (aR b), some (aI wk), some (aI seed), some (aI dq), some (aI many), some (aI what), some (aI (-1)), some (aI 0), none]) (am_dec tX12_span_0 37 rfl) (by decide) rfl ?_
            refine L_k_span_68 hl c wk seed dq many what hV hWd hS9 hLp hDu hD1 hK9 hPl hWt (by omega) (by omega) (by omega) _ rfl (many).toNat 0 (-1) q54 (by omega) (by omega) (fun bst_68 q68 hbst_68 hq68 => ?_)
            refine T_iload (am_dec tX12_span_1 29 rfl) rfl ?_
            exact T_ireturn (am_dec tX12_span_1 30 rfl) rfl (am_tr (fun (x9 : Int × am_F) => Q (.inl (some (aI (x9.1)))) (mdW w b c x9.2)) (y := (bst_68, q68)) (show (k_span c q wk seed dq many what) = (bst_68, q68) from (by have s9 := hz8.symm; subst s9; have s9 := ht11.symm; subst s9; have s9 := hq21.symm; subst s9; have s9 := hz21.symm; subst s9; have s9 := hz31.symm; subst s9; have s9 := ht34.symm; subst s9; have s9 := hq54.symm; subst s9; have s9 := hz54.symm; subst s9; have s9 := hbst_68.symm; subst s9; have s9 := hq68.symm; subst s9; exact ((if_pos h24).trans (if_pos h57)))) hQ)
          · refine T_iconst 0 (am_dec tX12_span_0 32 rfl) rfl ⟨by decide, by decide⟩ ?_
            exact T_ireturn (am_dec tX12_span_0 33 rfl) rfl (am_tr (fun (x9 : Int × am_F) => Q (.inl (some (aI (x9.1)))) (mdW w b c x9.2)) (y := (0, q54)) (show (k_span c q wk seed dq many what) = (0, q54) from (by have s9 := hz8.symm; subst s9; have s9 := ht11.symm; subst s9; have s9 := hq21.symm; subst s9; have s9 := hz21.symm; subst s9; have s9 := hz31.symm; subst s9; have s9 := ht34.symm; subst s9; have s9 := hq54.symm; subst s9; have s9 := hz54.symm; subst s9; exact ((if_pos h24).trans (if_neg h57)))) hQ)
        refine T_if_eq 47 (am_dec tX12_span_0 19 rfl) rfl (fun h34 => ?_) (fun h34 => ?_)
        · refine T_iconst 1 (am_dec tX12_span_0 25 rfl) rfl ⟨by decide, by decide⟩ ?_
          refine T_goto 52 (am_dec tX12_span_0 26 rfl) rfl ?_
          exact K34 _ (if_pos h34).symm 
        · refine T_iload (am_dec tX12_span_0 20 rfl) rfl ?_
          refine T_iconst 0 (am_dec tX12_span_0 21 rfl) rfl ⟨by decide, by decide⟩ ?_
          refine T_iconst 1 (am_dec tX12_span_0 22 rfl) rfl ⟨by decide, by decide⟩ ?_
          refine T_callS (as := [aI what, aI 0, aI 1]) rfl (am_dec tX12_span_0 23 rfl) lkX12_194 rfl (Nat.le_of_ble_eq_true rfl) (by omega) (mk_in (d := d - 1)  what 0 1   ) (fun _ => ?_)
          refine T_nm (fun z41 hz41 => ?_)
          have hb41 := k_in_b what 0 1
          rw [← hz41] at hb41
          have hs41 := k_in_s what 0 1
          rw [← hz41] at hs41
          have K44 : ∀ (t44 : Int), t44 = (if z41 = 0 then 1 else 0) →  am_T S zX12_span d u Q 52 [some (aR b), some (aI wk), some (aI seed), some (aI dq), some (aI many), some (aI what), none, none, none] [aI t44, aR b] (mdW w b c q21) := by
            intro t44 ht44 
            have hbt44 : t44 = 0 ∨ t44 = 1 := by
              rw [ht44]
              try dsimp only
              repeat' split
              all_goals first | exact Or.inl rfl | exact Or.inr rfl | apply k_in_b | apply k_isDigit_b | apply k_isSmall_b | apply k_bad_b | apply k_isIn_b | apply k_isStep_b | apply k_isFirst_b | apply k_isLine_b | apply k_seesBy_b | apply k_isWalker_b | apply k_seesOne_b | apply k_badTwo_b | apply k_sees_b | apply k_isCode_b | apply k_isLot_b | apply k_isShip_b | apply k_areRight_b | apply k_right_b | apply k_areSeeds_b | omega
            exact K34 _ (by have s9 := hz41.symm; subst s9; have s9 := ht44.symm; subst s9; exact (if_neg h34).symm) 
          refine T_if_ne 51 (am_dec tX12_span_0 24 rfl) rfl (fun h44 => ?_) (fun h44 => ?_)
          · refine T_iconst 0 (am_dec tX12_span_0 27 rfl) rfl ⟨by decide, by decide⟩ ?_
            exact K44 _ (if_neg h44).symm 
          · refine T_iconst 1 (am_dec tX12_span_0 25 rfl) rfl ⟨by decide, by decide⟩ ?_
            refine T_goto 52 (am_dec tX12_span_0 26 rfl) rfl ?_
            exact K44 _ (if_pos h44).symm 
    refine T_if_ne 18 (am_dec tX12_span_0 7 rfl) rfl (fun h11 => ?_) (fun h11 => ?_)
    · refine T_iconst 0 (am_dec tX12_span_0 10 rfl) rfl ⟨by decide, by decide⟩ ?_
      exact K11 _ (if_neg h11).symm 
    · refine T_iconst 1 (am_dec tX12_span_0 8 rfl) rfl ⟨by decide, by decide⟩ ?_
      refine T_goto 19 (am_dec tX12_span_0 9 rfl) rfl ?_
      exact K11 _ (if_pos h11).symm 
  exact key _ ⟨rfl, rfl⟩
def g_k_laysNeeded_3 (c : am_F) (wk : Int) (seed : Int) (dq : Int) (k : Int) (q : am_F) : am_F := (let q16 : am_F := (k_goesD c q (am_w32 (seed + k)) dq); (am_put q16 734 k.toNat (k_needsAll c q16 wk)))
theorem L_k_laysNeeded_3 {S : am_S} {d u : Nat} {Q : AO → AH → Prop} {w : AH} {b : Nat} (hl : b + 735 ≤ w.length) (c : am_F) (wk : Int) (seed : Int) (dq : Int) (many : Int) (hV : MdV c) (hWd : MdWd c) (hS9 : MdS c) (hLp : MdLp c) (hDu : MdDu c) (hD1 : c 0 61 = -1) (hK9 : MdK c) (hPl : MdPl c) (hWt : MdWt c) (hwk : 0 ≤ wk ∧ wk < c 4 4) (hmn : 0 ≤ many ∧ many ≤ 40)  (hd : 6 ≤ d) (B9 : Int) (hB : B9 = many) : ∀ (n : Nat) (k : Int) (q : am_F), k + n = B9 → 0 ≤ k → (∀ (q' : am_F), q' = am_fold (g_k_laysNeeded_3 c wk seed dq) k n q → am_T S zX12_laysNeeded d u Q 37 [none, none, none, none, none, none] [] (mdW w b c q')) → am_T S zX12_laysNeeded d u Q 3 [some (aR b), some (aI wk), some (aI seed), some (aI dq), some (aI many), some (aI k)] [] (mdW w b c q) := by
  intro n
  induction n with
  | zero =>
    intro k q hi9 h0i k9
    have e9 : k = B9 := by omega
    subst e9
    obtain ⟨vl4, vu4⟩ := MdV_4 hV
    obtain ⟨vl5, vu5⟩ := MdV_5 hV
    refine T_iload (am_dec tX12_laysNeeded_0 2 rfl) rfl ?_
    refine T_iload (am_dec tX12_laysNeeded_0 3 rfl) rfl ?_
    refine T_icmp_ge 37 (am_dec tX12_laysNeeded_0 4 rfl) rfl (fun h7 => ?_) (fun h7 => by exfalso; omega)
    refine T_weak (ls' := [none, none, none, none, none, none]) (am_sub_n (am_sub_n (am_sub_n (am_sub_n (am_sub_n (am_sub_n am_sub_nil)))))) ?_
    exact k9 q rfl
  | succ n ih =>
    intro k q hi9 h0i k9
    obtain ⟨vl4, vu4⟩ := MdV_4 hV
    obtain ⟨vl5, vu5⟩ := MdV_5 hV
    refine T_iload (am_dec tX12_laysNeeded_0 2 rfl) rfl ?_
    refine T_iload (am_dec tX12_laysNeeded_0 3 rfl) rfl ?_
    refine T_icmp_ge 37 (am_dec tX12_laysNeeded_0 4 rfl) rfl (fun h7 => by exfalso; omega) (fun h7 => ?_)
    refine T_aload_n (am_dec tX12_laysNeeded_0 5 rfl) rfl ?_
    refine T_iload_n (am_dec tX12_laysNeeded_0 6 rfl) rfl ?_
    refine T_iload (am_dec tX12_laysNeeded_0 7 rfl) rfl ?_
    refine T_iaddW (am_w32 (seed + k)) (am_dec tX12_laysNeeded_0 8 rfl) (am_w32e _).symm (am_w32r _) ?_
    refine T_iload_n (am_dec tX12_laysNeeded_0 9 rfl) rfl ?_
    refine T_callV (as := [aI (am_w32 (seed + k)), aI dq]) rfl (am_dec tX12_laysNeeded_0 10 rfl) lkX12_439 (md_obj hl) rfl rfl (Nat.le_of_ble_eq_true rfl) (by omega) (mk_goesInDoubt' (d := d - 1) hl (am_w32 (seed + k)) dq hV hWd hS9 hLp hDu hD1 (by omega)) (fun _ => ?_)
    refine T_nmH (W := fun x9 => mdW w b c x9) (v := (k_goesD c q (am_w32 (seed + k)) dq)) (fun q16 hq16 => ?_)
    refine T_aload_n (am_dec tX12_laysNeeded_0 11 rfl) rfl ?_
    refine T_getfield 11 68 (am_dec tX12_laysNeeded_0 12 rfl) flX12_151_11 (md_obj hl) rfl ?_
    refine T_iload (am_dec tX12_laysNeeded_0 13 rfl) rfl ?_
    refine T_aload_n (am_dec tX12_laysNeeded_0 14 rfl) rfl ?_
    refine T_iload_n (am_dec tX12_laysNeeded_0 15 rfl) rfl ?_
    refine T_callV (as := [aI wk]) rfl (am_dec tX12_laysNeeded_0 16 rfl) lkX12_394 (md_obj hl) rfl rfl (Nat.le_of_ble_eq_true rfl) (by omega) (mk_needsAll (d := d - 1) hl wk  hV hK9 hPl hWt (by omega) (by omega)) (fun _ => ?_)
    refine T_iastore (am_dec tX12_laysNeeded_0 17 rfl) (md_needed hl) (by omega) (by omega) ?_
    refine am_wE (w2 := mdW w b c (am_put q16 734 k.toNat (k_needsAll c q16 wk))) (md_pq (Nat.le_of_ble_eq_true rfl) (fun _ _ => rfl)) ?_
    refine T_iinc (ls' := [some (aR b), some (aI wk), some (aI seed), some (aI dq), some (aI many), some (aI (k + 1))]) (k + 1) (am_dec tX12_laysNeeded_0 18 rfl) rfl rfl ⟨by omega, by omega⟩ (by decide) rfl ?_
    refine T_goto 3 (am_dec tX12_laysNeeded_0 19 rfl) rfl ?_
    have e9 : (g_k_laysNeeded_3 c wk seed dq) k q = (am_put q16 734 k.toNat (k_needsAll c q16 wk)) := (by have s9 := hq16.symm; subst s9; exact rfl)
    simp only [am_fold_s, e9] at k9
    exact ih (k + 1) (am_put q16 734 k.toNat (k_needsAll c q16 wk)) (by omega) (by omega) k9
def k_laysNeeded (c : am_F) (q : am_F) (wk : Int) (seed : Int) (dq : Int) (many : Int) : am_F := am_fold (g_k_laysNeeded_3 c wk seed dq) 0 (many).toNat q
theorem mk_laysNeeded {S : am_S} {d u : Nat} {w : AH} {b : Nat} (hl : b + 735 ≤ w.length) {c : am_F} {q : am_F} (wk : Int) (seed : Int) (dq : Int) (many : Int) (hV : MdV c) (hWd : MdWd c) (hS9 : MdS c) (hLp : MdLp c) (hDu : MdDu c) (hD1 : c 0 61 = -1) (hK9 : MdK c) (hPl : MdPl c) (hWt : MdWt c) (hwk : 0 ≤ wk ∧ wk < c 4 4) (hmn : 0 ≤ many ∧ many ≤ 40) (hd : 6 ≤ d) : am_Out S zX12_laysNeeded d u [aR b, aI wk, aI seed, aI dq, aI many] (mdW w b c q) (.inl none) (mdW w b c (k_laysNeeded c q wk seed dq many)) := by
  have key : ∀ Q : AO → AH → Prop, Q (.inl none) (mdW w b c (k_laysNeeded c q wk seed dq many)) → am_M S zX12_laysNeeded d u [aR b, aI wk, aI seed, aI dq, aI many] (mdW w b c q) Q := by
    intro Q hQ
    refine am_body rfl (by decide +kernel) rfl (am_cats_cons rfl ( am_cats_cons rfl ( am_cats_cons rfl ( am_cats_cons rfl ( am_cats_cons rfl (am_cats_nil)))))) (Nat.le_of_ble_eq_true rfl) (?_ : am_T _ _ _ _ _ 0 [some (aR b), some (aI wk), some (aI seed), some (aI dq), some (aI many), none] [] (mdW w b c q))
    obtain ⟨vl4, vu4⟩ := MdV_4 hV
    obtain ⟨vl5, vu5⟩ := MdV_5 hV
    refine T_iconst 0 (am_dec tX12_laysNeeded_0 0 rfl) rfl ⟨by decide, by decide⟩ ?_
    refine T_istore (ls' := [some (aR b), some (aI wk), some (aI seed), some (aI dq), some (aI many), some (aI 0)]) (am_dec tX12_laysNeeded_0 1 rfl) (by decide) rfl ?_
    refine L_k_laysNeeded_3 hl c wk seed dq many hV hWd hS9 hLp hDu hD1 hK9 hPl hWt hwk hmn  (by omega) _ rfl (many).toNat 0 q (by omega) (by omega) (fun q3 hq3 => ?_)
    exact T_return (am_dec tX12_laysNeeded_0 20 rfl) rfl (am_tr (fun (x9 : am_F) => Q (.inl none) (mdW w b c x9)) (y := q3) (show (k_laysNeeded c q wk seed dq many) = q3 from (by have s9 := hq3.symm; subst s9; exact rfl)) hQ)
  exact key _ ⟨rfl, rfl⟩
def g_k_enoughOf_5 (q : am_F) (yds : Int) (k : Int) (m : Int) : Int := (let t20 : Int := (if yds < q 734 k.toNat then 0 else 1); (m + t20))
theorem L_k_enoughOf_5 {S : am_S} {d u : Nat} {Q : AO → AH → Prop} {w : AH} {b : Nat} (hl : b + 735 ≤ w.length) (c : am_F) (q : am_F) (yds : Int) (many : Int) (hmn : 0 ≤ many ∧ many ≤ 40)   (B9 : Int) (hB : B9 = many) : ∀ (n : Nat) (k : Int) (m : Int), k + n = B9 → 0 ≤ k → 0 ≤ m ∧ m ≤ k → (∀ (m' : Int), m' = am_fold (g_k_enoughOf_5 q yds) k n m → 0 ≤ m' ∧ m' ≤ B9 → am_T S zX12_enoughOf d u Q 36 [none, none, none, some (aI m'), none] [] (mdW w b c q)) → am_T S zX12_enoughOf d u Q 5 [some (aR b), some (aI yds), some (aI many), some (aI m), some (aI k)] [] (mdW w b c q) := by
  intro n
  induction n with
  | zero =>
    intro k m hi9 h0i hinv k9
    have e9 : k = B9 := by omega
    subst e9
    refine T_iload (am_dec tX12_enoughOf_0 4 rfl) rfl ?_
    refine T_iload_n (am_dec tX12_enoughOf_0 5 rfl) rfl ?_
    refine T_icmp_ge 36 (am_dec tX12_enoughOf_0 6 rfl) rfl (fun h8 => ?_) (fun h8 => by exfalso; omega)
    refine T_weak (ls' := [none, none, none, some (aI m), none]) (am_sub_n (am_sub_n (am_sub_n (am_sub_s (am_sub_n am_sub_nil))))) ?_
    exact k9 m rfl hinv
  | succ n ih =>
    intro k m hi9 h0i hinv k9
    refine T_iload (am_dec tX12_enoughOf_0 4 rfl) rfl ?_
    refine T_iload_n (am_dec tX12_enoughOf_0 5 rfl) rfl ?_
    refine T_icmp_ge 36 (am_dec tX12_enoughOf_0 6 rfl) rfl (fun h8 => by exfalso; omega) (fun h8 => ?_)
    refine T_iload_n (am_dec tX12_enoughOf_0 7 rfl) rfl ?_
    refine T_aload_n (am_dec tX12_enoughOf_0 8 rfl) rfl ?_
    refine T_getfield 11 68 (am_dec tX12_enoughOf_0 9 rfl) flX12_151_11 (md_obj hl) rfl ?_
    refine T_iload (am_dec tX12_enoughOf_0 10 rfl) rfl ?_
    refine T_ialoadE (x := q 734 k.toNat) (am_dec tX12_enoughOf_0 11 rfl) (md_needed hl) (by omega) (by omega) rfl ?_
    refine T_iload_n (am_dec tX12_enoughOf_0 12 rfl) rfl ?_
    have K20 : ∀ (t20 : Int), t20 = (if yds < q 734 k.toNat then 0 else 1) →  am_T S zX12_enoughOf d u Q 28 [some (aR b), some (aI yds), some (aI many), none, some (aI k)] [aI t20, aI m] (mdW w b c q) := by
      intro t20 ht20 
      have hbt20 : t20 = 0 ∨ t20 = 1 := by
        rw [ht20]
        try dsimp only
        repeat' split
        all_goals first | exact Or.inl rfl | exact Or.inr rfl | apply k_in_b | apply k_isDigit_b | apply k_isSmall_b | apply k_bad_b | apply k_isIn_b | apply k_isStep_b | apply k_isFirst_b | apply k_isLine_b | apply k_seesBy_b | apply k_isWalker_b | apply k_seesOne_b | apply k_badTwo_b | apply k_sees_b | apply k_isCode_b | apply k_isLot_b | apply k_isShip_b | apply k_areRight_b | apply k_right_b | apply k_areSeeds_b | omega
      refine T_iadd (m + t20) (am_dec tX12_enoughOf_0 17 rfl) rfl ⟨by omega, by omega⟩ ?_
      refine T_istore_n (ls' := [some (aR b), some (aI yds), some (aI many), some (aI (m + t20)), some (aI k)]) (am_dec tX12_enoughOf_0 18 rfl) (by decide) rfl ?_
      refine T_iinc (ls' := [some (aR b), some (aI yds), some (aI many), some (aI (m + t20)), some (aI (k + 1))]) (k + 1) (am_dec tX12_enoughOf_0 19 rfl) rfl rfl ⟨by omega, by omega⟩ (by decide) rfl ?_
      refine T_goto 5 (am_dec tX12_enoughOf_0 20 rfl) rfl ?_
      have e9 : (g_k_enoughOf_5 q yds) k m = m + t20 := (by have s9 := ht20.symm; subst s9; exact rfl)
      simp only [am_fold_s, e9] at k9
      exact ih (k + 1) (m + t20) (by omega) (by omega) (by omega) k9
    refine T_icmp_gt 27 (am_dec tX12_enoughOf_0 13 rfl) rfl (fun h20 => ?_) (fun h20 => ?_)
    · refine T_iconst 0 (am_dec tX12_enoughOf_0 16 rfl) rfl ⟨by decide, by decide⟩ ?_
      refine T_weak (ls' := [some (aR b), some (aI yds), some (aI many), none, some (aI k)]) (am_sub_s (am_sub_s (am_sub_s (am_sub_n (am_sub_s am_sub_nil))))) ?_
      exact K20 _ (if_pos h20).symm 
    · refine T_iconst 1 (am_dec tX12_enoughOf_0 14 rfl) rfl ⟨by decide, by decide⟩ ?_
      refine T_goto 28 (am_dec tX12_enoughOf_0 15 rfl) rfl ?_
      refine T_weak (ls' := [some (aR b), some (aI yds), some (aI many), none, some (aI k)]) (am_sub_s (am_sub_s (am_sub_s (am_sub_n (am_sub_s am_sub_nil))))) ?_
      exact K20 _ (if_neg h20).symm 
def k_enoughOf (q : am_F) (yds : Int) (many : Int) : Int := am_fold (g_k_enoughOf_5 q yds) 0 (many).toNat 0
theorem mk_enoughOf {S : am_S} {d u : Nat} {w : AH} {b : Nat} (hl : b + 735 ≤ w.length) {c : am_F} {q : am_F} (yds : Int) (many : Int) (hmn : 0 ≤ many ∧ many ≤ 40)  : am_Out S zX12_enoughOf d u [aR b, aI yds, aI many] (mdW w b c q) (.inl (some (aI (k_enoughOf q yds many)))) (mdW w b c q) := by
  have key : ∀ Q : AO → AH → Prop, Q (.inl (some (aI (k_enoughOf q yds many)))) (mdW w b c q) → am_M S zX12_enoughOf d u [aR b, aI yds, aI many] (mdW w b c q) Q := by
    intro Q hQ
    refine am_body rfl (by decide +kernel) rfl (am_cats_cons rfl ( am_cats_cons rfl ( am_cats_cons rfl (am_cats_nil)))) (Nat.le_of_ble_eq_true rfl) (?_ : am_T _ _ _ _ _ 0 [some (aR b), some (aI yds), some (aI many), none, none] [] (mdW w b c q))
    refine T_iconst 0 (am_dec tX12_enoughOf_0 0 rfl) rfl ⟨by decide, by decide⟩ ?_
    refine T_istore_n (ls' := [some (aR b), some (aI yds), some (aI many), some (aI 0), none]) (am_dec tX12_enoughOf_0 1 rfl) (by decide) rfl ?_
    refine T_iconst 0 (am_dec tX12_enoughOf_0 2 rfl) rfl ⟨by decide, by decide⟩ ?_
    refine T_istore (ls' := [some (aR b), some (aI yds), some (aI many), some (aI 0), some (aI 0)]) (am_dec tX12_enoughOf_0 3 rfl) (by decide) rfl ?_
    refine L_k_enoughOf_5 hl c q yds many hmn   _ rfl (many).toNat 0 0 (by omega) (by omega) (by omega) (fun m_5 hm_5 hv5 => ?_)
    refine T_iload_n (am_dec tX12_enoughOf_0 21 rfl) rfl ?_
    exact T_ireturn (am_dec tX12_enoughOf_0 22 rfl) rfl (am_tr (fun (x9 : Int) => Q (.inl (some (aI (x9)))) (mdW w b c q)) (y := m_5) (show (k_enoughOf q yds many) = m_5 from (by have s9 := hm_5.symm; subst s9; exact rfl)) hQ)
  exact key _ ⟨rfl, rfl⟩
def k_enough (c : am_F) (q : am_F) (wk : Int) (yds : Int) (seed : Int) (dq : Int) (many : Int) : Int × am_F := (let z8 : Int := (k_isWalker c wk); (let t11 : Int := (if z8 = 0 then 1 else 0); (let q21 : am_F := (k_refuse (am_put q 0 0 0) t11 1 1); (let z21 : Int := (if t11 = 0 then 0 else 1); (if z21 = 0 then (let z32 : Int := (k_in yds 0 99); (let t35 : Int := (if z32 = 0 then 1 else (let z42 : Int := (k_areSeeds dq many); (if z42 = 0 then 1 else 0))); (let q55 : am_F := (k_refuse q21 t35 2 2); (let z55 : Int := (if t35 = 0 then 0 else 1); (if z55 = 0 then (let q70 : am_F := k_laysNeeded c q55 wk seed dq many; ((k_enoughOf q70 yds many), q70)) else (0, q55)))))) else (0, q21))))))
theorem mk_enough {S : am_S} {d u : Nat} {w : AH} {b : Nat} (hl : b + 735 ≤ w.length) {c : am_F} {q : am_F} (wk : Int) (yds : Int) (seed : Int) (dq : Int) (many : Int) (hV : MdV c) (hWd : MdWd c) (hS9 : MdS c) (hLp : MdLp c) (hDu : MdDu c) (hD1 : c 0 61 = -1) (hK9 : MdK c) (hPl : MdPl c) (hWt : MdWt c) (hd : 7 ≤ d) : am_Out S zX12_enough d u [aR b, aI wk, aI yds, aI seed, aI dq, aI many] (mdW w b c q) (.inl (some (aI ((k_enough c q wk yds seed dq many).1)))) (mdW w b c ((k_enough c q wk yds seed dq many).2)) := by
  have key : ∀ Q : AO → AH → Prop, Q (.inl (some (aI ((k_enough c q wk yds seed dq many).1)))) (mdW w b c ((k_enough c q wk yds seed dq many).2)) → am_M S zX12_enough d u [aR b, aI wk, aI yds, aI seed, aI dq, aI many] (mdW w b c q) Q := by
    intro Q hQ
    refine am_body rfl (by decide +kernel) rfl (am_cats_cons rfl ( am_cats_cons rfl ( am_cats_cons rfl ( am_cats_cons rfl ( am_cats_cons rfl ( am_cats_cons rfl (am_cats_nil))))))) (Nat.le_of_ble_eq_true rfl) (?_ : am_T _ _ _ _ _ 0 [some (aR b), some (aI wk), some (aI yds), some (aI seed), some (aI dq), some (aI many)] [] (mdW w b c q))
    obtain ⟨vl0, vu0⟩ := MdV_0 hV
    obtain ⟨vl1, vu1⟩ := MdV_1 hV
    obtain ⟨vl3, vu3⟩ := MdV_3 hV
    obtain ⟨vl4, vu4⟩ := MdV_4 hV
    obtain ⟨vl5, vu5⟩ := MdV_5 hV
    refine T_aload_n (am_dec tX12_enough_0 0 rfl) rfl ?_
    refine T_iconst 0 (am_dec tX12_enough_0 1 rfl) rfl ⟨by decide, by decide⟩ ?_
    refine T_putfield (fs' := mdO b (c 0) (am_up (q 0) 0 0)) 11 0 (am_dec tX12_enough_0 2 rfl) flX12_160_11 rfl rfl rfl trivial (md_obj hl) (Nat.le_of_ble_eq_true rfl) rfl ?_
    refine am_wE (w2 := mdW w b c (am_put q 0 0 0)) (md_fq) ?_
    refine T_aload_n (am_dec tX12_enough_0 3 rfl) rfl ?_
    refine T_aload_n (am_dec tX12_enough_0 4 rfl) rfl ?_
    refine T_iload_n (am_dec tX12_enough_0 5 rfl) rfl ?_
    refine T_callV (as := [aI wk]) rfl (am_dec tX12_enough_0 6 rfl) lkX12_365 (md_obj hl) rfl rfl (Nat.le_of_ble_eq_true rfl) (by omega) (mk_isWalker (d := d - 1) hl wk  hV (by omega)) (fun _ => ?_)
    refine T_nm (fun z8 hz8 => ?_)
    have hb8 := k_isWalker_b c wk
    rw [← hz8] at hb8
    have hs8 := k_isWalker_s c wk
    rw [← hz8] at hs8
    have K11 : ∀ (t11 : Int), t11 = (if z8 = 0 then 1 else 0) →  am_T S zX12_enough d u Q 19 [some (aR b), some (aI wk), some (aI yds), some (aI seed), some (aI dq), some (aI many)] [aI t11, aR b] (mdW w b c (am_put q 0 0 0)) := by
      intro t11 ht11 
      have hbt11 : t11 = 0 ∨ t11 = 1 := by
        rw [ht11]
        try dsimp only
        repeat' split
        all_goals first | exact Or.inl rfl | exact Or.inr rfl | apply k_in_b | apply k_isDigit_b | apply k_isSmall_b | apply k_bad_b | apply k_isIn_b | apply k_isStep_b | apply k_isFirst_b | apply k_isLine_b | apply k_seesBy_b | apply k_isWalker_b | apply k_seesOne_b | apply k_badTwo_b | apply k_sees_b | apply k_isCode_b | apply k_isLot_b | apply k_isShip_b | apply k_areRight_b | apply k_right_b | apply k_areSeeds_b | omega
      refine T_iconst 1 (am_dec tX12_enough_0 11 rfl) rfl ⟨by decide, by decide⟩ ?_
      refine T_iconst 1 (am_dec tX12_enough_0 12 rfl) rfl ⟨by decide, by decide⟩ ?_
      refine T_callV (as := [aI t11, aI 1, aI 1]) rfl (am_dec tX12_enough_0 13 rfl) lkX12_275 (md_obj hl) rfl rfl (Nat.le_of_ble_eq_true rfl) (by omega) (mk_bad0 (d := d - 1) hl t11 1 1 (by omega) am_put_s (by omega)) (fun _ => ?_)
      refine T_nmH (W := fun x9 => mdW w b c x9) (v := (k_refuse (am_put q 0 0 0) t11 1 1)) (fun q21 hq21 => ?_)
      refine T_nm (fun z21 hz21 => ?_)
      have hq021 : t11 = 0 → q21 0 0 = 0 := fun h9 => by rw [hq21]; exact k_refuse_0 am_put_s h9
      refine T_if_ne 61 (am_dec tX12_enough_0 14 rfl) rfl (fun h24 => ?_) (fun h24 => ?_)
      · refine T_iconst 0 (am_dec tX12_enough_0 32 rfl) rfl ⟨by decide, by decide⟩ ?_
        exact T_ireturn (am_dec tX12_enough_0 33 rfl) rfl (am_tr (fun (x9 : Int × am_F) => Q (.inl (some (aI (x9.1)))) (mdW w b c x9.2)) (y := (0, q21)) (show (k_enough c q wk yds seed dq many) = (0, q21) from (by have s9 := hz8.symm; subst s9; have s9 := ht11.symm; subst s9; have s9 := hq21.symm; subst s9; have s9 := hz21.symm; subst s9; exact (if_neg h24))) hQ)
      · refine T_aload_n (am_dec tX12_enough_0 15 rfl) rfl ?_
        refine T_iload_n (am_dec tX12_enough_0 16 rfl) rfl ?_
        refine T_iconst 0 (am_dec tX12_enough_0 17 rfl) rfl ⟨by decide, by decide⟩ ?_
        refine T_bipush 99 (am_dec tX12_enough_0 18 rfl) rfl ⟨by decide, by decide⟩ ?_
        refine T_callS (as := [aI yds, aI 0, aI 99]) rfl (am_dec tX12_enough_0 19 rfl) lkX12_194 rfl (Nat.le_of_ble_eq_true rfl) (by omega) (mk_in (d := d - 1)  yds 0 99   ) (fun _ => ?_)
        refine T_nm (fun z32 hz32 => ?_)
        have hb32 := k_in_b yds 0 99
        rw [← hz32] at hb32
        have hs32 := k_in_s yds 0 99
        rw [← hz32] at hs32
        have K35 : ∀ (t35 : Int), t35 = (if z32 = 0 then 1 else (let z42 : Int := (k_areSeeds dq many); (if z42 = 0 then 1 else 0))) →  am_T S zX12_enough d u Q 53 [some (aR b), some (aI wk), some (aI yds), some (aI seed), some (aI dq), some (aI many)] [aI t35, aR b] (mdW w b c q21) := by
          intro t35 ht35 
          have hxt35 := ht35
          dsimp only at hxt35
          have hy2 := k_areSeeds_s dq many
          have hbt35 : t35 = 0 ∨ t35 = 1 := by
            rw [ht35]
            try dsimp only
            repeat' split
            all_goals first | exact Or.inl rfl | exact Or.inr rfl | apply k_in_b | apply k_isDigit_b | apply k_isSmall_b | apply k_bad_b | apply k_isIn_b | apply k_isStep_b | apply k_isFirst_b | apply k_isLine_b | apply k_seesBy_b | apply k_isWalker_b | apply k_seesOne_b | apply k_badTwo_b | apply k_sees_b | apply k_isCode_b | apply k_isLot_b | apply k_isShip_b | apply k_areRight_b | apply k_right_b | apply k_areSeeds_b | omega
          refine T_iconst 2 (am_dec tX12_enough_0 28 rfl) rfl ⟨by decide, by decide⟩ ?_
          refine T_iconst 2 (am_dec tX12_enough_0 29 rfl) rfl ⟨by decide, by decide⟩ ?_
          refine T_callV (as := [aI t35, aI 2, aI 2]) rfl (am_dec tX12_enough_0 30 rfl) lkX12_275 (md_obj hl) rfl rfl (Nat.le_of_ble_eq_true rfl) (by omega) (mk_bad0 (d := d - 1) hl t35 2 2 (by omega) (hq021 (by omega)) (by omega)) (fun _ => ?_)
          refine T_nmH (W := fun x9 => mdW w b c x9) (v := (k_refuse q21 t35 2 2)) (fun q55 hq55 => ?_)
          refine T_nm (fun z55 hz55 => ?_)
          have hq055 : t35 = 0 → q55 0 0 = 0 := fun h9 => by rw [hq55]; exact k_refuse_0 (hq021 (by omega)) h9
          refine T_if_eq 63 (am_dec tX12_enough_0 31 rfl) rfl (fun h58 => ?_) (fun h58 => ?_)
          · refine T_aload_n (am_dec tX12_enough_0 34 rfl) rfl ?_
            refine T_iload_n (am_dec tX12_enough_0 35 rfl) rfl ?_
            refine T_iload_n (am_dec tX12_enough_0 36 rfl) rfl ?_
            refine T_iload (am_dec tX12_enough_0 37 rfl) rfl ?_
            refine T_iload (am_dec tX12_enough_0 38 rfl) rfl ?_
            refine T_callV (as := [aI wk, aI seed, aI dq, aI many]) rfl (am_dec tX12_enough_0 39 rfl) lkX12_445 (md_obj hl) rfl rfl (Nat.le_of_ble_eq_true rfl) (by omega) (mk_laysNeeded (d := d - 1) hl wk seed dq many  hV hWd hS9 hLp hDu (by omega) hK9 hPl hWt (by omega) (by omega) (by omega)) (fun _ => ?_)
            refine T_nmH (W := fun x9 => mdW w b c x9) (v := k_laysNeeded c q55 wk seed dq many) (fun q70 hq70 => ?_)
            refine T_aload_n (am_dec tX12_enough_1 0 rfl) rfl ?_
            refine T_iload_n (am_dec tX12_enough_1 1 rfl) rfl ?_
            refine T_iload (am_dec tX12_enough_1 2 rfl) rfl ?_
            refine T_callV (as := [aI yds, aI many]) rfl (am_dec tX12_enough_1 3 rfl) lkX12_449 (md_obj hl) rfl rfl (Nat.le_of_ble_eq_true rfl) (by omega) (mk_enoughOf (d := d - 1) hl yds many  (by omega) ) (fun _ => ?_)
            exact T_ireturn (am_dec tX12_enough_1 4 rfl) rfl (am_tr (fun (x9 : Int × am_F) => Q (.inl (some (aI (x9.1)))) (mdW w b c x9.2)) (y := ((k_enoughOf q70 yds many), q70)) (show (k_enough c q wk yds seed dq many) = ((k_enoughOf q70 yds many), q70) from (by have s9 := hz8.symm; subst s9; have s9 := ht11.symm; subst s9; have s9 := hq21.symm; subst s9; have s9 := hz21.symm; subst s9; have s9 := hz32.symm; subst s9; have s9 := ht35.symm; subst s9; have s9 := hq55.symm; subst s9; have s9 := hz55.symm; subst s9; have s9 := hq70.symm; subst s9; exact ((if_pos h24).trans (if_pos h58)))) hQ)
          · refine T_iconst 0 (am_dec tX12_enough_0 32 rfl) rfl ⟨by decide, by decide⟩ ?_
            exact T_ireturn (am_dec tX12_enough_0 33 rfl) rfl (am_tr (fun (x9 : Int × am_F) => Q (.inl (some (aI (x9.1)))) (mdW w b c x9.2)) (y := (0, q55)) (show (k_enough c q wk yds seed dq many) = (0, q55) from (by have s9 := hz8.symm; subst s9; have s9 := ht11.symm; subst s9; have s9 := hq21.symm; subst s9; have s9 := hz21.symm; subst s9; have s9 := hz32.symm; subst s9; have s9 := ht35.symm; subst s9; have s9 := hq55.symm; subst s9; have s9 := hz55.symm; subst s9; exact ((if_pos h24).trans (if_neg h58)))) hQ)
        refine T_if_eq 48 (am_dec tX12_enough_0 20 rfl) rfl (fun h35 => ?_) (fun h35 => ?_)
        · refine T_iconst 1 (am_dec tX12_enough_0 25 rfl) rfl ⟨by decide, by decide⟩ ?_
          refine T_goto 53 (am_dec tX12_enough_0 26 rfl) rfl ?_
          exact K35 _ (if_pos h35).symm 
        · refine T_iload (am_dec tX12_enough_0 21 rfl) rfl ?_
          refine T_iload (am_dec tX12_enough_0 22 rfl) rfl ?_
          refine T_callS (as := [aI dq, aI many]) rfl (am_dec tX12_enough_0 23 rfl) lkX12_442 rfl (Nat.le_of_ble_eq_true rfl) (by omega) (mk_areSeeds (d := d - 1)  dq many   (by omega)) (fun _ => ?_)
          refine T_nm (fun z42 hz42 => ?_)
          have hb42 := k_areSeeds_b dq many
          rw [← hz42] at hb42
          have hs42 := k_areSeeds_s dq many
          rw [← hz42] at hs42
          have K45 : ∀ (t45 : Int), t45 = (if z42 = 0 then 1 else 0) →  am_T S zX12_enough d u Q 53 [some (aR b), some (aI wk), some (aI yds), some (aI seed), some (aI dq), some (aI many)] [aI t45, aR b] (mdW w b c q21) := by
            intro t45 ht45 
            have hbt45 : t45 = 0 ∨ t45 = 1 := by
              rw [ht45]
              try dsimp only
              repeat' split
              all_goals first | exact Or.inl rfl | exact Or.inr rfl | apply k_in_b | apply k_isDigit_b | apply k_isSmall_b | apply k_bad_b | apply k_isIn_b | apply k_isStep_b | apply k_isFirst_b | apply k_isLine_b | apply k_seesBy_b | apply k_isWalker_b | apply k_seesOne_b | apply k_badTwo_b | apply k_sees_b | apply k_isCode_b | apply k_isLot_b | apply k_isShip_b | apply k_areRight_b | apply k_right_b | apply k_areSeeds_b | omega
            exact K35 _ (by have s9 := hz42.symm; subst s9; have s9 := ht45.symm; subst s9; exact (if_neg h35).symm) 
          refine T_if_ne 52 (am_dec tX12_enough_0 24 rfl) rfl (fun h45 => ?_) (fun h45 => ?_)
          · refine T_iconst 0 (am_dec tX12_enough_0 27 rfl) rfl ⟨by decide, by decide⟩ ?_
            exact K45 _ (if_neg h45).symm 
          · refine T_iconst 1 (am_dec tX12_enough_0 25 rfl) rfl ⟨by decide, by decide⟩ ?_
            refine T_goto 53 (am_dec tX12_enough_0 26 rfl) rfl ?_
            exact K45 _ (if_pos h45).symm 
    refine T_if_ne 18 (am_dec tX12_enough_0 7 rfl) rfl (fun h11 => ?_) (fun h11 => ?_)
    · refine T_iconst 0 (am_dec tX12_enough_0 10 rfl) rfl ⟨by decide, by decide⟩ ?_
      exact K11 _ (if_neg h11).symm 
    · refine T_iconst 1 (am_dec tX12_enough_0 8 rfl) rfl ⟨by decide, by decide⟩ ?_
      refine T_goto 19 (am_dec tX12_enough_0 9 rfl) rfl ?_
      exact K11 _ (if_pos h11).symm 
  exact key _ ⟨rfl, rfl⟩
def MdNd (c : am_F) : Prop := ∀ (q : am_F) (seed dq wk : Int), 0 ≤ dq → dq ≤ 8 → 0 ≤ wk → wk < c 4 4 → k_needsAll c (k_goesD c q seed dq) wk ≤ 99
theorem k_enoughOf_all {q : am_F} {y many : Int} (hm : 0 ≤ many) (h : ∀ j : Nat, (j : Int) < many → q 734 j ≤ y) : k_enoughOf q y many = many := by
  have e := am_fold_inv (P := fun (i a : Int) => 0 ≤ i ∧ a = i) (g := g_k_enoughOf_5 q y) many.toNat 0 0 ⟨by omega, rfl⟩ (fun i a h1 h2 hp => by
    have := h i.toNat (by omega)
    unfold g_k_enoughOf_5
    try dsimp only
    rw [if_neg (by omega)]
    exact ⟨by omega, by omega⟩)
  have e2 := e.2
  show am_fold _ 0 many.toNat 0 = many
  rw [e2]; omega
theorem k_goesD_734 {c : am_F} (hV : MdV c) (q : am_F) (seed dq : Int) : k_goesD c q seed dq 734 = q 734 := ((KF_goes (c := am_put c 0 61 dq) hV).1 734 (by omega)).trans (am_put0 (by decide))
theorem k_laysNeeded_b {c q : am_F} {wk seed dq many : Int} (hV : MdV c) (hN : MdNd c) (hq : 0 ≤ dq ∧ dq ≤ 8) (hw : 0 ≤ wk ∧ wk < c 4 4) (hm : 0 ≤ many ∧ many ≤ 40) : ∀ j : Nat, (j : Int) < many → k_laysNeeded c q wk seed dq many 734 j ≤ 99 := by
  have e := am_fold_inv (P := fun (i : Int) (r : am_F) => 0 ≤ i ∧ ∀ j : Nat, (j : Int) < i → r 734 j ≤ 99) (g := g_k_laysNeeded_3 c wk seed dq) many.toNat 0 q ⟨by omega, fun j hj => by omega⟩ (fun i r h1 h2 hp => by
    obtain ⟨p0, p1⟩ := hp
    refine ⟨by omega, fun j hj => ?_⟩
    unfold g_k_laysNeeded_3
    try dsimp only
    by_cases hk : j = i.toNat
    · rw [hk, am_put_s]
      exact hN _ _ _ _ hq.1 hq.2 hw.1 hw.2
    · rw [am_put_i hk, k_goesD_734 hV]
      exact p1 j (by omega))
  intro j hj
  exact e.2 j (by omega)
def w_k_sure_76 (q : am_F) (k : Int) (many : Int) (m : Int) : (Int) ⊕ (Int) := (if k ≤ (k_enoughOf q m many) then .inr m else .inl (m + 1))
theorem L_k_sure_76 {S : am_S} {d u : Nat} {Q : AO → AH → Prop} {w : AH} {b : Nat} (hl : b + 735 ≤ w.length) (c : am_F) (q : am_F) (k : Int) (many : Int) (hV : MdV c) (hWd : MdWd c) (hS9 : MdS c) (hLp : MdLp c) (hDu : MdDu c) (hD1 : c 0 61 = -1) (hK9 : MdK c) (hPl : MdPl c) (hWt : MdWt c) (hNd : MdNd c) (hmn : 0 ≤ many ∧ many ≤ 40) (hkm : k ≤ many) (hq7 : ∀ j : Nat, (j : Int) < many → q 734 j ≤ 99) (hd : 7 ≤ d) : ∀ (n : Nat) (m : Int), 100 - m < n → 0 ≤ m ∧ m ≤ 99 → (∀ (m' : Int), m' = am_wh (w_k_sure_76 q k many) n m → 0 ≤ m' ∧ m' ≤ 99 → am_T S zX12_sure d u Q 94 [none, none, none, none, none, none, some (aI m')] [] (mdW w b c q)) → am_T S zX12_sure d u Q 76 [some (aR b), none, some (aI k), none, none, some (aI many), some (aI m)] [] (mdW w b c q) := by
  intro n
  induction n with
  | zero =>
    intro m hm9 hinv k9
    obtain ⟨vl0, vu0⟩ := MdV_0 hV
    obtain ⟨vl1, vu1⟩ := MdV_1 hV
    obtain ⟨vl3, vu3⟩ := MdV_3 hV
    obtain ⟨vl4, vu4⟩ := MdV_4 hV
    obtain ⟨vl5, vu5⟩ := MdV_5 hV
    have ef : m = 99 → k_enoughOf q m many = many := fun h9 => k_enoughOf_all hmn.1 (by rw [h9]; exact hq7)
    exfalso; omega
  | succ n ih =>
    intro m hm9 hinv k9
    obtain ⟨vl0, vu0⟩ := MdV_0 hV
    obtain ⟨vl1, vu1⟩ := MdV_1 hV
    obtain ⟨vl3, vu3⟩ := MdV_3 hV
    obtain ⟨vl4, vu4⟩ := MdV_4 hV
    obtain ⟨vl5, vu5⟩ := MdV_5 hV
    have ef : m = 99 → k_enoughOf q m many = many := fun h9 => k_enoughOf_all hmn.1 (by rw [h9]; exact hq7)
    refine T_aload_n (am_dec tX12_sure_1 2 rfl) rfl ?_
    refine T_iload (am_dec tX12_sure_1 3 rfl) rfl ?_
    refine T_iload (am_dec tX12_sure_1 4 rfl) rfl ?_
    refine T_callV (as := [aI m, aI many]) rfl (am_dec tX12_sure_1 5 rfl) lkX12_449 (md_obj hl) rfl rfl (Nat.le_of_ble_eq_true rfl) (by omega) (mk_enoughOf (d := d - 1) hl m many  (by omega) ) (fun _ => ?_)
    refine T_iload_n (am_dec tX12_sure_1 6 rfl) rfl ?_
    refine T_icmp_ge 94 (am_dec tX12_sure_1 7 rfl) rfl (fun h85 => ?_) (fun h85 => ?_)
    · refine T_weak (ls' := [none, none, none, none, none, none, some (aI m)]) (am_sub_n (am_sub_n (am_sub_n (am_sub_n (am_sub_n (am_sub_n (am_sub_s am_sub_nil))))))) ?_
      have e9 : (w_k_sure_76 q k many) m = .inr m := (if_pos h85)
      simp only [am_wh_r e9] at k9
      exact k9 _ rfl (by omega)
    · refine T_iinc (ls' := [some (aR b), none, some (aI k), none, none, some (aI many), some (aI (m + 1))]) (m + 1) (am_dec tX12_sure_1 8 rfl) rfl rfl ⟨by omega, by omega⟩ (by decide) rfl ?_
      refine T_goto 76 (am_dec tX12_sure_1 9 rfl) rfl ?_
      have e9 : (w_k_sure_76 q k many) m = .inl (m + 1) := (if_neg h85)
      simp only [am_wh_l e9] at k9
      exact ih (m + 1) (by omega) (by omega) k9
def k_sure (c : am_F) (q : am_F) (wk : Int) (k : Int) (seed : Int) (dq : Int) (many : Int) : Int × am_F := (let z8 : Int := (k_isWalker c wk); (let t11 : Int := (if z8 = 0 then 1 else 0); (let q21 : am_F := (k_refuse (am_put q 0 0 0) t11 1 1); (let z21 : Int := (if t11 = 0 then 0 else 1); (if z21 = 0 then (let z32 : Int := (k_areSeeds dq many); (let t35 : Int := (if z32 = 0 then 1 else (let z42 : Int := (k_in k 1 many); (if z42 = 0 then 1 else 0))); (let q55 : am_F := (k_refuse q21 t35 2 2); (let z55 : Int := (if t35 = 0 then 0 else 1); (if z55 = 0 then (let q70 : am_F := k_laysNeeded c q55 wk seed dq many; (let m_76 : Int := am_wh (w_k_sure_76 q70 k many) 101 0; (m_76, q70))) else (0, q55)))))) else (0, q21))))))
theorem mk_sure {S : am_S} {d u : Nat} {w : AH} {b : Nat} (hl : b + 735 ≤ w.length) {c : am_F} {q : am_F} (wk : Int) (k : Int) (seed : Int) (dq : Int) (many : Int) (hV : MdV c) (hWd : MdWd c) (hS9 : MdS c) (hLp : MdLp c) (hDu : MdDu c) (hD1 : c 0 61 = -1) (hK9 : MdK c) (hPl : MdPl c) (hWt : MdWt c) (hNd : MdNd c) (hd : 7 ≤ d) : am_Out S zX12_sure d u [aR b, aI wk, aI k, aI seed, aI dq, aI many] (mdW w b c q) (.inl (some (aI ((k_sure c q wk k seed dq many).1)))) (mdW w b c ((k_sure c q wk k seed dq many).2)) := by
  have key : ∀ Q : AO → AH → Prop, Q (.inl (some (aI ((k_sure c q wk k seed dq many).1)))) (mdW w b c ((k_sure c q wk k seed dq many).2)) → am_M S zX12_sure d u [aR b, aI wk, aI k, aI seed, aI dq, aI many] (mdW w b c q) Q := by
    intro Q hQ
    refine am_body rfl (by decide +kernel) rfl (am_cats_cons rfl ( am_cats_cons rfl ( am_cats_cons rfl ( am_cats_cons rfl ( am_cats_cons rfl ( am_cats_cons rfl (am_cats_nil))))))) (Nat.le_of_ble_eq_true rfl) (?_ : am_T _ _ _ _ _ 0 [some (aR b), some (aI wk), some (aI k), some (aI seed), some (aI dq), some (aI many), none] [] (mdW w b c q))
    obtain ⟨vl0, vu0⟩ := MdV_0 hV
    obtain ⟨vl1, vu1⟩ := MdV_1 hV
    obtain ⟨vl3, vu3⟩ := MdV_3 hV
    obtain ⟨vl4, vu4⟩ := MdV_4 hV
    obtain ⟨vl5, vu5⟩ := MdV_5 hV
    refine T_aload_n (am_dec tX12_sure_0 0 rfl) rfl ?_
    refine T_iconst 0 (am_dec tX12_sure_0 1 rfl) rfl ⟨by decide, by decide⟩ ?_
    refine T_putfield (fs' := mdO b (c 0) (am_up (q 0) 0 0)) 11 0 (am_dec tX12_sure_0 2 rfl) flX12_160_11 rfl rfl rfl trivial (md_obj hl) (Nat.le_of_ble_eq_true rfl) rfl ?_
    refine am_wE (w2 := mdW w b c (am_put q 0 0 0)) (md_fq) ?_
    refine T_aload_n (am_dec tX12_sure_0 3 rfl) rfl ?_
    refine T_aload_n (am_dec tX12_sure_0 4 rfl) rfl ?_
    refine T_iload_n (am_dec tX12_sure_0 5 rfl) rfl ?_
    refine T_callV (as := [aI wk]) rfl (am_dec tX12_sure_0 6 rfl) lkX12_365 (md_obj hl) rfl rfl (Nat.le_of_ble_eq_true rfl) (by omega) (mk_isWalker (d := d - 1) hl wk  hV (by omega)) (fun _ => ?_)
    refine T_nm (fun z8 hz8 => ?_)
    have hb8 := k_isWalker_b c wk
    rw [← hz8] at hb8
    have hs8 := k_isWalker_s c wk
    rw [← hz8] at hs8
    have K11 : ∀ (t11 : Int), t11 = (if z8 = 0 then 1 else 0) →  am_T S zX12_sure d u Q 19 [some (aR b), some (aI wk), some (aI k), some (aI seed), some (aI dq), some (aI many), none] [aI t11, aR b] (mdW w b c (am_put q 0 0 0)) := by
      intro t11 ht11 
      have hbt11 : t11 = 0 ∨ t11 = 1 := by
        rw [ht11]
        try dsimp only
        repeat' split
        all_goals first | exact Or.inl rfl | exact Or.inr rfl | apply k_in_b | apply k_isDigit_b | apply k_isSmall_b | apply k_bad_b | apply k_isIn_b | apply k_isStep_b | apply k_isFirst_b | apply k_isLine_b | apply k_seesBy_b | apply k_isWalker_b | apply k_seesOne_b | apply k_badTwo_b | apply k_sees_b | apply k_isCode_b | apply k_isLot_b | apply k_isShip_b | apply k_areRight_b | apply k_right_b | apply k_areSeeds_b | omega
      refine T_iconst 1 (am_dec tX12_sure_0 11 rfl) rfl ⟨by decide, by decide⟩ ?_
      refine T_iconst 1 (am_dec tX12_sure_0 12 rfl) rfl ⟨by decide, by decide⟩ ?_
      refine T_callV (as := [aI t11, aI 1, aI 1]) rfl (am_dec tX12_sure_0 13 rfl) lkX12_275 (md_obj hl) rfl rfl (Nat.le_of_ble_eq_true rfl) (by omega) (mk_bad0 (d := d - 1) hl t11 1 1 (by omega) am_put_s (by omega)) (fun _ => ?_)
      refine T_nmH (W := fun x9 => mdW w b c x9) (v := (k_refuse (am_put q 0 0 0) t11 1 1)) (fun q21 hq21 => ?_)
      refine T_nm (fun z21 hz21 => ?_)
      have hq021 : t11 = 0 → q21 0 0 = 0 := fun h9 => by rw [hq21]; exact k_refuse_0 am_put_s h9
      refine T_if_ne 61 (am_dec tX12_sure_0 14 rfl) rfl (fun h24 => ?_) (fun h24 => ?_)
      · refine T_iconst 0 (am_dec tX12_sure_0 32 rfl) rfl ⟨by decide, by decide⟩ ?_
        exact T_ireturn (am_dec tX12_sure_0 33 rfl) rfl (am_tr (fun (x9 : Int × am_F) => Q (.inl (some (aI (x9.1)))) (mdW w b c x9.2)) (y := (0, q21)) (show (k_sure c q wk k seed dq many) = (0, q21) from (by have s9 := hz8.symm; subst s9; have s9 := ht11.symm; subst s9; have s9 := hq21.symm; subst s9; have s9 := hz21.symm; subst s9; exact (if_neg h24))) hQ)
      · refine T_aload_n (am_dec tX12_sure_0 15 rfl) rfl ?_
        refine T_iload (am_dec tX12_sure_0 16 rfl) rfl ?_
        refine T_iload (am_dec tX12_sure_0 17 rfl) rfl ?_
        refine T_callS (as := [aI dq, aI many]) rfl (am_dec tX12_sure_0 18 rfl) lkX12_442 rfl (Nat.le_of_ble_eq_true rfl) (by omega) (mk_areSeeds (d := d - 1)  dq many   (by omega)) (fun _ => ?_)
        refine T_nm (fun z32 hz32 => ?_)
        have hb32 := k_areSeeds_b dq many
        rw [← hz32] at hb32
        have hs32 := k_areSeeds_s dq many
        rw [← hz32] at hs32
        have K35 : ∀ (t35 : Int), t35 = (if z32 = 0 then 1 else (let z42 : Int := (k_in k 1 many); (if z42 = 0 then 1 else 0))) →  am_T S zX12_sure d u Q 53 [some (aR b), some (aI wk), some (aI k), some (aI seed), some (aI dq), some (aI many), none] [aI t35, aR b] (mdW w b c q21) := by
          intro t35 ht35 
          have hxt35 := ht35
          dsimp only at hxt35
          have hy2 := k_in_s k 1 many
          have hbt35 : t35 = 0 ∨ t35 = 1 := by
            rw [ht35]
            try dsimp only
            repeat' split
            all_goals first | exact Or.inl rfl | exact Or.inr rfl | apply k_in_b | apply k_isDigit_b | apply k_isSmall_b | apply k_bad_b | apply k_isIn_b | apply k_isStep_b | apply k_isFirst_b | apply k_isLine_b | apply k_seesBy_b | apply k_isWalker_b | apply k_seesOne_b | apply k_badTwo_b | apply k_sees_b | apply k_isCode_b | apply k_isLot_b | apply k_isShip_b | apply k_areRight_b | apply k_right_b | apply k_areSeeds_b | omega
          refine T_iconst 2 (am_dec tX12_sure_0 28 rfl) rfl ⟨by decide, by decide⟩ ?_
          refine T_iconst 2 (am_dec tX12_sure_0 29 rfl) rfl ⟨by decide, by decide⟩ ?_
          refine T_callV (as := [aI t35, aI 2, aI 2]) rfl (am_dec tX12_sure_0 30 rfl) lkX12_275 (md_obj hl) rfl rfl (Nat.le_of_ble_eq_true rfl) (by omega) (mk_bad0 (d := d - 1) hl t35 2 2 (by omega) (hq021 (by omega)) (by omega)) (fun _ => ?_)
          refine T_nmH (W := fun x9 => mdW w b c x9) (v := (k_refuse q21 t35 2 2)) (fun q55 hq55 => ?_)
          refine T_nm (fun z55 hz55 => ?_)
          have hq055 : t35 = 0 → q55 0 0 = 0 := fun h9 => by rw [hq55]; exact k_refuse_0 (hq021 (by omega)) h9
          refine T_if_eq 63 (am_dec tX12_sure_0 31 rfl) rfl (fun h58 => ?_) (fun h58 => ?_)
          · refine T_aload_n (am_dec tX12_sure_0 34 rfl) rfl ?_
            refine T_iload_n (am_dec tX12_sure_0 35 rfl) rfl ?_
            refine T_iload_n (am_dec tX12_sure_0 36 rfl) rfl ?_
            refine T_iload (am_dec tX12_sure_0 37 rfl) rfl ?_
            refine T_iload (am_dec tX12_sure_0 38 rfl) rfl ?_
            refine T_callV (as := [aI wk, aI seed, aI dq, aI many]) rfl (am_dec tX12_sure_0 39 rfl) lkX12_445 (md_obj hl) rfl rfl (Nat.le_of_ble_eq_true rfl) (by omega) (mk_laysNeeded (d := d - 1) hl wk seed dq many  hV hWd hS9 hLp hDu (by omega) hK9 hPl hWt (by omega) (by omega) (by omega)) (fun _ => ?_)
            refine T_nmH (W := fun x9 => mdW w b c x9) (v := k_laysNeeded c q55 wk seed dq many) (fun q70 hq70 => ?_)
            refine T_iconst 0 (am_dec tX12_sure_1 0 rfl) rfl ⟨by decide, by decide⟩ ?_
            have hq7 : ∀ j : Nat, (j : Int) < many → q70 734 j ≤ 99 := by rw [hq70]; exact k_laysNeeded_b hV hNd (by omega) (by omega) (by omega)
            refine T_istore (ls' := [some (aR b), some (aI wk), some (aI k), some (aI seed), some (aI dq), some (aI many), some (aI 0)]) (am_dec tX12_sure_1 1 rfl) (by decide) rfl ?_
            refine T_weak (ls' := [some (aR b), none, some (aI k), none, none, some (aI many), some (aI 0)]) (am_sub_s (am_sub_n (am_sub_s (am_sub_n (am_sub_n (am_sub_s (am_sub_s am_sub_nil))))))) ?_
            refine L_k_sure_76 hl c q70 k many hV hWd hS9 hLp hDu (by omega) hK9 hPl hWt (by omega) (by omega) (by omega) hq7 (by omega) 101 0 (by omega) (by omega) (fun m_76 hm_76 hv76 => ?_)
            refine T_iload (am_dec tX12_sure_1 10 rfl) rfl ?_
            exact T_ireturn (am_dec tX12_sure_1 11 rfl) rfl (am_tr (fun (x9 : Int × am_F) => Q (.inl (some (aI (x9.1)))) (mdW w b c x9.2)) (y := (m_76, q70)) (show (k_sure c q wk k seed dq many) = (m_76, q70) from (by have s9 := hz8.symm; subst s9; have s9 := ht11.symm; subst s9; have s9 := hq21.symm; subst s9; have s9 := hz21.symm; subst s9; have s9 := hz32.symm; subst s9; have s9 := ht35.symm; subst s9; have s9 := hq55.symm; subst s9; have s9 := hz55.symm; subst s9; have s9 := hq70.symm; subst s9; have s9 := hm_76.symm; subst s9; exact ((if_pos h24).trans (if_pos h58)))) hQ)
          · refine T_iconst 0 (am_dec tX12_sure_0 32 rfl) rfl ⟨by decide, by decide⟩ ?_
            exact T_ireturn (am_dec tX12_sure_0 33 rfl) rfl (am_tr (fun (x9 : Int × am_F) => Q (.inl (some (aI (x9.1)))) (mdW w b c x9.2)) (y := (0, q55)) (show (k_sure c q wk k seed dq many) = (0, q55) from (by have s9 := hz8.symm; subst s9; have s9 := ht11.symm; subst s9; have s9 := hq21.symm; subst s9; have s9 := hz21.symm; subst s9; have s9 := hz32.symm; subst s9; have s9 := ht35.symm; subst s9; have s9 := hq55.symm; subst s9; have s9 := hz55.symm; subst s9; exact ((if_pos h24).trans (if_neg h58)))) hQ)
        refine T_if_eq 48 (am_dec tX12_sure_0 19 rfl) rfl (fun h35 => ?_) (fun h35 => ?_)
        · refine T_iconst 1 (am_dec tX12_sure_0 25 rfl) rfl ⟨by decide, by decide⟩ ?_
          refine T_goto 53 (am_dec tX12_sure_0 26 rfl) rfl ?_
          exact K35 _ (if_pos h35).symm 
        · refine T_iload_n (am_dec tX12_sure_0 20 rfl) rfl ?_
          refine T_iconst 1 (am_dec tX12_sure_0 21 rfl) rfl ⟨by decide, by decide⟩ ?_
          refine T_iload (am_dec tX12_sure_0 22 rfl) rfl ?_
          refine T_callS (as := [aI k, aI 1, aI many]) rfl (am_dec tX12_sure_0 23 rfl) lkX12_194 rfl (Nat.le_of_ble_eq_true rfl) (by omega) (mk_in (d := d - 1)  k 1 many   ) (fun _ => ?_)
          refine T_nm (fun z42 hz42 => ?_)
          have hb42 := k_in_b k 1 many
          rw [← hz42] at hb42
          have hs42 := k_in_s k 1 many
          rw [← hz42] at hs42
          have K45 : ∀ (t45 : Int), t45 = (if z42 = 0 then 1 else 0) →  am_T S zX12_sure d u Q 53 [some (aR b), some (aI wk), some (aI k), some (aI seed), some (aI dq), some (aI many), none] [aI t45, aR b] (mdW w b c q21) := by
            intro t45 ht45 
            have hbt45 : t45 = 0 ∨ t45 = 1 := by
              rw [ht45]
              try dsimp only
              repeat' split
              all_goals first | exact Or.inl rfl | exact Or.inr rfl | apply k_in_b | apply k_isDigit_b | apply k_isSmall_b | apply k_bad_b | apply k_isIn_b | apply k_isStep_b | apply k_isFirst_b | apply k_isLine_b | apply k_seesBy_b | apply k_isWalker_b | apply k_seesOne_b | apply k_badTwo_b | apply k_sees_b | apply k_isCode_b | apply k_isLot_b | apply k_isShip_b | apply k_areRight_b | apply k_right_b | apply k_areSeeds_b | omega
            exact K35 _ (by have s9 := hz42.symm; subst s9; have s9 := ht45.symm; subst s9; exact (if_neg h35).symm) 
          refine T_if_ne 52 (am_dec tX12_sure_0 24 rfl) rfl (fun h45 => ?_) (fun h45 => ?_)
          · refine T_iconst 0 (am_dec tX12_sure_0 27 rfl) rfl ⟨by decide, by decide⟩ ?_
            exact K45 _ (if_neg h45).symm 
          · refine T_iconst 1 (am_dec tX12_sure_0 25 rfl) rfl ⟨by decide, by decide⟩ ?_
            refine T_goto 53 (am_dec tX12_sure_0 26 rfl) rfl ?_
            exact K45 _ (if_pos h45).symm 
    refine T_if_ne 18 (am_dec tX12_sure_0 7 rfl) rfl (fun h11 => ?_) (fun h11 => ?_)
    · refine T_iconst 0 (am_dec tX12_sure_0 10 rfl) rfl ⟨by decide, by decide⟩ ?_
      exact K11 _ (if_neg h11).symm 
    · refine T_iconst 1 (am_dec tX12_sure_0 8 rfl) rfl ⟨by decide, by decide⟩ ?_
      refine T_goto 19 (am_dec tX12_sure_0 9 rfl) rfl ?_
      exact K11 _ (if_pos h11).symm 
  exact key _ ⟨rfl, rfl⟩
